/-! ===== groups ===== -/
/-- two systems that may not share a group -/
def apt (E : Nat → Nat → Nat) (l s : Nat) : Bool := decide (E 22 l / 2 ^ s % 2 = 1 ∨ ¬ (E 20 l &&& ((E 18 s ||| E 20 s) ||| E 21 s)) = 0 ∨ ¬ (E 20 s &&& ((E 18 l ||| E 20 l) ||| E 21 l)) = 0)
/-- the group that is open behind n systems, and its first system -/
def grp (E : Nat → Nat → Nat) : Nat → Nat × Nat
  | 0 => (0, 0)
  | n + 1 => if (List.range n).any (fun o => decide ((grp E n).2 ≤ o) && apt E n o) then ((grp E n).1 + 1, n) else grp E n
def GRP (E : Nat → Nat → Nat) : Prop := (∀ s, s < E 17 0 → E 25 s = (grp E (s + 1)).1) ∧ E 26 0 = if E 17 0 = 0 then 0 else (grp E (E 17 0)).1 + 1
theorem grp_le (E : Nat → Nat → Nat) : ∀ n, (grp E n).1 ≤ n ∧ (grp E n).2 ≤ n ∧ (1 ≤ n → (grp E n).2 < n ∧ (grp E n).1 < n) := by
  intro n
  induction n with
  | zero => exact ⟨Nat.le_refl _, Nat.le_refl _, fun h => absurd h (by decide)⟩
  | succ n ih =>
    unfold grp
    split
    · next h =>
      refine ⟨by show (grp E n).1 + 1 ≤ n + 1; omega, by show n ≤ n + 1; omega, fun _ => ⟨by show n < n + 1; omega, ?_⟩⟩
      show (grp E n).1 + 1 < n + 1
      cases n with
      | zero => simp at h
      | succ m => have := (ih.2.2 (by omega)).2; omega
    · exact ⟨by omega, by omega, fun _ => ⟨by omega, by omega⟩⟩
theorem grp_eq (E : Nat → Nat → Nat) : ∀ n o, o < n → (grp E (o + 1)).1 ≤ (grp E n).1 ∧ ((grp E (o + 1)).1 = (grp E n).1 ↔ (grp E n).2 ≤ o) := by
  intro n
  induction n with
  | zero => intro o h; omega
  | succ n ih =>
    intro o ho
    have hl := grp_le E n
    by_cases z : o = n
    · subst z
      refine ⟨Nat.le_refl _, ⟨fun _ => ?_, fun _ => rfl⟩⟩
      have := (grp_le E (o + 1)).2.2 (by omega)
      omega
    · obtain ⟨h1, h2⟩ := ih o (by omega)
      have e : grp E (n + 1) = if (List.range n).any (fun o => decide ((grp E n).2 ≤ o) && apt E n o) then ((grp E n).1 + 1, n) else grp E n := rfl
      rw [e]
      split
      · show (grp E (o + 1)).1 ≤ (grp E n).1 + 1 ∧ ((grp E (o + 1)).1 = (grp E n).1 + 1 ↔ n ≤ o)
        exact ⟨by omega, ⟨fun q => by omega, fun q => by omega⟩⟩
      · exact ⟨h1, h2⟩
theorem apt_cg {E F : Nat → Nat → Nat} {l s : Nat} (h : ∀ x, x = l ∨ x = s → F 18 x = E 18 x ∧ F 20 x = E 20 x ∧ F 21 x = E 21 x ∧ F 22 x = E 22 x) : apt F l s = apt E l s := by
  unfold apt
  obtain ⟨a1, a2, a3, a4⟩ := h l (Or.inl rfl)
  obtain ⟨b1, b2, b3, b4⟩ := h s (Or.inr rfl)
  rw [a1, a2, a3, a4, b1, b2, b3]
theorem any_cg {n : Nat} {f g : Nat → Bool} (h : ∀ o, o < n → f o = g o) : (List.range n).any f = (List.range n).any g := by
  rw [Bool.eq_iff_iff, List.any_eq_true, List.any_eq_true]
  exact ⟨fun ⟨x, h1, h2⟩ => ⟨x, h1, by rw [← h x (List.mem_range.mp h1)]; exact h2⟩, fun ⟨x, h1, h2⟩ => ⟨x, h1, by rw [h x (List.mem_range.mp h1)]; exact h2⟩⟩
theorem grp_cg {E F : Nat → Nat → Nat} : ∀ n, (∀ x, x < n → F 18 x = E 18 x ∧ F 20 x = E 20 x ∧ F 21 x = E 21 x ∧ F 22 x = E 22 x) → grp F n = grp E n := by
  intro n
  induction n with
  | zero => intro _; rfl
  | succ n ih =>
    intro h
    have hn := ih (fun x hx => h x (by omega))
    have e : ∀ G : Nat → Nat → Nat, grp G (n + 1) = if (List.range n).any (fun o => decide ((grp G n).2 ≤ o) && apt G n o) then ((grp G n).1 + 1, n) else grp G n := fun G => rfl
    rw [e F, e E, hn, any_cg (f := fun o => decide ((grp E n).2 ≤ o) && apt F n o) (g := fun o => decide ((grp E n).2 ≤ o) && apt E n o) (fun o ho => by
      show (decide _ && apt F n o) = (decide _ && apt E n o)
      rw [apt_cg (fun x hx => h x (by omega))])]
theorem nI_an {a b : Nat} (ha : a < 65536) : (nI a &&& nI b = 0) = (a &&& b = 0) := by
  have : a &&& b ≤ a := Nat.and_le_left
  rw [nI_and a b (by omega)]
  exact propext (nI_eq (b := 0) (by omega) (by decide))
theorem ev_isApart {N p l s : Nat} {E : Nat → Nat → Nat} {A : Hp} (hP : isP A p) (hl : l < 16) (hs : s < 16) (ha : ∀ x, x = l ∨ x = s → A.D (p + 185) x = nI (E 18 x) ∧ A.D (p + 187) x = nI (E 20 x) ∧ A.D (p + 188) x = nI (E 21 x)) (h22 : A.D (p + 184) l = nI (E 22 l)) (hw : ∀ x, x = l ∨ x = s → E 18 x < 65536 ∧ E 20 x < 65536 ∧ E 21 x < 65536) (hw2 : E 22 l < 65536) : F_Program_isApart N p (nI l) (nI s) A = some (bI (apt E l s), A) := by
  obtain ⟨a1, a2, a3⟩ := ha l (Or.inl rfl)
  obtain ⟨b1, b2, b3⟩ := ha s (Or.inr rfl)
  obtain ⟨c1, c2, c3⟩ := hw l (Or.inl rfl)
  obtain ⟨d1, d2, d3⟩ := hw s (Or.inr rfl)
  unfold F_Program_isApart B_Program_isApart_80
  rw [ck_t (PrS hP), rf_t (PrP_9 hP), ar_t (PrA_9 hP), rdI hs (by decide), b1, rf_t (PrP_11 hP), ar_t (PrA_11 hP), rdI hs (by decide), b2, rf_t (PrP_12 hP), ar_t (PrA_12 hP), rdI hs (by decide), b3, nI_or, nI_or, bnd_t, rf_t (PrP_9 hP), ar_t (PrA_9 hP), rdI hl (by decide), a1, rf_t (PrP_11 hP), ar_t (PrA_11 hP), rdI hl (by decide), a2, rf_t (PrP_12 hP), ar_t (PrA_12 hP), rdI hl (by decide), a3, nI_or, nI_or, bnd_t, rf_t (PrP_8 hP), ar_t (PrA_8 hP), rdI hl (by decide), h22]
  unfold apt
  by_cases q1 : E 22 l / 2 ^ s % 2 = 1
  · rw [if_pos ((nI_bit1 (by omega) (by omega)).mpr q1), decide_eq_true (Or.inl q1)]; rfl
  · rw [if_neg (fun z => q1 ((nI_bit1 (by omega) (by omega)).mp z)), rf_t (PrP_11 hP), ar_t (PrA_11 hP), rdI hl (by decide), a2, rf_t (PrP_11 hP), ar_t (PrA_11 hP), rdI hs (by decide), b2]
    simp only [nI_an c2, nI_an d2]
    by_cases q2 : (E 20 l &&& ((E 18 s ||| E 20 s) ||| E 21 s)) = 0
    · rw [if_pos q2]
      by_cases q3 : (E 20 s &&& ((E 18 l ||| E 20 l) ||| E 21 l)) = 0
      · rw [if_pos q3, decide_eq_false (fun z => by rcases z with z | z | z; exact q1 z; exact z q2; exact z q3)]; rfl
      · rw [if_neg q3, decide_eq_true (Or.inr (Or.inr q3))]; rfl
    · rw [if_neg q2, decide_eq_true (Or.inr (Or.inl q2))]; rfl
/-- whether the latest system begins a group -/
def aln (E : Nat → Nat → Nat) (s gc : Nat) : Bool := decide (s = 0) || (List.range s).any (fun o => decide (E 25 o + 1 = gc) && apt E s o)
theorem any_s {n : Nat} {f : Nat → Bool} : (List.range (n + 1)).any f = ((List.range n).any f || f n) := by
  rw [List.range_succ, List.any_append]
  simp
theorem ev_s19 {N p s gc : Nat} {E : Nat → Nat → Nat} {A : Hp} (hP : isP A p) (hs : s < 16) (h7 : A.D p 15 = nI gc) (hgc : 1 ≤ s → 1 ≤ gc) (hg16 : gc ≤ 16) (h25 : ∀ o, o < s → A.D (p + 190) o = nI (E 25 o) ∧ E 25 o < 16) (ha : ∀ x, x ≤ s → A.D (p + 185) x = nI (E 18 x) ∧ A.D (p + 187) x = nI (E 20 x) ∧ A.D (p + 188) x = nI (E 21 x)) (h22 : A.D (p + 184) s = nI (E 22 s)) (hw : ∀ x, x ≤ s → E 18 x < 65536 ∧ E 20 x < 65536 ∧ E 21 x < 65536) (hw2 : E 22 s < 65536) :
    ∀ M o b fu, o + M = s → M < fu → b = (decide (s = 0) || (List.range o).any (fun o => decide (E 25 o + 1 = gc) && apt E s o)) → B_Program_settleGroup_19 N p fu (nI s) (bI b) (nI o) A = some ((), (if aln E s gc then A.sD p 15 (nI (gc + 1)) else A).sD (p + 190) s (if aln E s gc then nI gc else nI gc - 1)) := by
  intro M
  induction M with
  | zero =>
    intro o b fu ho hfu hb
    obtain ⟨fu, rfl⟩ : ∃ z, fu = z + 1 := ⟨fu - 1, by omega⟩
    have hb' : b = aln E s gc := by rw [hb, show o = s by omega]; rfl
    rw [B_Program_settleGroup_19, if_pos (show nI s ≤ nI o from nI_le (by omega) (by omega)), hb']
    unfold B_Program_settleGroup_70
    cases aln E s gc
    · rw [if_pos (show bI false = 0 from rfl), ck_t (PrS hP), rf_t (PrP_14 hP), bnd_t, h7, ar_t (PrA_14 hP), wrI (show s < 16 from hs) (by decide), if_neg (by decide), if_neg (by decide)]
    · rw [if_neg (show ¬ bI true = 0 by decide), ck_t (PrS hP), bnd_t, h7, nI_1, bnd_t, ck_t (show (A.sD p 15 (nI (gc + 1))).sh[p]? = some (4, 0) from (PrS hP : A.sh[p]? = some (4, 0))), sD_P, rf_t (PrP_14 hP), bnd_t, rds, ar_sD, ar_t (PrA_14 hP), nI_m, wrI (show s < 16 from hs) (by decide), if_pos rfl, if_pos rfl]
  | succ M ih =>
    intro o b fu ho hfu hb
    obtain ⟨fu, rfl⟩ : ∃ z, fu = z + 1 := ⟨fu - 1, by omega⟩
    obtain ⟨g1, g2⟩ := h25 o (by omega)
    have hgc1 := hgc (by omega)
    have ec : (nI (E 25 o) = nI gc - 1) = (E 25 o + 1 = gc) := by
      obtain ⟨c, rfl⟩ : ∃ c, gc = c + 1 := ⟨gc - 1, by omega⟩
      rw [nI_m]
      exact propext ⟨fun z => by have := (nI_eq (by omega) (by omega)).mp z; omega, fun z => by rw [show E 25 o = c by omega]⟩
    have ea := ev_isApart (N := N) (l := s) (s := o) (E := E) hP hs (by omega) (fun x hx => ha x (by omega)) h22 (fun x hx => hw x (by omega)) hw2
    rw [B_Program_settleGroup_19, if_neg (show ¬ nI s ≤ nI o from nI_ge (by omega) (by omega)), ck_t (PrS hP), rf_t (PrP_14 hP), ar_t (PrA_14 hP), rdI (show o < 16 by omega) (by decide), g1, bnd_t, h7]
    simp only [ec]
    unfold B_Program_settleGroup_50
    by_cases z : E 25 o + 1 = gc
    · rw [if_pos z, bC_t ea, nI_1]
      cases hq : apt E s o
      · rw [if_pos (show bI false = 0 from rfl)]
        exact ih (o + 1) b fu (by omega) (by omega) (by rw [any_s, hq, Bool.and_false, Bool.or_false]; exact hb)
      · rw [if_neg (show ¬ bI true = 0 by decide)]
        exact ih (o + 1) true fu (by omega) (by omega) (by rw [any_s, hq, decide_eq_true z, Bool.and_true, Bool.or_true, Bool.or_true])
    · rw [if_neg z, nI_1]
      exact ih (o + 1) b fu (by omega) (by omega) (by rw [any_s, decide_eq_false z, Bool.false_and, Bool.or_false]; exact hb)
theorem ev_settle {N p s gc : Nat} {E : Nat → Nat → Nat} {A : Hp} (hN : 7000 ≤ N) (hP : isP A p) (hs : s < 16) (h17 : A.D p 7 = nI (s + 1)) (h7 : A.D p 15 = nI gc) (hgc : 1 ≤ s → 1 ≤ gc) (hg16 : gc ≤ 16) (h25 : ∀ o, o < s → A.D (p + 190) o = nI (E 25 o) ∧ E 25 o < 16) (ha : ∀ x, x ≤ s → A.D (p + 185) x = nI (E 18 x) ∧ A.D (p + 187) x = nI (E 20 x) ∧ A.D (p + 188) x = nI (E 21 x)) (h22 : A.D (p + 184) s = nI (E 22 s)) (hw : ∀ x, x ≤ s → E 18 x < 65536 ∧ E 20 x < 65536 ∧ E 21 x < 65536) (hw2 : E 22 s < 65536) :
    F_Program_settleGroup N p A = some ((), (if aln E s gc then A.sD p 15 (nI (gc + 1)) else A).sD (p + 190) s (if aln E s gc then nI gc else nI gc - 1)) := by
  have e0 : (nI s = (0 : Int32)) = (s = 0) := propext (nI_eq (b := 0) (by omega) (by decide))
  have h := fun b => ev_s19 (N := N) hP hs h7 hgc hg16 h25 ha h22 hw hw2 s 0 b N (by omega) (by omega)
  unfold F_Program_settleGroup B_Program_settleGroup_16
  rw [ck_t (PrS hP), bnd_t, h17, nI_m, bnd_t]
  simp only [e0]
  by_cases z : s = 0
  · rw [if_pos z]
    exact h true (by rw [decide_eq_true z]; rfl)
  · rw [if_neg z]
    exact h false (by rw [decide_eq_false z]; rfl)
/-- groups go on as they should -/
theorem GRP.step {E F : Nat → Nat → Nat} (h : GRP E) (h17 : F 17 0 = E 17 0 + 1) (hx : ∀ x, x < E 17 0 → F 18 x = E 18 x ∧ F 20 x = E 20 x ∧ F 21 x = E 21 x ∧ F 22 x = E 22 x ∧ F 25 x = E 25 x) (h25 : F 25 (E 17 0) = if aln F (E 17 0) (E 26 0) then E 26 0 else E 26 0 - 1) (h26 : F 26 0 = if aln F (E 17 0) (E 26 0) then E 26 0 + 1 else E 26 0) : GRP F := by
  obtain ⟨h1, h2⟩ := h
  have hg : ∀ n, n ≤ E 17 0 → grp F n = grp E n := fun n hn => grp_cg n (fun x hx' => by obtain ⟨a, b, c, d, e⟩ := hx x (by omega); exact ⟨a, b, c, d⟩)
  have e : grp F (E 17 0 + 1) = if (List.range (E 17 0)).any (fun o => decide ((grp F (E 17 0)).2 ≤ o) && apt F (E 17 0) o) then ((grp F (E 17 0)).1 + 1, E 17 0) else grp F (E 17 0) := rfl
  have key : (grp F (E 17 0 + 1)).1 = F 25 (E 17 0) ∧ F 26 0 = (grp F (E 17 0 + 1)).1 + 1 := by
    by_cases z : E 17 0 = 0
    · have ea : aln F (E 17 0) (E 26 0) = true := by unfold aln; rw [decide_eq_true z, Bool.true_or]
      rw [ea, if_pos rfl] at h25 h26
      rw [if_pos z] at h2
      rw [h2] at h25 h26
      rw [h25, h26, z]
      exact ⟨rfl, rfl⟩
    · rw [if_neg z] at h2
      have ea : aln F (E 17 0) (E 26 0) = (List.range (E 17 0)).any (fun o => decide ((grp F (E 17 0)).2 ≤ o) && apt F (E 17 0) o) := by
        unfold aln
        rw [decide_eq_false z, Bool.false_or]
        refine any_cg (fun o ho => ?_)
        have hq := (grp_eq E (E 17 0) o ho).2
        rw [(hx o ho).2.2.2.2, h1 o ho, h2, hg _ (Nat.le_refl _)]
        have : decide ((grp E (o + 1)).1 + 1 = (grp E (E 17 0)).1 + 1) = decide ((grp E (E 17 0)).2 ≤ o) := by
          rw [Bool.eq_iff_iff, decide_eq_true_iff, decide_eq_true_iff, ← hq]
          omega
        rw [this]
      rw [e, ← ea, h25, h26]
      cases aln F (E 17 0) (E 26 0)
      · rw [if_neg (by decide), if_neg (by decide), if_neg (by decide), hg _ (Nat.le_refl _), h2]
        exact ⟨by omega, rfl⟩
      · rw [if_pos rfl, if_pos rfl, if_pos rfl, hg _ (Nat.le_refl _), h2]
        exact ⟨rfl, rfl⟩
  refine ⟨fun s hs => ?_, ?_⟩
  · rw [h17] at hs
    by_cases z : s = E 17 0
    · rw [z, key.1]
    · rw [(hx s (by omega)).2.2.2.2, h1 s (by omega), hg _ (by omega)]
  · rw [h17, if_neg (by omega)]; exact key.2
theorem GRP.same {E F : Nat → Nat → Nat} (h : GRP E) (h17 : F 17 0 = E 17 0) (h26 : F 26 0 = E 26 0) (hx : ∀ x, x < E 17 0 → F 18 x = E 18 x ∧ F 20 x = E 20 x ∧ F 21 x = E 21 x ∧ F 22 x = E 22 x ∧ F 25 x = E 25 x) : GRP F := by
  obtain ⟨h1, h2⟩ := h
  have hg : ∀ n, n ≤ E 17 0 → grp F n = grp E n := fun n hn => grp_cg n (fun x hx' => by obtain ⟨a, b, c, d, e⟩ := hx x (by omega); exact ⟨a, b, c, d⟩)
  refine ⟨fun s hs => ?_, ?_⟩
  · rw [h17] at hs
    rw [(hx s hs).2.2.2.2, h1 s hs, hg _ (by omega)]
  · rw [h26, h17, h2]
    split
    · rfl
    · rw [hg _ (Nat.le_refl _)]
theorem GRP.bd {E : Nat → Nat → Nat} (h : GRP E) : E 26 0 ≤ E 17 0 ∧ (1 ≤ E 17 0 → 1 ≤ E 26 0) ∧ ∀ s, s < E 17 0 → E 25 s < E 26 0 := by
  obtain ⟨h1, h2⟩ := h
  have hl := grp_le E (E 17 0)
  by_cases z : E 17 0 = 0
  · rw [if_pos z] at h2
    exact ⟨by omega, fun _ => by omega, fun s hs => by omega⟩
  · rw [if_neg z] at h2
    have := (hl.2.2 (by omega)).2
    refine ⟨by omega, fun _ => by omega, fun s hs => ?_⟩
    have := (grp_eq E (E 17 0) s hs).1
    rw [h1 s hs, h2]; omega
