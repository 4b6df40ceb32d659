/-! ===== finding names ===== -/
theorem ev_index {N w t K : Nat} {f : Nat → List Nat} {n : List Nat} {B : Hp} (hw : isT B w) (hK : B.D w 12 = nI K) (hK2 : K ≤ 56) (ht : tokN B w t n) (hf : ∀ i, i < K → ∃ u, B.D (w + 8) i = nI u ∧ tokN B w u (f i)) (hN : 7000 ≤ N) : F_MText_index N w (nI t) B = some (oNI (fnm f n K 0), B) := by
  have lp : ∀ (k q i : Nat), i + k = K → k < q → B_MText_index_2 N w (nI t) q (nI i) B = some (oNI (fnm f n k i), B) := by
    intro k
    induction k with
    | zero =>
      intro q i hi hq
      obtain ⟨q, rfl⟩ : ∃ m, q = m + 1 := ⟨q - 1, by omega⟩
      rw [B_MText_index_2, ck_t (TS hw), bnd_t, hK, if_pos (nI_le (by omega) (by omega))]
      rfl
    | succ k ih =>
      intro q i hi hq
      obtain ⟨q, rfl⟩ : ∃ m, q = m + 1 := ⟨q - 1, by omega⟩
      obtain ⟨u, x1, x2⟩ := hf i (by omega)
      rw [B_MText_index_2, ck_t (TS hw), bnd_t, hK, if_neg (nI_ge (by omega) (by omega)), rf_t (TP_13 hw), ar_t (TA_13 hw), rdI (by omega) (by decide), x1, bC_t (is_same hw hw x2 ht hN)]
      simp only [fnm]
      by_cases z : f i = n
      · rw [show decide (f i = n) = true from decide_eq_true z, if_neg bI_t0, if_pos z]
        rfl
      · rw [show decide (f i = n) = false from decide_eq_false z, if_pos bI_f, nI_1, if_neg z]
        exact ih q (i + 1) (by omega) (by omega)
  unfold F_MText_index
  exact lp K N 0 (by omega) (by omega)
theorem ev_local {N w t K : Nat} {f : Nat → List Nat} {n : List Nat} {B : Hp} (hw : isT B w) (hK : B.D w 37 = nI K) (hK2 : K ≤ 12) (ht : tokN B w t n) (hf : ∀ i, i < K → ∃ u, B.D (w + 28) i = nI u ∧ tokN B w u (f i)) (hN : 7000 ≤ N) : F_MText_local N w (nI t) B = some (oNI (fnm f n K 0), B) := by
  have lp : ∀ (k q i : Nat), i + k = K → k < q → B_MText_local_2 N w (nI t) q (nI i) B = some (oNI (fnm f n k i), B) := by
    intro k
    induction k with
    | zero =>
      intro q i hi hq
      obtain ⟨q, rfl⟩ : ∃ m, q = m + 1 := ⟨q - 1, by omega⟩
      rw [B_MText_local_2, ck_t (TS hw), bnd_t, hK, if_pos (nI_le (by omega) (by omega))]
      rfl
    | succ k ih =>
      intro q i hi hq
      obtain ⟨q, rfl⟩ : ∃ m, q = m + 1 := ⟨q - 1, by omega⟩
      obtain ⟨u, x1, x2⟩ := hf i (by omega)
      rw [B_MText_local_2, ck_t (TS hw), bnd_t, hK, if_neg (nI_ge (by omega) (by omega)), rf_t (TP_38 hw), ar_t (TA_38 hw), rdI (by omega) (by decide), x1, bC_t (is_same hw hw x2 ht hN)]
      simp only [fnm]
      by_cases z : f i = n
      · rw [show decide (f i = n) = true from decide_eq_true z, if_neg bI_t0, if_pos z]
        rfl
      · rw [show decide (f i = n) = false from decide_eq_false z, if_pos bI_f, nI_1, if_neg z]
        exact ih q (i + 1) (by omega) (by omega)
  unfold F_MText_local
  exact lp K N 0 (by omega) (by omega)
/-- the members of a component of one text, a token of perhaps another -/
theorem ev_member {N w v t c a b : Nat} {f : Nat → List Nat} {n : List Nat} {B : Hp} (hw : isT B w) (hv : isT B v) (hc : c < 16) (ha : B.D (w + 12) c = nI a) (hb : B.D (w + 12) (c + 1) = nI b) (hab : a ≤ b) (hb2 : b ≤ 48) (ht : tokN B v t n) (hf : ∀ i, a ≤ i → i < b → ∃ u, B.D (w + 14) i = nI u ∧ tokN B w u (f i)) (hN : 7000 ≤ N) : F_MText_member N w (nI c) v (nI t) B = some (oNI (fnm f n (b - a) a), B) := by
  have lp : ∀ (k q i : Nat), a ≤ i → i + k = b → k < q → B_MText_member_8 N w (nI c) v (nI t) q (nI i) B = some (oNI (fnm f n k i), B) := by
    intro k
    induction k with
    | zero =>
      intro q i hi0 hi hq
      obtain ⟨q, rfl⟩ : ∃ m, q = m + 1 := ⟨q - 1, by omega⟩
      rw [B_MText_member_8, ck_t (TS hw), rf_t (TP_18 hw), ar_t (TA_18 hw), nI_1, rdI (by omega) (by decide), hb, if_pos (nI_le (by omega) (by omega))]
      rfl
    | succ k ih =>
      intro q i hi0 hi hq
      obtain ⟨q, rfl⟩ : ∃ m, q = m + 1 := ⟨q - 1, by omega⟩
      obtain ⟨u, x1, x2⟩ := hf i hi0 (by omega)
      rw [B_MText_member_8, ck_t (TS hw), rf_t (TP_18 hw), ar_t (TA_18 hw), nI_1, rdI (by omega) (by decide), hb, if_neg (nI_ge (by omega) (by omega)), rf_t (TP_20 hw), ar_t (TA_20 hw), rdI (by omega) (by decide), x1, bC_t (is_same hw hv x2 ht hN)]
      simp only [fnm]
      by_cases z : f i = n
      · rw [show decide (f i = n) = true from decide_eq_true z, if_neg bI_t0, if_pos z]
        rfl
      · rw [show decide (f i = n) = false from decide_eq_false z, if_pos bI_f, nI_1, if_neg z]
        exact ih q (i + 1) (by omega) (by omega) (by omega)
  unfold F_MText_member
  rw [ck_t (TS hw), rf_t (TP_18 hw), ar_t (TA_18 hw), rdI (by omega) (by decide), ha]
  exact lp (b - a) N a (by omega) (by omega) (by omega)
theorem ev_emember {N w t e K : Nat} {f : Nat → List Nat} {n : List Nat} {B : Hp} (hw : isT B w) (he : e < 8) (hK : B.D (w + 16) e = nI K) (hK2 : K ≤ 4) (ht : tokN B w t n) (hf : ∀ i, i < K → ∃ u, B.D (w + 18) (4 * e + i) = nI u ∧ tokN B w u (f i)) (hN : 7000 ≤ N) : F_MText_eventMemberOf N w (nI e) (nI t) B = some (oNI (fnm f n K 0), B) := by
  have lp : ∀ (k q i : Nat), i + k = K → k < q → B_MText_eventMemberOf_2 N w (nI e) (nI t) q (nI i) B = some (oNI (fnm f n k i), B) := by
    intro k
    induction k with
    | zero =>
      intro q i hi hq
      obtain ⟨q, rfl⟩ : ∃ m, q = m + 1 := ⟨q - 1, by omega⟩
      rw [B_MText_eventMemberOf_2, ck_t (TS hw), rf_t (TP_23 hw), ar_t (TA_23 hw), rdI (by omega) (by decide), hK, if_pos (nI_le (by omega) (by omega))]
      rfl
    | succ k ih =>
      intro q i hi hq
      obtain ⟨q, rfl⟩ : ∃ m, q = m + 1 := ⟨q - 1, by omega⟩
      obtain ⟨u, x1, x2⟩ := hf i (by omega)
      rw [B_MText_eventMemberOf_2, ck_t (TS hw), rf_t (TP_23 hw), ar_t (TA_23 hw), rdI (by omega) (by decide), hK, if_neg (nI_ge (by omega) (by omega)), rf_t (TP_25 hw), ar_t (TA_25 hw), show (4 : Int32) = nI 4 from rfl, pk_mul, nI_add, rdI (by omega) (by decide), x1, bC_t (is_same hw hw x2 ht hN)]
      simp only [fnm]
      by_cases z : f i = n
      · rw [show decide (f i = n) = true from decide_eq_true z, if_neg bI_t0, if_pos z]
        rfl
      · rw [show decide (f i = n) = false from decide_eq_false z, if_pos bI_f, nI_1, if_neg z]
        exact ih q (i + 1) (by omega) (by omega)
  unfold F_MText_eventMemberOf
  exact lp K N 0 (by omega) (by omega)
/-- members by name, in a Shapes at q whose rows lie at q + 1 + .. -/
theorem ev_mnamed {N q m fr s h cnt a b M R : Nat} {f : Nat → List Nat} {n : List Nat} {A : Hp} (hq : A.sh[q]? = some (3, 0)) (hm : A.P q 1 = .ref m) (hmA : A.sh[m]? = some (106, M)) (hM : ∀ k, k < M → A.P m k = .ref (m + 1 + k) ∧ A.sh[m + 1 + k]? = some (2, 0)) (hfr : A.P q 2 = .ref fr) (hfrA : A.sh[fr]? = some (100, R)) (hR : R ≤ 100) (hM2 : M ≤ 100) (hcnt : A.D q 3 = nI cnt) (hc2 : cnt < R) (hh : h < cnt) (ha : A.D fr h = nI a) (hb : A.D fr (h + 1) = nI b) (hab : a ≤ b) (hb2 : b ≤ M) (hs : strA A s n) (hf : ∀ i, a ≤ i → i < b → nmd A (m + 1 + i) (f i)) (hN : 200 ≤ N) : F_Shapes_memberNamed N q (nI h) s A = some (oNI (fnm f n (b - a) a), A) := by
  have lp : ∀ (k r i : Nat), a ≤ i → i + k = b → k < r → B_Shapes_memberNamed_21 N q (nI h) s r (nI i) A = some (oNI (fnm f n k i), A) := by
    intro k
    induction k with
    | zero =>
      intro r i hi0 hi hr
      obtain ⟨r, rfl⟩ : ∃ m, r = m + 1 := ⟨r - 1, by omega⟩
      rw [B_Shapes_memberNamed_21, ck_t hq, rf_t hfr, ar_t hfrA, nI_1, rdI (by omega) (by omega), hb, if_pos (nI_le (by omega) (by omega))]
      rfl
    | succ k ih =>
      intro r i hi0 hi hr
      obtain ⟨r, rfl⟩ : ∃ m, r = m + 1 := ⟨r - 1, by omega⟩
      obtain ⟨x, x1, x2, -, -⟩ := hf i hi0 (by omega)
      obtain ⟨k1, k2⟩ := hM i (by omega)
      rw [B_Shapes_memberNamed_21, ck_t hq, rf_t hfr, ar_t hfrA, nI_1, rdI (by omega) (by omega), hb, if_neg (nI_ge (by omega) (by omega)), rf_t hm, ar_t hmA, rdP (by omega) (by omega), rf_t k1, ck_t k2, rf_t x1, ck_t x2.1, bC_t (str_eq x2 hs (by omega))]
      simp only [fnm]
      by_cases z : f i = n
      · rw [show decide (f i = n) = true from decide_eq_true z, if_neg bI_t0, if_pos z]
        rfl
      · rw [show decide (f i = n) = false from decide_eq_false z, if_pos bI_f, nI_1, if_neg z]
        exact ih r (i + 1) (by omega) (by omega) (by omega)
  unfold F_Shapes_memberNamed
  rw [if_neg (nI_pos (by omega)), ck_t hq, bnd_t, hcnt, if_pos (nI_lt hh (by omega)), rf_t hfr, ar_t hfrA, rdI (by omega) (by omega), ha]
  exact lp (b - a) N a (by omega) (by omega) (by omega)
theorem ev_sizeOf {N q fr h cnt a b R : Nat} {A : Hp} (hq : A.sh[q]? = some (3, 0)) (hfr : A.P q 2 = .ref fr) (hfrA : A.sh[fr]? = some (100, R)) (hR : R ≤ 100) (hcnt : A.D q 3 = nI cnt) (hc2 : cnt < R) (hh : h < cnt) (ha : A.D fr h = nI a) (hb : A.D fr (h + 1) = nI b) (hab : a ≤ b) : F_Shapes_sizeOf N q (nI h) A = some (nI (b - a), A) := by
  unfold F_Shapes_sizeOf
  rw [if_neg (nI_pos (by omega)), ck_t hq, bnd_t, hcnt, if_pos (nI_lt hh (by omega)), rf_t hfr, ar_t hfrA, nI_1, rdI (by omega) (by omega), hb, rf_t hfr, ar_t hfrA, rdI (by omega) (by omega), ha, pk_sub hab]
