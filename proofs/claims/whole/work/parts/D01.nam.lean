/-! ===== names: strings of the class, tokens of the reference ===== -/
theorem rdI {α : Type} {H : Hp} {a i n : Nat} {K : Int32 → Option α} (h : i < n) (hn : n ≤ 2147483647) : ck (inb (nI i) n) (bnd (H.D a (nI i).toNatClampNeg) K) = K (H.D a i) := by
  rw [ck_t (nI_in h (by omega)), nI_clamp (by omega), bnd_t]
theorem wrI {α : Type} {H : Hp} {a i n : Nat} {v : Int32} {K : Hp → Option α} (h : i < n) (hn : n ≤ 2147483647) : ck (inb (nI i) n) (bnd (H.sD a (nI i).toNatClampNeg v) K) = K (H.sD a i v) := by
  rw [ck_t (nI_in h (by omega)), nI_clamp (by omega), bnd_t]
theorem rdP {α : Type} {H : Hp} {a i n : Nat} {K : Nat → Option α} (h : i < n) (hn : n ≤ 2147483647) : ck (inb (nI i) n) (rf (H.P a (nI i).toNatClampNeg) K) = rf (H.P a i) K := by
  rw [ck_t (nI_in h (by omega)), nI_clamp (by omega)]
def strA (A : Hp) (s : Nat) (n : List Nat) : Prop := A.sh[s]? = some (16, 0) ∧ A.D s 1 = 0 ∧ n.length ≤ 12 ∧ (∀ i, n.getD i 0 < 256) ∧ ∃ b, A.P s 0 = .ref b ∧ A.sh[b]? = some (101, n.length) ∧ ∀ i, i < n.length → A.D b i = sx (n.getD i 0)
theorem sx_inj {a b : Nat} (ha : a < 256) (hb : b < 256) (h : sx a = sx b) : a = b := by
  have h0 : ∀ x : Fin 256, ((sx x.val).toUInt32 % 256).toNat = x.val := by decide +kernel
  have e1 := h0 ⟨a, ha⟩
  have e2 := h0 ⟨b, hb⟩
  simp only at e1 e2
  rw [h] at e1
  omega
theorem lst_ext {n m : List Nat} (hl : n.length = m.length) (h : ∀ i, i < n.length → n.getD i 0 = m.getD i 0) : n = m := by
  apply List.ext_getElem? 
  intro i
  by_cases q : i < n.length
  · have := h i q
    rw [List.getD_eq_getElem?_getD, List.getD_eq_getElem?_getD, List.getElem?_eq_getElem q, List.getElem?_eq_getElem (show i < m.length by omega)] at this
    rw [List.getElem?_eq_getElem q, List.getElem?_eq_getElem (show i < m.length by omega)]
    simp only [Option.getD_some] at this
    rw [this]
  · rw [List.getElem?_eq_none (by omega), List.getElem?_eq_none (by omega)]
theorem strA_u {A : Hp} {s : Nat} {n m : List Nat} (h : strA A s n) (h2 : strA A s m) : n = m := by
  obtain ⟨a1, a2, a3, a4, b, a5, a6, a7⟩ := h
  obtain ⟨c1, c2, c3, c4, d, c5, c6, c7⟩ := h2
  have e : b = d := by rw [a5] at c5; cases c5; rfl
  subst e
  have hl : n.length = m.length := by
    rw [a6] at c6
    have := Option.some.inj c6
    exact (Prod.mk.inj this).2
  refine lst_ext hl (fun i hi => ?_)
  refine sx_inj (a4 i) (c4 i) ?_
  rw [← a7 i hi, ← c7 i (by omega)]
theorem nI_len {n m : Nat} (hn : n ≤ 6000) (hm : m ≤ 6000) : (Int32.ofNat n = Int32.ofNat m) ↔ n = m := nI_eq (by omega) (by omega)
theorem sl_eq {N b d : Nat} {n m : List Nat} {A : Hp} (hb : A.sh[b]? = some (101, n.length)) (hd : A.sh[d]? = some (101, n.length)) (hl : n.length = m.length) (h12 : n.length ≤ 12) (h1 : ∀ i, i < n.length → A.D b i = sx (n.getD i 0)) (h2 : ∀ i, i < n.length → A.D d i = sx (m.getD i 0)) (g1 : ∀ i, n.getD i 0 < 256) (g2 : ∀ i, m.getD i 0 < 256) : ∀ (k f i : Nat), i + k = n.length → k < f → (∀ j, j < i → n.getD j 0 = m.getD j 0) → B_SL_equals_9 N b d f (nI i) A = some (bI (decide (n = m)), A) := by
  intro k
  induction k with
  | zero =>
    intro f i hi hf hj
    obtain ⟨f, rfl⟩ : ∃ m, f = m + 1 := ⟨f - 1, by omega⟩
    rw [B_SL_equals_9, ar_t hb, if_pos (show Int32.ofNat n.length ≤ nI i from nI_le (a := n.length) (by omega) (by omega))]
    rw [show decide (n = m) = true from decide_eq_true (lst_ext hl (fun j h => hj j (by omega)))]
    rfl
  | succ k ih =>
    intro f i hi hf hj
    obtain ⟨f, rfl⟩ : ∃ m, f = m + 1 := ⟨f - 1, by omega⟩
    rw [B_SL_equals_9, ar_t hb, if_neg (show ¬ Int32.ofNat n.length ≤ nI i from nI_ge (b := n.length) (by omega) (by omega)), rdI (by omega) (by omega), ar_t hd, rdI (by omega) (by omega), h1 i (by omega), h2 i (by omega)]
    by_cases q : n.getD i 0 = m.getD i 0
    · rw [if_pos (by rw [q]), nI_1]
      refine ih f (i + 1) (by omega) (by omega) (fun j h => ?_)
      by_cases e : j = i
      · subst e; exact q
      · exact hj j (by omega)
    · rw [if_neg (fun z => q (sx_inj (g1 i) (g2 i) z)), show decide (n = m) = false from decide_eq_false (fun z => q (by rw [z]))]
      rfl
theorem str_eq {N s t : Nat} {n m : List Nat} {A : Hp} (h : strA A s n) (h2 : strA A t m) (hN : 100 ≤ N) : F_Str_equals N s t A = some (bI (decide (n = m)), A) := by
  have h0 := h
  have h20 := h2
  obtain ⟨a1, a2, a3, a4, b, a5, a6, a7⟩ := h0
  obtain ⟨c1, c2, c3, c4, d, c5, c6, c7⟩ := h20
  unfold F_Str_equals
  by_cases q : s = t
  · subst q
    rw [if_pos rfl, show decide (n = m) = true from decide_eq_true (strA_u h h2)]
    rfl
  · rw [if_neg q, ck_t c1, if_neg (by decide), if_neg (by decide), ck_t a1, bnd_t, bnd_t, a2, c2, if_pos rfl]
    unfold B_Str_equals_36 F_SL_equals
    rw [ck_t a1, rf_t a5, ck_t c1, rf_t c5, ar_t a6, ar_t c6]
    by_cases hl : n.length = m.length
    · rw [if_pos ((nI_len (by omega) (by omega)).mpr hl)]
      have e := sl_eq (N := N) (n := n) (m := m) a6 (by rw [hl]; exact c6) hl a3 a7 (fun i hi => c7 i (by omega)) a4 c4 n.length N 0 (by omega) (by omega) (fun j h => by omega)
      rw [bC_t (show B_SL_equals_9 N b d N 0 A = _ from e)]
      cases z : decide (n = m)
      · rw [if_pos bI_f]; rfl
      · rw [if_neg bI_t0]; rfl
    · rw [if_neg (fun z => hl ((nI_len (by omega) (by omega)).mp z)), bC_v, if_pos rfl, show decide (n = m) = false from decide_eq_false (fun z => hl (by rw [z]))]
      rfl
/-- token t of the Text at w has the name n -/
def tokN (B : Hp) (w t : Nat) (n : List Nat) : Prop := t < 6002 ∧ (∀ i, n.getD i 0 < 256) ∧ B.D (w + 4) t = nI n.length ∧ ∃ f, B.D (w + 3) t = nI f ∧ f + n.length ≤ 6000 ∧ ∀ i, i < n.length → B.D (w + 1) (f + i) = sx (n.getD i 0)
theorem is_same {N w v t u : Nat} {n m : List Nat} {B : Hp} (hw : isT B w) (hv : isT B v) (h : tokN B w t n) (h2 : tokN B v u m) (hN : 7000 ≤ N) : F_MText_isSame N w (nI t) v (nI u) B = some (bI (decide (n = m)), B) := by
  obtain ⟨a1, a2, a3, f, a4, a5, a6⟩ := h
  obtain ⟨c1, c2, c3, e, c4, c5, c6⟩ := h2
  have stop : ∀ k, B_MText_isSame_25 N w (nI t) v (nI u) (k + 1) 0 (nI 0) B = some (0, B) := by
    intro k
    rw [B_MText_isSame_25, ck_t (TS hw), rf_t (TP_5 hw), ar_t (TA_5 hw), rdI a1 (by decide), a3]
    rw [ck_t (by decide), if_pos rfl]
    simp only [ite_self]
  have stop2 : ∀ k i, B_MText_isSame_25 N w (nI t) v (nI u) (k + 1) 0 (nI i) B = some (0, B) := by
    intro k i
    rw [B_MText_isSame_25, ck_t (TS hw), rf_t (TP_5 hw), ar_t (TA_5 hw), rdI a1 (by decide), a3]
    rw [ck_t (by decide), if_pos rfl]
    simp only [ite_self]
  have lp : n.length = m.length → ∀ (k q i : Nat), i + k = n.length → k + 1 < q → (∀ j, j < i → n.getD j 0 = m.getD j 0) → B_MText_isSame_25 N w (nI t) v (nI u) q 1 (nI i) B = some (bI (decide (n = m)), B) := by
    intro hl k
    induction k with
    | zero =>
      intro q i hi hf hj
      obtain ⟨q, rfl⟩ : ∃ m, q = m + 1 := ⟨q - 1, by omega⟩
      rw [B_MText_isSame_25, ck_t (TS hw), rf_t (TP_5 hw), ar_t (TA_5 hw), rdI a1 (by decide), a3, if_pos (nI_le (by omega) (by omega)), ck_t (by decide)]
      rw [show decide (n = m) = true from decide_eq_true (lst_ext hl (fun j h => hj j (by omega)))]
      rfl
    | succ k ih =>
      intro q i hi hf hj
      obtain ⟨q, rfl⟩ : ∃ m, q = m + 1 := ⟨q - 1, by omega⟩
      rw [B_MText_isSame_25, ck_t (TS hw), rf_t (TP_5 hw), ar_t (TA_5 hw), rdI a1 (by decide), a3, if_neg (nI_ge (by omega) (by omega)), if_neg (by decide), rf_t (TP_0 hw), rf_t (TP_4 hw), ar_t (TA_4 hw), rdI a1 (by decide), a4, ar_t (TA_0 hw), nI_add, rdI (by omega) (by decide), a6 i (by omega), ck_t (TS hv), rf_t (TP_0 hv), rf_t (TP_4 hv), ar_t (TA_4 hv), rdI c1 (by decide), c4, ar_t (TA_0 hv), nI_add, rdI (by omega) (by decide), c6 i (by omega)]
      unfold B_MText_isSame_77
      rw [nI_1]
      by_cases z : n.getD i 0 = m.getD i 0
      · rw [if_pos (by rw [z])]
        refine ih q (i + 1) (by omega) (by omega) (fun j h => ?_)
        by_cases e : j = i
        · subst e; exact z
        · exact hj j (by omega)
      · rw [if_neg (fun y => z (sx_inj (a2 i) (c2 i) y)), show decide (n = m) = false from decide_eq_false (fun y => z (by rw [y]))]
        obtain ⟨q, rfl⟩ : ∃ m, q = m + 1 := ⟨q - 1, by omega⟩
        exact stop2 q (i + 1)
  unfold F_MText_isSame B_MText_isSame_20
  rw [ck_t (TS hw), rf_t (TP_5 hw), ar_t (TA_5 hw), rdI a1 (by decide), a3, ck_t (TS hv), rf_t (TP_5 hv), ar_t (TA_5 hv), rdI c1 (by decide), c3]
  by_cases hl : n.length = m.length
  · rw [if_pos (by rw [hl])]
    exact lp hl n.length N 0 (by omega) (by omega) (fun j h => by omega)
  · rw [if_neg (fun z => hl ((nI_eq (by omega) (by omega)).mp z)), show decide (n = m) = false from decide_eq_false (fun z => hl (by rw [z]))]
    obtain ⟨q, rfl⟩ : ∃ m, N = m + 1 := ⟨N - 1, by omega⟩
    exact stop q
/-- the first of k names from i on that is n -/
def fnm (f : Nat → List Nat) (n : List Nat) : Nat → Nat → Option Nat
  | 0, _ => none
  | k + 1, i => if f i = n then some i else fnm f n k (i + 1)
def oNI : Option Nat → Int32
  | none => -1
  | some k => nI k
theorem fnm_bd {f : Nat → List Nat} {n : List Nat} : ∀ (k i j : Nat), fnm f n k i = some j → i ≤ j ∧ j < i + k ∧ f j = n := by
  intro k
  induction k with
  | zero => intro i j h; cases h
  | succ k ih =>
    intro i j h
    simp only [fnm] at h
    split at h
    · next q => cases h; exact ⟨Nat.le_refl _, by omega, q⟩
    · have := ih (i + 1) j h
      exact ⟨by omega, by omega, this.2.2⟩
theorem fnm_none {f : Nat → List Nat} {n : List Nat} : ∀ (k i : Nat), fnm f n k i = none → ∀ j, i ≤ j → j < i + k → f j ≠ n := by
  intro k
  induction k with
  | zero => intro i _ j h1 h2; omega
  | succ k ih =>
    intro i h j h1 h2
    simp only [fnm] at h
    split at h
    · cases h
    · next q =>
      by_cases e : j = i
      · subst e; exact q
      · exact ih (i + 1) h j (by omega) (by omega)
theorem fnm_app {f h : Nat → List Nat} {n : List Nat} {a b : Nat} (e1 : ∀ i, i < a → f i = h i) : ∀ (k i : Nat), i + k = a → fnm f n (k + b) i = match fnm h n k i with
    | some j => some j
    | none => fnm f n b a := by
  intro k
  induction k with
  | zero => intro i hi; rw [Nat.zero_add, show i = a by omega]; rfl
  | succ k ih =>
    intro i hi
    rw [show k + 1 + b = (k + b) + 1 by omega]
    simp only [fnm]
    rw [e1 i (by omega)]
    by_cases q : h i = n
    · simp only [q, if_true]
    · simp only [q, if_false]
      exact ih (i + 1) (by omega)
theorem fnm_sh {f h : Nat → List Nat} {n : List Nat} {a : Nat} (e : ∀ i, f (a + i) = h i) : ∀ (k i : Nat), fnm f n k (a + i) = (fnm h n k i).map (a + ·) := by
  intro k
  induction k with
  | zero => intro i; rfl
  | succ k ih =>
    intro i
    simp only [fnm]
    rw [e i]
    by_cases q : h i = n
    · simp only [q, if_true]; rfl
    · simp only [q, if_false]
      exact ih (i + 1)
/-- a Named at x has the name n -/
def nmd (A : Hp) (x : Nat) (n : List Nat) : Prop := ∃ s, A.P x 0 = .ref s ∧ strA A s n ∧ 626 ≤ s ∧ ∀ b, A.P s 0 = .ref b → 626 ≤ b
theorem ev_find {N p s K : Nat} {f : Nat → List Nat} {n : List Nat} {A : Hp} (hp : isP A p) (hK : A.D p 1 = nI K) (hK2 : K ≤ 68) (hs : strA A s n) (hf : ∀ i, i < K → nmd A (p + 2 + i) (f i)) (hN : 100 ≤ N) : F_Program_find N p s A = some ((fnm f n K 0).map (p + 2 + ·), A) := by
  have lp : ∀ (k q i : Nat), i + k = K → k < q → B_Program_find_2 N p s q (nI i) A = some ((fnm f n k i).map (p + 2 + ·), A) := by
    intro k
    induction k with
    | zero =>
      intro q i hi hq
      obtain ⟨q, rfl⟩ : ∃ m, q = m + 1 := ⟨q - 1, by omega⟩
      rw [B_Program_find_2, ck_t (PrS hp), bnd_t, hK, if_pos (nI_le (by omega) (by omega))]
      rfl
    | succ k ih =>
      intro q i hi hq
      obtain ⟨q, rfl⟩ : ∃ m, q = m + 1 := ⟨q - 1, by omega⟩
      obtain ⟨x, x1, x2, -, -⟩ := hf i (by omega)
      obtain ⟨k1, k2⟩ := PrK hp i (by omega)
      rw [B_Program_find_2, ck_t (PrS hp), bnd_t, hK, if_neg (nI_ge (by omega) (by omega)), rf_t (PrP_0 hp), ar_t (PrA_0 hp), rdP (by omega) (by decide), rf_t k1, ck_t k2, rf_t x1, ck_t x2.1, bC_t (str_eq x2 hs hN)]
      simp only [fnm]
      by_cases z : f i = n
      · rw [show decide (f i = n) = true from decide_eq_true z, if_neg bI_t0, rf_t (PrP_0 hp), ar_t (PrA_0 hp), rdP (by omega) (by decide), rf_t k1, if_pos z]
        rfl
      · rw [show decide (f i = n) = false from decide_eq_false z, if_pos bI_f, nI_1, if_neg z]
        exact ih q (i + 1) (by omega) (by omega)
  unfold F_Program_find
  exact lp K N 0 (by omega) (by omega)
