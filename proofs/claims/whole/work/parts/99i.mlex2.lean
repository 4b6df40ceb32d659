/-- a byte with its sign, and without -/
def by_ok (x : Int32) : Prop := x.toInt8.toInt32 = x
theorem by_90 : ∀ v : BitVec 8, ((Int8.ofBitVec v).toInt32 &&& 255 = 9) ↔ ((Int8.ofBitVec v).toInt32 = 9) := by decide +kernel
theorem by_9 {x : Int32} (h : by_ok x) : x &&& 255 = 9 ↔ x = 9 := by
  have z := by_90 x.toInt8.toBitVec
  rw [show Int8.ofBitVec x.toInt8.toBitVec = x.toInt8 from rfl, show x.toInt8.toInt32 = x from h] at z
  exact z
theorem by_100 : ∀ v : BitVec 8, ((Int8.ofBitVec v).toInt32 &&& 255 = 10) ↔ ((Int8.ofBitVec v).toInt32 = 10) := by decide +kernel
theorem by_10 {x : Int32} (h : by_ok x) : x &&& 255 = 10 ↔ x = 10 := by
  have z := by_100 x.toInt8.toBitVec
  rw [show Int8.ofBitVec x.toInt8.toBitVec = x.toInt8 from rfl, show x.toInt8.toInt32 = x from h] at z
  exact z
theorem by_130 : ∀ v : BitVec 8, ((Int8.ofBitVec v).toInt32 &&& 255 = 13) ↔ ((Int8.ofBitVec v).toInt32 = 13) := by decide +kernel
theorem by_13 {x : Int32} (h : by_ok x) : x &&& 255 = 13 ↔ x = 13 := by
  have z := by_130 x.toInt8.toBitVec
  rw [show Int8.ofBitVec x.toInt8.toBitVec = x.toInt8 from rfl, show x.toInt8.toInt32 = x from h] at z
  exact z
theorem by_320 : ∀ v : BitVec 8, ((Int8.ofBitVec v).toInt32 &&& 255 = 32) ↔ ((Int8.ofBitVec v).toInt32 = 32) := by decide +kernel
theorem by_32 {x : Int32} (h : by_ok x) : x &&& 255 = 32 ↔ x = 32 := by
  have z := by_320 x.toInt8.toBitVec
  rw [show Int8.ofBitVec x.toInt8.toBitVec = x.toInt8 from rfl, show x.toInt8.toInt32 = x from h] at z
  exact z
theorem by_350 : ∀ v : BitVec 8, ((Int8.ofBitVec v).toInt32 &&& 255 = 35) ↔ ((Int8.ofBitVec v).toInt32 = 35) := by decide +kernel
theorem by_35 {x : Int32} (h : by_ok x) : x &&& 255 = 35 ↔ x = 35 := by
  have z := by_350 x.toInt8.toBitVec
  rw [show Int8.ofBitVec x.toInt8.toBitVec = x.toInt8 from rfl, show x.toInt8.toInt32 = x from h] at z
  exact z
theorem nl_10 {mf : Int32 → Int32} {T : Nat} (hT : T ≤ 6000) : ∀ (m i : Nat), i + m = T → sp_nl mf T m i < T → mf (nI (sp_nl mf T m i)) = 10 := by
  intro m
  induction m with
  | zero => intro i h q; rw [sp_nl_0] at q; omega
  | succ m ih =>
    intro i h q
    rw [sp_nl, if_neg (fun z => absurd ((nI_leI (by omega) (by omega)).mp z) (by omega))] at q ⊢
    by_cases h1 : mf (nI i) = 10
    · rw [if_pos h1] at q ⊢; exact h1
    · rw [if_neg h1] at q ⊢; exact ih (i + 1) (by omega) q
theorem bb_rem {mf bf : Int32 → Int32} {T : Nat} (hT : T ≤ 6000) (hr : ∀ i, bf i = mf i &&& 255) (hy : ∀ i, by_ok (mf i)) : ∀ (m i : Nat), i + m = T → sp_bb bf T m i 1 = (if sp_nl mf T m i = T then .inr (T, 1) else sp_bb bf T (T - (sp_nl mf T m i + 1)) (sp_nl mf T m i + 1) 0) := by
  intro m
  induction m with
  | zero => intro i h; rw [sp_bb_0, sp_nl_0, show i = T by omega, if_pos rfl]
  | succ m ih =>
    intro i h
    have hlt : ¬ nI T ≤ nI i := fun z => absurd ((nI_leI (by omega) (by omega)).mp z) (by omega)
    have e10 : bf (nI i) = 10 ↔ mf (nI i) = 10 := by rw [hr]; exact by_10 (hy _)
    rw [sp_bb, if_neg hlt, sp_nl, if_neg hlt]
    by_cases h10 : mf (nI i) = 10
    · rw [if_pos h10, if_neg (show ¬ i = T by omega), if_pos (show ¬ bf (nI i) = 35 by rw [e10.mpr h10]; decide), if_neg (fun z => z (e10.mpr h10)), show T - (i + 1) = m by omega]
    · rw [if_neg h10, if_pos (show ¬ bf (nI i) = 10 from fun z => h10 (e10.mp z)), if_pos (show ¬ (1 : Int32) = 0 by decide)]
      by_cases h35 : bf (nI i) = 35
      · rw [if_neg (fun z => z h35)]; exact ih (i + 1) (by omega)
      · rw [if_pos h35]; exact ih (i + 1) (by omega)
def bb_val (T : Nat) (x : Int32 ⊕ (Nat × Int32)) : Int32 := match x with
  | .inl r => r
  | .inr _ => nI T
theorem sk_T {mf : Int32 → Int32} {T : Nat} : ∀ n, mt_sk mf T n T = T := by
  intro n
  cases n with
  | zero => rw [mt_sk]
  | succ n => rw [mt_sk, if_pos (Nat.le_refl _)]
theorem sk_bb {mf bf : Int32 → Int32} {T : Nat} (hT : T ≤ 6000) (hr : ∀ i, bf i = mf i &&& 255) (hy : ∀ i, by_ok (mf i)) : ∀ (n i m : Nat), i + m = T → m ≤ n → nI (mt_sk mf T n i) = bb_val T (sp_bb bf T m i 0) := by
  intro n
  induction n using Nat.strongRecOn with
  | _ n ih =>
    intro i m him hmn
    cases m with
    | zero =>
      obtain rfl : i = T := by omega
      rw [sk_T, sp_bb_0]; rfl
    | succ m =>
      obtain ⟨n, rfl⟩ : ∃ k, n = k + 1 := ⟨n - 1, by omega⟩
      have hlt : ¬ nI T ≤ nI i := fun z => absurd ((nI_leI (by omega) (by omega)).mp z) (by omega)
      have e9 : bf (nI i) = 9 ↔ mf (nI i) = 9 := by rw [hr]; exact by_9 (hy _)
      have e10 : bf (nI i) = 10 ↔ mf (nI i) = 10 := by rw [hr]; exact by_10 (hy _)
      have e13 : bf (nI i) = 13 ↔ mf (nI i) = 13 := by rw [hr]; exact by_13 (hy _)
      have e32 : bf (nI i) = 32 ↔ mf (nI i) = 32 := by rw [hr]; exact by_32 (hy _)
      have e35 : bf (nI i) = 35 ↔ mf (nI i) = 35 := by rw [hr]; exact by_35 (hy _)
      have go := ih n (by omega) (i + 1) m (by omega) (by omega)
      rw [mt_sk, if_neg (show ¬ T ≤ i by omega), sp_bb, if_neg hlt]
      by_cases h35 : mf (nI i) = 35
      · rw [if_neg (fun z => z h35), if_neg (fun z => z (e35.mpr h35)), bb_rem hT hr hy m (i + 1) (by omega)]
        have eq : mt_nl mf T i = sp_nl mf T m (i + 1) := by
          unfold mt_nl
          rw [show T - i = m + 1 by omega, sp_nl, if_neg hlt, if_neg (by rw [h35]; decide)]
        rw [eq]
        have hge := (nl_ge (mf := mf) (T := T) m (i + 1)).1
        have hle := (nl_ge (mf := mf) (T := T) m (i + 1)).2 (by omega)
        have h10 := nl_10 (mf := mf) hT m (i + 1) (by omega)
        generalize sp_nl mf T m (i + 1) = q at hge hle h10
        by_cases hq : q = T
        · subst hq; rw [if_pos rfl, sk_T]; rfl
        · rw [if_neg hq]
          have hq10 := h10 (by omega)
          obtain ⟨n', rfl⟩ : ∃ k, n = k + 1 := ⟨n - 1, by omega⟩
          rw [mt_sk, if_neg (show ¬ T ≤ q by omega), if_pos (show ¬ mf (nI q) = 35 by rw [hq10]; decide), if_neg (show ¬ mf (nI q) = 9 by rw [hq10]; decide), if_pos hq10]
          exact ih n' (by omega) (q + 1) (T - (q + 1)) (by omega) (by omega)
      · rw [if_pos h35, if_pos (fun z => h35 (e35.mp z))]
        by_cases h10 : mf (nI i) = 10
        · rw [if_neg (show ¬ mf (nI i) = 9 by rw [h10]; decide), if_pos h10, if_neg (fun z => z (e10.mpr h10))]
          exact go
        · rw [if_pos (show ¬ bf (nI i) = 10 from fun z => h10 (e10.mp z)), if_neg (show ¬ ¬ (0 : Int32) = 0 from fun z => z rfl)]
          by_cases h9 : mf (nI i) = 9
          · rw [if_pos h9, if_pos (e9.mpr h9)]; exact go
          · rw [if_neg h9, if_neg h10, if_neg (fun z => h9 (e9.mp z))]
            by_cases h13 : mf (nI i) = 13
            · rw [if_pos h13, if_pos (e13.mpr h13)]; exact go
            · rw [if_neg h13, if_neg (fun z => h13 (e13.mp z))]
              by_cases h32 : mf (nI i) = 32
              · rw [if_neg (fun z => z h32), if_pos (e32.mpr h32)]; exact go
              · rw [if_pos h32, if_neg (fun z => h32 (e32.mp z))]; rfl
theorem sk_le {mf : Int32 → Int32} {T : Nat} (hT : T ≤ 6000) : ∀ (n i : Nat), i ≤ T → mt_sk mf T n i ≤ T := by
  intro n
  induction n with
  | zero => intro i h; rw [mt_sk]; exact h
  | succ n ih =>
    intro i h
    rw [mt_sk]
    by_cases h1 : T ≤ i
    · rw [if_pos h1]; exact h
    · rw [if_neg h1]
      have hnl : mt_nl mf T i ≤ T := (nl_ge _ _).2 (by omega)
      repeat' split
      all_goals first | exact h | exact ih _ (by omega) | exact ih _ hnl
/-- the reference skips as the class does -/
theorem skips_eq {mf bf : Int32 → Int32} {T f : Nat} (hT : T ≤ 6000) (hf : f ≤ T) (hr : ∀ i, bf i = mf i &&& 255) (hy : ∀ i, by_ok (mf i)) : mt_sk mf T (T - f) f = lx_bbn bf T f := by
  have h1 := sk_bb hT hr hy (T - f) f (T - f) (by omega) (Nat.le_refl _)
  have h2 : lx_bb bf T f = bb_val T (sp_bb bf T (T - f) f 0) := rfl
  rw [← h2, (bbn_eq (by omega) hf).1] at h1
  have h3 := congrArg Int32.toNatClampNeg h1
  have hle := (bbn_eq (bf := bf) (T := T) (f := f) (by omega) hf).2.2
  have hs : mt_sk mf T (T - f) f < 2 ^ 31 := Nat.lt_of_le_of_lt (sk_le hT _ _ hf) (by omega)
  rw [nI_clamp hs, nI_clamp (by omega)] at h3
  exact h3
