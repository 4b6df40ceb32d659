theorem dig_v0 : ∀ v : BitVec 8, ¬ sp_MText_isDigit (Int8.ofBitVec v).toInt32 = 0 → ((Int8.ofBitVec v).toInt32 &&& 255 = (Int8.ofBitVec v).toInt32 ∧ 48 ≤ (Int8.ofBitVec v).toInt32.toInt ∧ (Int8.ofBitVec v).toInt32.toInt ≤ 57) := by decide +kernel
theorem dig_v {x : Int32} (h : by_ok x) (hd : ¬ sp_MText_isDigit x = 0) : x &&& 255 = x ∧ 48 ≤ x.toInt ∧ x.toInt ≤ 57 := by
  have z := dig_v0 x.toInt8.toBitVec
  rw [show Int8.ofBitVec x.toInt8.toBitVec = x.toInt8 from rfl, show x.toInt8.toInt32 = x from h] at z
  exact z hd
theorem bm64 {x : Int} (h1 : -9223372036854775808 ≤ x) (h2 : x < 9223372036854775808) : x.bmod (2 ^ 64) = x := by
  rw [Int.bmod_def]
  split <;> omega
theorem l_madd {w : Int64} {c : Int32} (hw0 : 0 ≤ w.toInt) (hw : w.toInt ≤ 1099511627776) (hc0 : 48 ≤ c.toInt) (hc : c.toInt ≤ 57) : (w * 10 + c.toInt64 - 48).toInt = w.toInt * 10 + c.toInt - 48 := by
  have e10 : (10 : Int64).toInt = 10 := by decide
  have e48 : (48 : Int64).toInt = 48 := by decide
  have h1 : (w * 10).toInt = w.toInt * 10 := by
    rw [Int64.toInt_mul, e10]
    exact bm64 (by omega) (by omega)
  have h2 : (w * 10 + c.toInt64).toInt = w.toInt * 10 + c.toInt := by
    rw [Int64.toInt_add, h1, Int32.toInt_toInt64]
    exact bm64 (by omega) (by omega)
  rw [Int64.toInt_sub, h2, e48]
  exact bm64 (by omega) (by omega)
/-- equal, or both beyond what an int holds -/
def nmR (w v : Int64) : Prop := 0 ≤ w.toInt ∧ w.toInt ≤ 1099511627776 ∧ ((w = v ∧ v.toInt ≤ 2147483647) ∨ (2147483647 < w.toInt ∧ 2147483647 < v.toInt ∧ v.toInt ≤ 21474836479))
theorem min2_toInt (x y : Int64) : (sp_Math_min2 x y).toInt = min x.toInt y.toInt := by
  unfold sp_Math_min2
  by_cases h : 0 < lg_cmp x y
  · have z := lg_pos.mp h
    rw [Int64.lt_iff_toInt_lt] at z
    rw [if_pos h]
    omega
  · have z : ¬ y < x := fun q => h (lg_pos.mpr q)
    rw [Int64.lt_iff_toInt_lt] at z
    rw [if_neg h]
    omega
theorem n1_d1 {mf bf : Int32 → Int32} {T : Nat} (hT2 : T ≤ 6000) (hr : ∀ i, bf i = mf i &&& 255) (hy : ∀ i, by_ok (mf i)) : ∀ (n i : Nat) (w v : Int64), i + n = T → nmR w v → (sp_n1 bf T n i w).1 = (sp_d1 mf T n i v).1 ∧ nmR (sp_n1 bf T n i w).2 (sp_d1 mf T n i v).2 := by
  intro n
  induction n with
  | zero => intro i w v _ h; rw [sp_n1_0, sp_d1_0]; exact ⟨rfl, h⟩
  | succ n ih =>
    intro i w v hi h
    have e2 : sp_digit (bf (nI i)) = sp_MText_isDigit (mf (nI i)) := by rw [hr]; exact dig_eq (hy _)
    rw [sp_n1, sp_d1, if_neg (fun z => absurd ((nI_leI (by omega) (by omega)).mp z) (by omega)), e2]
    by_cases hd : sp_MText_isDigit (mf (nI i)) = 0
    · rw [if_pos hd, if_pos hd]; exact ⟨rfl, h⟩
    · rw [if_neg hd, if_neg hd]
      obtain ⟨d1, d2, d3⟩ := dig_v (hy _) hd
      have eb : bf (nI i) = mf (nI i) := by rw [hr]; exact d1
      rw [eb]
      obtain ⟨h1, h2, h3⟩ := h
      have em : (2147483647 : Int64).toInt = 2147483647 := by decide
      have eC : (1099511627776 : Int64).toInt = 1099511627776 := by decide
      have hm := l_madd (w := w) (c := mf (nI i)) h1 h2 d2 d3
      have hq := min2_toInt (w * 10 + (mf (nI i)).toInt64 - 48) 1099511627776
      rw [hm, eC] at hq
      rcases h3 with ⟨rfl, h4⟩ | ⟨h4, h5, h6⟩
      · have hc : lg_cmp w 2147483647 ≤ 0 := Int32.not_lt.mp (fun z => by
          have z1 := lg_pos.mp z
          rw [Int64.lt_iff_toInt_lt, em] at z1
          omega)
        rw [if_pos hc]
        have ev : 10 * w + (mf (nI i)).toInt64 - 48 = w * 10 + (mf (nI i)).toInt64 - 48 := by rw [Int64.mul_comm]
        rw [ev]
        have es : sp_Math_min2 (w * 10 + (mf (nI i)).toInt64 - 48) 1099511627776 = w * 10 + (mf (nI i)).toInt64 - 48 := Int64.toInt_inj.mp (by rw [hq, hm]; omega)
        rw [es]
        refine ih (i + 1) _ _ (by omega) ⟨by rw [hm]; omega, by rw [hm]; omega, ?_⟩
        by_cases hle : w.toInt * 10 + (mf (nI i)).toInt - 48 ≤ 2147483647
        · exact Or.inl ⟨rfl, by rw [hm]; exact hle⟩
        · exact Or.inr ⟨by rw [hm]; omega, by rw [hm]; omega, by rw [hm]; omega⟩
      · have hc : ¬ lg_cmp v 2147483647 ≤ 0 := fun z => by
          have z1 : ¬ (2147483647 : Int64) < v := fun q => absurd (lg_pos.mpr q) (Int32.not_lt.mpr z)
          rw [Int64.lt_iff_toInt_lt, em] at z1
          omega
        rw [if_neg hc]
        exact ih (i + 1) _ _ (by omega) ⟨by rw [hq]; omega, by rw [hq]; omega, Or.inr ⟨by rw [hq]; omega, h5, h6⟩⟩
