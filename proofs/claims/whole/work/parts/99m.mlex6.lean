theorem n2_d2 {mf bf : Int32 → Int32} {T pp : Nat} (hT2 : T ≤ 6000) (hr : ∀ i, bf i = mf i &&& 255) (hy : ∀ i, by_ok (mf i)) : ∀ (n i : Nat) (pt sc : Int64), i + n = T → pp ≤ i → sp_n2 bf T n i pt sc (nI (i - pp)) = ((sp_d2 mf T pp n i pt sc).1, (sp_d2 mf T pp n i pt sc).2.1, (sp_d2 mf T pp n i pt sc).2.2, nI ((sp_d2 mf T pp n i pt sc).1 - pp)) := by
  intro n
  induction n with
  | zero => intro i pt sc _ _; rw [sp_n2_0, sp_d2_0]
  | succ n ih =>
    intro i pt sc hi hp
    have e2 : sp_digit (bf (nI i)) = sp_MText_isDigit (mf (nI i)) := by rw [hr]; exact dig_eq (hy _)
    rw [sp_n2, sp_d2, if_neg (fun z => absurd ((nI_leI (by omega) (by omega)).mp z) (by omega)), e2]
    by_cases hd : sp_MText_isDigit (mf (nI i)) = 0
    · rw [if_pos hd, if_pos hd]
    · rw [if_neg hd, if_neg hd]
      obtain ⟨d1, -, -⟩ := dig_v (hy _) hd
      have eb : bf (nI i) = mf (nI i) := by rw [hr]; exact d1
      have ed : nI (i - pp) + 1 = nI (i + 1 - pp) := by rw [nI_1, show i - pp + 1 = i + 1 - pp by omega]
      rw [eb, ed, nI_sub1 hp]
      by_cases h4 : 4 ≤ i - pp
      · have q1 : (4 : Int32) < nI (i + 1 - pp) := nI_lt (a := 4) (by omega) (by omega)
        have q2 : (4 : Int32) ≤ nI (i - pp) := nI_le (a := 4) (by omega) (by omega)
        rw [if_pos q1, if_pos q2]
        exact ih (i + 1) pt sc (by omega) (by omega)
      · have q1 : ¬ (4 : Int32) < nI (i + 1 - pp) := Int32.not_lt.mpr (nI_le (b := 4) (by omega) (by omega))
        have q2 : ¬ (4 : Int32) ≤ nI (i - pp) := fun z => absurd ((nI_leI (a := 4) (by omega) (by omega)).mp z) (by omega)
        rw [if_neg q1, if_neg q2, Int64.mul_comm 10 pt]
        exact ih (i + 1) _ _ (by omega) (by omega)
