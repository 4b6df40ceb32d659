/-! ===== FIX: clamped, times, divided ===== -/
def clm (x : Int64) : Int64 := if x < 2147483647 then x else 2147483647
def clp (x : Int64) : Int32 := (if (-2147483648 : Int64) < clm x then clm x else -2147483648).toInt32
theorem ev_min2 {N : Nat} {H : Hp} {x : Int64} : F_Math_min2 N (2147483647 : Int64) x H = some (clm x, H) := by
  unfold F_Math_min2 clm
  by_cases q : x < 2147483647
  · rw [if_pos (lg_pos.mpr q), if_pos q]
  · rw [if_neg (fun z => q (lg_pos.mp z)), if_neg q]
theorem ev_max2 {N : Nat} {H : Hp} {x : Int64} : F_Math_max2 N ((-2147483648) : Int64) x H = some (if (-2147483648 : Int64) < x then x else -2147483648, H) := by
  unfold F_Math_max2
  by_cases q : (-2147483648 : Int64) < x
  · rw [if_pos (lg_lt.mpr q), if_pos q]
  · rw [if_neg (fun z => q (lg_lt.mp z)), if_neg q]
theorem ev_clamp {N h : Nat} {H : Hp} {x : Int64} {c : Int32} (hG : Gr H) (h6 : H.D 117 6 = nI h) (hh : h < 160) : B_Row_fixes_182 N 117 c x H = some ((), psA H h (clp x)) := by
  unfold B_Row_fixes_182
  rw [bC_t ev_min2, bC_t ev_max2, ck_t (rS_117 hG), bC_t (ev_vpush hG h6 hh)]
  rfl
theorem ev_held2 {N : Nat} {H : Hp} {x : Int64} : F_M_held N (2 : Int32) x H = some (clp x, H) := by
  have e1 : (-2147483648 : Int64).toInt = -2147483648 := rfl
  have e2 : (2147483647 : Int64).toInt = 2147483647 := rfl
  unfold F_M_held clp clm
  rw [if_neg (by decide), if_pos rfl]
  by_cases q1 : x < (-2147483648 : Int64)
  · have q2 : x < 2147483647 := by rw [Int64.lt_iff_toInt_lt] at q1 ⊢; omega
    have q3 : ¬ (-2147483648 : Int64) < x := by rw [Int64.lt_iff_toInt_lt] at q1 ⊢; omega
    rw [if_neg (fun z => lg_ge.mp z q1), if_pos q2, if_neg q3]
  · rw [if_pos (lg_ge.mpr q1)]
    by_cases q2 : (2147483647 : Int64) < x
    · have q3 : ¬ x < 2147483647 := by rw [Int64.lt_iff_toInt_lt] at q2 ⊢; omega
      rw [if_neg (fun z => lg_le.mp z q2), if_neg q3, if_pos (by decide)]
    · rw [if_pos (lg_le.mpr q2)]
      by_cases q3 : x < 2147483647
      · rw [if_pos q3]
        by_cases q4 : (-2147483648 : Int64) < x
        · rw [if_pos q4]
        · have : x = -2147483648 := by
            rw [Int64.lt_iff_toInt_lt] at q1 q4
            exact Int64.toInt_inj.mp (by omega)
          rw [if_neg q4, this]
      · have : x = 2147483647 := by
          rw [Int64.lt_iff_toInt_lt] at q2 q3
          exact Int64.toInt_inj.mp (by omega)
        rw [if_neg q3, if_pos (by decide), this]
theorem ev_held0 {N : Nat} {H : Hp} {x : Int64} : F_M_held N (0 : Int32) x H = some (x.toInt32, H) := by
  unfold F_M_held
  rw [if_neg (by decide), if_neg (by decide)]
theorem t64 (a : Int32) : a.toInt64.toInt = a.toInt := Int32.toInt_toInt64 a
theorem b32 (a : Int32) : -2147483648 ≤ a.toInt ∧ a.toInt ≤ 2147483647 := by
  have h1 := Int32.le_toInt a
  have h2 := Int32.toInt_le a
  exact ⟨h1, h2⟩
theorem m32 (a b : Int32) : -4611686018427387904 ≤ a.toInt * b.toInt ∧ a.toInt * b.toInt ≤ 4611686018427387904 := by
  have h1 := b32 a
  have h2 := b32 b
  have h3 : (a.toInt * b.toInt).natAbs ≤ 2147483648 * 2147483648 := by
    rw [Int.natAbs_mul]
    exact Nat.mul_le_mul (by omega) (by omega)
  omega
theorem mu64 (a b : Int32) : (a.toInt64 * b.toInt64).toInt = a.toInt * b.toInt := by
  have := m32 a b
  rw [Int64.toInt_mul, t64, t64, bmq (by omega) (by omega)]
theorem ev_times2 {N : Nat} {H : Hp} {a b : Int32} : ∃ v : Int64, v.toInt = rhe (a.toInt * b.toInt) 65536 ∧ F_MRunner_times N (2 : Int32) a b H = some (clp v, H) := by
  have hm := m32 a b
  have e := mu64 a b
  unfold F_MRunner_times B_MRunner_times_54 B_MRunner_times_61 B_MRunner_times_63
  rw [bnd_t, if_neg (by decide), bnd_t, bnd_t]
  generalize a.toInt64 * b.toInt64 = z at e
  rw [← e] at hm ⊢
  have l := lo64 z
  have g := hi64 z
  generalize (z >>> (((16 : Int32) : Int32).toInt64 &&& 63)) = y at g
  have gp : (y + 1).toInt = z.toInt / 65536 + 1 := by
    rw [Int64.toInt_add, g]
    exact bmq (by show _ ≤ _ + (1 : Int); omega) (by show _ + (1 : Int) < _; omega)
  have c1 : (0 < lg_cmp (z &&& 65535) 32768) ↔ (65536 : Int) < 2 * (z.toInt % 65536) := by
    rw [lg_pos, Int64.lt_iff_toInt_lt, l]
    show (32768 : Int) < _ ↔ _
    omega
  have c2 : (lg_cmp (z &&& 65535) 32768 = 0) ↔ 2 * (z.toInt % 65536) = 65536 := by
    rw [lgz, ← Int64.toInt_inj, l]
    show _ = (32768 : Int) ↔ _
    omega
  have c3 : (lg_cmp (y &&& 1) 1 = 0) ↔ z.toInt / 65536 % 2 = 1 := by
    rw [lgz, od64, g]
  unfold rhe
  by_cases k1 : (65536 : Int) < 2 * (z.toInt % 65536)
  · rw [if_pos (c1.mpr k1), if_pos (show (65536 : Int) < 2 * (z.toInt % 65536) ∨ 2 * (z.toInt % 65536) = 65536 ∧ z.toInt / 65536 % 2 = 1 from .inl k1)]
    exact ⟨_, gp, by rw [bC_t ev_held2]⟩
  · rw [if_neg (fun z => k1 (c1.mp z))]
    by_cases k2 : 2 * (z.toInt % 65536) = 65536
    · rw [if_pos (c2.mpr k2)]
      by_cases k3 : z.toInt / 65536 % 2 = 1
      · rw [if_pos (c3.mpr k3), if_pos (show (65536 : Int) < 2 * (z.toInt % 65536) ∨ 2 * (z.toInt % 65536) = 65536 ∧ z.toInt / 65536 % 2 = 1 from .inr ⟨k2, k3⟩)]
        exact ⟨_, gp, by rw [bC_t ev_held2]⟩
      · rw [if_neg (fun z => k3 (c3.mp z)), if_neg (show ¬ ((65536 : Int) < 2 * (z.toInt % 65536) ∨ 2 * (z.toInt % 65536) = 65536 ∧ z.toInt / 65536 % 2 = 1) by omega)]
        exact ⟨_, g, by rw [bC_t ev_held2]⟩
    · rw [if_neg (fun z => k2 (c2.mp z)), if_neg (show ¬ ((65536 : Int) < 2 * (z.toInt % 65536) ∨ 2 * (z.toInt % 65536) = 65536 ∧ z.toInt / 65536 % 2 = 1) by omega)]
      exact ⟨_, g, by rw [bC_t ev_held2]⟩
theorem rhe_neg {m d : Int} (hd : 0 < d) : rhe (-m) d = -rhe m d := by
  have h1 := Int.mul_ediv_add_emod m d
  have h2 := Int.emod_nonneg m (show d ≠ 0 by omega)
  have h3 := Int.emod_lt_of_pos m hd
  have key : (m % d = 0 → (-m) / d = -(m / d) ∧ (-m) % d = 0) ∧ (¬ m % d = 0 → (-m) / d = -(m / d) - 1 ∧ (-m) % d = d - m % d) := by
    generalize m / d = q at *
    generalize m % d = r at *
    have m2 : d * (-q) = -(d * q) := by rw [Int.mul_neg]
    have m3 : d * (-q - 1) = -(d * q) - d := by rw [Int.mul_sub, m2, Int.mul_one]
    exact ⟨fun z => (Int.ediv_emod_unique hd).mpr ⟨by rw [m2]; omega, by omega, hd⟩, fun z => (Int.ediv_emod_unique hd).mpr ⟨by rw [m3]; omega, by omega, by omega⟩⟩
  unfold rhe
  by_cases z : m % d = 0
  · obtain ⟨k1, k2⟩ := key.1 z
    rw [k1, k2, if_neg (by omega), if_neg (by omega)]
  · obtain ⟨k1, k2⟩ := key.2 z
    rw [k1, k2]
    by_cases y : d < 2 * (m % d) ∨ (2 * (m % d) = d ∧ m / d % 2 = 1)
    · rw [if_pos y, if_neg (by omega)]
      omega
    · rw [if_neg y, if_pos (by omega)]
      omega
