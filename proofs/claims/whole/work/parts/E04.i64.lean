/-! ===== numbers of 64 bits as integers; rounding half to even ===== -/
theorem lgz {a b : Int64} : lg_cmp a b = 0 ↔ a = b := by
  constructor
  · intro h
    have h1 : ¬ a < b := fun z => by have := lg_lt.mpr z; rw [h] at this; exact absurd this (by decide)
    have h2 : ¬ b < a := fun z => by have := lg_pos.mpr z; rw [h] at this; exact absurd this (by decide)
    rw [Int64.lt_iff_toInt_lt] at h1 h2
    exact Int64.toInt_inj.mp (by omega)
  · rintro rfl
    have h1 := (not_congr (lg_lt (a := a) (b := a))).mpr (by rw [Int64.lt_iff_toInt_lt]; omega)
    have h2 := (not_congr (lg_pos (a := a) (b := a))).mpr (by rw [Int64.lt_iff_toInt_lt]; omega)
    generalize lg_cmp a a = x at h1 h2
    rw [Int32.lt_iff_toInt_lt] at h1 h2
    have e0 : (0 : Int32).toInt = 0 := rfl
    exact Int32.toInt_inj.mp (by rw [e0] at h1 h2; rw [e0]; omega)
def rhe (n d : Int) : Int := if d < 2 * (n % d) ∨ (2 * (n % d) = d ∧ n / d % 2 = 1) then n / d + 1 else n / d
theorem ii {n : Int} (h1 : -9223372036854775808 ≤ n) (h2 : n < 9223372036854775808) : (Int64.ofInt n).toInt = n := Int64.toInt_ofInt_of_le h1 h2
theorem bmq {n : Int} (h1 : -9223372036854775808 ≤ n) (h2 : n < 9223372036854775808) : Int.bmod n (2 ^ 64) = n := by
  rw [Int.bmod_def]
  omega
theorem od64 (x : Int64) : (x &&& 1 = 1) ↔ x.toInt % 2 = 1 := by
  have e : (x &&& 1).toBitVec = BitVec.ofNat 64 (x.toBitVec.toNat % 2) := by
    apply BitVec.eq_of_toNat_eq
    rw [Int64.toBitVec_and, BitVec.toNat_and]
    show x.toBitVec.toNat &&& (2 ^ 1 - 1) = _
    rw [Nat.and_two_pow_sub_one_eq_mod, BitVec.toNat_ofNat]
    omega
  have t : x.toInt = x.toBitVec.toInt := rfl
  rw [t, BitVec.toInt_eq_toNat_bmod, Int.bmod_def, ← Int64.toBitVec_inj, e]
  show BitVec.ofNat 64 (x.toBitVec.toNat % 2) = BitVec.ofNat 64 1 ↔ _
  rw [← BitVec.toNat_inj, BitVec.toNat_ofNat, BitVec.toNat_ofNat]
  omega
theorem lo64 (x : Int64) : (x &&& 65535).toInt = x.toInt % 65536 := by
  have e : (x &&& 65535).toBitVec = BitVec.ofNat 64 (x.toBitVec.toNat % 65536) := by
    apply BitVec.eq_of_toNat_eq
    rw [Int64.toBitVec_and, BitVec.toNat_and]
    show x.toBitVec.toNat &&& (2 ^ 16 - 1) = _
    rw [Nat.and_two_pow_sub_one_eq_mod, BitVec.toNat_ofNat]
    omega
  have t : x.toInt = x.toBitVec.toInt := rfl
  have t2 : (x &&& 65535).toInt = (x &&& 65535).toBitVec.toInt := rfl
  rw [t, t2, e, BitVec.toInt_eq_toNat_bmod, BitVec.toInt_eq_toNat_bmod, Int.bmod_def, Int.bmod_def, BitVec.toNat_ofNat]
  omega
theorem hi64 (x : Int64) : (x >>> (((16 : Int32) : Int32).toInt64 &&& 63)).toInt = x.toInt / 65536 := by
  have e : (x >>> (((16 : Int32) : Int32).toInt64 &&& 63)).toBitVec = x.toBitVec.sshiftRight 16 := rfl
  have t2 : (x >>> (((16 : Int32) : Int32).toInt64 &&& 63)).toInt = (x >>> (((16 : Int32) : Int32).toInt64 &&& 63)).toBitVec.toInt := rfl
  rw [t2, e, BitVec.toInt_sshiftRight, Int.shiftRight_eq_div_pow]
  rfl
theorem xr64 {a b : Int64} (hb : 0 ≤ b.toInt) : (a ^^^ b < 0) ↔ a.toInt < 0 := by
  rw [Int64.lt_iff_toInt_lt]
  show (a ^^^ b).toBitVec.toInt < 0 ↔ a.toBitVec.toInt < 0
  have hb' : b.toBitVec.msb = false := by
    rw [BitVec.msb_eq_toInt]
    exact decide_eq_false (by show ¬ b.toBitVec.toInt < 0; have : b.toBitVec.toInt = b.toInt := rfl; omega)
  have h1 := BitVec.msb_eq_toInt (x := (a ^^^ b).toBitVec)
  have h2 := BitVec.msb_eq_toInt (x := a.toBitVec)
  rw [Int64.toBitVec_xor, BitVec.msb_xor, hb', Bool.xor_false] at h1
  rw [Int64.toBitVec_xor]
  rw [h1] at h2
  exact decide_eq_decide.mp h2
/-- floorDiv -/
theorem dv64 {a b : Int64} (ha1 : -4611686018427387904 ≤ a.toInt) (ha2 : a.toInt ≤ 4611686018427387904) : (a / b).toInt = a.toInt.tdiv b.toInt := by
  rw [Int64.toInt_div]
  have h := Int.natAbs_tdiv_le_natAbs a.toInt b.toInt
  exact bmq (by omega) (by omega)
theorem td_neg {n d : Int} (hn : n < 0) (hd : 0 < d) : (n.tdiv d * d = n → n / d = n.tdiv d) ∧ (¬ n.tdiv d * d = n → n / d = n.tdiv d - 1) := by
  have e : n.tdiv d = -((-n) / d) := by
    rw [show n = -(-n) by omega, Int.neg_tdiv, Int.tdiv_eq_ediv_of_nonneg (by omega), Int.neg_neg]
  have h1 := Int.mul_ediv_add_emod (-n) d
  have h2 := Int.emod_nonneg (-n) (show d ≠ 0 by omega)
  have h3 := Int.emod_lt_of_pos (-n) hd
  rw [e]
  generalize (-n) / d = q at *
  generalize (-n) % d = r at *
  have m1 : -q * d = -(d * q) := by rw [Int.neg_mul, Int.mul_comm]
  have m2 : d * (-q) = -(d * q) := by rw [Int.mul_neg]
  have m3 : d * (-q - 1) = -(d * q) - d := by rw [Int.mul_sub, m2, Int.mul_one]
  constructor
  · intro z
    rw [m1] at z
    exact ((Int.ediv_emod_unique hd (a := n) (r := 0) (q := -q)).mpr ⟨by rw [m2]; omega, by omega, hd⟩).1
  · intro z
    rw [m1] at z
    exact ((Int.ediv_emod_unique hd (a := n) (r := d - r) (q := -q - 1)).mpr ⟨by rw [m3]; omega, by omega, by omega⟩).1
theorem ev_fdiv {N : Nat} {H : Hp} {a b : Int64} (ha1 : -4611686018427387904 ≤ a.toInt) (ha2 : a.toInt ≤ 4611686018427387904) (hb : 0 < b.toInt) : ∃ v : Int64, v.toInt = a.toInt / b.toInt ∧ F_Math_floorDiv N a b H = some (v, H) := by
  have hz : ¬ b = 0 := fun z => by rw [z] at hb; exact absurd hb (by decide)
  have e := dv64 (b := b) ha1 ha2
  have hx := xr64 (a := a) (b := b) (by omega)
  have hab := Int.natAbs_tdiv_le_natAbs a.toInt b.toInt
  unfold F_Math_floorDiv
  rw [ck_t hz]
  by_cases q : a.toInt < 0
  · rw [if_neg (fun z => (lg_ge.mp z) (hx.mpr q))]
    obtain ⟨t1, t2⟩ := td_neg q hb
    have hm : (a / b * b).toInt = a.toInt.tdiv b.toInt * b.toInt := by
      rw [Int64.toInt_mul, e]
      have h5 := Int.natAbs_mul (a.toInt.tdiv b.toInt) b.toInt
      have h6 : (a.toInt.tdiv b.toInt * b.toInt).natAbs ≤ a.toInt.natAbs := by
        rw [h5, Int.natAbs_tdiv]
        exact Nat.div_mul_le_self _ _
      exact bmq (by omega) (by omega)
    by_cases z : a / b * b = a
    · rw [if_pos (lgz.mpr z)]
      refine ⟨_, ?_, rfl⟩
      rw [e, t1 (by rw [← hm, z])]
    · rw [if_neg (fun y => z (lgz.mp y))]
      refine ⟨_, ?_, rfl⟩
      rw [t2 (fun y => z (Int64.toInt_inj.mp (by rw [hm, y]))), Int64.toInt_sub, e]
      exact bmq (by show _ ≤ _ - (1 : Int); omega) (by show _ - (1 : Int) < _; omega)
  · rw [if_pos (lg_ge.mpr (fun z => q (hx.mp z)))]
    exact ⟨_, by rw [e, Int.tdiv_eq_ediv_of_nonneg (by omega)], rfl⟩
/-- class: rounded -/
theorem ev_rnd20 {N : Nat} {H : Hp} {x y w : Int64} (ha1 : -4611686018427387904 ≤ w.toInt) (ha2 : w.toInt ≤ 4611686018427387904) (hb : y.toInt ≠ 0) (hb1 : -2147483648 ≤ y.toInt) (hb2 : y.toInt ≤ 2147483648) : ∃ v : Int64, v.toInt = rhe w.toInt y.toInt.natAbs ∧ B_Row_rounded_20 N x y w H = some (v, H) := by
  have hab : ∃ b : Int64, b.toInt = y.toInt.natAbs ∧ F_Math_abs N y H = some (b, H) := by
    unfold F_Math_abs
    by_cases q : y < 0
    · rw [if_neg (fun z => (lg_ge.mp z) q)]
      rw [Int64.lt_iff_toInt_lt] at q
      have e0 : (0 : Int64).toInt = 0 := rfl
      rw [e0] at q
      refine ⟨_, ?_, rfl⟩
      rw [Int64.toInt_neg, bmq (by omega) (by omega)]
      omega
    · rw [if_pos (lg_ge.mpr q)]
      rw [Int64.lt_iff_toInt_lt] at q
      have e0 : (0 : Int64).toInt = 0 := rfl
      rw [e0] at q
      exact ⟨_, by omega, rfl⟩
  obtain ⟨b, hbi, eb⟩ := hab
  obtain ⟨v, hv, ev⟩ := ev_fdiv (N := N) (H := H) (a := w) (b := b) ha1 ha2 (by omega)
  rw [hbi] at hv
  have bp : (0 : Int) < y.toInt.natAbs := by omega
  have bl : (y.toInt.natAbs : Int) ≤ 2147483648 := by omega
  unfold B_Row_rounded_20 B_Row_rounded_76 B_Row_rounded_80 B_Row_rounded_81
  rw [bC_t eb, bC_t ev, bnd_t]
  generalize (y.toInt.natAbs : Int) = d at *
  have m1 := Int.mul_ediv_add_emod w.toInt d
  have m2 := Int.emod_nonneg w.toInt (show d ≠ 0 by omega)
  have m3 := Int.emod_lt_of_pos w.toInt bp
  have qb : -4611686018427387904 ≤ w.toInt / d ∧ w.toInt / d ≤ 4611686018427387904 := by
    constructor
    · exact Int.le_ediv_of_mul_le bp (by
        have : -4611686018427387904 * d ≤ -4611686018427387904 * 1 := by omega
        omega)
    · exact Int.ediv_le_of_le_mul bp (by omega)
  have em : (v * b).toInt = d * (w.toInt / d) := by
    rw [Int64.toInt_mul, hv, hbi, Int.mul_comm]
    exact bmq (by omega) (by omega)
  have es : (w - v * b).toInt = w.toInt % d := by
    rw [Int64.toInt_sub, em, show w.toInt - d * (w.toInt / d) = w.toInt % d by omega]
    exact bmq (by omega) (by omega)
  have e2 : ((2 : Int64) * (w - v * b)).toInt = 2 * (w.toInt % d) := by
    rw [Int64.toInt_mul, es]
    exact bmq (by show _ ≤ (2 : Int) * _; omega) (by show (2 : Int) * _ < _; omega)
  have c1 : (0 < lg_cmp ((2 : Int64) * (w - v * b)) b) ↔ d < 2 * (w.toInt % d) := by
    rw [lg_pos, Int64.lt_iff_toInt_lt, e2, hbi]
  have c2 : (lg_cmp ((2 : Int64) * (w - v * b)) b = 0) ↔ 2 * (w.toInt % d) = d := by
    rw [lgz, ← Int64.toInt_inj, e2, hbi]
  have c3 : (lg_cmp (v &&& 1) 1 = 0) ↔ w.toInt / d % 2 = 1 := by
    rw [lgz, od64, hv]
  have vp : (v + 1).toInt = w.toInt / d + 1 := by
    rw [Int64.toInt_add, hv]
    exact bmq (by show _ ≤ _ + (1 : Int); omega) (by show _ + (1 : Int) < _; omega)
  unfold rhe
  by_cases k1 : d < 2 * (w.toInt % d)
  · rw [if_pos (c1.mpr k1), if_neg (show ¬ (1 : Int32) = 0 by decide), if_pos (show (d < 2 * (w.toInt % d) ∨ 2 * (w.toInt % d) = d ∧ w.toInt / d % 2 = 1) from .inl k1)]
    exact ⟨_, vp, rfl⟩
  · rw [if_neg (fun z => k1 (c1.mp z))]
    by_cases k2 : 2 * (w.toInt % d) = d
    · rw [if_pos (c2.mpr k2)]
      by_cases k3 : w.toInt / d % 2 = 1
      · rw [if_pos (c3.mpr k3), if_neg (show ¬ (1 : Int32) = 0 by decide), if_pos (show (d < 2 * (w.toInt % d) ∨ 2 * (w.toInt % d) = d ∧ w.toInt / d % 2 = 1) from .inr ⟨k2, k3⟩)]
        exact ⟨_, vp, rfl⟩
      · rw [if_neg (fun z => k3 (c3.mp z)), if_pos (show (0 : Int32) = 0 from rfl), if_neg (show ¬ (d < 2 * (w.toInt % d) ∨ 2 * (w.toInt % d) = d ∧ w.toInt / d % 2 = 1) by omega)]
        exact ⟨_, hv, rfl⟩
    · rw [if_neg (fun z => k2 (c2.mp z)), if_pos (show (0 : Int32) = 0 from rfl), if_neg (show ¬ (d < 2 * (w.toInt % d) ∨ 2 * (w.toInt % d) = d ∧ w.toInt / d % 2 = 1) by omega)]
      exact ⟨_, hv, rfl⟩
