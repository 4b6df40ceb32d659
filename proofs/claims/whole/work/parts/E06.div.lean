/-! ===== FIX: divided, root ===== -/
theorem shl16 {x : Int64} (h1 : 0 ≤ x.toInt) (h2 : x.toInt ≤ 2147483648) : (x <<< (((16 : Int32) : Int32).toInt64 &&& 63)).toInt = x.toInt * 65536 := by
  have e : (x <<< (((16 : Int32) : Int32).toInt64 &&& 63)).toBitVec = x.toBitVec <<< (16 : Nat) := rfl
  have t : x.toInt = x.toBitVec.toInt := rfl
  have t2 : (x <<< (((16 : Int32) : Int32).toInt64 &&& 63)).toInt = (x <<< (((16 : Int32) : Int32).toInt64 &&& 63)).toBitVec.toInt := rfl
  have hl := x.toBitVec.isLt
  rw [t2, e, BitVec.toInt_eq_toNat_bmod, BitVec.toNat_shiftLeft, Nat.shiftLeft_eq, Int.bmod_def]
  rw [t, BitVec.toInt_eq_toNat_bmod, Int.bmod_def] at h1 h2 ⊢
  omega
/-- the reference's quotient of a FIX -/
theorem ev_div66 {N p0 : Nat} {H : Hp} {i a b : Int32} {w : Int64} (hb : ¬ b = 0) (hw : w.toInt = a.toInt.natAbs) : ∃ v : Int64, v.toInt = rhe (if b.toInt < 0 then -(a.toInt * 65536) else a.toInt * 65536) b.toInt.natAbs ∧ B_MRunner_divided_66 N p0 i a b w H = some (clp v, H) := by
  have ha := b32 a
  have hbb := b32 b
  have hb0 : b.toInt ≠ 0 := fun z => hb (Int32.toInt_inj.mp z)
  have e0 : (0 : Int64).toInt = 0 := rfl
  have sh := shl16 (x := w) (by omega) (by omega)
  have hd : ∃ d : Int64, d.toInt = b.toInt.natAbs ∧ ∀ x, (if (0 : Int32) ≤ lg_cmp b.toInt64 (0 : Int64) then B_MRunner_divided_86 N p0 i a b x b.toInt64 H else B_MRunner_divided_86 N p0 i a b x (-b.toInt64) H) = B_MRunner_divided_86 N p0 i a b x d H := by
    by_cases q : b.toInt64 < 0
    · have q' := q
      rw [Int64.lt_iff_toInt_lt, e0, t64] at q'
      refine ⟨-b.toInt64, ?_, fun x => if_neg (fun z => lg_ge.mp z q)⟩
      rw [Int64.toInt_neg, t64, bmq (by omega) (by omega)]
      omega
    · have q' := q
      rw [Int64.lt_iff_toInt_lt, e0, t64] at q'
      exact ⟨b.toInt64, by rw [t64]; omega, fun x => if_pos (lg_ge.mpr q)⟩
  obtain ⟨d, hdi, ed⟩ := hd
  unfold B_MRunner_divided_66
  rw [bnd_t, ed]
  generalize w <<< (((16 : Int32) : Int32).toInt64 &&& 63) = z at sh
  rw [hw] at sh
  have dz : ¬ d = 0 := fun y => by rw [y, e0] at hdi; omega
  have dp' : (0 : Int) < b.toInt.natAbs := by omega
  have zq : (z / d).toInt = z.toInt / b.toInt.natAbs := by
    rw [dv64 (by omega) (by omega), hdi, Int.tdiv_eq_ediv_of_nonneg (by omega)]
  have m1 := Int.mul_ediv_add_emod z.toInt b.toInt.natAbs
  have m2 := Int.emod_nonneg z.toInt (show (b.toInt.natAbs : Int) ≠ 0 by omega)
  have m3 := Int.emod_lt_of_pos z.toInt dp'
  have q1 : 0 ≤ z.toInt / b.toInt.natAbs := Int.ediv_nonneg (by omega) (by omega)
  have q2 : z.toInt / b.toInt.natAbs ≤ z.toInt := Int.ediv_le_self _ (by omega)
  have zm : (z / d * d).toInt = b.toInt.natAbs * (z.toInt / b.toInt.natAbs) := by
    rw [Int64.toInt_mul, zq, hdi, Int.mul_comm]
    exact bmq (by omega) (by omega)
  have zr : (z - z / d * d).toInt = z.toInt % b.toInt.natAbs := by
    rw [Int64.toInt_sub, zm, show z.toInt - b.toInt.natAbs * (z.toInt / b.toInt.natAbs) = z.toInt % b.toInt.natAbs by omega]
    exact bmq (by omega) (by omega)
  have z2 : ((2 : Int64) * (z - z / d * d)).toInt = 2 * (z.toInt % b.toInt.natAbs) := by
    rw [Int64.toInt_mul, zr]
    exact bmq (by show _ ≤ (2 : Int) * _; omega) (by show (2 : Int) * _ < _; omega)
  have c1 : (0 < lg_cmp ((2 : Int64) * (z - z / d * d)) d) ↔ (b.toInt.natAbs : Int) < 2 * (z.toInt % b.toInt.natAbs) := by
    rw [lg_pos, Int64.lt_iff_toInt_lt, z2, hdi]
  have c2 : (lg_cmp ((2 : Int64) * (z - z / d * d)) d = 0) ↔ 2 * (z.toInt % b.toInt.natAbs) = b.toInt.natAbs := by
    rw [lgz, ← Int64.toInt_inj, z2, hdi]
  have c3 : (lg_cmp (z / d &&& 1) 1 = 0) ↔ z.toInt / b.toInt.natAbs % 2 = 1 := by
    rw [lgz, od64, zq]
  have zp : (z / d + 1).toInt = z.toInt / b.toInt.natAbs + 1 := by
    rw [Int64.toInt_add, zq]
    exact bmq (by show _ ≤ _ + (1 : Int); omega) (by show _ + (1 : Int) < _; omega)
  have z0 : (z / d + 0).toInt = z.toInt / b.toInt.natAbs := by
    rw [Int64.toInt_add, zq]
    show (_ + (0 : Int)).bmod _ = _
    rw [Int.add_zero, bmq (by omega) (by omega)]
  -- the magnitude
  have mag : ∃ y : Int64, y.toInt = rhe z.toInt b.toInt.natAbs ∧ -140737488355329 ≤ -y.toInt ∧ -y.toInt ≤ 0 ∧ B_MRunner_divided_86 N p0 i a b z d H = (if (0 : Int32) ≤ a then B_MRunner_divided_154 N p0 i a b y 2 0 H else B_MRunner_divided_154 N p0 i a b y 2 1 H) := by
    unfold B_MRunner_divided_86 B_MRunner_divided_136 B_MRunner_divided_140 B_MRunner_divided_141
    rw [ck_t dz, bnd_t]
    unfold rhe
    by_cases k1 : (b.toInt.natAbs : Int) < 2 * (z.toInt % b.toInt.natAbs)
    · rw [if_pos (c1.mpr k1), if_pos (show (b.toInt.natAbs : Int) < 2 * (z.toInt % b.toInt.natAbs) ∨ 2 * (z.toInt % b.toInt.natAbs) = b.toInt.natAbs ∧ z.toInt / b.toInt.natAbs % 2 = 1 from .inl k1)]
      exact ⟨_, zp, by omega, by omega, rfl⟩
    · rw [if_neg (fun z => k1 (c1.mp z))]
      by_cases k2 : 2 * (z.toInt % b.toInt.natAbs) = b.toInt.natAbs
      · rw [if_pos (c2.mpr k2)]
        by_cases k3 : z.toInt / b.toInt.natAbs % 2 = 1
        · rw [if_pos (c3.mpr k3), if_pos (show (b.toInt.natAbs : Int) < 2 * (z.toInt % b.toInt.natAbs) ∨ 2 * (z.toInt % b.toInt.natAbs) = b.toInt.natAbs ∧ z.toInt / b.toInt.natAbs % 2 = 1 from .inr ⟨k2, k3⟩)]
          exact ⟨_, zp, by omega, by omega, rfl⟩
        · rw [if_neg (fun z => k3 (c3.mp z)), if_neg (show ¬ ((b.toInt.natAbs : Int) < 2 * (z.toInt % b.toInt.natAbs) ∨ 2 * (z.toInt % b.toInt.natAbs) = b.toInt.natAbs ∧ z.toInt / b.toInt.natAbs % 2 = 1) from fun y => y.elim (fun y => k1 y) (fun y => k3 y.2))]
          exact ⟨_, z0, by omega, by omega, rfl⟩
      · rw [if_neg (fun z => k2 (c2.mp z)), if_neg (show ¬ ((b.toInt.natAbs : Int) < 2 * (z.toInt % b.toInt.natAbs) ∨ 2 * (z.toInt % b.toInt.natAbs) = b.toInt.natAbs ∧ z.toInt / b.toInt.natAbs % 2 = 1) from fun y => y.elim (fun y => k1 y) (fun y => k2 y.1))]
        exact ⟨_, z0, by omega, by omega, rfl⟩
  obtain ⟨y, hy, hy1, hy2, em⟩ := mag
  have yn : (-y).toInt = -y.toInt := by
    rw [Int64.toInt_neg]
    exact bmq (by omega) (by omega)
  have i0 : (0 : Int32).toInt = 0 := rfl
  rw [em]
  unfold B_MRunner_divided_154 B_MRunner_divided_163 B_MRunner_divided_174
  by_cases qa : (0 : Int32) ≤ a
  · rw [if_pos qa]
    rw [Int32.le_iff_toInt_le, i0] at qa
    by_cases qb : (0 : Int32) ≤ b
    · rw [if_pos qb, if_pos rfl]
      rw [Int32.le_iff_toInt_le, i0] at qb
      exact ⟨y, by rw [hy, if_neg (by omega), sh]; congr 1; omega, by rw [bC_t ev_held2]⟩
    · rw [if_neg qb, if_neg (show ¬ (0 : Int32) = 1 by decide)]
      rw [Int32.le_iff_toInt_le, i0] at qb
      exact ⟨-y, by rw [yn, hy, if_pos (by omega), ← rhe_neg dp', sh]; congr 1; omega, by rw [bC_t ev_held2]⟩
  · rw [if_neg qa]
    rw [Int32.le_iff_toInt_le, i0] at qa
    by_cases qb : (0 : Int32) ≤ b
    · rw [if_pos qb, if_neg (show ¬ (1 : Int32) = 0 by decide)]
      rw [Int32.le_iff_toInt_le, i0] at qb
      exact ⟨-y, by rw [yn, hy, if_neg (by omega), ← rhe_neg dp', sh]; congr 1; omega, by rw [bC_t ev_held2]⟩
    · rw [if_neg qb, if_pos rfl]
      rw [Int32.le_iff_toInt_le, i0] at qb
      exact ⟨y, by rw [hy, if_pos (by omega), sh]; congr 1; omega, by rw [bC_t ev_held2]⟩
