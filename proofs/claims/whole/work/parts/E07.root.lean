/-! ===== FIX: root ===== -/
theorem p2_a : ∀ k : Fin 24, (1 : Int64) <<< ((nI k.val).toInt64 &&& 63) = lN (2 ^ k.val) ∧ (lN (2 ^ (k.val + 1))) >>> (((1 : Int32) : Int32).toInt64 &&& 63) = lN (2 ^ k.val) ∧ ¬ nI k.val < 0 ∧ ¬ lg_cmp (lN (2 ^ (k.val + 1))) 0 ≤ 0 ∧ ¬ lg_cmp (lN (2 ^ k.val)) 0 ≤ 0 ∧ (lN (2 ^ k.val)).toInt = 2 ^ k.val := by decide
/-- the class's loop ends, whatever is sought -/
theorem ev_rootC {N : Nat} {z : Int64} {H : Hp} : ∀ k, k < 24 → ∀ (n : Nat) (acc : Int64), k + 1 < n → ∃ v, B_Row_rootOf_6 N z n acc (nI k) H = some (v, H) := by
  intro k
  induction k with
  | zero =>
    intro hk n acc hn
    obtain ⟨n, rfl⟩ : ∃ m, n = m + 1 + 1 := ⟨n - 2, by omega⟩
    obtain ⟨a1, a2, a3, a4, a5⟩ := p2_a ⟨0, hk⟩
    rw [B_Row_rootOf_6, if_neg a3, bnd_t]
    have fin : ∀ x, B_Row_rootOf_32 N z (fun l2 l4 H => B_Row_rootOf_6 N z (n + 1) l2 l4 H) x (nI 0) H = some (x, H) := fun x => by
      unfold B_Row_rootOf_32
      show B_Row_rootOf_6 N z (n + 1) x (nI 0 + (-1)) H = _
      rw [B_Row_rootOf_6, if_pos (by decide)]
    rw [fin, fin]
    split
    · exact ⟨_, rfl⟩
    · exact ⟨_, rfl⟩
  | succ k ih =>
    intro hk n acc hn
    obtain ⟨n, rfl⟩ : ∃ m, n = m + 1 := ⟨n - 1, by omega⟩
    obtain ⟨a1, a2, a3, a4, a5⟩ := p2_a ⟨k + 1, hk⟩
    rw [B_Row_rootOf_6, if_neg a3, bnd_t]
    have fin : ∀ x, B_Row_rootOf_32 N z (fun l2 l4 H => B_Row_rootOf_6 N z n l2 l4 H) x (nI (k + 1)) H = B_Row_rootOf_6 N z n x (nI k) H := fun x => by
      unfold B_Row_rootOf_32
      show B_Row_rootOf_6 N z n x (nI (k + 1) + (-1)) H = _
      rw [show nI (k + 1) + (-1 : Int32) = nI k from by rw [← nI_m (c := k), Int32.sub_eq_add_neg]]
    rw [fin, fin]
    split
    · exact ih (by omega) n _ (by omega)
    · exact ih (by omega) n _ (by omega)
/-- both loops go alike -/
theorem ev_rootJ {N p0 : Nat} {z : Int64} {x : Int32} {H B : Hp} : ∀ k, k < 24 → ∀ (n n2 : Nat) (acc : Int64), k + 1 < n → k + 1 < n2 → 0 ≤ acc.toInt → acc.toInt + 2 ^ (k + 1) ≤ 16777216 → ∃ v : Int64, 0 ≤ v.toInt ∧ v.toInt ≤ 16777216 ∧ B_Row_rootOf_6 N z n acc (nI k) H = some (v, H) ∧ B_MRunner_root_25 N p0 x n2 z acc (lN (2 ^ k)) B = some (v.toInt32, B) := by
  intro k
  induction k with
  | zero =>
    intro hk n n2 acc hn hn2 h1 h2
    obtain ⟨n, rfl⟩ : ∃ m, n = m + 1 + 1 := ⟨n - 2, by omega⟩
    obtain ⟨n2, rfl⟩ : ∃ m, n2 = m + 1 + 1 := ⟨n2 - 2, by omega⟩
    obtain ⟨a1, a2, a3, a4, a5, a6⟩ := p2_a ⟨0, hk⟩
    rw [B_Row_rootOf_6, if_neg a3, bnd_t, a1, B_MRunner_root_25, if_neg a5]
    have fin : ∀ x, B_Row_rootOf_32 N z (fun l2 l4 H => B_Row_rootOf_6 N z (n + 1) l2 l4 H) x (nI 0) H = some (x, H) := fun x => by
      unfold B_Row_rootOf_32
      show B_Row_rootOf_6 N z (n + 1) x (nI 0 + (-1)) H = _
      rw [B_Row_rootOf_6, if_pos (by decide)]
    have fin2 : ∀ y, B_MRunner_root_58 N p0 x (fun l2 l4 l6 H => B_MRunner_root_25 N p0 x (n2 + 1) l2 l4 l6 H) z (lN (2 ^ 0)) y B = some (y.toInt32, B) := fun y => by
      unfold B_MRunner_root_58
      rw [bnd_t, show lN (2 ^ 0) >>> (((1 : Int32) : Int32).toInt64 &&& 63) = 0 by decide]
      show B_MRunner_root_25 N p0 x (n2 + 1) z y 0 B = _
      rw [B_MRunner_root_25, if_pos (by decide)]
    have ha : (acc + lN (2 ^ 0)).toInt = acc.toInt + 1 := by
      rw [Int64.toInt_add, a6]
      exact bmq (by show _ ≤ _ + (1 : Int); omega) (by show _ + (1 : Int) < _; omega)
    rw [fin, fin, fin2, fin2]
    split
    · exact ⟨_, h1, by omega, rfl, rfl⟩
    · exact ⟨_, by rw [ha]; omega, by rw [ha]; omega, rfl, rfl⟩
  | succ k ih =>
    intro hk n n2 acc hn hn2 h1 h2
    obtain ⟨n, rfl⟩ : ∃ m, n = m + 1 := ⟨n - 1, by omega⟩
    obtain ⟨n2, rfl⟩ : ∃ m, n2 = m + 1 := ⟨n2 - 1, by omega⟩
    obtain ⟨a1, a2, a3, a4, a5, a6⟩ := p2_a ⟨k + 1, hk⟩
    obtain ⟨b1, b2, b3, b4, b5, b6⟩ := p2_a ⟨k, by omega⟩
    rw [B_Row_rootOf_6, if_neg a3, bnd_t, a1, B_MRunner_root_25, if_neg a5]
    have fin : ∀ x, B_Row_rootOf_32 N z (fun l2 l4 H => B_Row_rootOf_6 N z n l2 l4 H) x (nI (k + 1)) H = B_Row_rootOf_6 N z n x (nI k) H := fun x => by
      unfold B_Row_rootOf_32
      show B_Row_rootOf_6 N z n x (nI (k + 1) + (-1)) H = _
      rw [show nI (k + 1) + (-1 : Int32) = nI k from by rw [← nI_m (c := k), Int32.sub_eq_add_neg]]
    have fin2 : ∀ y, B_MRunner_root_58 N p0 x (fun l2 l4 l6 H => B_MRunner_root_25 N p0 x n2 l2 l4 l6 H) z (lN (2 ^ (k + 1))) y B = B_MRunner_root_25 N p0 x n2 z y (lN (2 ^ k)) B := fun y => by
      unfold B_MRunner_root_58
      rw [bnd_t, b2]
    have hp : (2 : Int) ^ (k + 1 + 1) = 2 ^ (k + 1) + 2 ^ (k + 1) := by rw [Int.pow_succ 2 (k + 1)]; omega
    have hp0 : (0 : Int) ≤ 2 ^ (k + 1) := Int.le_of_lt (Int.pow_pos (by decide))
    rw [hp] at h2
    have ha : (acc + lN (2 ^ (k + 1))).toInt = acc.toInt + 2 ^ (k + 1) := by
      have a7 : (lN (2 ^ (k + 1))).toInt = 2 ^ (k + 1) := a6
      rw [Int64.toInt_add, a7]
      exact bmq (by omega) (by omega)
    rw [fin, fin, fin2, fin2]
    split
    · exact ih (by omega) n n2 _ (by omega) (by omega) h1 (by omega)
    · exact ih (by omega) n n2 _ (by omega) (by omega) (by rw [ha]; omega) (by rw [ha]; omega)
theorem clp_id {v : Int64} (h1 : -2147483648 ≤ v.toInt) (h2 : v.toInt ≤ 2147483647) : clp v = v.toInt32 := by
  have e1 : (-2147483648 : Int64).toInt = -2147483648 := rfl
  have e2 : (2147483647 : Int64).toInt = 2147483647 := rfl
  have hm : clm v = v := by
    unfold clm
    by_cases q : v < 2147483647
    · rw [if_pos q]
    · rw [if_neg q]
      rw [Int64.lt_iff_toInt_lt] at q
      exact Int64.toInt_inj.mp (by omega)
  unfold clp
  rw [hm]
  by_cases q : (-2147483648 : Int64) < v
  · rw [if_pos q]
  · rw [if_neg q]
    rw [Int64.lt_iff_toInt_lt] at q
    rw [show v = -2147483648 from Int64.toInt_inj.mp (by omega)]
/-- the root of a FIX that is not under 0 -/
theorem ev_root {N p0 : Nat} {x : Int32} {H B : Hp} (hx : (0 : Int32) ≤ x) (hN : 40 ≤ N) : ∃ v : Int64, F_Row_rootOf N (x.toInt64 * (65536 : Int64)) H = some (v, H) ∧ F_MRunner_root N p0 x B = some (clp v, B) := by
  have i0 : (0 : Int32).toInt = 0 := rfl
  have hx' := hx
  rw [Int32.le_iff_toInt_le, i0] at hx'
  have hb := b32 x
  have e65 : (65536 : Int64).toInt = 65536 := rfl
  have ez : (x.toInt64 * (65536 : Int64)).toInt = x.toInt * 65536 := by
    rw [Int64.toInt_mul, t64, e65]
    exact bmq (by omega) (by omega)
  have es : x.toInt64 <<< (((16 : Int32) : Int32).toInt64 &&& 63) = x.toInt64 * (65536 : Int64) := Int64.toInt_inj.mp (by rw [shl16 (by rw [t64]; omega) (by rw [t64]; omega), ez, t64])
  obtain ⟨n, rfl⟩ : ∃ m, N = m + 1 := ⟨N - 1, by omega⟩
  obtain ⟨v, v1, v2, v3, v4⟩ := ev_rootJ (N := n + 1) (p0 := p0) (z := x.toInt64 * (65536 : Int64)) (x := x) (H := H) (B := B) 23 (by decide) (n + 1) n 0 (by omega) (by omega) (by decide) (by decide)
  refine ⟨v, v3, ?_⟩
  unfold F_MRunner_root
  rw [if_pos hx, bnd_t, es, B_MRunner_root_25, if_neg (by decide)]
  have hgt : 0 < lg_cmp (((0 : Int64) + 16777216) * ((0 : Int64) + 16777216)) (x.toInt64 * (65536 : Int64)) := by
    rw [lg_pos, Int64.lt_iff_toInt_lt, ez, show (((0 : Int64) + 16777216) * ((0 : Int64) + 16777216)).toInt = 281474976710656 by decide]
    omega
  rw [if_pos hgt]
  unfold B_MRunner_root_58
  rw [bnd_t, show (16777216 : Int64) >>> (((1 : Int32) : Int32).toInt64 &&& 63) = lN (2 ^ 23) by decide]
  show B_MRunner_root_25 (n + 1) p0 x n (x.toInt64 * (65536 : Int64)) 0 (lN (2 ^ 23)) B = _
  rw [v4, clp_id (by omega) (by omega)]
