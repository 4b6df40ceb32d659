/-! ===== the reference's calls ===== -/
section Par
variable {N w u ir M d : Nat} {ty mn nu : Nat → Int32} {Q : Nat → Nat → Nat}
theorem c_209 {B : Hp} {v : Int32} : F_MRunner_called N 611 209 v B = some (v >>> ((16 : Int32) &&& 31), B) := by
  unfold F_MRunner_called
  rw [if_pos rfl]
theorem c_211 {B : Hp} {v : Int32} : F_MRunner_called N 611 211 v B = some (clp ((65536 : Int64) * v.toInt64), B) := by
  unfold F_MRunner_called
  rw [if_neg (by decide), if_neg (by decide), if_neg (by decide), if_neg (by decide), if_neg (by decide), bC_t ev_held2]
theorem c_238 {B : Hp} {v : Int32} (h : RB B w u ir M ty mn nu) (hP : PPB Q B u) : F_MRunner_called N 611 238 v B = some (if liv Q v then 1 else 0, B) := by
  unfold F_MRunner_called
  rw [if_neg (by decide), if_neg (by decide), if_neg (by decide), if_pos rfl, ck_t (rS_611 h.1), rf_t h.2.2.2.2.1, ck_t (US h.2.2.1), bC_t (ev_malive h.2.2.1 hP)]
  by_cases q : liv Q v
  · rw [if_pos q, if_neg (by decide)]
  · rw [if_neg q, if_pos rfl]
theorem c_239 {B : Hp} {v : Int32} (h : RB B w u ir M ty mn nu) : F_MRunner_called N 611 239 v B = F_MRunner_root N 611 v B := by
  unfold F_MRunner_called
  rw [if_neg (by decide), if_neg (by decide), if_neg (by decide), if_neg (by decide), if_pos rfl, ck_t (rS_611 h.1), bC_eta]
theorem c_239f {B : Hp} {v : Int32} (h : RB B w u ir M ty mn nu) (h10 : B.D 611 10 = 0) (hv : ¬ (0 : Int32) ≤ v) : F_MRunner_root N 611 v B = some (0, B.sD 611 10 2) := by
  unfold F_MRunner_root F_MRunner_fails
  rw [if_neg hv, ck_t (rS_611 h.1), ck_t (rS_611 h.1), bnd_t, h10, if_pos rfl, bnd_t, bC_v]
theorem c_236 {B : Hp} {v : Int32} (h : RB B w u ir M ty mn nu) : F_MRunner_called N 611 236 v B = some (ipt (B.D ir) v, B) := by
  have e0 : (0 : Int64).toInt = 0 := rfl
  have e3 : (3 : Int64).toInt = 3 := rfl
  have i0 : (0 : Int32).toInt = 0 := rfl
  have i4 : (nI 4).toInt = 4 := rfl
  unfold F_MRunner_called F_M_in
  rw [if_neg (by decide), if_pos rfl]
  by_cases q : v < 0
  · have q' : v.toInt64 < 0 := by
      rw [Int64.lt_iff_toInt_lt, t64, e0]
      rw [Int32.lt_iff_toInt_lt, i0] at q
      exact q
    rw [if_pos (lg_lt.mpr q'), bC_v, if_pos rfl]
    unfold ipt
    rw [if_neg (fun z => by rw [z] at q; exact absurd q (by decide)), if_neg (fun z => by rw [z] at q; exact absurd q (by decide)), if_neg (fun z => by rw [z] at q; exact absurd q (by decide)), if_neg (fun z => by rw [z] at q; exact absurd q (by decide))]
  · have q' : ¬ v.toInt64 < 0 := by
      rw [Int64.lt_iff_toInt_lt, t64, e0]
      rw [Int32.lt_iff_toInt_lt, i0] at q
      exact q
    rw [if_neg (fun z => q' (lg_lt.mp z))]
    by_cases q2 : nI 4 ≤ v
    · have q3 : (3 : Int64) < v.toInt64 := by
        rw [Int64.lt_iff_toInt_lt, t64, e3]
        rw [Int32.le_iff_toInt_le, i4] at q2
        omega
      rw [if_pos (lg_pos.mpr q3), bC_v, if_pos rfl]
      unfold ipt
      rw [if_neg (fun z => by rw [z] at q2; exact absurd q2 (by decide)), if_neg (fun z => by rw [z] at q2; exact absurd q2 (by decide)), if_neg (fun z => by rw [z] at q2; exact absurd q2 (by decide)), if_neg (fun z => by rw [z] at q2; exact absurd q2 (by decide))]
    · have q3 : ¬ (3 : Int64) < v.toInt64 := by
        rw [Int64.lt_iff_toInt_lt, t64, e3]
        rw [Int32.le_iff_toInt_le, i4] at q2
        omega
      obtain ⟨k, hk, rfl⟩ := nI_small q q2 (by decide)
      rw [if_neg (fun z => q3 (lg_pos.mp z)), bC_v, if_neg (by decide), ck_t (rS_611 h.1), rf_t h.2.2.2.2.2.1, ar_t h.2.2.2.2.2.2.1, rdI hk (by decide)]
      unfold ipt
      have : k = 0 ∨ k = 1 ∨ k = 2 ∨ k = 3 := by omega
      rcases this with rfl | rfl | rfl | rfl
      · rfl
      · rfl
      · rfl
      · rfl
theorem dr_71 {B : Hp} {v : Int32} {k : Int32 → Int32 → Hp → Option (Int32 × Hp)} {l a b : Int32} : B_MRunner_drawn_71 N 611 v k l a b B = k (stir a b) (l + 1) B := rfl
theorem c_237 {B : Hp} {v dr : Int32} (h : RB B w u ir M ty mn nu) (hN : 5 ≤ N) (h9 : B.D 611 9 = dr) (hv : (1 : Int32) ≤ v) : F_MRunner_called N 611 237 v B = some (drw (B.D u 1) (B.D u 0) (B.D 611 6) (B.D 611 5) dr v, B.sD 611 9 (dr + 1)) := by
  have hz : ¬ v = 0 := fun z => by rw [z] at hv; exact absurd hv (by decide)
  obtain ⟨n, rfl⟩ : ∃ m, N = m + 1 + 1 + 1 + 1 + 1 := ⟨N - 5, by omega⟩
  have s4 : ∀ x, B_MRunner_drawn_23 (n + 1 + 1 + 1 + 1 + 1) 611 v (n + 1) x 4 B = some ((x &&& (2147483647 : Int32)) - (x &&& (2147483647 : Int32)) / v * v, B.sD 611 9 (dr + 1)) := fun x => by
    rw [B_MRunner_drawn_23, if_pos (by decide), ck_t (rS_611 h.1), bnd_t, h9, bnd_t, ck_t hz, bnd_t]
  have s3 : ∀ x, B_MRunner_drawn_23 (n + 1 + 1 + 1 + 1 + 1) 611 v (n + 1 + 1) x 3 B = some ((stir x dr &&& (2147483647 : Int32)) - (stir x dr &&& (2147483647 : Int32)) / v * v, B.sD 611 9 (dr + 1)) := fun x => by
    rw [B_MRunner_drawn_23, if_neg (by decide), if_neg (by decide), if_neg (by decide), if_neg (by decide), ck_t (rS_611 h.1), bnd_t, h9, dr_71]
    exact s4 _
  have s2 : ∀ x, B_MRunner_drawn_23 (n + 1 + 1 + 1 + 1 + 1) 611 v (n + 1 + 1 + 1) x 2 B = some ((stir (stir x (B.D 611 5)) dr &&& (2147483647 : Int32)) - (stir (stir x (B.D 611 5)) dr &&& (2147483647 : Int32)) / v * v, B.sD 611 9 (dr + 1)) := fun x => by
    rw [B_MRunner_drawn_23, if_neg (by decide), if_neg (by decide), if_neg (by decide), if_pos rfl, ck_t (rS_611 h.1), bnd_t, dr_71]
    exact s3 _
  have s1 : ∀ x, B_MRunner_drawn_23 (n + 1 + 1 + 1 + 1 + 1) 611 v (n + 1 + 1 + 1 + 1) x 1 B = some ((stir (stir (stir x (B.D 611 6)) (B.D 611 5)) dr &&& (2147483647 : Int32)) - (stir (stir (stir x (B.D 611 6)) (B.D 611 5)) dr &&& (2147483647 : Int32)) / v * v, B.sD 611 9 (dr + 1)) := fun x => by
    rw [B_MRunner_drawn_23, if_neg (by decide), if_neg (by decide), if_pos rfl, ck_t (rS_611 h.1), bnd_t, dr_71]
    exact s2 _
  unfold F_MRunner_called F_MRunner_drawn drw
  rw [if_neg (by decide), if_neg (by decide), if_pos rfl, ck_t (rS_611 h.1), if_pos hv, ck_t (rS_611 h.1), rf_t h.2.2.2.2.1, ck_t (US h.2.2.1), bnd_t, B_MRunner_drawn_23, if_neg (by decide), if_pos rfl, ck_t (rS_611 h.1), rf_t h.2.2.2.2.1, ck_t (US h.2.2.1), bnd_t, dr_71]
  exact (congrArg (fun r => bC r fun v17 H18 => some (v17, H18)) (s1 _)).trans rfl
theorem c_237f {B : Hp} {v : Int32} (h : RB B w u ir M ty mn nu) (h10 : B.D 611 10 = 0) (hv : ¬ (1 : Int32) ≤ v) : F_MRunner_called N 611 237 v B = some (0, B.sD 611 10 7) := by
  unfold F_MRunner_called F_MRunner_drawn F_MRunner_fails
  rw [if_neg (by decide), if_neg (by decide), if_pos rfl, ck_t (rS_611 h.1), if_neg hv, ck_t (rS_611 h.1), ck_t (rS_611 h.1), bnd_t, h10, if_pos rfl, bnd_t, bC_v, bC_v]
end Par
