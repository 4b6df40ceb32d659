/-! ===== the reference: signs, comparisons, quotients of INT ===== -/
theorem d32 (a b : Int32) : (a.toInt64 / b.toInt64).toInt32 = a / b := by
  have ha := b32 a
  have h := Int.natAbs_tdiv_le_natAbs a.toInt b.toInt
  apply Int32.toInt_inj.mp
  rw [Int64.toInt_toInt32, dv64 (by rw [t64]; omega) (by rw [t64]; omega), t64, t64, Int32.toInt_div]
theorem r32 (a b : Int32) : (a.toInt64 - a.toInt64 / b.toInt64 * b.toInt64).toInt32 = a - a / b * b := by
  rw [Int64.toInt32_sub, Int64.toInt32_mul, d32, Int32.toInt32_toInt64, Int32.toInt32_toInt64]
section Par
variable {N w u ir M d : Nat} {ty mn nu : Nat → Int32} {Q : Nat → Nat → Nat}
theorem r_sg {B B2 : Hp} {i : Nat} {v z dr : Int32} (h : RB B w u ir M ty mn nu) (hs : BS B i z dr) (hi : i < M) (ht : ty i = 45 ∨ ty i = 33) (e : RL N d 5 (atB B (i + 1)) = some (v, B2)) (h2 : RB B2 w u ir M ty mn nu) : RL N (d + 1) 5 B = (if ty i = 33 then some (1 - v, B2) else F_M_held N (mn i) (-v.toInt64) B2) := by
  have is : ∀ c, F_MRunner_is N 611 c B = some (if ty i = c then 1 else 0, B) := fun c => ev_ris h hs.1 hs.2.1 hi
  have hM := h.2.2.2.2.2.2.2.1
  obtain ⟨t0, t1, t2, t3, t4, t5, t6⟩ := h2.T
  have e' : (X_RunE N d).2 611 (atB B (i + 1)) = some (v, B2) := e
  have go : B_MRunner_unary_23 N (X_RunE N d) 611 B = (if ty i = 33 then some (1 - v, B2) else F_M_held N (mn i) (-v.toInt64) B2) := by
    unfold B_MRunner_unary_23
    rw [ck_t (rS_611 h.1), bnd_t, bnd_t, hs.1, nI_1, bnd_t, show B.sD 611 11 (nI (i + 1)) = atB B (i + 1) from rfl, bC_t e', rf_t h2.2.2.2.1, ck_t t0, rf_t t1, ar_t t2, rdI (show i < 6002 by omega) (by decide), (h2.2.2.2.2.2.2.2.2 i hi).1, rf_t h2.2.2.2.1, ck_t t0, rf_t t5, ar_t t6, rdI (show i < 6002 by omega) (by decide), (h2.2.2.2.2.2.2.2.2 i hi).2.1, bC_eta]
  show F_MRunner_unary N (X_RunE N d) 611 B = _
  unfold F_MRunner_unary
  rw [ck_t (rS_611 h.1), bC_t (is _)]
  by_cases q : ty i = 45
  · rw [if_pos q, if_neg (show ¬ (1 : Int32) = 0 by decide), go]
  · rw [if_neg q, if_pos rfl, bC_t (is _), if_pos (ht.resolve_left q), if_neg (show ¬ (1 : Int32) = 0 by decide)]
    exact go
/-- a comparison -/
theorem r_cmp {B B1 B2 : Hp} {m sg k op : Nat} {v1 v2 z dr : Int32} (h : Gr B) (e : RL N d 3 B = some (v1, B1)) (h1 : RB B1 w u ir M ty mn nu) (hs : BS B1 m z dr) (hm : m < M) (ht : ty m = nI (tyK sg)) (hc : cmT sg k op) (e2 : RL N d 3 (atB B1 (m + 1)) = some (v2, B2)) : RL N d 2 B = some (cmI op v1 v2, B2) := by
  have e' : F_MRunner_sum N (X_RunE N d) 611 B = some (v1, B1) := e
  have e2' : F_MRunner_sum N (X_RunE N d) 611 (atB B1 (m + 1)) = some (v2, B2) := e2
  have hM := h1.2.2.2.2.2.2.2.1
  obtain ⟨t0, t1, t2, t3, t4, t5, t6⟩ := h1.T
  show F_MRunner_compared N (X_RunE N d) 611 B = _
  unfold F_MRunner_compared B_MRunner_compared_28
  rw [ck_t (rS_611 h), bC_t e', bnd_t, hs.2.1, if_pos (show (0 : Int32) ≤ 0 by decide), rf_t h1.2.2.2.1, ck_t t0, rf_t t1, bnd_t, hs.1, ar_t t2, rdI (show m < 6002 by omega) (by decide), (h1.2.2.2.2.2.2.2.2 m hm).1, ht]
  have go : ∀ t, B_MRunner_compared_54 N (X_RunE N d) 611 v1 t B1 = (if t = (60 : Int32) then (if v2 ≤ v1 then some (0, B2) else some (1, B2)) else if t = (62 : Int32) then (if v1 ≤ v2 then some (0, B2) else some (1, B2)) else if t = (5 : Int32) then (if v2 < v1 then some (0, B2) else some (1, B2)) else if t = (6 : Int32) then (if v1 < v2 then some (0, B2) else some (1, B2)) else if t = (7 : Int32) then (if v1 = v2 then some (1, B2) else some (0, B2)) else (if v1 = v2 then some (0, B2) else some (1, B2))) := fun t => by
    unfold B_MRunner_compared_54 B_MRunner_compared_173
    rw [ck_t (rS_611 h1.1), bnd_t, hs.1, nI_1, bnd_t, show B1.sD 611 11 (nI (m + 1)) = atB B1 (m + 1) from rfl, bC_t e2', if_pos (show (0 : Int32) = 0 from rfl), if_neg (show ¬ (1 : Int32) = 0 by decide)]
  have fin : ∀ (c : Prop) [Decidable c] (a b : Int32), (if c then some (a, B2) else some (b, B2)) = some (if c then a else b, B2) := fun c _ a b => by
    split <;> rfl
  have cs : (sg = 23 ∧ op = 57) ∨ (sg = 24 ∧ op = 59) ∨ (sg = 26 ∧ op = 58) ∨ (sg = 27 ∧ op = 60) ∨ (sg = 28 ∧ op = 61) ∨ (sg = 29 ∧ op = 62) := by
    obtain ⟨_, hc⟩ := hc
    simp only [List.mem_cons, List.not_mem_nil, Prod.mk.injEq, or_false] at hc
    omega
  rcases cs with ⟨rfl, rfl⟩ | ⟨rfl, rfl⟩ | ⟨rfl, rfl⟩ | ⟨rfl, rfl⟩ | ⟨rfl, rfl⟩ | ⟨rfl, rfl⟩
  · rw [if_pos (show nI (tyK 23) = (60 : Int32) by decide), go, if_pos (show nI (tyK 23) = (60 : Int32) by decide), fin]
    rfl
  · rw [if_neg (show ¬ nI (tyK 24) = (60 : Int32) by decide), if_pos (show nI (tyK 24) = (62 : Int32) by decide), go, if_neg (show ¬ nI (tyK 24) = (60 : Int32) by decide), if_pos (show nI (tyK 24) = (62 : Int32) by decide), fin]
    rfl
  · rw [if_neg (show ¬ nI (tyK 26) = (60 : Int32) by decide), if_neg (show ¬ nI (tyK 26) = (62 : Int32) by decide), if_neg (show ¬ nI (tyK 26) < (5 : Int32) by decide), if_pos (show nI (tyK 26) ≤ (8 : Int32) by decide), go, if_neg (show ¬ nI (tyK 26) = (60 : Int32) by decide), if_neg (show ¬ nI (tyK 26) = (62 : Int32) by decide), if_pos (show nI (tyK 26) = (5 : Int32) by decide), fin]
    rfl
  · rw [if_neg (show ¬ nI (tyK 27) = (60 : Int32) by decide), if_neg (show ¬ nI (tyK 27) = (62 : Int32) by decide), if_neg (show ¬ nI (tyK 27) < (5 : Int32) by decide), if_pos (show nI (tyK 27) ≤ (8 : Int32) by decide), go, if_neg (show ¬ nI (tyK 27) = (60 : Int32) by decide), if_neg (show ¬ nI (tyK 27) = (62 : Int32) by decide), if_neg (show ¬ nI (tyK 27) = (5 : Int32) by decide), if_pos (show nI (tyK 27) = (6 : Int32) by decide), fin]
    rfl
  · rw [if_neg (show ¬ nI (tyK 28) = (60 : Int32) by decide), if_neg (show ¬ nI (tyK 28) = (62 : Int32) by decide), if_neg (show ¬ nI (tyK 28) < (5 : Int32) by decide), if_pos (show nI (tyK 28) ≤ (8 : Int32) by decide), go, if_neg (show ¬ nI (tyK 28) = (60 : Int32) by decide), if_neg (show ¬ nI (tyK 28) = (62 : Int32) by decide), if_neg (show ¬ nI (tyK 28) = (5 : Int32) by decide), if_neg (show ¬ nI (tyK 28) = (6 : Int32) by decide), if_pos (show nI (tyK 28) = (7 : Int32) by decide), fin]
    rfl
  · rw [if_neg (show ¬ nI (tyK 29) = (60 : Int32) by decide), if_neg (show ¬ nI (tyK 29) = (62 : Int32) by decide), if_neg (show ¬ nI (tyK 29) < (5 : Int32) by decide), if_pos (show nI (tyK 29) ≤ (8 : Int32) by decide), go, if_neg (show ¬ nI (tyK 29) = (60 : Int32) by decide), if_neg (show ¬ nI (tyK 29) = (62 : Int32) by decide), if_neg (show ¬ nI (tyK 29) = (5 : Int32) by decide), if_neg (show ¬ nI (tyK 29) = (6 : Int32) by decide), if_neg (show ¬ nI (tyK 29) = (7 : Int32) by decide), fin]
    rfl
/-- after a failed left side no comparison -/
theorem r_cmf {B B1 : Hp} {v1 : Int32} (h : Gr B) (e : RL N d 3 B = some (v1, B1)) (h10 : 0 < B1.D 611 10) : RL N d 2 B = some (v1, B1) := by
  have e' : F_MRunner_sum N (X_RunE N d) 611 B = some (v1, B1) := e
  show F_MRunner_compared N (X_RunE N d) 611 B = _
  unfold F_MRunner_compared B_MRunner_compared_28
  rw [ck_t (rS_611 h), bC_t e', bnd_t, if_neg (fun z => by rw [Int32.le_iff_toInt_le] at z; rw [Int32.lt_iff_toInt_lt] at h10; omega), if_neg (by decide), if_neg (by decide), if_pos (by decide)]
/-- quotients -/
theorem q_0 {B : Hp} {i l1 : Int32} (h : RB B w u ir M ty mn nu) (h10 : B.D 611 10 = 0) : F_MRunner_divided N 611 i l1 0 B = some (0, B.sD 611 10 1) := by
  unfold F_MRunner_divided F_MRunner_fails
  rw [if_pos rfl, ck_t (rS_611 h.1), ck_t (rS_611 h.1), bnd_t, h10, if_pos rfl, bnd_t, bC_v]
theorem q_n {B : Hp} {m : Nat} {l1 v : Int32} (h : RB B w u ir M ty mn nu) (hm : m < M) (hv : ¬ v = 0) : (ty m = 37 → F_MRunner_divided N 611 (nI m) l1 v B = some (l1 - l1 / v * v, B)) ∧ (ty m ≠ 37 → mn m = 0 → F_MRunner_divided N 611 (nI m) l1 v B = some (l1 / v, B)) ∧ (ty m ≠ 37 → mn m = 2 → ∃ x : Int64, x.toInt = rhe (if v.toInt < 0 then -(l1.toInt * 65536) else l1.toInt * 65536) v.toInt.natAbs ∧ F_MRunner_divided N 611 (nI m) l1 v B = some (clp x, B)) := by
  have hM := h.2.2.2.2.2.2.2.1
  obtain ⟨t0, t1, t2, t3, t4, t5, t6⟩ := h.T
  have hz : ¬ v.toInt64 = 0 := fun z => hv (by
    have := congrArg Int64.toInt32 z
    rw [Int32.toInt32_toInt64] at this
    exact this)
  have e0 : (0 : Int64).toInt = 0 := rfl
  have hl := b32 l1
  unfold F_MRunner_divided
  rw [if_neg hv, ck_t (rS_611 h.1), rf_t h.2.2.2.1, ck_t t0, rf_t t1, ar_t t2, rdI (show m < 6002 by omega) (by decide), (h.2.2.2.2.2.2.2.2 m hm).1, rf_t h.2.2.2.1, ck_t t0, rf_t t5, ar_t t6, rdI (show m < 6002 by omega) (by decide), (h.2.2.2.2.2.2.2.2 m hm).2.1]
  refine ⟨fun q => ?_, fun q q2 => ?_, fun q q2 => ?_⟩
  · rw [if_pos q, ck_t hz, bnd_t, r32]
  · rw [if_neg q, if_pos q2, ck_t hz, d32]
  · rw [if_neg q, if_neg (show ¬ mn m = 0 by rw [q2]; decide)]
    by_cases y : l1.toInt64 < 0
    · have y' := y
      rw [Int64.lt_iff_toInt_lt, t64, e0] at y'
      rw [if_neg (fun z => lg_ge.mp z y)]
      exact ev_div66 hv (by
        rw [Int64.toInt_neg, t64, bmq (by omega) (by omega)]
        omega)
    · have y' := y
      rw [Int64.lt_iff_toInt_lt, t64, e0] at y'
      rw [if_pos (lg_ge.mpr y)]
      exact ev_div66 hv (by
        rw [t64]
        omega)
end Par
