/-! ===== the reference's chains ===== -/
section Par
variable {N w u ir M d : Nat} {ty mn nu : Nat → Int32} {Q : Nat → Nat → Nat}
/-- a chain's end -/
theorem r_end {B : Hp} {l n j : Nat} {v z dr : Int32} (h : RB B w u ir M ty mn nu) (hs : BS B j z dr) (hj : j < M) (hl : l = 0 ∨ l = 1 ∨ l = 3 ∨ l = 4) (hn : noS l (ty j)) : RLo N d l (n + 1) v B = some (v, B) := by
  have is : ∀ c, F_MRunner_is N 611 c B = some (if ty j = c then 1 else 0, B) := fun c => ev_ris h hs.1 hs.2.1 hj
  rcases hl with rfl | rfl | rfl | rfl
  · have hn' : ty j ≠ 10 := hn
    show B_MRunner_value_5 N (X_RunE N d) 611 (n + 1) v B = _
    rw [B_MRunner_value_5, ck_t (rS_611 h.1), bC_t (is _), if_neg hn', if_pos rfl]
  · have hn' : ty j ≠ 9 := hn
    show B_MRunner_both_5 N (X_RunE N d) 611 (n + 1) v B = _
    rw [B_MRunner_both_5, ck_t (rS_611 h.1), bC_t (is _), if_neg hn', if_pos rfl]
  · have hn' : ty j ≠ 43 ∧ ty j ≠ 45 := hn
    show B_MRunner_sum_5 N (X_RunE N d) 611 (n + 1) v B = _
    rw [B_MRunner_sum_5, ck_t (rS_611 h.1), bC_t (is _), if_neg hn'.1, if_pos rfl, bC_t (is _), if_neg hn'.2, if_pos rfl]
  · have hn' : ty j ≠ 42 ∧ ty j ≠ 47 ∧ ty j ≠ 37 := hn
    show B_MRunner_product_5 N (X_RunE N d) 611 (n + 1) v B = _
    rw [B_MRunner_product_5, ck_t (rS_611 h.1), bC_t (is _), if_neg hn'.1, if_pos rfl, bC_t (is _), if_neg hn'.2.1, if_pos rfl, bC_t (is _), if_neg hn'.2.2, if_pos rfl]
/-- a sum's step -/
theorem r_sum {B B2 : Hp} {n m : Nat} {l1 v z dr : Int32} (h : RB B w u ir M ty mn nu) (hs : BS B m z dr) (hm : m < M) (ht : ty m = 43 ∨ ty m = 45) (e : RL N d 4 (atB B (m + 1)) = some (v, B2)) (h2 : RB B2 w u ir M ty mn nu) : RLo N d 3 (n + 1) l1 B = bC (F_M_held N (mn m) (if ty m = 43 then l1.toInt64 + v.toInt64 else l1.toInt64 - v.toInt64) B2) fun x H => RLo N d 3 n x H := by
  have is : ∀ c, F_MRunner_is N 611 c B = some (if ty m = c then 1 else 0, B) := fun c => ev_ris h hs.1 hs.2.1 hm
  have hM := h.2.2.2.2.2.2.2.1
  obtain ⟨t0, t1, t2, t3, t4, t5, t6⟩ := h2.T
  have e' : F_MRunner_product N (X_RunE N d) 611 (atB B (m + 1)) = some (v, B2) := e
  have go : B_MRunner_sum_23 N (X_RunE N d) 611 (fun l1 H => B_MRunner_sum_5 N (X_RunE N d) 611 n l1 H) l1 B = bC (F_M_held N (mn m) (if ty m = 43 then l1.toInt64 + v.toInt64 else l1.toInt64 - v.toInt64) B2) fun x H => B_MRunner_sum_5 N (X_RunE N d) 611 n x H := by
    unfold B_MRunner_sum_23
    rw [ck_t (rS_611 h.1), bnd_t, bnd_t, hs.1, nI_1, bnd_t, show B.sD 611 11 (nI (m + 1)) = atB B (m + 1) from rfl, bC_t e', rf_t h2.2.2.2.1, ck_t t0, rf_t t5, ar_t t6, rdI (show m < 6002 by omega) (by decide), (h2.2.2.2.2.2.2.2.2 m hm).2.1, rf_t h2.2.2.2.1, ck_t t0, rf_t t1, ar_t t2, rdI (show m < 6002 by omega) (by decide), (h2.2.2.2.2.2.2.2.2 m hm).1]
    unfold B_MRunner_sum_79
    by_cases q : ty m = 43
    · rw [if_pos q, if_pos q]
    · rw [if_neg q, if_neg q]
  show B_MRunner_sum_5 N (X_RunE N d) 611 (n + 1) l1 B = _
  rw [B_MRunner_sum_5, ck_t (rS_611 h.1), bC_t (is _)]
  by_cases q : ty m = 43
  · rw [if_pos q, if_neg (show ¬ (1 : Int32) = 0 by decide), go]
    rfl
  · rw [if_neg q, if_pos rfl, bC_t (is _), if_pos (ht.resolve_left q), if_neg (show ¬ (1 : Int32) = 0 by decide), go]
    rfl
/-- a product's step -/
theorem r_prd {B B2 : Hp} {n m : Nat} {l1 v z dr : Int32} (h : RB B w u ir M ty mn nu) (hs : BS B m z dr) (hm : m < M) (ht : ty m = 42 ∨ ty m = 47 ∨ ty m = 37) (e : RL N d 5 (atB B (m + 1)) = some (v, B2)) (h2 : RB B2 w u ir M ty mn nu) : RLo N d 4 (n + 1) l1 B = (if (0 : Int32) < B2.D 611 10 then RLo N d 4 n 0 B2 else if B2.D 611 12 ≤ 0 then (if ty m = 42 then bC (F_MRunner_times N (mn m) l1 v B2) fun x H => RLo N d 4 n x H else bC (F_MRunner_divided N 611 (nI m) l1 v B2) fun x H => RLo N d 4 n x H) else RLo N d 4 n 0 B2) := by
  have is : ∀ c, F_MRunner_is N 611 c B = some (if ty m = c then 1 else 0, B) := fun c => ev_ris h hs.1 hs.2.1 hm
  have hM := h.2.2.2.2.2.2.2.1
  obtain ⟨t0, t1, t2, t3, t4, t5, t6⟩ := h2.T
  have e' : (X_RunE N d).2 611 (atB B (m + 1)) = some (v, B2) := e
  have go : B_MRunner_product_32 N (X_RunE N d) 611 (fun l1 H => B_MRunner_product_5 N (X_RunE N d) 611 n l1 H) l1 B = (if (0 : Int32) < B2.D 611 10 then RLo N d 4 n 0 B2 else if B2.D 611 12 ≤ 0 then (if ty m = 42 then bC (F_MRunner_times N (mn m) l1 v B2) fun x H => RLo N d 4 n x H else bC (F_MRunner_divided N 611 (nI m) l1 v B2) fun x H => RLo N d 4 n x H) else RLo N d 4 n 0 B2) := by
    unfold B_MRunner_product_32 B_MRunner_product_66 B_MRunner_product_108
    rw [ck_t (rS_611 h.1), bnd_t, bnd_t, hs.1, nI_1, bnd_t, show B.sD 611 11 (nI (m + 1)) = atB B (m + 1) from rfl, bC_t e', bnd_t, bnd_t, rf_t h2.2.2.2.1, ck_t t0, rf_t t1, ar_t t2, rdI (show m < 6002 by omega) (by decide), (h2.2.2.2.2.2.2.2.2 m hm).1, rf_t h2.2.2.2.1, ck_t t0, rf_t t5, ar_t t6, rdI (show m < 6002 by omega) (by decide), (h2.2.2.2.2.2.2.2.2 m hm).2.1]
    rfl
  show B_MRunner_product_5 N (X_RunE N d) 611 (n + 1) l1 B = _
  rw [B_MRunner_product_5, ck_t (rS_611 h.1), bC_t (is _)]
  by_cases q : ty m = 42
  · rw [if_pos q, if_neg (show ¬ (1 : Int32) = 0 by decide), go]
  · rw [if_neg q, if_pos rfl, bC_t (is _)]
    by_cases q2 : ty m = 47
    · rw [if_pos q2, if_neg (show ¬ (1 : Int32) = 0 by decide), go]
    · rw [if_neg q2, if_pos rfl, bC_t (is _), if_pos ((ht.resolve_left q).resolve_left q2), if_neg (show ¬ (1 : Int32) = 0 by decide), go]
/-- idle more by k -/
def idB (B : Hp) (z : Int32) : Hp := B.sD 611 12 z
theorem idB_s {B : Hp} {z : Int32} : same EXB B (idB B z) := same.sD same.rf ⟨rfl, by omega⟩
theorem idB_S {B : Hp} {i : Nat} {z z2 d : Int32} (h : BS B i z d) : BS (idB B z2) i z2 d := by
  unfold BS idB at *
  rw [rds, rdf (by decide), rdf (by decide), rdf (by decide)]
  exact ⟨h.1, h.2.1, rfl, h.2.2.2⟩
/-- and -/
theorem r_and {B B2 : Hp} {n m : Nat} {l1 v z dr : Int32} (h : RB B w u ir M ty mn nu) (hs : BS B m z dr) (hm : m < M) (ht : ty m = 9) (e : RL N d 2 (idB (atB B (m + 1)) (z + (if l1 = 0 then 1 else 0))) = some (v, B2)) (h2 : Gr B2) : RLo N d 1 (n + 1) l1 B = RLo N d 1 n (if l1 = 0 then 0 else v) (idB B2 (B2.D 611 12 - (if l1 = 0 then 1 else 0))) := by
  have is : ∀ c, F_MRunner_is N 611 c B = some (if ty m = c then 1 else 0, B) := fun c => ev_ris h hs.1 hs.2.1 hm
  have hA : Gr (atB B (m + 1)) := h.1
  have h12 : (atB B (m + 1)).D 611 12 = z := (atB_S (j := m + 1) hs).2.2.1
  show B_MRunner_both_5 N (X_RunE N d) 611 (n + 1) l1 B = _
  rw [B_MRunner_both_5, ck_t (rS_611 h.1), bC_t (is _), if_pos ht, if_neg (show ¬ (1 : Int32) = 0 by decide), bnd_t, hs.1, nI_1, bnd_t, show B.sD 611 11 (nI (m + 1)) = atB B (m + 1) from rfl, bnd_t, h12]
  unfold B_MRunner_both_38 B_MRunner_both_61 B_MRunner_both_74
  rw [ck_t (rS_611 hA), bnd_t, bnd_t]
  by_cases q : l1 = 0
  · rw [if_pos q] at e
    rw [if_pos q, if_pos q, if_pos q]
    have hI : Gr (idB (atB B (m + 1)) (z + 1)) := h.1
    have e' : F_MRunner_compared N (X_RunE N d) 611 (idB (atB B (m + 1)) (z + 1)) = some (v, B2) := e
    rw [show (atB B (m + 1)).sD 611 12 (z + 1) = idB (atB B (m + 1)) (z + 1) from rfl, ck_t (rS_611 hI), bC_t e', bnd_t, if_pos q, ck_t (rS_611 h2), bnd_t, if_pos q]
    rfl
  · rw [if_neg q] at e
    rw [if_neg q, if_neg q, if_neg q]
    have hI : Gr (idB (atB B (m + 1)) (z + 0)) := h.1
    have e' : F_MRunner_compared N (X_RunE N d) 611 (idB (atB B (m + 1)) (z + 0)) = some (v, B2) := e
    rw [show (atB B (m + 1)).sD 611 12 (z + 0) = idB (atB B (m + 1)) (z + 0) from rfl, ck_t (rS_611 hI), bC_t e', bnd_t, if_neg q, ck_t (rS_611 h2), bnd_t, ck_t (rS_611 hA), if_neg q]
    rfl
/-- or -/
theorem r_or {B B2 : Hp} {n m : Nat} {l1 v z dr : Int32} (h : RB B w u ir M ty mn nu) (hs : BS B m z dr) (hm : m < M) (ht : ty m = 10) (e : RL N d 1 (idB (atB B (m + 1)) (z + (if l1 = 0 then 0 else 1))) = some (v, B2)) (h2 : Gr B2) : RLo N d 0 (n + 1) l1 B = RLo N d 0 n (if l1 = 0 then v else l1) (idB B2 (B2.D 611 12 - (if l1 = 0 then 0 else 1))) := by
  have is : ∀ c, F_MRunner_is N 611 c B = some (if ty m = c then 1 else 0, B) := fun c => ev_ris h hs.1 hs.2.1 hm
  have hA : Gr (atB B (m + 1)) := h.1
  have h12 : (atB B (m + 1)).D 611 12 = z := (atB_S (j := m + 1) hs).2.2.1
  show B_MRunner_value_5 N (X_RunE N d) 611 (n + 1) l1 B = _
  rw [B_MRunner_value_5, ck_t (rS_611 h.1), bC_t (is _), if_pos ht, if_neg (show ¬ (1 : Int32) = 0 by decide), bnd_t, hs.1, nI_1, bnd_t, show B.sD 611 11 (nI (m + 1)) = atB B (m + 1) from rfl, bnd_t, h12]
  unfold B_MRunner_value_38 B_MRunner_value_61 B_MRunner_value_74
  rw [ck_t (rS_611 hA), bnd_t, bnd_t]
  by_cases q : l1 = 0
  · rw [if_pos q] at e
    rw [if_pos q, if_pos q, if_pos q]
    have hI : Gr (idB (atB B (m + 1)) (z + 0)) := h.1
    have e' : F_MRunner_both N (X_RunE N d) 611 (idB (atB B (m + 1)) (z + 0)) = some (v, B2) := e
    rw [show (atB B (m + 1)).sD 611 12 (z + 0) = idB (atB B (m + 1)) (z + 0) from rfl, ck_t (rS_611 hI), bC_t e', bnd_t, if_pos q, ck_t (rS_611 h2), bnd_t, if_pos q]
    rfl
  · rw [if_neg q] at e
    rw [if_neg q, if_neg q, if_neg q]
    have hI : Gr (idB (atB B (m + 1)) (z + 1)) := h.1
    have e' : F_MRunner_both N (X_RunE N d) 611 (idB (atB B (m + 1)) (z + 1)) = some (v, B2) := e
    rw [show (atB B (m + 1)).sD 611 12 (z + 1) = idB (atB B (m + 1)) (z + 1) from rfl, ck_t (rS_611 hI), bC_t e', bnd_t, if_neg q, ck_t (rS_611 h2), bnd_t, ck_t (rS_611 hA), if_neg q]
    rfl
/-- no comparison -/
theorem r_cm0 {B B2 : Hp} {j : Nat} {v z dr : Int32} (h : Gr B) (e : RL N d 3 B = some (v, B2)) (h2 : RB B2 w u ir M ty mn nu) (hs : BS B2 j z dr) (hj : j < M) (hn : noS 2 (ty j)) : RL N d 2 B = some (v, B2) := by
  have e' : F_MRunner_sum N (X_RunE N d) 611 B = some (v, B2) := e
  have hM := h2.2.2.2.2.2.2.2.1
  obtain ⟨t0, t1, t2, t3, t4, t5, t6⟩ := h2.T
  have hn' : ty j ≠ 60 ∧ ty j ≠ 62 ∧ ty j ≠ 5 ∧ ty j ≠ 6 ∧ ty j ≠ 7 ∧ ty j ≠ 8 := hn
  show F_MRunner_compared N (X_RunE N d) 611 B = _
  unfold F_MRunner_compared B_MRunner_compared_28
  rw [ck_t (rS_611 h), bC_t e', bnd_t, hs.2.1, if_pos (show (0 : Int32) ≤ 0 by decide), rf_t h2.2.2.2.1, ck_t t0, rf_t t1, bnd_t, hs.1, ar_t t2, rdI (show j < 6002 by omega) (by decide), (h2.2.2.2.2.2.2.2.2 j hj).1, if_neg hn'.1, if_neg hn'.2.1]
  by_cases q : ty j < 5
  · rw [if_pos q]
  · rw [if_neg q]
    by_cases q2 : ty j ≤ 8
    · exfalso
      obtain ⟨_, _, n5, n6, n7, n8⟩ := hn'
      generalize ty j = t at *
      have f : ∀ x : Int32, ¬ t = x → t.toInt ≠ x.toInt := fun x k y => k (Int32.toInt_inj.mp y)
      have k5 := f 5 n5
      have k6 := f 6 n6
      have k7 := f 7 n7
      have k8 := f 8 n8
      rw [Int32.lt_iff_toInt_lt] at q
      rw [Int32.le_iff_toInt_le] at q2
      have c5 : (5 : Int32).toInt = 5 := rfl
      have c6 : (6 : Int32).toInt = 6 := rfl
      have c7 : (7 : Int32).toInt = 7 := rfl
      have c8 : (8 : Int32).toInt = 8 := rfl
      omega
    · rw [if_neg q2]
end Par
