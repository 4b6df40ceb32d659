/-! ===== the reference's runner: its levels ===== -/
/-- what an expression may change in the runner -/
def EXB (a f : Nat) : Prop := a = 611 ∧ (f = 9 ∨ f = 10 ∨ f = 11 ∨ f = 12)
/-- the runner over a text w and a world u -/
def RB (B : Hp) (w u ir M : Nat) (ty mn nu : Nat → Int32) : Prop := Gr B ∧ isT B w ∧ isU B u ∧ B.P 611 0 = .ref w ∧ B.P 611 1 = .ref u ∧ B.P 611 2 = .ref ir ∧ B.sh[ir]? = some (100, 4) ∧ M ≤ 6002 ∧ ∀ i, i < M → B.D (w + 2) i = ty i ∧ B.D (w + 7) i = mn i ∧ B.D (w + 5) i = nu i
/-- the runner stands at i, unfailed, idle z, with draws d -/
def BS (B : Hp) (i : Nat) (z d : Int32) : Prop := B.D 611 11 = nI i ∧ B.D 611 10 = 0 ∧ B.D 611 12 = z ∧ B.D 611 9 = d
def RL (N d tg : Nat) (B : Hp) : Option (Int32 × Hp) := if tg = 0 then F_MRunner_value N (X_RunE N d) 611 B else if tg = 1 then F_MRunner_both N (X_RunE N d) 611 B else if tg = 2 then F_MRunner_compared N (X_RunE N d) 611 B else if tg = 3 then F_MRunner_sum N (X_RunE N d) 611 B else if tg = 4 then F_MRunner_product N (X_RunE N d) 611 B else (X_RunE N d).2 611 B
def RLo (N d l n : Nat) (v : Int32) (B : Hp) : Option (Int32 × Hp) := if l = 0 then B_MRunner_value_5 N (X_RunE N d) 611 n v B else if l = 1 then B_MRunner_both_5 N (X_RunE N d) 611 n v B else if l = 3 then B_MRunner_sum_5 N (X_RunE N d) 611 n v B else B_MRunner_product_5 N (X_RunE N d) 611 n v B
section Par
variable {N w u ir M d : Nat} {ty mn nu : Nat → Int32}
theorem RB.sm {R : Nat → Nat → Prop} {B B' : Hp} (h : RB B w u ir M ty mn nu) (hs : same R B B') (hR : ∀ i, ¬ R (w + 2) i ∧ ¬ R (w + 7) i ∧ ¬ R (w + 5) i) : RB B' w u ir M ty mn nu := by
  obtain ⟨h1, h2, h3, h4, h5, h6, h7, h8, h9⟩ := h
  obtain ⟨s1, s2, s3, s4, s5⟩ := hs
  refine ⟨same.gr ⟨s1, s2, s3, s4, s5⟩ h1, ?_, ?_, by rw [s2]; exact h4, by rw [s2]; exact h5, by rw [s2]; exact h6, by rw [s4]; exact h7, h8, fun i hi => ?_⟩
  · unfold isT at h2 ⊢
    rw [s2, s4]; exact h2
  · unfold isU at h3 ⊢
    rw [s2, s4]; exact h3
  · rw [s1 _ _ (hR i).1, s1 _ _ (hR i).2.1, s1 _ _ (hR i).2.2]
    exact h9 i hi
theorem RB.wn {B : Hp} (h : RB B w u ir M ty mn nu) : w + 2 ≠ 611 ∧ w + 7 ≠ 611 ∧ w + 5 ≠ 611 := by
  have h2 := rS_611 h.1
  obtain ⟨t0, ⟨t1, t2⟩, ⟨t3, t4⟩, ⟨t5, t6⟩, ⟨t7, t8⟩, ⟨t9, t10⟩, ⟨t11, t12⟩, ⟨t13, t14⟩, t15⟩ := h.2.1
  refine ⟨fun z => ?_, fun z => ?_, fun z => ?_⟩
  · rw [z, h2] at t4
    exact absurd (congrArg Prod.fst (Option.some.inj t4)) (by decide)
  · rw [z, h2] at t14
    exact absurd (congrArg Prod.fst (Option.some.inj t14)) (by decide)
  · rw [z, h2] at t10
    exact absurd (congrArg Prod.fst (Option.some.inj t10)) (by decide)
theorem RB.ex {B B' : Hp} (h : RB B w u ir M ty mn nu) (hs : same EXB B B') : RB B' w u ir M ty mn nu := h.sm hs (fun i => ⟨fun z => h.wn.1 z.1, fun z => h.wn.2.1 z.1, fun z => h.wn.2.2 z.1⟩)
theorem RB.T {B : Hp} (h : RB B w u ir M ty mn nu) : B.sh[w]? = some (14, 0) ∧ B.P w 3 = .ref (w + 2) ∧ B.sh[w + 2]? = some (100, 6002) ∧ B.P w 6 = .ref (w + 5) ∧ B.sh[w + 5]? = some (100, 6002) ∧ B.P w 8 = .ref (w + 7) ∧ B.sh[w + 7]? = some (100, 6002) := by
  obtain ⟨t0, ⟨t1, t2⟩, ⟨t3, t4⟩, ⟨t5, t6⟩, ⟨t7, t8⟩, ⟨t9, t10⟩, ⟨t11, t12⟩, ⟨t13, t14⟩, t15⟩ := h.2.1
  exact ⟨t0, t3, t4, t9, t10, t13, t14⟩
theorem ev_ris {B : Hp} {i : Nat} {c : Int32} (h : RB B w u ir M ty mn nu) (h11 : B.D 611 11 = nI i) (h10 : B.D 611 10 = 0) (hi : i < M) : F_MRunner_is N 611 c B = some (if ty i = c then 1 else 0, B) := by
  obtain ⟨t0, t1, t2, _⟩ := h.T
  have hM := h.2.2.2.2.2.2.2.1
  unfold F_MRunner_is
  rw [ck_t (rS_611 h.1), bnd_t, h10, if_pos rfl, rf_t h.2.2.2.1, ck_t t0, rf_t t1, bnd_t, h11, ar_t t2, rdI (show i < 6002 by omega) (by decide), (h.2.2.2.2.2.2.2.2 i hi).1]
  split <;> rfl
theorem ev_ris3 {B : Hp} {c : Int32} (h : Gr B) (h10 : ¬ B.D 611 10 = 0) : F_MRunner_is N 611 c B = some (0, B) := by
  unfold F_MRunner_is
  rw [ck_t (rS_611 h), bnd_t, if_neg h10]
/-- after a failure nothing more -/
theorem f3_un {B : Hp} {o : Orc_RunE} (h : Gr B) (h10 : 0 < B.D 611 10) : F_MRunner_unary N o 611 B = some (0, B) := by
  have hn : ¬ B.D 611 10 = 0 := fun z => by rw [z] at h10; exact absurd h10 (by decide)
  unfold F_MRunner_unary F_MRunner_primary
  rw [ck_t (rS_611 h), bC_t (ev_ris3 h hn), if_pos rfl, bC_t (ev_ris3 h hn), if_pos rfl, ck_t (rS_611 h), bnd_t, if_neg (fun z => by rw [Int32.le_iff_toInt_le] at z; rw [Int32.lt_iff_toInt_lt] at h10; omega), bC_v]
theorem f3_lo {B : Hp} {l n : Nat} {v : Int32} (h : Gr B) (h10 : 0 < B.D 611 10) : RLo N d l (n + 1) v B = some (v, B) := by
  have hn : ¬ B.D 611 10 = 0 := fun z => by rw [z] at h10; exact absurd h10 (by decide)
  unfold RLo
  rw [B_MRunner_value_5, B_MRunner_both_5, B_MRunner_sum_5, B_MRunner_product_5, ck_t (rS_611 h), ck_t (rS_611 h), ck_t (rS_611 h), ck_t (rS_611 h), bC_t (ev_ris3 h hn), bC_t (ev_ris3 h hn), bC_t (ev_ris3 h hn), bC_t (ev_ris3 h hn), if_pos rfl, if_pos rfl, if_pos rfl, if_pos rfl, bC_t (ev_ris3 h hn), bC_t (ev_ris3 h hn), if_pos rfl, if_pos rfl, bC_t (ev_ris3 h hn), if_pos rfl]
  split
  · rfl
  · split
    · rfl
    · split <;> rfl
theorem RL_lv {B : Hp} {l : Nat} (h : Gr B) (hl : l = 0 ∨ l = 1 ∨ l = 3 ∨ l = 4) : RL N d l B = bC (RL N d (l + 1) B) fun v B' => RLo N d l N v B' := by
  rcases hl with rfl | rfl | rfl | rfl
  · show F_MRunner_value N (X_RunE N d) 611 B = _
    unfold F_MRunner_value
    rw [ck_t (rS_611 h)]
    rfl
  · show F_MRunner_both N (X_RunE N d) 611 B = _
    unfold F_MRunner_both
    rw [ck_t (rS_611 h)]
    rfl
  · show F_MRunner_sum N (X_RunE N d) 611 B = _
    unfold F_MRunner_sum
    rw [ck_t (rS_611 h)]
    rfl
  · show F_MRunner_product N (X_RunE N d) 611 B = _
    unfold F_MRunner_product
    rw [ck_t (rS_611 h)]
    rfl
theorem f3_rl {B : Hp} (h : Gr B) (h10 : 0 < B.D 611 10) (hN : 1 ≤ N) : ∀ k, k ≤ 5 → RL N (d + 1) (5 - k) B = some (0, B) := by
  obtain ⟨n, rfl⟩ : ∃ m, N = m + 1 := ⟨N - 1, by omega⟩
  have lv : ∀ l, (l = 0 ∨ l = 1 ∨ l = 3 ∨ l = 4) → RL (n + 1) (d + 1) (l + 1) B = some (0, B) → RL (n + 1) (d + 1) l B = some (0, B) := fun l hl e => by
    rw [RL_lv h hl, bC_t e]
    exact f3_lo h h10
  have e5 : RL (n + 1) (d + 1) 5 B = some (0, B) := f3_un h h10
  have e4 := lv 4 (by omega) e5
  have e3 := lv 3 (by omega) e4
  have e2 : RL (n + 1) (d + 1) 2 B = some (0, B) := by
    show F_MRunner_compared (n + 1) (X_RunE (n + 1) (d + 1)) 611 B = _
    unfold F_MRunner_compared
    have e3' : F_MRunner_sum (n + 1) (X_RunE (n + 1) (d + 1)) 611 B = some (0, B) := e3
    rw [ck_t (rS_611 h), bC_t e3', bnd_t, if_neg (fun z => by rw [Int32.le_iff_toInt_le] at z; rw [Int32.lt_iff_toInt_lt] at h10; omega)]
    unfold B_MRunner_compared_28
    rw [if_neg (by decide), if_neg (by decide), if_pos (by decide)]
  have e1 := lv 1 (by omega) e2
  have e0 := lv 0 (by omega) e1
  intro k hk
  have : k = 0 ∨ k = 1 ∨ k = 2 ∨ k = 3 ∨ k = 4 ∨ k = 5 := by omega
  rcases this with rfl | rfl | rfl | rfl | rfl | rfl
  · exact e5
  · exact e4
  · exact e3
  · exact e2
  · exact e1
  · exact e0
end Par
