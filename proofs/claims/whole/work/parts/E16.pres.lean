/-! ===== what the reference presents; primaries with a value inside ===== -/
/-- the reference presents the people Q and the values V to a system's row -/
def STB (B : Hp) (w u ir M : Nat) (ty mn nu : Nat → Int32) (E Q : Nat → Nat → Nat) (V : Nat → Nat → Int32) (nL lc : Nat) (hd : Nat → Int32) : Prop :=
  RB B w u ir M ty mn nu ∧ PPB Q B u ∧ nL ≤ 12 ∧
  (B.D 611 6 = V 9 0 ∧ B.D 611 5 = V 2 0 ∧ B.D u 0 = V 0 0 ∧ B.D u 1 = V 1 0) ∧
  (∀ x, x < 4 → B.D ir x = V 7 x) ∧
  (∀ c m, mOf E c m → E 18 (E 17 0 - 1) / 2 ^ c % 2 = 1 → B.D 613 m = V 5 m) ∧
  (∀ q c m, q < 256 → Q 1 q = 1 → Q 2 q / 2 ^ c % 2 = 1 → mOf E c m → E 21 (E 17 0 - 1) / 2 ^ c % 2 = 1 → B.D (u + 4) (48 * q + m) = V (100 + q) m) ∧
  (∀ n, n < nL → B.D 614 n = V 6 n) ∧
  (∀ e l, inn hd lc e l → e < E 9 0 → B.D 615 e = nI (Q 3 l) ∧ Q 3 l < 256 ∧ ∀ q, q < E 10 e → B.D (u + 8) (4 * Q 3 l + q) = V (400 + Q 3 l) q)
section Par
variable {N w u ir M d : Nat} {ty mn nu : Nat → Int32} {E Q : Nat → Nat → Nat} {V : Nat → Nat → Int32} {nL lc : Nat} {hd : Nat → Int32}
theorem STB.ex {B B' : Hp} (h : STB B w u ir M ty mn nu E Q V nL lc hd) (hs : same EXB B B') : STB B' w u ir M ty mn nu E Q V nL lc hd := by
  obtain ⟨h1, h2, h3, ⟨h4, h5, h6, h7⟩, h8, h9, h10, h11, h12⟩ := h
  obtain ⟨u0, u1, u2, u3, u4, u8⟩ := h1.un
  have ui : ir ≠ 611 := fun z => by
    have k := h1.2.2.2.2.2.2.1
    rw [z, rS_611 h1.1] at k
    exact absurd (congrArg Prod.fst (Option.some.inj k)) (by decide)
  have f : ∀ a x, a ≠ 611 → B'.D a x = B.D a x := fun a x z => hs.1 a x (fun y => z y.1)
  have g : ∀ x, x = 5 ∨ x = 6 → B'.D 611 x = B.D 611 x := fun x z => hs.1 611 x (fun y => by have := y.2; omega)
  refine ⟨h1.ex hs, h2.ex h1 hs, h3, ⟨by rw [g 6 (.inr rfl)]; exact h4, by rw [g 5 (.inl rfl)]; exact h5, by rw [f u 0 u0]; exact h6, by rw [f u 1 u0]; exact h7⟩, fun x k => by rw [f _ _ ui]; exact h8 x k, fun c m k1 k2 => by rw [f _ _ (by decide)]; exact h9 c m k1 k2, fun q c m k1 k2 k3 k4 k5 => by rw [f _ _ u4]; exact h10 q c m k1 k2 k3 k4 k5, fun n k => by rw [f _ _ (by decide)]; exact h11 n k, fun e l k1 k2 => ?_⟩
  obtain ⟨m1, m2, m3⟩ := h12 e l k1 k2
  exact ⟨by rw [f _ _ (by decide)]; exact m1, m2, fun q k => by rw [f _ _ u8]; exact m3 q k⟩
theorem mhas_ex {B : Hp} {v x : Int32} (h : isU B u) (hP : PPB Q B u) : ∃ r, F_MWorld_has N u v x B = some (r, B) := by
  unfold F_MWorld_has
  rw [ck_t (US h), bC_t (ev_malive h hP), rf_t (UP_6 h), ar_t (UA_6 h), lo8_e, rdI lo8_lt (by decide)]
  repeat' split
  all_goals exact ⟨_, rfl⟩
theorem held_ex {B : Hp} {k : Int32} {x : Int64} : ∃ r, F_M_held N k x B = some (r, B) := by
  unfold F_M_held
  repeat' split
  all_goals exact ⟨_, rfl⟩
/-- a value in parentheses -/
theorem p_par {B1 B2 : Hp} {x v : Int32} {j : Nat} (e : (X_RunE N d).1 611 B1 = some (v, B2)) (h11 : B2.D 611 11 = nI j) : prm N d x 40 B1 = some (v, atB B2 (j + 1)) := by
  unfold prm
  rw [if_neg (by decide), if_pos rfl, bC_t e, h11, nI_1]
  rfl
theorem p_has {B1 B2 : Hp} {x v : Int32} {i j : Nat} (h1 : B1.D 611 11 = nI (i + 1)) (e : (X_RunE N d).1 611 (atB B1 (i + 2)) = some (v, B2)) (h2 : RB B2 w u ir M ty mn nu) (h11 : B2.D 611 11 = nI j) (hj : j + 1 < M) : prm N d x 240 B1 = bC (F_MWorld_has N u v (mn (j + 1)) (atB B2 (j + 3))) fun r H => if r = (0 : Int32) then some (0, H) else some (1, H) := by
  obtain ⟨t0, t1, t2, t3, t4, t5, t6⟩ := h2.T
  have hM := h2.2.2.2.2.2.2.2.1
  have hx := h2.ex (atB_s (i := j + 3))
  unfold prm
  rw [if_neg (by decide), if_neg (by decide), if_pos rfl, h1, show nI (i + 1) + 1 = nI (i + 2) from nI_1 (i + 1), show B1.sD 611 11 (nI (i + 2)) = atB B1 (i + 2) from rfl, bC_t e, rf_t h2.2.2.2.1, ck_t t0, rf_t t5, ar_t t6, h11, nI_1, rdI (show j + 1 < 6002 by omega) (by decide), (h2.2.2.2.2.2.2.2.2 (j + 1) hj).2.1, bnd_t, show nI j + 3 = nI (j + 3) from nI_ad j 3, show B2.sD 611 11 (nI (j + 3)) = atB B2 (j + 3) from rfl, rf_t hx.2.2.2.2.1, ck_t (US hx.2.2.1)]
theorem p_cal {B1 B2 : Hp} {t v : Int32} {i j : Nat} (q1 : ¬ t = 1) (q2 : ¬ t = 40) (q3 : ¬ t = 240) (hi : i < M) (ht : ty i = t) (h1 : B1.D 611 11 = nI (i + 1)) (e : (X_RunE N d).1 611 (atB B1 (i + 2)) = some (v, B2)) (h2 : RB B2 w u ir M ty mn nu) (h11 : B2.D 611 11 = nI j) : prm N d (nI i) t B1 = (if (0 : Int32) < B2.D 611 10 then some (0, atB B2 (j + 1)) else if B2.D 611 12 ≤ 0 then F_MRunner_called N 611 t v (atB B2 (j + 1)) else some (0, atB B2 (j + 1))) := by
  have hM := h2.2.2.2.2.2.2.2.1
  have hx := h2.ex (atB_s (i := j + 1))
  obtain ⟨t0, t1, t2, t3, t4, t5, t6⟩ := hx.T
  unfold prm
  rw [if_neg q1, if_neg q2, if_neg q3, h1, show nI (i + 1) + 1 = nI (i + 2) from nI_1 (i + 1), show B1.sD 611 11 (nI (i + 2)) = atB B1 (i + 2) from rfl, bC_t e, h11, nI_1, bnd_t, show B2.sD 611 11 (nI (j + 1)) = atB B2 (j + 1) from rfl, show (atB B2 (j + 1)).D 611 10 = B2.D 611 10 from rdf (by decide), show (atB B2 (j + 1)).D 611 12 = B2.D 611 12 from rdf (by decide), rf_t hx.2.2.2.1, ck_t t0, rf_t t1, ar_t t2, rdI (show i < 6002 by omega) (by decide), (hx.2.2.2.2.2.2.2.2 i hi).1, ht, bC_eta]
end Par
