/-! ===== spawn: the members' word, one part ===== -/
def Wm (of : Nat → Nat) : Nat → Nat
  | 0 => 0
  | n + 1 => Wm of n + of n * 256 ^ n
theorem shm : ∀ m : Fin 48, nI m.val <<< (((8 : Int32) * nI 0) &&& 31) = nI (m.val * 1) ∧ nI m.val <<< (((8 : Int32) * nI 1) &&& 31) = nI (m.val * 256) ∧ nI m.val <<< (((8 : Int32) * nI 2) &&& 31) = nI (m.val * 65536) ∧ nI m.val <<< (((8 : Int32) * nI 3) &&& 31) = nI (m.val * 16777216) := by decide +kernel
theorem Wm_s {of : Nat → Nat} {n : Nat} : Wm of (n + 1) = Wm of n + of n * 256 ^ n := rfl
theorem Wm_lt {of : Nat → Nat} : ∀ n, (∀ k, k < n → of k < 48) → Wm of n < 256 ^ n := by
  intro n
  induction n with
  | zero => intro _; exact Nat.one_pos
  | succ n ih =>
    intro h
    have h1 := ih (fun k hk => h k (by omega))
    have h2 := h n (by omega)
    rw [Wm_s, Nat.pow_succ]
    generalize 256 ^ n = x at *
    have : of n * x ≤ 47 * x := Nat.mul_le_mul_right x (by omega)
    omega
theorem or_ad {i c a b : Nat} (hc : c = 2 ^ i) (hb : b < c) : nI b ||| nI (a * c) = nI (b + a * c) := by
  subst hc
  rw [nI_or, Nat.or_comm, Nat.mul_comm a, ← Nat.two_pow_add_eq_or_of_lt hb, Nat.add_comm]
theorem Wm_or {of : Nat → Nat} {n : Nat} (hn : n < 4) (ho : ∀ k, k ≤ n → of k < 48) : nI (Wm of n) ||| (nI (of n) <<< (((8 : Int32) * nI n) &&& 31)) = nI (Wm of (n + 1)) := by
  have hl := Wm_lt (of := of) n (fun k hk => ho k (by omega))
  have hm := ho n (Nat.le_refl _)
  rw [Wm_s]
  generalize Wm of n = W at *
  generalize of n = m at *
  obtain ⟨s0, s1, s2, s3⟩ := shm ⟨m, hm⟩
  have hc : n = 0 ∨ n = 1 ∨ n = 2 ∨ n = 3 := by omega
  rcases hc with rfl | rfl | rfl | rfl
  · rw [s0]
    exact or_ad (i := 0) rfl hl
  · rw [s1]
    exact or_ad (i := 8) rfl hl
  · rw [s2]
    exact or_ad (i := 16) rfl hl
  · rw [s3]
    exact or_ad (i := 24) rfl hl
theorem Wm_ex {of : Nat → Nat} {n k : Nat} (hn : n ≤ 4) (hk : k < n) (ho : ∀ x, x < n → of x < 48) : (nI (Wm of n) >>> (nI (8 * k) &&& 31)) &&& 255 = nI (of k) := by
  have key : Wm of n < 2 ^ 31 ∧ Wm of n / 2 ^ (8 * k) % 256 = of k := by
    have h0 := ho 0 (by omega)
    have e1 : Wm of 1 = 0 + of 0 * 256 ^ 0 := rfl
    have e2 : Wm of 2 = 0 + of 0 * 256 ^ 0 + of 1 * 256 ^ 1 := rfl
    have e3 : Wm of 3 = 0 + of 0 * 256 ^ 0 + of 1 * 256 ^ 1 + of 2 * 256 ^ 2 := rfl
    have e4 : Wm of 4 = 0 + of 0 * 256 ^ 0 + of 1 * 256 ^ 1 + of 2 * 256 ^ 2 + of 3 * 256 ^ 3 := rfl
    have hc : (n = 1 ∧ k = 0) ∨ (n = 2 ∧ k = 0) ∨ (n = 2 ∧ k = 1) ∨ (n = 3 ∧ k = 0) ∨ (n = 3 ∧ k = 1) ∨ (n = 3 ∧ k = 2) ∨ (n = 4 ∧ k = 0) ∨ (n = 4 ∧ k = 1) ∨ (n = 4 ∧ k = 2) ∨ (n = 4 ∧ k = 3) := by omega
    rcases hc with ⟨rfl, rfl⟩ | ⟨rfl, rfl⟩ | ⟨rfl, rfl⟩ | ⟨rfl, rfl⟩ | ⟨rfl, rfl⟩ | ⟨rfl, rfl⟩ | ⟨rfl, rfl⟩ | ⟨rfl, rfl⟩ | ⟨rfl, rfl⟩ | ⟨rfl, rfl⟩
    · rw [e1]; omega
    · have h1 := ho 1 (by omega); rw [e2]; omega
    · have h1 := ho 1 (by omega); rw [e2]; omega
    · have h1 := ho 1 (by omega); have h2 := ho 2 (by omega); rw [e3]; omega
    · have h1 := ho 1 (by omega); have h2 := ho 2 (by omega); rw [e3]; omega
    · have h1 := ho 1 (by omega); have h2 := ho 2 (by omega); rw [e3]; omega
    · have h1 := ho 1 (by omega); have h2 := ho 2 (by omega); have h3 := ho 3 (by omega); rw [e4]; omega
    · have h1 := ho 1 (by omega); have h2 := ho 2 (by omega); have h3 := ho 3 (by omega); rw [e4]; omega
    · have h1 := ho 1 (by omega); have h2 := ho 2 (by omega); have h3 := ho 3 (by omega); rw [e4]; omega
    · have h1 := ho 1 (by omega); have h2 := ho 2 (by omega); have h3 := ho 3 (by omega); rw [e4]; omega
  have hd : Wm of n / 2 ^ (8 * k) < 2 ^ 31 := Nat.lt_of_le_of_lt (Nat.div_le_self _ _) key.1
  rw [nI_shr key.1 (by omega), show (255 : Int32) = nI 255 from rfl, nI_and _ _ hd, show (255 : Nat) = 2 ^ 8 - 1 from rfl, Nat.and_two_pow_sub_one_eq_mod, key.2]
section Par
variable {N p wo inp cs w u ir M K0 : Nat} {s pl : Int32} {ty mn nu cd : Nat → Int32} {E Q : Nat → Nat → Nat} {V : Nat → Nat → Int32} {nL lc : Nat} {lk : Nat → Nat} {hd : Nat → Int32}
/-- one part of a spawn, in the reference -/
theorem sp_it {B B2 : Hp} {t0 g n m : Nat} {f l3 l4 l5 l6 W v dr : Int32} (h : SB B w u ir M ty mn nu E Q V nL lc hd) (hs : BS B t0 0 dr) (ht : t0 + 5 < M) (hm : mn (t0 + 3) = nI m) (hmE : m < E 5 (E 4 0)) (hm48 : m < 48) (hk : E 6 m < 100) (hn : n < 4) (e : (X_RunE N 50).1 611 (atB B (t0 + 5)) = some (v, B2)) (hr2 : RB B2 w u ir M ty mn nu) : B_MRunner_spawns_63 N 611 (g + 1) f (nI n) l3 l4 l5 l6 W 1 B = B_MRunner_spawns_183 N 611 (fun l1 l2 l3 l4 l5 l6 l7 l8 H => B_MRunner_spawns_63 N 611 g l1 l2 l3 l4 l5 l6 l7 l8 H) f (nI n) (if n = 0 then (if E 6 m = 1 then byt v else v) else l3) (if n = 1 then (if E 6 m = 1 then byt v else v) else l4) (if n = 2 then (if E 6 m = 1 then byt v else v) else l5) (W ||| (nI m <<< (((8 : Int32) * nI n) &&& 31))) (if n = 3 then (if E 6 m = 1 then byt v else v) else l6) B2 := by
  have hr := h.1.1
  have hr1 := hr.ex (atB_s (i := t0 + 5))
  obtain ⟨t1, t2, t3, t4, t5, t6, t7⟩ := hr.T
  obtain ⟨s1, -⟩ := hr1.T
  have hT := hr1.2.1
  have hM := hr.2.2.2.2.2.2.2.1
  have hk13 : (atB B (t0 + 5)).D (w + 13) m = nI (E 6 m) := by
    rw [atB_s.1 (w + 13) m (fun y => by
      have := y.1
      have k3 := TA_19 hr.2.1
      rw [this, rS_611 hr.1] at k3
      exact absurd (congrArg Prod.fst (Option.some.inj k3)) (by decide))]
    exact h.2.2.2.1 m hmE
  rw [B_MRunner_spawns_63, if_neg (by decide), ck_t (rS_611 hr.1), bnd_t, hs.2.1, if_pos rfl, rf_t hr.2.2.2.1, ck_t t1, rf_t t6, bnd_t, hs.1, ar_t t7, show nI t0 + (3 : Int32) = nI (t0 + 3) from nI_ad t0 3, rdI (show t0 + 3 < 6002 by omega) (by decide), (hr.2.2.2.2.2.2.2.2 (t0 + 3) (by omega)).2.1, hm, bnd_t, show nI t0 + (5 : Int32) = nI (t0 + 5) from nI_ad t0 5, bnd_t, show B.sD 611 11 (nI (t0 + 5)) = atB B (t0 + 5) from rfl, rf_t hr1.2.2.2.1, ck_t s1, rf_t (TP_19 hT), ar_t (TA_19 hT), rdI hm48 (by decide), hk13, bC_t e, bC_t (ev_gvn hk), bnd_t]
  unfold B_MRunner_spawns_142 B_MRunner_spawns_155 B_MRunner_spawns_169
  have hc : n = 0 ∨ n = 1 ∨ n = 2 ∨ n = 3 := by omega
  rcases hc with rfl | rfl | rfl | rfl
  · rw [if_pos (show nI 0 = (0 : Int32) from rfl), if_neg (show ¬ nI 0 = (1 : Int32) by decide), if_neg (show ¬ nI 0 = (2 : Int32) by decide), if_neg (show ¬ nI 0 = (3 : Int32) by decide)]
    rfl
  · rw [if_neg (show ¬ nI 1 = (0 : Int32) by decide), if_pos (show nI 1 = (1 : Int32) from rfl), if_neg (show ¬ nI 1 = (2 : Int32) by decide), if_neg (show ¬ nI 1 = (3 : Int32) by decide)]
    rfl
  · rw [if_neg (show ¬ nI 2 = (0 : Int32) by decide), if_neg (show ¬ nI 2 = (1 : Int32) by decide), if_pos (show nI 2 = (2 : Int32) from rfl), if_neg (show ¬ nI 2 = (3 : Int32) by decide)]
    rfl
  · rw [if_neg (show ¬ nI 3 = (0 : Int32) by decide), if_neg (show ¬ nI 3 = (1 : Int32) by decide), if_neg (show ¬ nI 3 = (2 : Int32) by decide), if_pos (show nI 3 = (3 : Int32) from rfl)]
    rfl
/-- behind a part: a comma, or the end -/
theorem sp_183 {B : Hp} {j g n : Nat} {f l3 l4 l5 l6 W : Int32} (h : RB B w u ir M ty mn nu) (h11 : B.D 611 11 = nI j) (hj : j < M) : B_MRunner_spawns_183 N 611 (fun l1 l2 l3 l4 l5 l6 l7 l8 H => B_MRunner_spawns_63 N 611 g l1 l2 l3 l4 l5 l6 l7 l8 H) f (nI n) l3 l4 l5 W l6 B = (if ty j = 44 then B_MRunner_spawns_63 N 611 g f (nI (n + 1)) l3 l4 l5 l6 W 1 B else B_MRunner_spawns_63 N 611 g f (nI (n + 1)) l3 l4 l5 l6 W 0 (atB B (j + 1))) := by
  obtain ⟨t1, t2, t3, t4, t5, t6, t7⟩ := h.T
  have hM := h.2.2.2.2.2.2.2.1
  unfold B_MRunner_spawns_183 B_MRunner_spawns_210 B_MRunner_spawns_227
  rw [ck_t (rS_611 h.1), rf_t h.2.2.2.1, ck_t t1, rf_t t2, bnd_t, h11, ar_t t3, rdI (show j < 6002 by omega) (by decide), (h.2.2.2.2.2.2.2.2 j hj).1]
  by_cases q : ty j = 44
  · rw [if_pos q, if_pos q, ck_t (rS_611 h.1), bnd_t, if_neg (by decide), ck_t (rS_611 h.1), bnd_t, Int32.add_zero, sD_id h11, nI_1]
  · rw [if_neg q, if_neg q, ck_t (rS_611 h.1), bnd_t, if_pos rfl, ck_t (rS_611 h.1), bnd_t, nI_1, nI_1]
    rfl
theorem sp_234f {B : Hp} {f l2 l3 l4 l5 l6 l7 v : Int32} (hG : Gr B) (h11 : B.D 611 11 = v) (h10 : 0 < B.D 611 10) : B_MRunner_spawns_234 N 611 f l2 l3 l4 l5 l6 l7 B = some ((), B.sD 611 11 (v + 1)) := by
  have hG1 : Gr (B.sD 611 11 (v + 1)) := hG
  unfold B_MRunner_spawns_234
  rw [ck_t (rS_611 hG), bnd_t, h11, bnd_t, bC_t (ev_cmf hG1 (by rw [rdf (by decide)]; exact h10)), if_neg (by decide)]
/-- a part fails: the rest is passed over -/
theorem sp_fl {B : Hp} {j g n : Nat} {f l3 l4 l5 l6 W y : Int32} (h : RB B w u ir M ty mn nu) (h11 : B.D 611 11 = nI j) (hj : j < M) (h10 : B.D 611 10 = y) (hy : 0 < y) : ∃ B3, B_MRunner_spawns_183 N 611 (fun l1 l2 l3 l4 l5 l6 l7 l8 H => B_MRunner_spawns_63 N 611 (g + 1) l1 l2 l3 l4 l5 l6 l7 l8 H) f (nI n) l3 l4 l5 W l6 B = some ((), B3) ∧ same EXB B B3 ∧ B3.D 611 10 = y := by
  have ny : ¬ y = 0 := fun z => by rw [z] at hy; exact absurd hy (by decide)
  have e := sp_183 (N := N) (g := g + 1) (n := n) (f := f) (l3 := l3) (l4 := l4) (l5 := l5) (l6 := l6) (W := W) h h11 hj
  by_cases q : ty j = 44
  · rw [if_pos q, B_MRunner_spawns_63, if_neg (by decide), ck_t (rS_611 h.1), bnd_t, h10, if_neg ny, sp_234f h.1 h11 (by rw [h10]; exact hy)] at e
    exact ⟨_, e, same.sD same.rf ⟨rfl, by omega⟩, by rw [rdf (by decide)]; exact h10⟩
  · rw [if_neg q, B_MRunner_spawns_63, if_pos rfl, sp_234f (v := nI (j + 1)) (show Gr (atB B (j + 1)) from h.1) rds (by rw [show (atB B (j + 1)).D 611 10 = B.D 611 10 from rdf (by decide), h10]; exact hy)] at e
    exact ⟨_, e, same.sD atB_s ⟨rfl, by omega⟩, by rw [rdf (by decide), show (atB B (j + 1)).D 611 10 = B.D 611 10 from rdf (by decide)]; exact h10⟩
end Par
