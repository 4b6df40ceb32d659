/-! ===== for: the reference's loop ===== -/
/-- place x is met -/
def mt (Q : Nat → Nat → Nat) (V : Nat → Nat → Int32) (f c : Nat) (ne rad : Int32) (x : Nat) : Prop := x ≠ Q 4 0 ∧ (Q 1 x = 1 ∧ Q 2 x / 2 ^ c % 2 = 1) ∧ (ne = 1 → nrr (V 5 f) (V (100 + x) f) rad ∧ nrr (V 5 (f + 1)) (V (100 + x) (f + 1)) rad)
section Par
variable {N p wo inp cs w u ir M K0 : Nat} {s pl : Int32} {ty mn nu cd : Nat → Int32} {E Q : Nat → Nat → Nat} {V : Nat → Nat → Int32} {nL lc : Nat} {lk : Nat → Nat} {hd : Nat → Int32}
theorem ev_mnum {B : Hp} {x : Nat} (h : isU B u) (hx : x < 256) : F_MWorld_number N u (nI x) B = some ((256 : Int32) * B.D (u + 1) x + nI x, B) := by
  unfold F_MWorld_number
  rw [ck_t (US h), rf_t (UP_4 h), ar_t (UA_4 h), rdI hx (by decide)]
theorem num_q {a b x y : Nat} (ha : a < 8388608) (hb : b < 8388608) (hx : x < 256) (hy : y < 256) (h : nI (256 * a + x) = nI (256 * b + y)) : x = y := by
  have := (nI_eq (a := 256 * a + x) (b := 256 * b + y) (by omega) (by omega)).mp h
  omega
/-- is the other near? -/
theorem ev_isn {B : Hp} {x f : Nat} {rad a0 a1 b0 b1 : Int32} (h : RB B w u ir M ty mn nu) (hN : 10 ≤ N) (hx : x < 256) (hf : f + 1 < 48) (e0 : B.D 613 f = a0) (e1 : B.D 613 (f + 1) = a1) (g0 : B.D (u + 4) (48 * x + f) = b0) (g1 : B.D (u + 4) (48 * x + (f + 1)) = b1) : ∃ v, F_MRunner_isNear N 611 (nI x) (nI f) rad B = some (v, B) ∧ (v = 0 ↔ ¬ (nrr a0 b0 rad ∧ nrr a1 b1 rad)) := by
  have hU := h.2.2.1
  have one : ∀ (k n : Nat) (l : Int32) (a b : Int32), k + 1 ≤ f + 2 → k < 48 → B.D 613 k = a → B.D (u + 4) (48 * x + k) = b → ∃ v : Int32, (v = 0 ∨ v = 1) ∧ (v = 0 ↔ ¬ (l ≠ 0 ∧ nrr a b rad)) ∧ B_MRunner_isNear_6 N 611 (nI x) (nI f) rad (n + 1) l (nI k) B = B_MRunner_isNear_6 N 611 (nI x) (nI f) rad n v (nI (k + 1)) B := by
    intro k n l a b hk hk2 ea eb
    have s1 := sb64 b a
    have ba := b32 a
    have bb := b32 b
    have base : B_MRunner_isNear_6 N 611 (nI x) (nI f) rad (n + 1) l (nI k) B = (if l = (0 : Int32) then B_MRunner_isNear_67 N 611 (nI x) (nI f) rad (fun l4 l5 H => B_MRunner_isNear_6 N 611 (nI x) (nI f) rad n l4 l5 H) (nI k) B else if (0 : Int32) < lg_cmp (b.toInt64 - a.toInt64) rad.toInt64 then B_MRunner_isNear_67 N 611 (nI x) (nI f) rad (fun l4 l5 H => B_MRunner_isNear_6 N 611 (nI x) (nI f) rad n l4 l5 H) (nI k) B else if (0 : Int32) < lg_cmp (-(b.toInt64 - a.toInt64)) rad.toInt64 then B_MRunner_isNear_67 N 611 (nI x) (nI f) rad (fun l4 l5 H => B_MRunner_isNear_6 N 611 (nI x) (nI f) rad n l4 l5 H) (nI k) B else B_MRunner_isNear_68 N 611 (nI x) (nI f) rad (fun l4 l5 H => B_MRunner_isNear_6 N 611 (nI x) (nI f) rad n l4 l5 H) (nI k) 1 B) := by
      rw [B_MRunner_isNear_6, show nI f + (2 : Int32) = nI (f + 2) from nI_ad f 2, if_neg (nI_ge (by omega) (by omega)), ck_t (rS_611 h.1), rf_t h.2.2.2.2.1, ck_t (US hU), rf_t (UP_7 hU), ar_t (UA_7 hU), show (48 : Int32) * nI x + nI k = nI (48 * x + k) from nI_ma 48 x k, rdI (show 48 * x + k < 12288 by omega) (by decide), eb, rf_t (rP_611_13 h.1), ar_t (rA_611_13 h.1), rdI hk2 (by decide), ea, bnd_t]
    have p1 : ((0 : Int32) < lg_cmp (b.toInt64 - a.toInt64) rad.toInt64) ↔ ¬ (b.toInt - a.toInt ≤ rad.toInt) := by rw [lg_pos, Int64.lt_iff_toInt_lt, s1, t64]; omega
    have p2 : ((0 : Int32) < lg_cmp (-(b.toInt64 - a.toInt64)) rad.toInt64) ↔ ¬ (a.toInt - b.toInt ≤ rad.toInt) := by rw [lg_pos, Int64.lt_iff_toInt_lt, Int64.toInt_neg, s1, bmq (by omega) (by omega), t64]; omega
    unfold B_MRunner_isNear_67 B_MRunner_isNear_68 at base
    by_cases q : l = 0
    · rw [if_pos q, nI_1] at base
      exact ⟨0, .inl rfl, ⟨fun _ z => z.1 q, fun _ => rfl⟩, base⟩
    · rw [if_neg q] at base
      by_cases q1 : (0 : Int32) < lg_cmp (b.toInt64 - a.toInt64) rad.toInt64
      · rw [if_pos q1, nI_1] at base
        exact ⟨0, .inl rfl, ⟨fun _ z => p1.mp q1 z.2.2, fun _ => rfl⟩, base⟩
      · rw [if_neg q1] at base
        by_cases q2 : (0 : Int32) < lg_cmp (-(b.toInt64 - a.toInt64)) rad.toInt64
        · rw [if_pos q2, nI_1] at base
          exact ⟨0, .inl rfl, ⟨fun _ z => p2.mp q2 z.2.1, fun _ => rfl⟩, base⟩
        · rw [if_neg q2, nI_1] at base
          refine ⟨1, .inr rfl, ⟨fun z => absurd z (by decide), fun z => absurd ?_ z⟩, base⟩
          refine ⟨q, Decidable.byContradiction fun y => q2 (p2.mpr y), Decidable.byContradiction fun y => q1 (p1.mpr y)⟩
  obtain ⟨n, rfl⟩ : ∃ n, N = n + 1 + 1 + 1 := ⟨N - 3, by omega⟩
  obtain ⟨v1, w1, x1, y1⟩ := one f (n + 1 + 1) 1 a0 b0 (by omega) (by omega) e0 g0
  obtain ⟨v2, w2, x2, y2⟩ := one (f + 1) (n + 1) v1 a1 b1 (by omega) (by omega) e1 g1
  refine ⟨v2, ?_, ?_⟩
  · unfold F_MRunner_isNear
    rw [y1, y2, B_MRunner_isNear_6, show nI f + (2 : Int32) = nI (f + 2) from nI_ad f 2, if_pos (nI_le (by omega) (by omega)), ck_t (by rcases w2 with rfl | rfl <;> decide)]
  · rw [x2]
    constructor
    · intro z y
      exact z ⟨fun q => x1.mp q ⟨by decide, y.1⟩, y.2⟩
    · intro z y
      exact z ⟨Classical.byContradiction fun q => y.1 (x1.mpr (fun p => q p.2)), y.2⟩
theorem gs_end {B : Hp} {o : Orc_RunS} {op j : Nat} (h : RB B w u ir M ty mn nu) (ho : op < M) (hm : mn op = nI j) : B_MRunner_goes_234 N o 611 (nI op) B = some ((), atB (atB B op) (j + 1)) := by
  unfold B_MRunner_goes_234
  rw [ck_t (rS_611 h.1), bnd_t, show B.sD 611 11 (nI op) = atB B op from rfl, bC_t (ev_skp (h.ex atB_s) ho rds hm)]
theorem gs_stop {B : Hp} {o : Orc_RunS} {x g : Nat} {l1 l2 l3 l4 l5 : Int32} (hG : Gr B) (hx : x ≤ 256) (hs : 256 ≤ x ∨ ¬ B.D 611 10 = 0) : B_MRunner_goes_104 N o 611 (g + 1) l1 l2 l3 l4 l5 (nI x) B = B_MRunner_goes_234 N o 611 l5 B := by
  rw [B_MRunner_goes_104]
  by_cases q : 256 ≤ x
  · rw [if_pos (show (256 : Int32) ≤ nI x from nI_le (a := 256) q (by omega))]
  · rw [if_neg (show ¬ (256 : Int32) ≤ nI x from nI_ge (b := 256) (by omega) (by decide)), ck_t (rS_611 hG), bnd_t, if_neg (hs.resolve_left q)]
/-- one place -/
theorem gs_one {B : Hp} {o : Orc_RunS} {n0 x g c op f : Nat} {ne rad dr : Int32} {i0 : Nat} (hF : (FIX N p wo w u K0 M E)) (h : SB B w u ir M ty mn nu E Q V nL lc hd) (hs : BS B i0 0 dr) (hq0 : Q 4 0 < 256) (hself : V 9 0 = nI (256 * Q 0 (Q 4 0) + Q 4 0)) (hx : x < 256) (hc : c < E 4 0) (hne : ne = 0 ∨ ne = 1) (hf : E 5 c = f) (hnr : ne = 1 → mOf E c f ∧ mOf E c (f + 1) ∧ E 18 (E 17 0 - 1) / 2 ^ c % 2 = 1 ∧ E 21 (E 17 0 - 1) / 2 ^ c % 2 = 1) :
    (¬ mt Q V f c ne rad x → B_MRunner_goes_104 N o 611 (g + 1) (nI n0) (nI c) ne rad (nI op) (nI x) B = B_MRunner_goes_104 N o 611 g (nI n0) (nI c) ne rad (nI op) (nI (x + 1)) B) ∧
    (mt Q V f c ne rad x → B_MRunner_goes_104 N o 611 (g + 1) (nI n0) (nI c) ne rad (nI op) (nI x) B = B_MRunner_goes_192 N o 611 (fun l1 l2 l3 l4 l5 l6 H => B_MRunner_goes_104 N o 611 g l1 l2 l3 l4 l5 l6 H) (nI n0) (nI c) ne rad (nI op) (nI x) B) := by
  have hr := h.1.1
  have hU := hr.2.2.1
  have hP := h.1.2.1
  obtain ⟨p1, p2, p3, p4, p5⟩ := hP x hx
  obtain ⟨z1, z2, -⟩ := hP (Q 4 0) hq0
  have c16 : c < 16 := by have := hF.1.1; omega
  have hN := hF.2.2.1
  have hw := lT_le hF.2.2.2.2.2.1
  obtain ⟨t0, t1, t2, t3, t4, t5, t6⟩ := hr.T
  have hT := hr.2.1
  have s0 : B_MRunner_goes_104 N o 611 (g + 1) (nI n0) (nI c) ne rad (nI op) (nI x) B = (if B.D (u + 2) x = (0 : Int32) then B_MRunner_goes_104 N o 611 g (nI n0) (nI c) ne rad (nI op) (nI (x + 1)) B else if ((B.D (u + 3) x >>> (nI c &&& 31)) &&& (1 : Int32)) = (0 : Int32) then B_MRunner_goes_104 N o 611 g (nI n0) (nI c) ne rad (nI op) (nI (x + 1)) B else if (256 : Int32) * B.D (u + 1) x + nI x = B.D 611 6 then B_MRunner_goes_104 N o 611 g (nI n0) (nI c) ne rad (nI op) (nI (x + 1)) B else if ne = (0 : Int32) then B_MRunner_goes_192 N o 611 (fun l1 l2 l3 l4 l5 l6 H => B_MRunner_goes_104 N o 611 g l1 l2 l3 l4 l5 l6 H) (nI n0) (nI c) ne rad (nI op) (nI x) B else bC (F_MRunner_isNear N 611 (nI x) (nI f) rad B) fun v135 H136 => if v135 = (0 : Int32) then B_MRunner_goes_104 N o 611 g (nI n0) (nI c) ne rad (nI op) (nI (x + 1)) H136 else B_MRunner_goes_192 N o 611 (fun l1 l2 l3 l4 l5 l6 H => B_MRunner_goes_104 N o 611 g l1 l2 l3 l4 l5 l6 H) (nI n0) (nI c) ne rad (nI op) (nI x) H136) := by
    rw [B_MRunner_goes_104, if_neg (show ¬ (256 : Int32) ≤ nI x from nI_ge (b := 256) hx (by decide)), ck_t (rS_611 hr.1), bnd_t, hs.2.1, if_pos rfl, rf_t hr.2.2.2.2.1, ck_t (US hU), rf_t (UP_5 hU), ar_t (UA_5 hU), rdI hx (by decide), rf_t hr.2.2.2.2.1, ck_t (US hU), rf_t (UP_6 hU), ar_t (UA_6 hU), rdI hx (by decide), rf_t hr.2.2.2.2.1, ck_t (US hU), bC_t (ev_mnum hU hx), bnd_t, rf_t hr.2.2.2.1, ck_t t0, rf_t (TP_18 hT), ar_t (TA_18 hT), rdI (show c < 17 by omega) (by decide), h.2.2.1 c (by omega), hf]
    unfold B_MRunner_goes_228
    rw [nI_1]
  have es : (256 : Int32) * B.D (u + 1) x + nI x = nI (256 * Q 0 x + x) := by rw [p1]; exact nI_ma 256 _ _
  rw [s0, p4, es, h.1.2.2.2.1.1, hself]
  by_cases q1 : Q 1 x = 1
  · rw [if_pos q1, if_neg (show ¬ (1 : Int32) = 0 by decide), p5 q1]
    by_cases q2 : Q 2 x / 2 ^ c % 2 = 1
    · rw [if_neg (fun z => (nI_bit0 (by omega) (by omega)).mp z q2)]
      by_cases q3 : x = Q 4 0
      · rw [if_pos (by rw [q3])]
        exact ⟨fun _ => rfl, fun z => absurd q3 z.1⟩
      · rw [if_neg (fun z => q3 (num_q p2 z2 hx hq0 z))]
        rcases hne with rfl | rfl
        · rw [if_pos rfl]
          exact ⟨fun z => absurd ⟨q3, ⟨q1, q2⟩, fun y => absurd y (by decide)⟩ z, fun _ => rfl⟩
        · obtain ⟨n1, n2, n3, n4⟩ := hnr rfl
          rw [if_neg (by decide)]
          have l48 := mOf_lt hF.1 n2
          obtain ⟨v, e1, e2⟩ := ev_isn (N := N) (rad := rad) hr (by omega) hx l48.2.1 (h.1.2.2.2.2.2.1 c f n1 n3) (h.1.2.2.2.2.2.1 c (f + 1) n2 n3) (h.1.2.2.2.2.2.2.1 x c f hx q1 q2 n1 n4) (h.1.2.2.2.2.2.2.1 x c (f + 1) hx q1 q2 n2 n4)
          rw [bC_t e1]
          constructor
          · intro z
            rw [if_pos (e2.mpr (fun y => z ⟨q3, ⟨q1, q2⟩, fun _ => y⟩))]
          · intro z
            rw [if_neg (fun y => e2.mp y (z.2.2 rfl))]
    · rw [if_pos ((nI_bit0 (by omega) (by omega)).mpr q2)]
      exact ⟨fun _ => rfl, fun z => absurd z.2.1.2 q2⟩
  · rw [if_neg q1, if_pos rfl]
    exact ⟨fun _ => rfl, fun z => absurd z.2.1.1 q1⟩
end Par
