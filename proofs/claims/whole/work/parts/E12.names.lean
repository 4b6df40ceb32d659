/-! ===== the reference's people and names ===== -/
def PPB (Q : Nat → Nat → Nat) (B : Hp) (u : Nat) : Prop := ∀ q, q < 256 → B.D (u + 1) q = nI (Q 0 q) ∧ Q 0 q < 8388608 ∧ Q 2 q < 65536 ∧ B.D (u + 2) q = (if Q 1 q = 1 then 1 else 0) ∧ (Q 1 q = 1 → B.D (u + 3) q = nI (Q 2 q))
/-- the runner gave v and stands at j -/
def RO (r : Option (Int32 × Hp)) (B : Hp) (v : Int32) (j : Nat) (z dr : Int32) : Prop := ∃ B', r = some (v, B') ∧ same EXB B B' ∧ BS B' j z dr
section Par
variable {N w u ir M d : Nat} {ty mn nu : Nat → Int32} {Q : Nat → Nat → Nat}
theorem ev_malive {B : Hp} {v : Int32} (h : isU B u) (hP : PPB Q B u) : F_MWorld_isAlive N u v B = some (if liv Q v then 1 else 0, B) := by
  obtain ⟨a1, a2, a3, a4, a5⟩ := hP (lo8 v) lo8_lt
  unfold F_MWorld_isAlive
  rw [bnd_t, lo8_e, ck_t (US h), rf_t (UP_5 h), ar_t (UA_5 h), rdI lo8_lt (by decide), a4]
  by_cases q : Q 1 (lo8 v) = 1
  · rw [if_pos q, if_neg (show ¬ (1 : Int32) = 0 by decide)]
    unfold F_MWorld_number
    rw [ck_t (US h), rf_t (UP_4 h), ar_t (UA_4 h), rdI lo8_lt (by decide), a1, bC_v, show (256 : Int32) * nI (Q 0 (lo8 v)) + nI (lo8 v) = nI (256 * Q 0 (lo8 v) + lo8 v) from nI_ma 256 _ _]
    by_cases q2 : v = nI (256 * Q 0 (lo8 v) + lo8 v)
    · rw [if_pos q2.symm, if_pos ⟨q, q2⟩]
    · rw [if_neg (fun y => q2 y.symm), if_neg (fun y => q2 y.2)]
  · rw [if_neg q, if_pos rfl, if_neg (fun y => q y.1)]
theorem ev_mhas {B : Hp} {v : Int32} {c : Nat} (h : isU B u) (hP : PPB Q B u) (hc : c < 16) : F_MWorld_has N u v (nI c) B = some (if liv Q v ∧ Q 2 (lo8 v) / 2 ^ c % 2 = 1 then 1 else 0, B) := by
  obtain ⟨a1, a2, a3, a4, a5⟩ := hP (lo8 v) lo8_lt
  unfold F_MWorld_has
  rw [ck_t (US h), bC_t (ev_malive h hP)]
  by_cases q : liv Q v
  · rw [if_pos q, if_neg (show ¬ (1 : Int32) = 0 by decide), rf_t (UP_6 h), ar_t (UA_6 h), lo8_e, rdI lo8_lt (by decide), a5 q.1]
    simp only [nI_bit1 (m := Q 2 (lo8 v)) (c := c) (by omega) (by omega)]
    by_cases q2 : Q 2 (lo8 v) / 2 ^ c % 2 = 1
    · rw [if_pos q2, if_pos ⟨q, q2⟩]
    · rw [if_neg q2, if_neg (fun y => q2 y.2)]
  · rw [if_neg q, if_pos rfl, if_neg (fun y => q y.1)]
theorem RB.un {B : Hp} (h : RB B w u ir M ty mn nu) : u ≠ 611 ∧ u + 1 ≠ 611 ∧ u + 2 ≠ 611 ∧ u + 3 ≠ 611 ∧ u + 4 ≠ 611 ∧ u + 8 ≠ 611 := by
  have h2 := rS_611 h.1
  have hu := h.2.2.1
  refine ⟨fun z => ?_, fun z => ?_, fun z => ?_, fun z => ?_, fun z => ?_, fun z => ?_⟩
  · have k := US hu
    rw [z, h2] at k
    exact absurd (congrArg Prod.fst (Option.some.inj k)) (by decide)
  · have k := UA_4 hu
    rw [z, h2] at k
    exact absurd (congrArg Prod.fst (Option.some.inj k)) (by decide)
  · have k := UA_5 hu
    rw [z, h2] at k
    exact absurd (congrArg Prod.fst (Option.some.inj k)) (by decide)
  · have k := UA_6 hu
    rw [z, h2] at k
    exact absurd (congrArg Prod.fst (Option.some.inj k)) (by decide)
  · have k := UA_7 hu
    rw [z, h2] at k
    exact absurd (congrArg Prod.fst (Option.some.inj k)) (by decide)
  · have k := UA_12 hu
    rw [z, h2] at k
    exact absurd (congrArg Prod.fst (Option.some.inj k)) (by decide)
theorem PPB.ex {B B' : Hp} (hP : PPB Q B u) (h : RB B w u ir M ty mn nu) (hs : same EXB B B') : PPB Q B' u := fun q hq => by
  obtain ⟨_, u1, u2, u3, _⟩ := h.un
  rw [hs.1 _ _ (fun z => u1 z.1), hs.1 _ _ (fun z => u2 z.1), hs.1 _ _ (fun z => u3 z.1)]
  exact hP q hq
/-- the start of a name -/
theorem r_nm {B : Hp} {i n : Nat} (h : RB B w u ir M ty mn nu) (h11 : B.D 611 11 = nI (i + 1)) (hi : i + 1 < M) (hm : mn i = nI n) (hn : n < 12) (h46 : ¬ ty (i + 1) = 46) : F_MRunner_named N 611 (nI i) B = some (B.D 614 n, B) := by
  obtain ⟨t0, t1, t2, t3, t4, t5, t6⟩ := h.T
  have hM := h.2.2.2.2.2.2.2.1
  unfold F_MRunner_named
  rw [ck_t (rS_611 h.1), rf_t h.2.2.2.1, ck_t t0, rf_t t5, ar_t t6, rdI (show i < 6002 by omega) (by decide), (h.2.2.2.2.2.2.2.2 i (by omega)).2.1, hm, rf_t h.2.2.2.1, ck_t t0, rf_t t1, bnd_t, h11, ar_t t2, rdI (show i + 1 < 6002 by omega) (by decide), (h.2.2.2.2.2.2.2.2 (i + 1) (by omega)).1, if_neg h46, rf_t (rP_611_14 h.1), ar_t (rA_611_14 h.1), rdI hn (by decide)]
theorem r_own {B : Hp} {i m : Nat} {z dr : Int32} (h : RB B w u ir M ty mn nu) (hs : BS B (i + 1) z dr) (hi : i + 3 < M) (h46 : ty (i + 1) = 46) (hn : nu i = 2) (hm : mn (i + 2) = nI m) (hm2 : m < 48) : RO (F_MRunner_named N 611 (nI i) B) B (B.D 613 m) (i + 3) z dr := by
  obtain ⟨t0, t1, t2, t3, t4, t5, t6⟩ := h.T
  have hM := h.2.2.2.2.2.2.2.1
  have h11 := hs.1
  refine ⟨atB B (i + 3), ?_, atB_s, atB_S hs⟩
  have hx := h.ex (atB_s (i := i + 3))
  obtain ⟨k0, k1, k2, k3, k4, k5, k6⟩ := hx.T
  unfold F_MRunner_named
  rw [ck_t (rS_611 h.1), rf_t h.2.2.2.1, ck_t t0, rf_t t5, ar_t t6, rdI (show i < 6002 by omega) (by decide), rf_t h.2.2.2.1, ck_t t0, rf_t t1, bnd_t, h11, ar_t t2, rdI (show i + 1 < 6002 by omega) (by decide), (h.2.2.2.2.2.2.2.2 (i + 1) (by omega)).1, if_pos h46, rf_t h.2.2.2.1, ck_t t0, rf_t t5, bnd_t, ar_t t6, nI_1, rdI (show i + 1 + 1 < 6002 by omega) (by decide), show B.D (w + 7) (i + 1 + 1) = nI m from (h.2.2.2.2.2.2.2.2 (i + 2) (by omega)).2.1.trans hm, rf_t h.2.2.2.1, ck_t t0, rf_t t3, ar_t t4, rdI (show i < 6002 by omega) (by decide), (h.2.2.2.2.2.2.2.2 i (by omega)).2.2, hn, if_neg (show ¬ (2 : Int32) = 1 by decide), bnd_t, bnd_t, show nI (i + 1) + 2 = nI (i + 3) from nI_ad (i + 1) 2, show B.sD 611 11 (nI (i + 3)) = atB B (i + 3) from rfl, rf_t hx.2.2.2.1, ck_t k0, rf_t k3, ar_t k4, rdI (show i < 6002 by omega) (by decide), (hx.2.2.2.2.2.2.2.2 i (by omega)).2.2, hn, if_neg (show ¬ (2 : Int32) = 3 by decide), rf_t (rP_611_13 hx.1), ar_t (rA_611_13 hx.1), rdI hm2 (by decide), show (atB B (i + 3)).D 613 m = B.D 613 m from rdw (by decide)]
theorem r_hrd {B : Hp} {i e q k : Nat} {z dr : Int32} (h : RB B w u ir M ty mn nu) (hs : BS B (i + 1) z dr) (hi : i + 3 < M) (h46 : ty (i + 1) = 46) (hn : nu i = 3) (he : mn i = nI e) (he8 : e < 8) (hm : mn (i + 2) = nI q) (hq : q < 4) (hk : B.D 615 e = nI k) (hk2 : k < 256) : RO (F_MRunner_named N 611 (nI i) B) B (B.D (u + 8) (4 * k + q)) (i + 3) z dr := by
  obtain ⟨t0, t1, t2, t3, t4, t5, t6⟩ := h.T
  have hM := h.2.2.2.2.2.2.2.1
  have h11 := hs.1
  refine ⟨atB B (i + 3), ?_, atB_s, atB_S hs⟩
  have hx := h.ex (atB_s (i := i + 3))
  obtain ⟨k0, k1, k2, k3, k4, k5, k6⟩ := hx.T
  unfold F_MRunner_named
  rw [ck_t (rS_611 h.1), rf_t h.2.2.2.1, ck_t t0, rf_t t5, ar_t t6, rdI (show i < 6002 by omega) (by decide), (h.2.2.2.2.2.2.2.2 i (by omega)).2.1, he, rf_t h.2.2.2.1, ck_t t0, rf_t t1, bnd_t, h11, ar_t t2, rdI (show i + 1 < 6002 by omega) (by decide), (h.2.2.2.2.2.2.2.2 (i + 1) (by omega)).1, if_pos h46, rf_t h.2.2.2.1, ck_t t0, rf_t t5, bnd_t, ar_t t6, nI_1, rdI (show i + 1 + 1 < 6002 by omega) (by decide), show B.D (w + 7) (i + 1 + 1) = nI q from (h.2.2.2.2.2.2.2.2 (i + 2) (by omega)).2.1.trans hm, rf_t h.2.2.2.1, ck_t t0, rf_t t3, ar_t t4, rdI (show i < 6002 by omega) (by decide), (h.2.2.2.2.2.2.2.2 i (by omega)).2.2, hn, if_neg (show ¬ (3 : Int32) = 1 by decide), bnd_t, bnd_t, show nI (i + 1) + 2 = nI (i + 3) from nI_ad (i + 1) 2, show B.sD 611 11 (nI (i + 3)) = atB B (i + 3) from rfl, rf_t hx.2.2.2.1, ck_t k0, rf_t k3, ar_t k4, rdI (show i < 6002 by omega) (by decide), (hx.2.2.2.2.2.2.2.2 i (by omega)).2.2, hn, if_pos rfl, rf_t hx.2.2.2.2.1, ck_t (US hx.2.2.1), rf_t (UP_12 hx.2.2.1), rf_t (rP_611_15 hx.1), ar_t (rA_611_15 hx.1), rdI he8 (by decide), show (atB B (i + 3)).D 615 e = nI k from (rdw (by decide)).trans hk, ar_t (UA_12 hx.2.2.1), show (4 : Int32) * nI k + nI q = nI (4 * k + q) from nI_ma 4 k q, rdI (show 4 * k + q < 1024 by omega) (by decide), show (atB B (i + 3)).D (u + 8) (4 * k + q) = B.D (u + 8) (4 * k + q) from rdw h.un.2.2.2.2.2]
theorem r_far0 {B : Hp} {i : Nat} {z dr : Int32} (h : RB B w u ir M ty mn nu) (hs : BS B (i + 1) z dr) (hi : i + 5 < M) (h46 : ty (i + 1) = 46) (hn : nu i = 1) : F_MRunner_named N 611 (nI i) B = (if z ≤ 0 then
    rf ((atB B (i + 5)).P 611 1) fun a56 => rf ((atB B (i + 5)).P 611 14) fun a58 => ar (atB B (i + 5)) 100 a58 fun n60 => ck (inb (mn i) n60) <| bnd ((atB B (i + 5)).D a58 (mn i).toNatClampNeg) fun x63 => ck ((atB B (i + 5)).sh[a56]? = some (13, 0)) <| bC (F_MWorld_has N a56 x63 (mn (i + 2)) (atB B (i + 5))) fun v66 H67 => if v66 = (0 : Int32) then bC (F_MRunner_fails N 611 (3 : Int32) H67) fun v85 H86 => some (0, H86) else rf (H67.P 611 1) fun a69 => ck (H67.sh[a69]? = some (13, 0)) <| rf (H67.P a69 7) fun a72 => rf (H67.P 611 14) fun a74 => ar H67 100 a74 fun n76 => ck (inb (mn i) n76) <| bnd ((H67.D a74 (mn i).toNatClampNeg)) fun x79 => ar H67 100 a72 fun n80 => ck (inb (((48 : Int32) * (x79 &&& (255 : Int32))) + mn (i + 4)) n80) <| bnd ((H67.D a72 ((((48 : Int32) * (x79 &&& (255 : Int32))) + mn (i + 4))).toNatClampNeg)) fun x83 => some (x83, H67)
    else some (0, atB B (i + 5))) := by
  obtain ⟨t0, t1, t2, t3, t4, t5, t6⟩ := h.T
  have hM := h.2.2.2.2.2.2.2.1
  have h11 := hs.1
  have hx := h.ex (atB_s (i := i + 5))
  have h12 : (atB B (i + 5)).D 611 12 = z := (atB_S (j := i + 5) hs).2.2.1
  unfold F_MRunner_named
  rw [ck_t (rS_611 h.1), rf_t h.2.2.2.1, ck_t t0, rf_t t5, ar_t t6, rdI (show i < 6002 by omega) (by decide), (h.2.2.2.2.2.2.2.2 i (by omega)).2.1, rf_t h.2.2.2.1, ck_t t0, rf_t t1, bnd_t, h11, ar_t t2, rdI (show i + 1 < 6002 by omega) (by decide), (h.2.2.2.2.2.2.2.2 (i + 1) (by omega)).1, if_pos h46, rf_t h.2.2.2.1, ck_t t0, rf_t t5, bnd_t, ar_t t6, nI_1, rdI (show i + 1 + 1 < 6002 by omega) (by decide), show B.D (w + 7) (i + 1 + 1) = mn (i + 2) from (h.2.2.2.2.2.2.2.2 (i + 2) (by omega)).2.1, rf_t h.2.2.2.1, ck_t t0, rf_t t3, ar_t t4, rdI (show i < 6002 by omega) (by decide), (h.2.2.2.2.2.2.2.2 i (by omega)).2.2, hn, if_pos rfl, rf_t h.2.2.2.1, ck_t t0, rf_t t5, bnd_t, ar_t t6, show nI (i + 1) + 3 = nI (i + 4) from nI_ad (i + 1) 3, rdI (show i + 4 < 6002 by omega) (by decide), show B.D (w + 7) (i + 4) = mn (i + 4) from (h.2.2.2.2.2.2.2.2 (i + 4) (by omega)).2.1, bnd_t, bnd_t, show nI (i + 1) + 4 = nI (i + 5) from nI_ad (i + 1) 4, show B.sD 611 11 (nI (i + 5)) = atB B (i + 5) from rfl, bnd_t, h12]
theorem r_far {B : Hp} {i n c m : Nat} {dr : Int32} (h : RB B w u ir M ty mn nu) (hs : BS B (i + 1) 0 dr) (hP : PPB Q B u) (hi : i + 5 < M) (h46 : ty (i + 1) = 46) (hn : nu i = 1) (hl : mn i = nI n) (hl2 : n < 12) (hc : mn (i + 2) = nI c) (hc2 : c < 16) (hm : mn (i + 4) = nI m) (hm2 : m < 48) : (liv Q (B.D 614 n) ∧ Q 2 (lo8 (B.D 614 n)) / 2 ^ c % 2 = 1 → RO (F_MRunner_named N 611 (nI i) B) B (B.D (u + 4) (48 * lo8 (B.D 614 n) + m)) (i + 5) 0 dr) ∧ (¬ (liv Q (B.D 614 n) ∧ Q 2 (lo8 (B.D 614 n)) / 2 ^ c % 2 = 1) → ∃ B', F_MRunner_named N 611 (nI i) B = some (0, B') ∧ same EXB B B' ∧ B'.D 611 10 = 3 ∧ B'.D 611 11 = nI (i + 5)) := by
  have hx := h.ex (atB_s (i := i + 5))
  have hPx := hP.ex h (atB_s (i := i + 5))
  have e14 : (atB B (i + 5)).D 614 n = B.D 614 n := rdw (by decide)
  have l8 : lo8 (B.D 614 n) < 256 := lo8_lt
  have e := r_far0 (N := N) h hs hi h46 hn
  rw [if_pos (show (0 : Int32) ≤ 0 by decide), rf_t hx.2.2.2.2.1, rf_t (rP_611_14 hx.1), ar_t (rA_611_14 hx.1), hl, rdI hl2 (by decide), e14, ck_t (US hx.2.2.1), hc, bC_t (ev_mhas hx.2.2.1 hPx hc2)] at e
  constructor
  · intro y
    rw [if_pos y, if_neg (show ¬ (1 : Int32) = 0 by decide), rf_t hx.2.2.2.2.1, ck_t (US hx.2.2.1), rf_t (UP_7 hx.2.2.1), rf_t (rP_611_14 hx.1), ar_t (rA_611_14 hx.1), rdI hl2 (by decide), e14, ar_t (UA_7 hx.2.2.1), lo8_e, hm, show (48 : Int32) * nI (lo8 (B.D 614 n)) + nI m = nI (48 * lo8 (B.D 614 n) + m) from nI_ma 48 _ m, rdI (show 48 * lo8 (B.D 614 n) + m < 12288 by omega) (by decide), show (atB B (i + 5)).D (u + 4) (48 * lo8 (B.D 614 n) + m) = B.D (u + 4) (48 * lo8 (B.D 614 n) + m) from rdw h.un.2.2.2.2.1] at e
    exact ⟨_, e, atB_s, atB_S hs⟩
  · intro y
    rw [if_neg y, if_pos rfl] at e
    have e10 : (atB B (i + 5)).D 611 10 = 0 := (atB_S (j := i + 5) hs).2.1
    have ef : F_MRunner_fails N 611 (3 : Int32) (atB B (i + 5)) = some ((), (atB B (i + 5)).sD 611 10 3) := by
      unfold F_MRunner_fails
      rw [ck_t (rS_611 hx.1), bnd_t, e10, if_pos rfl, bnd_t]
    rw [bC_t ef] at e
    exact ⟨_, e, same.sD atB_s ⟨rfl, by omega⟩, rds, by rw [rdf (by decide)]; exact rds⟩
theorem r_fari {B : Hp} {i : Nat} {z dr : Int32} (h : RB B w u ir M ty mn nu) (hs : BS B (i + 1) z dr) (hz : ¬ z ≤ 0) (hi : i + 5 < M) (h46 : ty (i + 1) = 46) (hn : nu i = 1) : RO (F_MRunner_named N 611 (nI i) B) B 0 (i + 5) z dr := by
  have e := r_far0 (N := N) h hs hi h46 hn
  rw [if_neg hz] at e
  exact ⟨_, e, atB_s, atB_S hs⟩
end Par
