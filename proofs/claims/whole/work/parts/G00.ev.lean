/-! ===== the reference's reader: row w + 16 (sizes of events) and a fault are kept (written by gen_ev.py) ===== -/
def Ev (w : Nat) (H K : Hp) : Prop := isT H w → isT K w ∧ (∀ f, K.D (w + 16) f = H.D (w + 16) f) ∧ (¬ H.D w 9 ≤ 0 → ¬ K.D w 9 ≤ 0)
theorem Ev.rf {w : Nat} (H : Hp) : Ev w H H := fun h => ⟨h, fun _ => rfl, id⟩
theorem Ev.tr {w : Nat} {H K M : Hp} (h1 : Ev w H K) (h2 : Ev w K M) : Ev w H M := fun h => ⟨(h2 (h1 h).1).1, fun f => by rw [(h2 (h1 h).1).2.1, (h1 h).2.1], fun y => (h2 (h1 h).1).2.2 ((h1 h).2.2 y)⟩
theorem Ev.tr' {w : Nat} {H K M : Hp} (h1 : Ev w H K) (h2 : isT H w → Ev w K M) : Ev w H M := fun h => (h1.tr (h2 h)) h
theorem rP_i {w k a b : Nat} {H : Hp} (h : H.P w k = .ref b) (e : H.P w k = .ref a) : a = b := by
  have := h.symm.trans e
  injection this with this
  exact this.symm
theorem Ev.w {w a f : Nat} {v : Int32} {H K : Hp} (h1 : Ev w H K) (h : isT H w → a ≠ w + 16 ∧ ¬ (a = w ∧ f = 9)) : Ev w H (K.sD a f v) := fun hi => ⟨(h1 hi).1, fun g => by rw [rdw (fun y => (h hi).1 y.symm)]; exact (h1 hi).2.1 g, fun y => by rw [rdnn (fun z => (h hi).2 ⟨z.1.symm, z.2.symm⟩)]; exact (h1 hi).2.2 y⟩
theorem nT_0 {w a : Nat} {H : Hp} (h : isT H w) (e : H.P w 0 = .ref a) : a ≠ w + 16 ∧ a ≠ w := by
  have := rP_i (TP_0 h) e
  omega
theorem nT_3 {w a : Nat} {H : Hp} (h : isT H w) (e : H.P w 3 = .ref a) : a ≠ w + 16 ∧ a ≠ w := by
  have := rP_i (TP_3 h) e
  omega
theorem nT_4 {w a : Nat} {H : Hp} (h : isT H w) (e : H.P w 4 = .ref a) : a ≠ w + 16 ∧ a ≠ w := by
  have := rP_i (TP_4 h) e
  omega
theorem nT_5 {w a : Nat} {H : Hp} (h : isT H w) (e : H.P w 5 = .ref a) : a ≠ w + 16 ∧ a ≠ w := by
  have := rP_i (TP_5 h) e
  omega
theorem nT_6 {w a : Nat} {H : Hp} (h : isT H w) (e : H.P w 6 = .ref a) : a ≠ w + 16 ∧ a ≠ w := by
  have := rP_i (TP_6 h) e
  omega
theorem nT_7 {w a : Nat} {H : Hp} (h : isT H w) (e : H.P w 7 = .ref a) : a ≠ w + 16 ∧ a ≠ w := by
  have := rP_i (TP_7 h) e
  omega
theorem nT_8 {w a : Nat} {H : Hp} (h : isT H w) (e : H.P w 8 = .ref a) : a ≠ w + 16 ∧ a ≠ w := by
  have := rP_i (TP_8 h) e
  omega
theorem nT_13 {w a : Nat} {H : Hp} (h : isT H w) (e : H.P w 13 = .ref a) : a ≠ w + 16 ∧ a ≠ w := by
  have := rP_i (TP_13 h) e
  omega
theorem nT_14 {w a : Nat} {H : Hp} (h : isT H w) (e : H.P w 14 = .ref a) : a ≠ w + 16 ∧ a ≠ w := by
  have := rP_i (TP_14 h) e
  omega
theorem nT_15 {w a : Nat} {H : Hp} (h : isT H w) (e : H.P w 15 = .ref a) : a ≠ w + 16 ∧ a ≠ w := by
  have := rP_i (TP_15 h) e
  omega
theorem nT_17 {w a : Nat} {H : Hp} (h : isT H w) (e : H.P w 17 = .ref a) : a ≠ w + 16 ∧ a ≠ w := by
  have := rP_i (TP_17 h) e
  omega
theorem nT_18 {w a : Nat} {H : Hp} (h : isT H w) (e : H.P w 18 = .ref a) : a ≠ w + 16 ∧ a ≠ w := by
  have := rP_i (TP_18 h) e
  omega
theorem nT_19 {w a : Nat} {H : Hp} (h : isT H w) (e : H.P w 19 = .ref a) : a ≠ w + 16 ∧ a ≠ w := by
  have := rP_i (TP_19 h) e
  omega
theorem nT_20 {w a : Nat} {H : Hp} (h : isT H w) (e : H.P w 20 = .ref a) : a ≠ w + 16 ∧ a ≠ w := by
  have := rP_i (TP_20 h) e
  omega
theorem nT_22 {w a : Nat} {H : Hp} (h : isT H w) (e : H.P w 22 = .ref a) : a ≠ w + 16 ∧ a ≠ w := by
  have := rP_i (TP_22 h) e
  omega
theorem nT_24 {w a : Nat} {H : Hp} (h : isT H w) (e : H.P w 24 = .ref a) : a ≠ w + 16 ∧ a ≠ w := by
  have := rP_i (TP_24 h) e
  omega
theorem nT_25 {w a : Nat} {H : Hp} (h : isT H w) (e : H.P w 25 = .ref a) : a ≠ w + 16 ∧ a ≠ w := by
  have := rP_i (TP_25 h) e
  omega
theorem nT_27 {w a : Nat} {H : Hp} (h : isT H w) (e : H.P w 27 = .ref a) : a ≠ w + 16 ∧ a ≠ w := by
  have := rP_i (TP_27 h) e
  omega
theorem nT_28 {w a : Nat} {H : Hp} (h : isT H w) (e : H.P w 28 = .ref a) : a ≠ w + 16 ∧ a ≠ w := by
  have := rP_i (TP_28 h) e
  omega
theorem nT_30 {w a : Nat} {H : Hp} (h : isT H w) (e : H.P w 30 = .ref a) : a ≠ w + 16 ∧ a ≠ w := by
  have := rP_i (TP_30 h) e
  omega
theorem nT_31 {w a : Nat} {H : Hp} (h : isT H w) (e : H.P w 31 = .ref a) : a ≠ w + 16 ∧ a ≠ w := by
  have := rP_i (TP_31 h) e
  omega
theorem nT_32 {w a : Nat} {H : Hp} (h : isT H w) (e : H.P w 32 = .ref a) : a ≠ w + 16 ∧ a ≠ w := by
  have := rP_i (TP_32 h) e
  omega
theorem nT_33 {w a : Nat} {H : Hp} (h : isT H w) (e : H.P w 33 = .ref a) : a ≠ w + 16 ∧ a ≠ w := by
  have := rP_i (TP_33 h) e
  omega
theorem nT_34 {w a : Nat} {H : Hp} (h : isT H w) (e : H.P w 34 = .ref a) : a ≠ w + 16 ∧ a ≠ w := by
  have := rP_i (TP_34 h) e
  omega
theorem nT_35 {w a : Nat} {H : Hp} (h : isT H w) (e : H.P w 35 = .ref a) : a ≠ w + 16 ∧ a ≠ w := by
  have := rP_i (TP_35 h) e
  omega
theorem nT_36 {w a : Nat} {H : Hp} (h : isT H w) (e : H.P w 36 = .ref a) : a ≠ w + 16 ∧ a ≠ w := by
  have := rP_i (TP_36 h) e
  omega
theorem nT_38 {w a : Nat} {H : Hp} (h : isT H w) (e : H.P w 38 = .ref a) : a ≠ w + 16 ∧ a ≠ w := by
  have := rP_i (TP_38 h) e
  omega
theorem nT_39 {w a : Nat} {H : Hp} (h : isT H w) (e : H.P w 39 = .ref a) : a ≠ w + 16 ∧ a ≠ w := by
  have := rP_i (TP_39 h) e
  omega
theorem nT_40 {w a : Nat} {H : Hp} (h : isT H w) (e : H.P w 40 = .ref a) : a ≠ w + 16 ∧ a ≠ w := by
  have := rP_i (TP_40 h) e
  omega
theorem e_MText_fails {N p0 : Nat} {p1 p2 : Int32} {H : Hp} {r : Unit × Hp} (hF : F_MText_fails N p0 p1 p2 H = some r) : Ev p0 H r.2 := by
  unfold F_MText_fails at hF
  intro hi
  obtain ⟨q1, hG⟩ := ck_s hF
  obtain ⟨x2, e2, hG⟩ := bnd_g hG
  rcases ite_s hG with ⟨q, hF⟩ | ⟨q, hF⟩
  · obtain ⟨H4, e4, hF⟩ := bnd_g hF
    obtain ⟨a5, e5, hF⟩ := rf_s hF
    obtain ⟨n7, q7, hF⟩ := ar_s hF
    obtain ⟨q8, hF⟩ := ck_s hF
    obtain ⟨x10, -, hF⟩ := bnd_g hF
    obtain ⟨H11, e11, hF⟩ := bnd_g hF
    have hr := Option.some.inj hF; subst hr
    rw [e2] at q
    refine ⟨?_, fun f => ?_, fun y => absurd q y⟩
    · rw [e11, e4]; exact hi
    · rw [e11, e4, rdw (by omega), rdw (by omega)]
  · have hr := Option.some.inj hF; subst hr
    exact ⟨hi, fun _ => rfl, id⟩
set_option maxRecDepth 20000 in
set_option maxHeartbeats 2000000 in
theorem e_Pre_checkIndex {N wz : Nat} {i n : Int32} {H : Hp} {r : Int32 × Hp} (hF : F_Pre_checkIndex N i n H = some r) : Ev wz H r.2 := by
  obtain ⟨-, hF⟩ := ck_s hF
  obtain ⟨-, hF⟩ := ck_s hF
  cases hF
  exact Ev.rf (w := wz) _
set_option maxRecDepth 20000 in
set_option maxHeartbeats 2000000 in
theorem e_Str_checkIndex {N wz : Nat} {p0 : Int32} {p1 : Int32} {H : Hp} {r : Unit × Hp} (hF : F_Str_checkIndex N p0 p1 H = some r) : Ev wz H r.2 := by
  unfold F_Str_checkIndex at hF
  have hm := Ev.rf (w := wz) H
  obtain ⟨v7, H8, z6, hG⟩ := bC_s hF; clear hF
  replace hm : Ev wz H H8 := hm.tr (e_Pre_checkIndex z6)
  have hr := Option.some.inj hG; subst hr
  exact hm
set_option maxRecDepth 20000 in
set_option maxHeartbeats 2000000 in
theorem e_Str_coder_K0 {N wz : Nat}  {H : Hp} {r : Int32 × Hp} (hF : F_Str_coder_K0 N  H = some r) : Ev wz H r.2 := by
  unfold F_Str_coder_K0 at hF
  have hm := Ev.rf (w := wz) H
  rcases ite_s hF with ⟨q_1, hG⟩ | ⟨q_1, hG⟩
  · clear hF
    have hr := Option.some.inj hG; subst hr
    exact hm
  · clear hF
    have hr := Option.some.inj hG; subst hr
    exact hm
set_option maxRecDepth 20000 in
set_option maxHeartbeats 2000000 in
theorem e_Str_length_K0 {N wz : Nat}  {H : Hp} {r : Int32 × Hp} (hF : F_Str_length_K0 N  H = some r) : Ev wz H r.2 := by
  unfold F_Str_length_K0 at hF
  have hm := Ev.rf (w := wz) H
  obtain ⟨v5, H6, z4, hG⟩ := bC_s hF; clear hF
  replace hm : Ev wz H H6 := hm.tr (e_Str_coder_K0 z4)
  have hr := Option.some.inj hG; subst hr
  exact hm
set_option maxRecDepth 20000 in
set_option maxHeartbeats 2000000 in
theorem e_Str_isLatin1_K0 {N wz : Nat}  {H : Hp} {r : Int32 × Hp} (hF : F_Str_isLatin1_K0 N  H = some r) : Ev wz H r.2 := by
  unfold F_Str_isLatin1_K0 at hF
  have hm := Ev.rf (w := wz) H
  rcases ite_s hF with ⟨q_1, hG⟩ | ⟨q_1, hG⟩
  · clear hF
    have hr := Option.some.inj hG; subst hr
    exact hm
  · clear hF
    rcases ite_s hG with ⟨q_2, hF⟩ | ⟨q_2, hF⟩
    · clear hG
      have hr := Option.some.inj hF; subst hr
      exact hm
    · clear hG
      have hr := Option.some.inj hF; subst hr
      exact hm
set_option maxRecDepth 20000 in
set_option maxHeartbeats 2000000 in
theorem e_SL_charAt_K100 {N wz : Nat} {p1 : Int32} {H : Hp} {r : Int32 × Hp} (hF : F_SL_charAt_K100 N p1 H = some r) : Ev wz H r.2 := by
  unfold F_SL_charAt_K100 at hF
  have hm := Ev.rf (w := wz) H
  obtain ⟨v9, H10, z8, hG⟩ := bC_s hF; clear hF
  replace hm : Ev wz H H10 := hm.tr (e_Str_checkIndex z8)
  obtain ⟨q11, hF⟩ := ck_s hG; clear hG
  obtain ⟨x12, -, hG⟩ := bnd_g hF; clear hF
  obtain ⟨x13, -, hF⟩ := bnd_g hG; clear hG
  obtain ⟨q14, hG⟩ := ck_s hF; clear hF
  have hr := Option.some.inj hG; subst hr
  exact hm
set_option maxRecDepth 20000 in
set_option maxHeartbeats 2000000 in
theorem e_Str_charAt_K0 {N wz : Nat} {p1 : Int32} {H : Hp} {r : Int32 × Hp} (hF : F_Str_charAt_K0 N p1 H = some r) : Ev wz H r.2 := by
  unfold F_Str_charAt_K0 at hF
  have hm := Ev.rf (w := wz) H
  obtain ⟨v10, H11, z9, hG⟩ := bC_s hF; clear hF
  replace hm : Ev wz H H11 := hm.tr (e_Str_isLatin1_K0 z9)
  rcases ite_s hG with ⟨q_4, hF⟩ | ⟨q_4, hF⟩
  · clear hG
    cases hF
  · clear hG
    obtain ⟨v14, H15, z13, hG⟩ := bC_s hF; clear hF
    replace hm : Ev wz H H15 := hm.tr (e_SL_charAt_K100 z13)
    obtain ⟨q16, hF⟩ := ck_s hG; clear hG
    have hr := Option.some.inj hF; subst hr
    exact hm
set_option maxRecDepth 20000 in
set_option maxHeartbeats 2000000 in
theorem eB_MText_skips_102 {N : Nat} {p0 : Nat} {p1 : Int32} {kq4 : Int32 → Int32 → Hp → Option (Int32 × Hp)} (hm4 : ∀ (l2 : Int32) (l3 : Int32) (H : Hp) (r : Int32 × Hp), kq4 l2 l3 H = some r → Ev p0 H r.2) {l2 : Int32} {l3 : Int32} {H : Hp} {r : Int32 × Hp} (hF : B_MText_skips_102 N p0 p1 kq4 l2 l3 H = some r) : Ev p0 H r.2 := by
  unfold B_MText_skips_102 at hF
  have hm := Ev.rf (w := p0) H
  exact hm.tr (hm4 l2 l3 H r hF)
set_option maxRecDepth 20000 in
set_option maxHeartbeats 2000000 in
theorem eB_MText_skips_100 {N : Nat} {p0 : Nat} {p1 : Int32} {kq4 : Int32 → Int32 → Hp → Option (Int32 × Hp)} (hm4 : ∀ (l2 : Int32) (l3 : Int32) (H : Hp) (r : Int32 × Hp), kq4 l2 l3 H = some r → Ev p0 H r.2) {l3 : Int32} {w0 : Int32} {w1 : Int32} {H : Hp} {r : Int32 × Hp} (hF : B_MText_skips_100 N p0 p1 kq4 l3 w0 w1 H = some r) : Ev p0 H r.2 := by
  unfold B_MText_skips_100 at hF
  have hm := Ev.rf (w := p0) H
  exact hm.tr (eB_MText_skips_102 hm4 hF)
set_option maxRecDepth 20000 in
set_option maxHeartbeats 2000000 in
theorem eB_MText_skips_89 {N : Nat} {p0 : Nat} {p1 : Int32} {kq4 : Int32 → Int32 → Hp → Option (Int32 × Hp)} (hm4 : ∀ (l2 : Int32) (l3 : Int32) (H : Hp) (r : Int32 × Hp), kq4 l2 l3 H = some r → Ev p0 H r.2) {l2 : Int32} {w0 : Int32} {H : Hp} {r : Int32 × Hp} (hF : B_MText_skips_89 N p0 p1 kq4 l2 w0 H = some r) : Ev p0 H r.2 := by
  unfold B_MText_skips_89 at hF
  have hm := Ev.rf (w := p0) H
  rcases ite_s hF with ⟨q_1, hG⟩ | ⟨q_1, hG⟩
  · clear hF
    exact hm.tr (eB_MText_skips_100 hm4 hG)
  · clear hF
    exact hm.tr (eB_MText_skips_100 hm4 hG)
set_option maxRecDepth 20000 in
set_option maxHeartbeats 2000000 in
theorem eB_MText_skips_84 {N : Nat} {p0 : Nat} {p1 : Int32} {kq4 : Int32 → Int32 → Hp → Option (Int32 × Hp)} (hm4 : ∀ (l2 : Int32) (l3 : Int32) (H : Hp) (r : Int32 × Hp), kq4 l2 l3 H = some r → Ev p0 H r.2) {l2 : Int32} {H : Hp} {r : Int32 × Hp} (hF : B_MText_skips_84 N p0 p1 kq4 l2 H = some r) : Ev p0 H r.2 := by
  unfold B_MText_skips_84 at hF
  have hm := Ev.rf (w := p0) H
  exact hm.tr (eB_MText_skips_89 hm4 hF)
set_option maxRecDepth 20000 in
set_option maxHeartbeats 2000000 in
theorem eB_MText_skips_31 {N : Nat} {p0 : Nat} {p1 : Int32} {kq4 : Int32 → Int32 → Hp → Option (Int32 × Hp)} (hm4 : ∀ (l2 : Int32) (l3 : Int32) (H : Hp) (r : Int32 × Hp), kq4 l2 l3 H = some r → Ev p0 H r.2) : ∀ (n : Nat) (l2 : Int32) (l3 : Int32) (H : Hp) (r : Int32 × Hp), B_MText_skips_31 N p0 p1 kq4 n l2 l3 H = some r → Ev p0 H r.2 := by
  intro n
  induction n with
  | zero => intro l2 l3 H r hF; rw [B_MText_skips_31] at hF; cases hF
  | succ n ih =>
    intro l2 l3 H r hF
    rw [B_MText_skips_31] at hF
    have hm := Ev.rf (w := p0) H
    obtain ⟨q28, hG⟩ := ck_s hF; clear hF
    obtain ⟨x29, -, hF⟩ := bnd_g hG; clear hG
    rcases ite_s hF with ⟨q_2, hG⟩ | ⟨q_2, hG⟩
    · clear hF
      exact hm.tr (eB_MText_skips_102 hm4 hG)
    · clear hF
      obtain ⟨a31, e32, hF⟩ := rf_s hG; clear hG
      have da31 : isT H p0 → a31 ≠ p0 + 16 ∧ a31 ≠ p0 := fun hi => nT_0 (hm hi).1 e32
      obtain ⟨n33, q34, hG⟩ := ar_s hF; clear hF
      obtain ⟨q35, hF⟩ := ck_s hG; clear hG
      obtain ⟨x36, -, hG⟩ := bnd_g hF; clear hF
      rcases ite_s hG with ⟨q_3, hF⟩ | ⟨q_3, hF⟩
      · clear hG
        exact hm.tr (eB_MText_skips_102 hm4 hF)
      · clear hG
        exact hm.tr (ih (l2 + 1) l3 H r hF)
set_option maxRecDepth 20000 in
set_option maxHeartbeats 2000000 in
theorem eB_MText_skips_4 {N : Nat} {p0 : Nat} {p1 : Int32} : ∀ (n : Nat) (l2 : Int32) (l3 : Int32) (H : Hp) (r : Int32 × Hp), B_MText_skips_4 N p0 p1 n l2 l3 H = some r → Ev p0 H r.2 := by
  intro n
  induction n with
  | zero => intro l2 l3 H r hF; rw [B_MText_skips_4] at hF; cases hF
  | succ n ih =>
    intro l2 l3 H r hF
    rw [B_MText_skips_4] at hF
    have hm := Ev.rf (w := p0) H
    rcases ite_s hF with ⟨q_4, hG⟩ | ⟨q_4, hG⟩
    · clear hF
      have hr := Option.some.inj hG; subst hr
      exact hm
    · clear hF
      obtain ⟨q39, hF⟩ := ck_s hG; clear hG
      obtain ⟨x40, -, hG⟩ := bnd_g hF; clear hF
      rcases ite_s hG with ⟨q_5, hF⟩ | ⟨q_5, hF⟩
      · clear hG
        have hr := Option.some.inj hF; subst hr
        exact hm
      · clear hG
        obtain ⟨a42, e43, hG⟩ := rf_s hF; clear hF
        have da42 : isT H p0 → a42 ≠ p0 + 16 ∧ a42 ≠ p0 := fun hi => nT_0 (hm hi).1 e43
        obtain ⟨n44, q45, hF⟩ := ar_s hG; clear hG
        obtain ⟨q46, hG⟩ := ck_s hF; clear hF
        obtain ⟨x47, -, hF⟩ := bnd_g hG; clear hG
        rcases ite_s hF with ⟨q_6, hG⟩ | ⟨q_6, hG⟩
        · clear hF
          exact hm.tr (eB_MText_skips_31 ih N l2 l3 H r hG)
        · clear hF
          rcases ite_s hG with ⟨q_7, hF⟩ | ⟨q_7, hF⟩
          · clear hG
            exact hm.tr (eB_MText_skips_84 ih hF)
          · clear hG
            rcases ite_s hF with ⟨q_8, hG⟩ | ⟨q_8, hG⟩
            · clear hF
              exact hm.tr (eB_MText_skips_84 ih hG)
            · clear hF
              rcases ite_s hG with ⟨q_9, hF⟩ | ⟨q_9, hF⟩
              · clear hG
                exact hm.tr (eB_MText_skips_84 ih hF)
              · clear hG
                rcases ite_s hF with ⟨q_10, hG⟩ | ⟨q_10, hG⟩
                · clear hF
                  exact hm.tr (eB_MText_skips_84 ih hG)
                · clear hF
                  exact hm.tr (eB_MText_skips_89 ih hG)
set_option maxRecDepth 20000 in
set_option maxHeartbeats 2000000 in
theorem e_MText_skips {N : Nat} {p0 : Nat} {p1 : Int32} {H : Hp} {r : Int32 × Hp} (hF : F_MText_skips N p0 p1 H = some r) : Ev p0 H r.2 := by
  unfold F_MText_skips at hF
  have hm := Ev.rf (w := p0) H
  exact hm.tr (eB_MText_skips_4 N p1 1 H r hF)
set_option maxRecDepth 20000 in
set_option maxHeartbeats 2000000 in
theorem e_MText_letter {N : Nat} {p0 : Nat} {p1 : Int32} {H : Hp} {r : Int32 × Hp} (hF : F_MText_letter N p0 p1 H = some r) : Ev p0 H r.2 := by
  unfold F_MText_letter at hF
  have hm := Ev.rf (w := p0) H
  obtain ⟨q10, hG⟩ := ck_s hF; clear hF
  obtain ⟨x11, -, hF⟩ := bnd_g hG; clear hG
  rcases ite_s hF with ⟨q_1, hG⟩ | ⟨q_1, hG⟩
  · clear hF
    have hr := Option.some.inj hG; subst hr
    exact hm
  · clear hF
    obtain ⟨a13, e14, hF⟩ := rf_s hG; clear hG
    have da13 : isT H p0 → a13 ≠ p0 + 16 ∧ a13 ≠ p0 := fun hi => nT_0 (hm hi).1 e14
    obtain ⟨n15, q16, hG⟩ := ar_s hF; clear hF
    obtain ⟨q17, hF⟩ := ck_s hG; clear hG
    obtain ⟨x18, -, hG⟩ := bnd_g hF; clear hF
    have hr := Option.some.inj hG; subst hr
    exact hm
set_option maxRecDepth 20000 in
set_option maxHeartbeats 2000000 in
theorem e_MText_token {N : Nat} {p0 : Nat} {p1 : Int32} {p2 : Int32} {p3 : Int32} {H : Hp} {r : Unit × Hp} (hF : F_MText_token N p0 p1 p2 p3 H = some r) : Ev p0 H r.2 := by
  unfold F_MText_token at hF
  have hm := Ev.rf (w := p0) H
  obtain ⟨q39, hG⟩ := ck_s hF; clear hF
  obtain ⟨a40, e41, hF⟩ := rf_s hG; clear hG
  have da40 : isT H p0 → a40 ≠ p0 + 16 ∧ a40 ≠ p0 := fun hi => nT_3 (hm hi).1 e41
  obtain ⟨x42, -, hG⟩ := bnd_g hF; clear hF
  obtain ⟨n43, q44, hF⟩ := ar_s hG; clear hG
  obtain ⟨q45, hG⟩ := ck_s hF; clear hF
  obtain ⟨H46, eH46, hF⟩ := bnd_g hG; clear hG
  replace hm : Ev p0 H H46 := by rw [eH46]; exact hm.w (fun hi => by first | omega | exact ⟨(da40 hi).1, fun y => (da40 hi).2 y.1⟩)
  obtain ⟨a47, e48, hG⟩ := rf_s hF; clear hF
  have da47 : isT H p0 → a47 ≠ p0 + 16 ∧ a47 ≠ p0 := fun hi => nT_4 (hm hi).1 e48
  obtain ⟨x49, -, hF⟩ := bnd_g hG; clear hG
  obtain ⟨n50, q51, hG⟩ := ar_s hF; clear hF
  obtain ⟨q52, hF⟩ := ck_s hG; clear hG
  obtain ⟨H53, eH53, hG⟩ := bnd_g hF; clear hF
  replace hm : Ev p0 H H53 := by rw [eH53]; exact hm.w (fun hi => by first | omega | exact ⟨(da47 hi).1, fun y => (da47 hi).2 y.1⟩ | exact ⟨(da40 hi).1, fun y => (da40 hi).2 y.1⟩)
  obtain ⟨a54, e55, hF⟩ := rf_s hG; clear hG
  have da54 : isT H p0 → a54 ≠ p0 + 16 ∧ a54 ≠ p0 := fun hi => nT_5 (hm hi).1 e55
  obtain ⟨x56, -, hG⟩ := bnd_g hF; clear hF
  obtain ⟨n57, q58, hF⟩ := ar_s hG; clear hG
  obtain ⟨q59, hG⟩ := ck_s hF; clear hF
  obtain ⟨H60, eH60, hF⟩ := bnd_g hG; clear hG
  replace hm : Ev p0 H H60 := by rw [eH60]; exact hm.w (fun hi => by first | omega | exact ⟨(da54 hi).1, fun y => (da54 hi).2 y.1⟩ | exact ⟨(da47 hi).1, fun y => (da47 hi).2 y.1⟩ | exact ⟨(da40 hi).1, fun y => (da40 hi).2 y.1⟩)
  obtain ⟨a61, e62, hG⟩ := rf_s hF; clear hF
  have da61 : isT H p0 → a61 ≠ p0 + 16 ∧ a61 ≠ p0 := fun hi => nT_7 (hm hi).1 e62
  obtain ⟨x63, -, hF⟩ := bnd_g hG; clear hG
  obtain ⟨n64, q65, hG⟩ := ar_s hF; clear hF
  obtain ⟨q66, hF⟩ := ck_s hG; clear hG
  obtain ⟨H67, eH67, hG⟩ := bnd_g hF; clear hF
  replace hm : Ev p0 H H67 := by rw [eH67]; exact hm.w (fun hi => by first | omega | exact ⟨(da61 hi).1, fun y => (da61 hi).2 y.1⟩ | exact ⟨(da54 hi).1, fun y => (da54 hi).2 y.1⟩ | exact ⟨(da47 hi).1, fun y => (da47 hi).2 y.1⟩ | exact ⟨(da40 hi).1, fun y => (da40 hi).2 y.1⟩)
  obtain ⟨a68, e69, hF⟩ := rf_s hG; clear hG
  have da68 : isT H p0 → a68 ≠ p0 + 16 ∧ a68 ≠ p0 := fun hi => nT_8 (hm hi).1 e69
  obtain ⟨x70, -, hG⟩ := bnd_g hF; clear hF
  obtain ⟨n71, q72, hF⟩ := ar_s hG; clear hG
  obtain ⟨q73, hG⟩ := ck_s hF; clear hF
  obtain ⟨H74, eH74, hF⟩ := bnd_g hG; clear hG
  replace hm : Ev p0 H H74 := by rw [eH74]; exact hm.w (fun hi => by first | omega | exact ⟨(da68 hi).1, fun y => (da68 hi).2 y.1⟩ | exact ⟨(da61 hi).1, fun y => (da61 hi).2 y.1⟩ | exact ⟨(da54 hi).1, fun y => (da54 hi).2 y.1⟩ | exact ⟨(da47 hi).1, fun y => (da47 hi).2 y.1⟩ | exact ⟨(da40 hi).1, fun y => (da40 hi).2 y.1⟩)
  obtain ⟨x75, -, hG⟩ := bnd_g hF; clear hF
  obtain ⟨H76, eH76, hF⟩ := bnd_g hG; clear hG
  replace hm : Ev p0 H H76 := by rw [eH76]; exact hm.w (fun hi => by first | omega | exact ⟨(da68 hi).1, fun y => (da68 hi).2 y.1⟩ | exact ⟨(da61 hi).1, fun y => (da61 hi).2 y.1⟩ | exact ⟨(da54 hi).1, fun y => (da54 hi).2 y.1⟩ | exact ⟨(da47 hi).1, fun y => (da47 hi).2 y.1⟩ | exact ⟨(da40 hi).1, fun y => (da40 hi).2 y.1⟩)
  have hr := Option.some.inj hF; subst hr
  exact hm
set_option maxRecDepth 20000 in
set_option maxHeartbeats 2000000 in
theorem eB_MText_isLetter_24 {N wz : Nat} {p0 : Int32}  {H : Hp} {r : Int32 × Hp} (hF : B_MText_isLetter_24 N p0  H = some r) : Ev wz H r.2 := by
  unfold B_MText_isLetter_24 at hF
  have hm := Ev.rf (w := wz) H
  have hr := Option.some.inj hF; subst hr
  exact hm
set_option maxRecDepth 20000 in
set_option maxHeartbeats 2000000 in
theorem eB_MText_isLetter_12 {N wz : Nat} {p0 : Int32}  {H : Hp} {r : Int32 × Hp} (hF : B_MText_isLetter_12 N p0  H = some r) : Ev wz H r.2 := by
  unfold B_MText_isLetter_12 at hF
  have hm := Ev.rf (w := wz) H
  rcases ite_s hF with ⟨q_1, hG⟩ | ⟨q_1, hG⟩
  · clear hF
    have hr := Option.some.inj hG; subst hr
    exact hm
  · clear hF
    rcases ite_s hG with ⟨q_2, hF⟩ | ⟨q_2, hF⟩
    · clear hG
      have hr := Option.some.inj hF; subst hr
      exact hm
    · clear hG
      exact hm.tr (eB_MText_isLetter_24 hF)
set_option maxRecDepth 20000 in
set_option maxHeartbeats 2000000 in
theorem e_MText_isLetter {N wz : Nat} {p0 : Int32} {H : Hp} {r : Int32 × Hp} (hF : F_MText_isLetter N p0 H = some r) : Ev wz H r.2 := by
  unfold F_MText_isLetter at hF
  have hm := Ev.rf (w := wz) H
  rcases ite_s hF with ⟨q_3, hG⟩ | ⟨q_3, hG⟩
  · clear hF
    exact hm.tr (eB_MText_isLetter_12 hG)
  · clear hF
    rcases ite_s hG with ⟨q_4, hF⟩ | ⟨q_4, hF⟩
    · clear hG
      exact hm.tr (eB_MText_isLetter_24 hF)
    · clear hG
      exact hm.tr (eB_MText_isLetter_12 hF)
set_option maxRecDepth 20000 in
set_option maxHeartbeats 2000000 in
theorem e_MText_isDigit {N wz : Nat} {p0 : Int32} {H : Hp} {r : Int32 × Hp} (hF : F_MText_isDigit N p0 H = some r) : Ev wz H r.2 := by
  unfold F_MText_isDigit at hF
  have hm := Ev.rf (w := wz) H
  rcases ite_s hF with ⟨q_1, hG⟩ | ⟨q_1, hG⟩
  · clear hF
    have hr := Option.some.inj hG; subst hr
    exact hm
  · clear hF
    rcases ite_s hG with ⟨q_2, hF⟩ | ⟨q_2, hF⟩
    · clear hG
      have hr := Option.some.inj hF; subst hr
      exact hm
    · clear hG
      have hr := Option.some.inj hF; subst hr
      exact hm
set_option maxRecDepth 20000 in
set_option maxHeartbeats 2000000 in
theorem eB_MText_word_24 {N : Nat} {p0 : Nat} {p1 : Int32} {kq2 : Int32 → Hp → Option (Int32 × Hp)} (hm2 : ∀ (l2 : Int32) (H : Hp) (r : Int32 × Hp), kq2 l2 H = some r → Ev p0 H r.2) {l2 : Int32} {H : Hp} {r : Int32 × Hp} (hF : B_MText_word_24 N p0 p1 kq2 l2 H = some r) : Ev p0 H r.2 := by
  unfold B_MText_word_24 at hF
  have hm := Ev.rf (w := p0) H
  exact hm.tr (hm2 (l2 + 1) H r hF)
set_option maxRecDepth 20000 in
set_option maxHeartbeats 2000000 in
theorem eB_MText_word_164 {N : Nat} {p0 : Nat} {p1 : Int32} {l2 : Int32} {l3 : Int32} {H : Hp} {r : Int32 × Hp} (hF : B_MText_word_164 N p0 p1 l2 l3 H = some r) : Ev p0 H r.2 := by
  unfold B_MText_word_164 at hF
  have hm := Ev.rf (w := p0) H
  obtain ⟨q41, hG⟩ := ck_s hF; clear hF
  obtain ⟨v43, H44, z42, hF⟩ := bC_s hG; clear hG
  replace hm : Ev p0 H H44 := hm.tr (e_MText_token z42)
  obtain ⟨a45, e46, hG⟩ := rf_s hF; clear hF
  have da45 : isT H p0 → a45 ≠ p0 + 16 ∧ a45 ≠ p0 := fun hi => nT_7 (hm hi).1 e46
  obtain ⟨x47, -, hF⟩ := bnd_g hG; clear hG
  rcases ite_s hF with ⟨q_11, hG⟩ | ⟨q_11, hG⟩
  · clear hF
    rcases ite_s hG with ⟨q_12, hF⟩ | ⟨q_12, hF⟩
    · clear hG
      obtain ⟨n50, q51, hG⟩ := ar_s hF; clear hF
      obtain ⟨q52, hF⟩ := ck_s hG; clear hG
      obtain ⟨H53, eH53, hG⟩ := bnd_g hF; clear hF
      replace hm : Ev p0 H H53 := by rw [eH53]; exact hm.w (fun hi => by first | omega | exact ⟨(da45 hi).1, fun y => (da45 hi).2 y.1⟩)
      have hr := Option.some.inj hG; subst hr
      exact hm
    · clear hG
      obtain ⟨n54, q55, hG⟩ := ar_s hF; clear hF
      obtain ⟨q56, hF⟩ := ck_s hG; clear hG
      obtain ⟨H57, eH57, hG⟩ := bnd_g hF; clear hF
      replace hm : Ev p0 H H57 := by rw [eH57]; exact hm.w (fun hi => by first | omega | exact ⟨(da45 hi).1, fun y => (da45 hi).2 y.1⟩)
      have hr := Option.some.inj hG; subst hr
      exact hm
  · clear hF
    obtain ⟨n58, q59, hF⟩ := ar_s hG; clear hG
    obtain ⟨q60, hG⟩ := ck_s hF; clear hF
    obtain ⟨H61, eH61, hF⟩ := bnd_g hG; clear hG
    replace hm : Ev p0 H H61 := by rw [eH61]; exact hm.w (fun hi => by first | omega | exact ⟨(da45 hi).1, fun y => (da45 hi).2 y.1⟩)
    have hr := Option.some.inj hF; subst hr
    exact hm
set_option maxRecDepth 20000 in
set_option maxHeartbeats 2000000 in
theorem eB_MText_word_137 {N : Nat} {p0 : Nat} {p1 : Int32} {kq38 : Int32 → Int32 → Int32 → Int32 → Hp → Option (Int32 × Hp)} (hm38 : ∀ (l2 : Int32) (l3 : Int32) (l4 : Int32) (l5 : Int32) (H : Hp) (r : Int32 × Hp), kq38 l2 l3 l4 l5 H = some r → Ev p0 H r.2) : ∀ (n : Nat) (l2 : Int32) (l3 : Int32) (l4 : Int32) (l5 : Int32) (H : Hp) (r : Int32 × Hp), B_MText_word_137 N p0 p1 kq38 n l2 l3 l4 l5 H = some r → Ev p0 H r.2 := by
  intro n
  induction n with
  | zero => intro l2 l3 l4 l5 H r hF; rw [B_MText_word_137] at hF; cases hF
  | succ n ih =>
    intro l2 l3 l4 l5 H r hF
    rw [B_MText_word_137] at hF
    have hm := Ev.rf (w := p0) H
    obtain ⟨v73, H74, z72, hG⟩ := bC_s hF; clear hF
    replace hm : Ev p0 H H74 := hm.tr (e_Str_charAt_K0 z72)
    rcases ite_s hG with ⟨q_19, hF⟩ | ⟨q_19, hF⟩
    · clear hG
      exact hm.tr (hm38 l2 l3 (l4 + 1) (l5 + 1) H74 r hF)
    · clear hG
      exact hm.tr (ih l2 l3 l4 (l5 + 1) H74 r hF)
set_option maxRecDepth 20000 in
set_option maxHeartbeats 2000000 in
theorem eB_MText_word_107 {N : Nat} {p0 : Nat} {p1 : Int32} {kq38 : Int32 → Int32 → Int32 → Int32 → Hp → Option (Int32 × Hp)} (hm38 : ∀ (l2 : Int32) (l3 : Int32) (l4 : Int32) (l5 : Int32) (H : Hp) (r : Int32 × Hp), kq38 l2 l3 l4 l5 H = some r → Ev p0 H r.2) {l2 : Int32} {l3 : Int32} {l4 : Int32} {l5 : Int32} {l6 : Int32} {H : Hp} {r : Int32 × Hp} (hF : B_MText_word_107 N p0 p1 kq38 l2 l3 l4 l5 l6 H = some r) : Ev p0 H r.2 := by
  unfold B_MText_word_107 at hF
  have hm := Ev.rf (w := p0) H
  rcases ite_s hF with ⟨q_21, hG⟩ | ⟨q_21, hG⟩
  · clear hF
    obtain ⟨v83, H84, z82, hF⟩ := bC_s hG; clear hG
    replace hm : Ev p0 H H84 := hm.tr (e_Str_charAt_K0 z82)
    rcases ite_s hF with ⟨q_23, hG⟩ | ⟨q_23, hG⟩
    · clear hF
      obtain ⟨x86, -, hF⟩ := bnd_g hG; clear hG
      exact hm.tr (eB_MText_word_137 hm38 N l2 x86 l4 l5 H84 r hF)
    · clear hF
      exact hm.tr (eB_MText_word_137 hm38 N l2 l3 l4 l5 H84 r hG)
  · clear hF
    exact hm.tr (eB_MText_word_137 hm38 N l2 l3 l4 l5 H r hG)
set_option maxRecDepth 20000 in
set_option maxHeartbeats 2000000 in
theorem eB_MText_word_56 {N : Nat} {p0 : Nat} {p1 : Int32} {kq38 : Int32 → Int32 → Int32 → Int32 → Hp → Option (Int32 × Hp)} (hm38 : ∀ (l2 : Int32) (l3 : Int32) (l4 : Int32) (l5 : Int32) (H : Hp) (r : Int32 × Hp), kq38 l2 l3 l4 l5 H = some r → Ev p0 H r.2) : ∀ (n : Nat) (l2 : Int32) (l3 : Int32) (l4 : Int32) (l5 : Int32) (l6 : Int32) (H : Hp) (r : Int32 × Hp), B_MText_word_56 N p0 p1 kq38 n l2 l3 l4 l5 l6 H = some r → Ev p0 H r.2 := by
  intro n
  induction n with
  | zero => intro l2 l3 l4 l5 l6 H r hF; rw [B_MText_word_56] at hF; cases hF
  | succ n ih =>
    intro l2 l3 l4 l5 l6 H r hF
    rw [B_MText_word_56] at hF
    have hm := Ev.rf (w := p0) H
    obtain ⟨v100, H101, z99, hG⟩ := bC_s hF; clear hF
    replace hm : Ev p0 H H101 := hm.tr (e_Str_charAt_K0 z99)
    rcases ite_s hG with ⟨q_26, hF⟩ | ⟨q_26, hF⟩
    · clear hG
      exact hm.tr (eB_MText_word_107 hm38 hF)
    · clear hG
      rcases ite_s hF with ⟨q_27, hG⟩ | ⟨q_27, hG⟩
      · clear hF
        exact hm.tr (eB_MText_word_107 hm38 hG)
      · clear hF
        obtain ⟨v105, H106, z104, hF⟩ := bC_s hG; clear hG
        replace hm : Ev p0 H H106 := hm.tr (e_Str_charAt_K0 z104)
        obtain ⟨q107, hG⟩ := ck_s hF; clear hF
        obtain ⟨a108, e109, hF⟩ := rf_s hG; clear hG
        have da108 : isT H p0 → a108 ≠ p0 + 16 ∧ a108 ≠ p0 := fun hi => nT_0 (hm hi).1 e109
        obtain ⟨n110, q111, hG⟩ := ar_s hF; clear hF
        obtain ⟨q112, hF⟩ := ck_s hG; clear hG
        obtain ⟨x113, -, hG⟩ := bnd_g hF; clear hF
        rcases ite_s hG with ⟨q_29, hF⟩ | ⟨q_29, hF⟩
        · clear hG
          exact hm.tr (ih l2 l3 l4 l5 (l6 + 1) H106 r hF)
        · clear hG
          exact hm.tr (eB_MText_word_107 hm38 hF)
set_option maxRecDepth 20000 in
set_option maxHeartbeats 2000000 in
theorem eB_MText_word_38 {N : Nat} {p0 : Nat} {p1 : Int32} : ∀ (n : Nat) (l2 : Int32) (l3 : Int32) (l4 : Int32) (l5 : Int32) (H : Hp) (r : Int32 × Hp), B_MText_word_38 N p0 p1 n l2 l3 l4 l5 H = some r → Ev p0 H r.2 := by
  intro n
  induction n with
  | zero => intro l2 l3 l4 l5 H r hF; rw [B_MText_word_38] at hF; cases hF
  | succ n ih =>
    intro l2 l3 l4 l5 H r hF
    rw [B_MText_word_38] at hF
    have hm := Ev.rf (w := p0) H
    obtain ⟨v116, H117, z115, hG⟩ := bC_s hF; clear hF
    replace hm : Ev p0 H H117 := hm.tr (e_Str_length_K0 z115)
    rcases ite_s hG with ⟨q_31, hF⟩ | ⟨q_31, hF⟩
    · clear hG
      exact hm.tr (eB_MText_word_164 hF)
    · clear hG
      rcases ite_s hF with ⟨q_32, hG⟩ | ⟨q_32, hG⟩
      · clear hF
        exact hm.tr (eB_MText_word_56 ih N l2 l3 l4 l5 0 H117 r hG)
      · clear hF
        exact hm.tr (eB_MText_word_164 hG)
set_option maxRecDepth 20000 in
set_option maxHeartbeats 2000000 in
theorem eB_MText_word_2 {N : Nat} {p0 : Nat} {p1 : Int32} : ∀ (n : Nat) (l2 : Int32) (H : Hp) (r : Int32 × Hp), B_MText_word_2 N p0 p1 n l2 H = some r → Ev p0 H r.2 := by
  intro n
  induction n with
  | zero => intro l2 H r hF; rw [B_MText_word_2] at hF; cases hF
  | succ n ih =>
    intro l2 H r hF
    rw [B_MText_word_2] at hF
    have hm := Ev.rf (w := p0) H
    obtain ⟨q120, hG⟩ := ck_s hF; clear hF
    obtain ⟨v122, H123, z121, hF⟩ := bC_s hG; clear hG
    replace hm : Ev p0 H H123 := hm.tr (e_MText_letter z121)
    obtain ⟨v125, H126, z124, hG⟩ := bC_s hF; clear hF
    replace hm : Ev p0 H H126 := hm.tr (e_MText_isLetter z124)
    rcases ite_s hG with ⟨q_35, hF⟩ | ⟨q_35, hF⟩
    · clear hG
      obtain ⟨v129, H130, z128, hG⟩ := bC_s hF; clear hF
      replace hm : Ev p0 H H130 := hm.tr (e_MText_letter z128)
      obtain ⟨v132, H133, z131, hF⟩ := bC_s hG; clear hG
      replace hm : Ev p0 H H133 := hm.tr (e_MText_isDigit z131)
      rcases ite_s hF with ⟨q_38, hG⟩ | ⟨q_38, hG⟩
      · clear hF
        exact hm.tr (eB_MText_word_38 N l2 1 0 0 H133 r hG)
      · clear hF
        exact hm.tr (eB_MText_word_24 ih hG)
    · clear hG
      exact hm.tr (eB_MText_word_24 ih hF)
set_option maxRecDepth 20000 in
set_option maxHeartbeats 2000000 in
theorem e_MText_word {N : Nat} {p0 : Nat} {p1 : Int32} {H : Hp} {r : Int32 × Hp} (hF : F_MText_word N p0 p1 H = some r) : Ev p0 H r.2 := by
  unfold F_MText_word at hF
  have hm := Ev.rf (w := p0) H
  exact hm.tr (eB_MText_word_2 N p1 H r hF)
set_option maxRecDepth 20000 in
set_option maxHeartbeats 2000000 in
theorem eB_MText_digits_104 {N : Nat} {p0 : Nat} {p1 : Int32} {l2 : Int32} {l3 : Int64} {w0 : Nat} (hw0 : w0 ≠ p0 + 16 ∧ w0 ≠ p0) {w1 : Int32} {w2 : Int32} {H : Hp} {r : Int32 × Hp} (hF : B_MText_digits_104 N p0 p1 l2 l3 w0 w1 w2 H = some r) : Ev p0 H r.2 := by
  unfold B_MText_digits_104 at hF
  have hm := Ev.rf (w := p0) H
  obtain ⟨n33, q34, hG⟩ := ar_s hF; clear hF
  obtain ⟨q35, hF⟩ := ck_s hG; clear hG
  obtain ⟨H36, eH36, hG⟩ := bnd_g hF; clear hF
  replace hm : Ev p0 H H36 := by rw [eH36]; exact hm.w (fun hi => by first | omega | exact ⟨hw0.1, fun y => hw0.2 y.1⟩)
  obtain ⟨q37, hF⟩ := ck_s hG; clear hG
  obtain ⟨a38, e39, hG⟩ := rf_s hF; clear hF
  have da38 : isT H p0 → a38 ≠ p0 + 16 ∧ a38 ≠ p0 := fun hi => nT_6 (hm hi).1 e39
  obtain ⟨x40, -, hF⟩ := bnd_g hG; clear hG
  obtain ⟨n41, q42, hG⟩ := ar_s hF; clear hF
  obtain ⟨q43, hF⟩ := ck_s hG; clear hG
  obtain ⟨H44, eH44, hG⟩ := bnd_g hF; clear hF
  replace hm : Ev p0 H H44 := by rw [eH44]; exact hm.w (fun hi => by first | omega | exact ⟨(da38 hi).1, fun y => (da38 hi).2 y.1⟩ | exact ⟨hw0.1, fun y => hw0.2 y.1⟩)
  have hr := Option.some.inj hG; subst hr
  exact hm
set_option maxRecDepth 20000 in
set_option maxHeartbeats 2000000 in
theorem eB_MText_digits_74 {N : Nat} {p0 : Nat} {p1 : Int32} {l2 : Int32} {l3 : Int64} {H : Hp} {r : Int32 × Hp} (hF : B_MText_digits_74 N p0 p1 l2 l3 H = some r) : Ev p0 H r.2 := by
  unfold B_MText_digits_74 at hF
  have hm := Ev.rf (w := p0) H
  obtain ⟨q45, hG⟩ := ck_s hF; clear hF
  obtain ⟨v47, H48, z46, hF⟩ := bC_s hG; clear hG
  replace hm : Ev p0 H H48 := hm.tr (e_MText_token z46)
  obtain ⟨a49, e50, hG⟩ := rf_s hF; clear hF
  have da49 : isT H p0 → a49 ≠ p0 + 16 ∧ a49 ≠ p0 := fun hi => nT_7 (hm hi).1 e50
  obtain ⟨x51, -, hF⟩ := bnd_g hG; clear hG
  rcases ite_s hF with ⟨q_10, hG⟩ | ⟨q_10, hG⟩
  · clear hF
    first | exact hm.tr' (fun hi => eB_MText_digits_104 (da49 hi) hG)
  · clear hF
    first | exact hm.tr' (fun hi => eB_MText_digits_104 (da49 hi) hG)
set_option maxRecDepth 20000 in
set_option maxHeartbeats 2000000 in
theorem eB_MText_digits_223 {N : Nat} {p0 : Nat} {p1 : Int32} {l2 : Int32} {l3 : Int64} {l6 : Int64} {l8 : Int64} {w0 : Nat} (hw0 : w0 ≠ p0 + 16 ∧ w0 ≠ p0) {w1 : Int32} {w2 : Int32} {H : Hp} {r : Int32 × Hp} (hF : B_MText_digits_223 N p0 p1 l2 l3 l6 l8 w0 w1 w2 H = some r) : Ev p0 H r.2 := by
  unfold B_MText_digits_223 at hF
  have hm := Ev.rf (w := p0) H
  obtain ⟨n89, q90, hG⟩ := ar_s hF; clear hF
  obtain ⟨q91, hF⟩ := ck_s hG; clear hG
  obtain ⟨H92, eH92, hG⟩ := bnd_g hF; clear hF
  replace hm : Ev p0 H H92 := by rw [eH92]; exact hm.w (fun hi => by first | omega | exact ⟨hw0.1, fun y => hw0.2 y.1⟩)
  obtain ⟨q93, hF⟩ := ck_s hG; clear hG
  obtain ⟨a94, e95, hG⟩ := rf_s hF; clear hF
  have da94 : isT H p0 → a94 ≠ p0 + 16 ∧ a94 ≠ p0 := fun hi => nT_6 (hm hi).1 e95
  obtain ⟨x96, -, hF⟩ := bnd_g hG; clear hG
  obtain ⟨q97, hG⟩ := ck_s hF; clear hF
  obtain ⟨x98, -, hF⟩ := bnd_g hG; clear hG
  obtain ⟨n99, q100, hG⟩ := ar_s hF; clear hF
  obtain ⟨q101, hF⟩ := ck_s hG; clear hG
  obtain ⟨H102, eH102, hG⟩ := bnd_g hF; clear hF
  replace hm : Ev p0 H H102 := by rw [eH102]; exact hm.w (fun hi => by first | omega | exact ⟨(da94 hi).1, fun y => (da94 hi).2 y.1⟩ | exact ⟨hw0.1, fun y => hw0.2 y.1⟩)
  have hr := Option.some.inj hG; subst hr
  exact hm
set_option maxRecDepth 20000 in
set_option maxHeartbeats 2000000 in
theorem eB_MText_digits_218 {N : Nat} {p0 : Nat} {p1 : Int32} {l2 : Int32} {l3 : Int64} {l6 : Int64} {l8 : Int64} {w0 : Nat} (hw0 : w0 ≠ p0 + 16 ∧ w0 ≠ p0) {w1 : Int32} {H : Hp} {r : Int32 × Hp} (hF : B_MText_digits_218 N p0 p1 l2 l3 l6 l8 w0 w1 H = some r) : Ev p0 H r.2 := by
  unfold B_MText_digits_218 at hF
  have hm := Ev.rf (w := p0) H
  first | exact hm.tr' (fun hi => eB_MText_digits_223 hw0 hF)
set_option maxRecDepth 20000 in
set_option maxHeartbeats 2000000 in
theorem eB_MText_digits_179 {N : Nat} {p0 : Nat} {p1 : Int32} {kq132 : Int32 → Int64 → Int32 → Int64 → Int64 → Hp → Option (Int32 × Hp)} (hm132 : ∀ (l2 : Int32) (l3 : Int64) (l5 : Int32) (l6 : Int64) (l8 : Int64) (H : Hp) (r : Int32 × Hp), kq132 l2 l3 l5 l6 l8 H = some r → Ev p0 H r.2) {l2 : Int32} {l3 : Int64} {l5 : Int32} {l6 : Int64} {l8 : Int64} {H : Hp} {r : Int32 × Hp} (hF : B_MText_digits_179 N p0 p1 kq132 l2 l3 l5 l6 l8 H = some r) : Ev p0 H r.2 := by
  unfold B_MText_digits_179 at hF
  have hm := Ev.rf (w := p0) H
  exact hm.tr (hm132 (l2 + 1) l3 l5 l6 l8 H r hF)
set_option maxRecDepth 20000 in
set_option maxHeartbeats 2000000 in
theorem eB_MText_digits_132 {N : Nat} {p0 : Nat} {p1 : Int32} : ∀ (n : Nat) (l2 : Int32) (l3 : Int64) (l5 : Int32) (l6 : Int64) (l8 : Int64) (H : Hp) (r : Int32 × Hp), B_MText_digits_132 N p0 p1 n l2 l3 l5 l6 l8 H = some r → Ev p0 H r.2 := by
  intro n
  induction n with
  | zero => intro l2 l3 l5 l6 l8 H r hF; rw [B_MText_digits_132] at hF; cases hF
  | succ n ih =>
    intro l2 l3 l5 l6 l8 H r hF
    rw [B_MText_digits_132] at hF
    have hm := Ev.rf (w := p0) H
    obtain ⟨q113, hG⟩ := ck_s hF; clear hF
    obtain ⟨v115, H116, z114, hF⟩ := bC_s hG; clear hG
    replace hm : Ev p0 H H116 := hm.tr (e_MText_letter z114)
    obtain ⟨v118, H119, z117, hG⟩ := bC_s hF; clear hF
    replace hm : Ev p0 H H119 := hm.tr (e_MText_isDigit z117)
    rcases ite_s hG with ⟨q_22, hF⟩ | ⟨q_22, hF⟩
    · clear hG
      obtain ⟨v122, H123, z121, hG⟩ := bC_s hF; clear hF
      replace hm : Ev p0 H H123 := hm.tr (e_MText_token z121)
      obtain ⟨a124, e125, hF⟩ := rf_s hG; clear hG
      have da124 : isT H p0 → a124 ≠ p0 + 16 ∧ a124 ≠ p0 := fun hi => nT_7 (hm hi).1 e125
      obtain ⟨x126, -, hG⟩ := bnd_g hF; clear hF
      rcases ite_s hG with ⟨q_24, hF⟩ | ⟨q_24, hF⟩
      · clear hG
        first | exact hm.tr' (fun hi => eB_MText_digits_218 (da124 hi) hF)
      · clear hG
        rcases ite_s hF with ⟨q_25, hG⟩ | ⟨q_25, hG⟩
        · clear hF
          first | exact hm.tr' (fun hi => eB_MText_digits_223 (da124 hi) hG)
        · clear hF
          first | exact hm.tr' (fun hi => eB_MText_digits_218 (da124 hi) hG)
    · clear hG
      rcases ite_s hF with ⟨q_26, hG⟩ | ⟨q_26, hG⟩
      · clear hF
        exact hm.tr (eB_MText_digits_179 ih hG)
      · clear hF
        obtain ⟨a130, e131, hF⟩ := rf_s hG; clear hG
        have da130 : isT H p0 → a130 ≠ p0 + 16 ∧ a130 ≠ p0 := fun hi => nT_0 (hm hi).1 e131
        obtain ⟨n132, q133, hG⟩ := ar_s hF; clear hF
        obtain ⟨q134, hF⟩ := ck_s hG; clear hG
        obtain ⟨x135, -, hG⟩ := bnd_g hF; clear hF
        obtain ⟨x136, -, hF⟩ := bnd_g hG; clear hG
        obtain ⟨x137, -, hG⟩ := bnd_g hF; clear hF
        exact hm.tr (eB_MText_digits_179 ih hG)
set_option maxRecDepth 20000 in
set_option maxHeartbeats 2000000 in
theorem eB_MText_digits_44 {N : Nat} {p0 : Nat} {p1 : Int32} {kq4 : Int32 → Int64 → Hp → Option (Int32 × Hp)} (hm4 : ∀ (l2 : Int32) (l3 : Int64) (H : Hp) (r : Int32 × Hp), kq4 l2 l3 H = some r → Ev p0 H r.2) {l2 : Int32} {w0 : Int64} {H : Hp} {r : Int32 × Hp} (hF : B_MText_digits_44 N p0 p1 kq4 l2 w0 H = some r) : Ev p0 H r.2 := by
  unfold B_MText_digits_44 at hF
  have hm := Ev.rf (w := p0) H
  exact hm.tr (hm4 (l2 + 1) w0 H r hF)
set_option maxRecDepth 20000 in
set_option maxHeartbeats 2000000 in
theorem eB_MText_digits_4 {N : Nat} {p0 : Nat} {p1 : Int32} : ∀ (n : Nat) (l2 : Int32) (l3 : Int64) (H : Hp) (r : Int32 × Hp), B_MText_digits_4 N p0 p1 n l2 l3 H = some r → Ev p0 H r.2 := by
  intro n
  induction n with
  | zero => intro l2 l3 H r hF; rw [B_MText_digits_4] at hF; cases hF
  | succ n ih =>
    intro l2 l3 H r hF
    rw [B_MText_digits_4] at hF
    have hm := Ev.rf (w := p0) H
    obtain ⟨q146, hG⟩ := ck_s hF; clear hF
    obtain ⟨v148, H149, z147, hF⟩ := bC_s hG; clear hG
    replace hm : Ev p0 H H149 := hm.tr (e_MText_letter z147)
    obtain ⟨v151, H152, z150, hG⟩ := bC_s hF; clear hF
    replace hm : Ev p0 H H152 := hm.tr (e_MText_isDigit z150)
    rcases ite_s hG with ⟨q_29, hF⟩ | ⟨q_29, hF⟩
    · clear hG
      obtain ⟨v155, H156, z154, hG⟩ := bC_s hF; clear hF
      replace hm : Ev p0 H H156 := hm.tr (e_MText_letter z154)
      rcases ite_s hG with ⟨q_31, hF⟩ | ⟨q_31, hF⟩
      · clear hG
        obtain ⟨v159, H160, z158, hG⟩ := bC_s hF; clear hF
        replace hm : Ev p0 H H160 := hm.tr (e_MText_letter z158)
        obtain ⟨v162, H163, z161, hF⟩ := bC_s hG; clear hG
        replace hm : Ev p0 H H163 := hm.tr (e_MText_isDigit z161)
        rcases ite_s hF with ⟨q_34, hG⟩ | ⟨q_34, hG⟩
        · clear hF
          exact hm.tr (eB_MText_digits_74 hG)
        · clear hF
          exact hm.tr (eB_MText_digits_132 N (l2 + 1) l3 (l2 + 1) 0 1 H163 r hG)
      · clear hG
        exact hm.tr (eB_MText_digits_74 hF)
    · clear hG
      rcases ite_s hF with ⟨q_35, hG⟩ | ⟨q_35, hG⟩
      · clear hF
        obtain ⟨a166, e167, hF⟩ := rf_s hG; clear hG
        have da166 : isT H p0 → a166 ≠ p0 + 16 ∧ a166 ≠ p0 := fun hi => nT_0 (hm hi).1 e167
        obtain ⟨n168, q169, hG⟩ := ar_s hF; clear hF
        obtain ⟨q170, hF⟩ := ck_s hG; clear hG
        obtain ⟨x171, -, hG⟩ := bnd_g hF; clear hF
        obtain ⟨x172, -, hF⟩ := bnd_g hG; clear hG
        exact hm.tr (eB_MText_digits_44 ih hF)
      · clear hF
        exact hm.tr (eB_MText_digits_44 ih hG)
set_option maxRecDepth 20000 in
set_option maxHeartbeats 2000000 in
theorem e_MText_digits {N : Nat} {p0 : Nat} {p1 : Int32} {H : Hp} {r : Int32 × Hp} (hF : F_MText_digits N p0 p1 H = some r) : Ev p0 H r.2 := by
  unfold F_MText_digits at hF
  have hm := Ev.rf (w := p0) H
  exact hm.tr (eB_MText_digits_4 N p1 0 H r hF)
set_option maxRecDepth 20000 in
set_option maxHeartbeats 2000000 in
theorem eB_MText_sign_240 {N : Nat} {p0 : Nat} {p1 : Int32} {p2 : Int32} {p3 : Int32} {l4 : Int32} {w1 : Int32} {w2 : Int32} {w3 : Int32} {w4 : Int32} {H : Hp} {r : Int32 × Hp} (hF : B_MText_sign_240 N p0 p1 p2 p3 l4 p0 w1 w2 w3 w4 H = some r) : Ev p0 H r.2 := by
  unfold B_MText_sign_240 at hF
  have hm := Ev.rf (w := p0) H
  obtain ⟨q16, hG⟩ := ck_s hF; clear hF
  obtain ⟨v18, H19, z17, hF⟩ := bC_s hG; clear hG
  replace hm : Ev p0 H H19 := hm.tr (e_MText_token z17)
  rcases ite_s hF with ⟨q_3, hG⟩ | ⟨q_3, hG⟩
  · clear hF
    have hr := Option.some.inj hG; subst hr
    exact hm
  · clear hF
    have hr := Option.some.inj hG; subst hr
    exact hm
set_option maxRecDepth 20000 in
set_option maxHeartbeats 2000000 in
theorem eB_MText_sign_228 {N : Nat} {p0 : Nat} {p1 : Int32} {p2 : Int32} {p3 : Int32} {l4 : Int32} {w1 : Int32} {H : Hp} {r : Int32 × Hp} (hF : B_MText_sign_228 N p0 p1 p2 p3 l4 p0 w1 H = some r) : Ev p0 H r.2 := by
  unfold B_MText_sign_228 at hF
  have hm := Ev.rf (w := p0) H
  rcases ite_s hF with ⟨q_4, hG⟩ | ⟨q_4, hG⟩
  · clear hF
    exact hm.tr (eB_MText_sign_240 hG)
  · clear hF
    exact hm.tr (eB_MText_sign_240 hG)
set_option maxRecDepth 20000 in
set_option maxHeartbeats 2000000 in
theorem eB_MText_sign_205 {N : Nat} {p0 : Nat} {p1 : Int32} {p2 : Int32} {p3 : Int32} {l4 : Int32} {w0 : Int32} {H : Hp} {r : Int32 × Hp} (hF : B_MText_sign_205 N p0 p1 p2 p3 l4 w0 H = some r) : Ev p0 H r.2 := by
  unfold B_MText_sign_205 at hF
  have hm := Ev.rf (w := p0) H
  rcases ite_s hF with ⟨q_5, hG⟩ | ⟨q_5, hG⟩
  · clear hF
    rcases ite_s hG with ⟨q_6, hF⟩ | ⟨q_6, hF⟩
    · clear hG
      exact hm.tr (eB_MText_sign_228 hF)
    · clear hG
      exact hm.tr (eB_MText_sign_228 hF)
  · clear hF
    exact hm.tr (eB_MText_sign_228 hG)
set_option maxRecDepth 20000 in
set_option maxHeartbeats 2000000 in
theorem eB_MText_sign_200 {N : Nat} {p0 : Nat} {p1 : Int32} {p2 : Int32} {p3 : Int32} {l4 : Int32} {H : Hp} {r : Int32 × Hp} (hF : B_MText_sign_200 N p0 p1 p2 p3 l4 H = some r) : Ev p0 H r.2 := by
  unfold B_MText_sign_200 at hF
  have hm := Ev.rf (w := p0) H
  exact hm.tr (eB_MText_sign_205 hF)
set_option maxRecDepth 20000 in
set_option maxHeartbeats 2000000 in
theorem eB_MText_sign_102 {N : Nat} {p0 : Nat} {p1 : Int32} {p2 : Int32} {p3 : Int32} {w0 : Int32} {H : Hp} {r : Int32 × Hp} (hF : B_MText_sign_102 N p0 p1 p2 p3 w0 H = some r) : Ev p0 H r.2 := by
  unfold B_MText_sign_102 at hF
  have hm := Ev.rf (w := p0) H
  rcases ite_s hF with ⟨q_7, hG⟩ | ⟨q_7, hG⟩
  · clear hF
    exact hm.tr (eB_MText_sign_200 hG)
  · clear hF
    rcases ite_s hG with ⟨q_8, hF⟩ | ⟨q_8, hF⟩
    · clear hG
      exact hm.tr (eB_MText_sign_200 hF)
    · clear hG
      rcases ite_s hF with ⟨q_9, hG⟩ | ⟨q_9, hG⟩
      · clear hF
        exact hm.tr (eB_MText_sign_200 hG)
      · clear hF
        rcases ite_s hG with ⟨q_10, hF⟩ | ⟨q_10, hF⟩
        · clear hG
          exact hm.tr (eB_MText_sign_200 hF)
        · clear hG
          rcases ite_s hF with ⟨q_11, hG⟩ | ⟨q_11, hG⟩
          · clear hF
            exact hm.tr (eB_MText_sign_200 hG)
          · clear hF
            rcases ite_s hG with ⟨q_12, hF⟩ | ⟨q_12, hF⟩
            · clear hG
              exact hm.tr (eB_MText_sign_200 hF)
            · clear hG
              rcases ite_s hF with ⟨q_13, hG⟩ | ⟨q_13, hG⟩
              · clear hF
                exact hm.tr (eB_MText_sign_200 hG)
              · clear hF
                rcases ite_s hG with ⟨q_14, hF⟩ | ⟨q_14, hF⟩
                · clear hG
                  exact hm.tr (eB_MText_sign_200 hF)
                · clear hG
                  rcases ite_s hF with ⟨q_15, hG⟩ | ⟨q_15, hG⟩
                  · clear hF
                    exact hm.tr (eB_MText_sign_200 hG)
                  · clear hF
                    rcases ite_s hG with ⟨q_16, hF⟩ | ⟨q_16, hF⟩
                    · clear hG
                      exact hm.tr (eB_MText_sign_200 hF)
                    · clear hG
                      rcases ite_s hF with ⟨q_17, hG⟩ | ⟨q_17, hG⟩
                      · clear hF
                        exact hm.tr (eB_MText_sign_200 hG)
                      · clear hF
                        rcases ite_s hG with ⟨q_18, hF⟩ | ⟨q_18, hF⟩
                        · clear hG
                          exact hm.tr (eB_MText_sign_200 hF)
                        · clear hG
                          rcases ite_s hF with ⟨q_19, hG⟩ | ⟨q_19, hG⟩
                          · clear hF
                            exact hm.tr (eB_MText_sign_200 hG)
                          · clear hF
                            rcases ite_s hG with ⟨q_20, hF⟩ | ⟨q_20, hF⟩
                            · clear hG
                              exact hm.tr (eB_MText_sign_200 hF)
                            · clear hG
                              rcases ite_s hF with ⟨q_21, hG⟩ | ⟨q_21, hG⟩
                              · clear hF
                                exact hm.tr (eB_MText_sign_200 hG)
                              · clear hF
                                rcases ite_s hG with ⟨q_22, hF⟩ | ⟨q_22, hF⟩
                                · clear hG
                                  exact hm.tr (eB_MText_sign_200 hF)
                                · clear hG
                                  exact hm.tr (eB_MText_sign_205 hF)
set_option maxRecDepth 20000 in
set_option maxHeartbeats 2000000 in
theorem eB_MText_sign_101 {N : Nat} {p0 : Nat} {p1 : Int32} {p2 : Int32} {p3 : Int32}  {H : Hp} {r : Int32 × Hp} (hF : B_MText_sign_101 N p0 p1 p2 p3  H = some r) : Ev p0 H r.2 := by
  unfold B_MText_sign_101 at hF
  have hm := Ev.rf (w := p0) H
  exact hm.tr (eB_MText_sign_102 hF)
set_option maxRecDepth 20000 in
set_option maxHeartbeats 2000000 in
theorem eB_MText_sign_84 {N : Nat} {p0 : Nat} {p1 : Int32} {p2 : Int32} {p3 : Int32}  {H : Hp} {r : Int32 × Hp} (hF : B_MText_sign_84 N p0 p1 p2 p3  H = some r) : Ev p0 H r.2 := by
  unfold B_MText_sign_84 at hF
  have hm := Ev.rf (w := p0) H
  rcases ite_s hF with ⟨q_23, hG⟩ | ⟨q_23, hG⟩
  · clear hF
    rcases ite_s hG with ⟨q_24, hF⟩ | ⟨q_24, hF⟩
    · clear hG
      exact hm.tr (eB_MText_sign_102 hF)
    · clear hG
      exact hm.tr (eB_MText_sign_101 hF)
  · clear hF
    exact hm.tr (eB_MText_sign_101 hG)
set_option maxRecDepth 20000 in
set_option maxHeartbeats 2000000 in
theorem eB_MText_sign_67 {N : Nat} {p0 : Nat} {p1 : Int32} {p2 : Int32} {p3 : Int32}  {H : Hp} {r : Int32 × Hp} (hF : B_MText_sign_67 N p0 p1 p2 p3  H = some r) : Ev p0 H r.2 := by
  unfold B_MText_sign_67 at hF
  have hm := Ev.rf (w := p0) H
  rcases ite_s hF with ⟨q_25, hG⟩ | ⟨q_25, hG⟩
  · clear hF
    rcases ite_s hG with ⟨q_26, hF⟩ | ⟨q_26, hF⟩
    · clear hG
      exact hm.tr (eB_MText_sign_102 hF)
    · clear hG
      exact hm.tr (eB_MText_sign_84 hF)
  · clear hF
    exact hm.tr (eB_MText_sign_84 hG)
set_option maxRecDepth 20000 in
set_option maxHeartbeats 2000000 in
theorem eB_MText_sign_50 {N : Nat} {p0 : Nat} {p1 : Int32} {p2 : Int32} {p3 : Int32}  {H : Hp} {r : Int32 × Hp} (hF : B_MText_sign_50 N p0 p1 p2 p3  H = some r) : Ev p0 H r.2 := by
  unfold B_MText_sign_50 at hF
  have hm := Ev.rf (w := p0) H
  rcases ite_s hF with ⟨q_27, hG⟩ | ⟨q_27, hG⟩
  · clear hF
    rcases ite_s hG with ⟨q_28, hF⟩ | ⟨q_28, hF⟩
    · clear hG
      exact hm.tr (eB_MText_sign_102 hF)
    · clear hG
      exact hm.tr (eB_MText_sign_67 hF)
  · clear hF
    exact hm.tr (eB_MText_sign_67 hG)
set_option maxRecDepth 20000 in
set_option maxHeartbeats 2000000 in
theorem eB_MText_sign_33 {N : Nat} {p0 : Nat} {p1 : Int32} {p2 : Int32} {p3 : Int32}  {H : Hp} {r : Int32 × Hp} (hF : B_MText_sign_33 N p0 p1 p2 p3  H = some r) : Ev p0 H r.2 := by
  unfold B_MText_sign_33 at hF
  have hm := Ev.rf (w := p0) H
  rcases ite_s hF with ⟨q_29, hG⟩ | ⟨q_29, hG⟩
  · clear hF
    rcases ite_s hG with ⟨q_30, hF⟩ | ⟨q_30, hF⟩
    · clear hG
      exact hm.tr (eB_MText_sign_102 hF)
    · clear hG
      exact hm.tr (eB_MText_sign_50 hF)
  · clear hF
    exact hm.tr (eB_MText_sign_50 hG)
set_option maxRecDepth 20000 in
set_option maxHeartbeats 2000000 in
theorem eB_MText_sign_16 {N : Nat} {p0 : Nat} {p1 : Int32} {p2 : Int32} {p3 : Int32}  {H : Hp} {r : Int32 × Hp} (hF : B_MText_sign_16 N p0 p1 p2 p3  H = some r) : Ev p0 H r.2 := by
  unfold B_MText_sign_16 at hF
  have hm := Ev.rf (w := p0) H
  rcases ite_s hF with ⟨q_31, hG⟩ | ⟨q_31, hG⟩
  · clear hF
    rcases ite_s hG with ⟨q_32, hF⟩ | ⟨q_32, hF⟩
    · clear hG
      exact hm.tr (eB_MText_sign_102 hF)
    · clear hG
      exact hm.tr (eB_MText_sign_33 hF)
  · clear hF
    exact hm.tr (eB_MText_sign_33 hG)
set_option maxRecDepth 20000 in
set_option maxHeartbeats 2000000 in
theorem e_MText_sign {N : Nat} {p0 : Nat} {p1 : Int32} {p2 : Int32} {p3 : Int32} {H : Hp} {r : Int32 × Hp} (hF : F_MText_sign N p0 p1 p2 p3 H = some r) : Ev p0 H r.2 := by
  unfold F_MText_sign at hF
  have hm := Ev.rf (w := p0) H
  rcases ite_s hF with ⟨q_33, hG⟩ | ⟨q_33, hG⟩
  · clear hF
    rcases ite_s hG with ⟨q_34, hF⟩ | ⟨q_34, hF⟩
    · clear hG
      exact hm.tr (eB_MText_sign_102 hF)
    · clear hG
      exact hm.tr (eB_MText_sign_16 hF)
  · clear hF
    exact hm.tr (eB_MText_sign_16 hG)
set_option maxRecDepth 20000 in
set_option maxHeartbeats 2000000 in
theorem eB_MText_scans_153 {N : Nat} {p0 : Nat} {p1 : Nat} {p2 : Int32} {kq37 : Int32 → Int32 → Hp → Option (Unit × Hp)} (hm37 : ∀ (l3 : Int32) (l4 : Int32) (H : Hp) (r : Unit × Hp), kq37 l3 l4 H = some r → Ev p0 H r.2) {l3 : Int32} {l4 : Int32} {H : Hp} {r : Unit × Hp} (hF : B_MText_scans_153 N p0 p1 p2 kq37 l3 l4 H = some r) : Ev p0 H r.2 := by
  unfold B_MText_scans_153 at hF
  have hm := Ev.rf (w := p0) H
  exact hm.tr (hm37 l3 l4 H r hF)
set_option maxRecDepth 20000 in
set_option maxHeartbeats 2000000 in
theorem eB_MText_scans_151 {N : Nat} {p0 : Nat} {p1 : Nat} {p2 : Int32} {kq37 : Int32 → Int32 → Hp → Option (Unit × Hp)} (hm37 : ∀ (l3 : Int32) (l4 : Int32) (H : Hp) (r : Unit × Hp), kq37 l3 l4 H = some r → Ev p0 H r.2) {l3 : Int32} {w0 : Int32} {H : Hp} {r : Unit × Hp} (hF : B_MText_scans_151 N p0 p1 p2 kq37 l3 w0 H = some r) : Ev p0 H r.2 := by
  unfold B_MText_scans_151 at hF
  have hm := Ev.rf (w := p0) H
  exact hm.tr (eB_MText_scans_153 hm37 hF)
set_option maxRecDepth 20000 in
set_option maxHeartbeats 2000000 in
theorem eB_MText_scans_37 {N : Nat} {p0 : Nat} {p1 : Nat} {p2 : Int32} : ∀ (n : Nat) (l3 : Int32) (l4 : Int32) (H : Hp) (r : Unit × Hp), B_MText_scans_37 N p0 p1 p2 n l3 l4 H = some r → Ev p0 H r.2 := by
  intro n
  induction n with
  | zero => intro l3 l4 H r hF; rw [B_MText_scans_37] at hF; cases hF
  | succ n ih =>
    intro l3 l4 H r hF
    rw [B_MText_scans_37] at hF
    have hm := Ev.rf (w := p0) H
    rcases ite_s hF with ⟨q_12, hG⟩ | ⟨q_12, hG⟩
    · clear hF
      have hr := Option.some.inj hG; subst hr
      exact hm
    · clear hF
      obtain ⟨q50, hF⟩ := ck_s hG; clear hG
      obtain ⟨v52, H53, z51, hG⟩ := bC_s hF; clear hF
      replace hm : Ev p0 H H53 := hm.tr (e_MText_skips z51)
      obtain ⟨v55, H56, z54, hF⟩ := bC_s hG; clear hG
      replace hm : Ev p0 H H56 := hm.tr (e_MText_letter z54)
      obtain ⟨x57, -, hG⟩ := bnd_g hF; clear hF
      rcases ite_s hG with ⟨q_15, hF⟩ | ⟨q_15, hF⟩
      · clear hG
        obtain ⟨v60, H61, z59, hG⟩ := bC_s hF; clear hF
        replace hm : Ev p0 H H61 := hm.tr (e_MText_isLetter z59)
        rcases ite_s hG with ⟨q_17, hF⟩ | ⟨q_17, hF⟩
        · clear hG
          obtain ⟨v64, H65, z63, hG⟩ := bC_s hF; clear hF
          replace hm : Ev p0 H H65 := hm.tr (e_MText_isDigit z63)
          rcases ite_s hG with ⟨q_19, hF⟩ | ⟨q_19, hF⟩
          · clear hG
            obtain ⟨v68, H69, z67, hG⟩ := bC_s hF; clear hF
            replace hm : Ev p0 H H69 := hm.tr (e_MText_letter z67)
            obtain ⟨v71, H72, z70, hF⟩ := bC_s hG; clear hG
            replace hm : Ev p0 H H72 := hm.tr (e_MText_sign z70)
            obtain ⟨a73, e74, hG⟩ := rf_s hF; clear hF
            have da73 : isT H p0 → a73 ≠ p0 + 16 ∧ a73 ≠ p0 := fun hi => nT_3 (hm hi).1 e74
            obtain ⟨x75, -, hF⟩ := bnd_g hG; clear hG
            obtain ⟨n76, q77, hG⟩ := ar_s hF; clear hF
            obtain ⟨q78, hF⟩ := ck_s hG; clear hG
            obtain ⟨x79, -, hG⟩ := bnd_g hF; clear hF
            rcases ite_s hG with ⟨q_22, hF⟩ | ⟨q_22, hF⟩
            · clear hG
              exact hm.tr (eB_MText_scans_151 ih hF)
            · clear hG
              exact hm.tr (eB_MText_scans_151 ih hF)
          · clear hG
            obtain ⟨v82, H83, z81, hG⟩ := bC_s hF; clear hF
            replace hm : Ev p0 H H83 := hm.tr (e_MText_digits z81)
            exact hm.tr (eB_MText_scans_153 ih hG)
        · clear hG
          obtain ⟨v85, H86, z84, hG⟩ := bC_s hF; clear hF
          replace hm : Ev p0 H H86 := hm.tr (e_MText_word z84)
          exact hm.tr (eB_MText_scans_153 ih hG)
      · clear hG
        obtain ⟨x87, -, hG⟩ := bnd_g hF; clear hF
        obtain ⟨x88, -, hF⟩ := bnd_g hG; clear hG
        obtain ⟨v90, H91, z89, hG⟩ := bC_s hF; clear hF
        replace hm : Ev p0 H H91 := hm.tr (e_MText_token z89)
        exact hm.tr (eB_MText_scans_153 ih hG)
set_option maxRecDepth 20000 in
set_option maxHeartbeats 2000000 in
theorem eB_MText_scans_7 {N : Nat} {p0 : Nat} {p1 : Nat} {p2 : Int32} : ∀ (n : Nat) (l3 : Int32) (H : Hp) (r : Unit × Hp), B_MText_scans_7 N p0 p1 p2 n l3 H = some r → Ev p0 H r.2 := by
  intro n
  induction n with
  | zero => intro l3 H r hF; rw [B_MText_scans_7] at hF; cases hF
  | succ n ih =>
    intro l3 H r hF
    rw [B_MText_scans_7] at hF
    have hm := Ev.rf (w := p0) H
    rcases ite_s hF with ⟨q_27, hG⟩ | ⟨q_27, hG⟩
    · clear hF
      obtain ⟨q104, hF⟩ := ck_s hG; clear hG
      obtain ⟨H105, eH105, hG⟩ := bnd_g hF; clear hF
      replace hm : Ev p0 H H105 := by rw [eH105]; exact hm.w (fun hi => by first | omega)
      exact hm.tr (eB_MText_scans_37 N 0 1 H105 r hG)
    · clear hF
      obtain ⟨q106, hF⟩ := ck_s hG; clear hG
      obtain ⟨a107, e108, hG⟩ := rf_s hF; clear hF
      have da107 : isT H p0 → a107 ≠ p0 + 16 ∧ a107 ≠ p0 := fun hi => nT_0 (hm hi).1 e108
      obtain ⟨n109, q110, hF⟩ := ar_s hG; clear hG
      obtain ⟨q111, hG⟩ := ck_s hF; clear hF
      obtain ⟨x112, -, hF⟩ := bnd_g hG; clear hG
      obtain ⟨n113, q114, hG⟩ := ar_s hF; clear hF
      obtain ⟨q115, hF⟩ := ck_s hG; clear hG
      obtain ⟨H116, eH116, hG⟩ := bnd_g hF; clear hF
      replace hm : Ev p0 H H116 := by rw [eH116]; exact hm.w (fun hi => by first | omega | exact ⟨(da107 hi).1, fun y => (da107 hi).2 y.1⟩)
      exact hm.tr (ih (l3 + 1) H116 r hG)
set_option maxRecDepth 20000 in
set_option maxHeartbeats 2000000 in
theorem e_MText_scans {N : Nat} {p0 : Nat} {p1 : Nat} {p2 : Int32} {H : Hp} {r : Unit × Hp} (hF : F_MText_scans N p0 p1 p2 H = some r) : Ev p0 H r.2 := by
  unfold F_MText_scans at hF
  have hm := Ev.rf (w := p0) H
  obtain ⟨q117, hG⟩ := ck_s hF; clear hF
  obtain ⟨H118, eH118, hF⟩ := bnd_g hG; clear hG
  replace hm : Ev p0 H H118 := by rw [eH118]; exact hm.w (fun hi => by first | omega)
  exact hm.tr (eB_MText_scans_7 N 0 H118 r hF)
set_option maxRecDepth 20000 in
set_option maxHeartbeats 2000000 in
theorem eB_MText_begins_14 {N : Nat} {p0 : Nat} {p1 : Int32} {p2 : Int32}  {H : Hp} {r : Unit × Hp} (hF : B_MText_begins_14 N p0 p1 p2  H = some r) : Ev p0 H r.2 := by
  unfold B_MText_begins_14 at hF
  have hm := Ev.rf (w := p0) H
  obtain ⟨q8, hG⟩ := ck_s hF; clear hF
  obtain ⟨x9, -, hF⟩ := bnd_g hG; clear hG
  obtain ⟨x10, -, hG⟩ := bnd_g hF; clear hF
  rcases ite_s hG with ⟨q_3, hF⟩ | ⟨q_3, hF⟩
  · clear hG
    obtain ⟨H12, eH12, hG⟩ := bnd_g hF; clear hF
    replace hm : Ev p0 H H12 := by rw [eH12]; exact hm.w (fun hi => by first | omega)
    have hr := Option.some.inj hG; subst hr
    exact hm
  · clear hG
    obtain ⟨H13, eH13, hG⟩ := bnd_g hF; clear hF
    replace hm : Ev p0 H H13 := by rw [eH13]; exact hm.w (fun hi => by first | omega)
    have hr := Option.some.inj hG; subst hr
    exact hm
set_option maxRecDepth 20000 in
set_option maxHeartbeats 2000000 in
theorem e_MText_begins {N : Nat} {p0 : Nat} {p1 : Int32} {p2 : Int32} {H : Hp} {r : Unit × Hp} (hF : F_MText_begins N p0 p1 p2 H = some r) : Ev p0 H r.2 := by
  unfold F_MText_begins at hF
  have hm := Ev.rf (w := p0) H
  rcases ite_s hF with ⟨q_7, hG⟩ | ⟨q_7, hG⟩
  · clear hF
    obtain ⟨q20, hF⟩ := ck_s hG; clear hG
    obtain ⟨x21, -, hG⟩ := bnd_g hF; clear hF
    obtain ⟨v23, H24, z22, hF⟩ := bC_s hG; clear hG
    replace hm : Ev p0 H H24 := hm.tr (e_MText_fails z22)
    exact hm.tr (eB_MText_begins_14 hF)
  · clear hF
    exact hm.tr (eB_MText_begins_14 hG)
set_option maxRecDepth 20000 in
set_option maxHeartbeats 2000000 in
theorem e_MText_is {N : Nat} {p0 : Nat} {p1 : Int32} {H : Hp} {r : Int32 × Hp} (hF : F_MText_is N p0 p1 H = some r) : Ev p0 H r.2 := by
  unfold F_MText_is at hF
  have hm := Ev.rf (w := p0) H
  obtain ⟨q12, hG⟩ := ck_s hF; clear hF
  obtain ⟨x13, -, hF⟩ := bnd_g hG; clear hG
  rcases ite_s hF with ⟨q_1, hG⟩ | ⟨q_1, hG⟩
  · clear hF
    obtain ⟨a15, e16, hF⟩ := rf_s hG; clear hG
    have da15 : isT H p0 → a15 ≠ p0 + 16 ∧ a15 ≠ p0 := fun hi => nT_3 (hm hi).1 e16
    obtain ⟨x17, -, hG⟩ := bnd_g hF; clear hF
    obtain ⟨n18, q19, hF⟩ := ar_s hG; clear hG
    obtain ⟨q20, hG⟩ := ck_s hF; clear hF
    obtain ⟨x21, -, hF⟩ := bnd_g hG; clear hG
    rcases ite_s hF with ⟨q_2, hG⟩ | ⟨q_2, hG⟩
    · clear hF
      have hr := Option.some.inj hG; subst hr
      exact hm
    · clear hF
      have hr := Option.some.inj hG; subst hr
      exact hm
  · clear hF
    have hr := Option.some.inj hG; subst hr
    exact hm
set_option maxRecDepth 20000 in
set_option maxHeartbeats 2000000 in
theorem e_MText_accepts {N : Nat} {p0 : Nat} {p1 : Int32} {H : Hp} {r : Int32 × Hp} (hF : F_MText_accepts N p0 p1 H = some r) : Ev p0 H r.2 := by
  unfold F_MText_accepts at hF
  have hm := Ev.rf (w := p0) H
  obtain ⟨q11, hG⟩ := ck_s hF; clear hF
  obtain ⟨v13, H14, z12, hF⟩ := bC_s hG; clear hG
  replace hm : Ev p0 H H14 := hm.tr (e_MText_is z12)
  obtain ⟨x15, -, hG⟩ := bnd_g hF; clear hF
  rcases ite_s hG with ⟨q_5, hF⟩ | ⟨q_5, hF⟩
  · clear hG
    obtain ⟨H17, eH17, hG⟩ := bnd_g hF; clear hF
    replace hm : Ev p0 H H17 := by rw [eH17]; exact hm.w (fun hi => by first | omega)
    obtain ⟨q18, hF⟩ := ck_s hG; clear hG
    have hr := Option.some.inj hF; subst hr
    exact hm
  · clear hG
    obtain ⟨H19, eH19, hG⟩ := bnd_g hF; clear hF
    replace hm : Ev p0 H H19 := by rw [eH19]; exact hm.w (fun hi => by first | omega)
    obtain ⟨q20, hF⟩ := ck_s hG; clear hG
    have hr := Option.some.inj hF; subst hr
    exact hm
set_option maxRecDepth 20000 in
set_option maxHeartbeats 2000000 in
theorem e_MText_takes {N : Nat} {p0 : Nat} {p1 : Int32} {H : Hp} {r : Unit × Hp} (hF : F_MText_takes N p0 p1 H = some r) : Ev p0 H r.2 := by
  unfold F_MText_takes at hF
  have hm := Ev.rf (w := p0) H
  obtain ⟨q10, hG⟩ := ck_s hF; clear hF
  obtain ⟨v12, H13, z11, hF⟩ := bC_s hG; clear hG
  replace hm : Ev p0 H H13 := hm.tr (e_MText_accepts z11)
  rcases ite_s hF with ⟨q_4, hG⟩ | ⟨q_4, hG⟩
  · clear hF
    obtain ⟨x15, -, hF⟩ := bnd_g hG; clear hG
    obtain ⟨v17, H18, z16, hG⟩ := bC_s hF; clear hF
    replace hm : Ev p0 H H18 := hm.tr (e_MText_fails z16)
    have hr := Option.some.inj hG; subst hr
    exact hm
  · clear hF
    have hr := Option.some.inj hG; subst hr
    exact hm
set_option maxRecDepth 20000 in
set_option maxHeartbeats 2000000 in
theorem e_MText_name {N : Nat} {p0 : Nat} {H : Hp} {r : Int32 × Hp} (hF : F_MText_name N p0 H = some r) : Ev p0 H r.2 := by
  unfold F_MText_name at hF
  have hm := Ev.rf (w := p0) H
  obtain ⟨q18, hG⟩ := ck_s hF; clear hF
  obtain ⟨x19, -, hF⟩ := bnd_g hG; clear hG
  obtain ⟨v21, H22, z20, hG⟩ := bC_s hF; clear hF
  replace hm : Ev p0 H H22 := hm.tr (e_MText_takes z20)
  obtain ⟨x23, -, hF⟩ := bnd_g hG; clear hG
  rcases ite_s hF with ⟨q_4, hG⟩ | ⟨q_4, hG⟩
  · clear hF
    obtain ⟨a25, e26, hF⟩ := rf_s hG; clear hG
    have da25 : isT H p0 → a25 ≠ p0 + 16 ∧ a25 ≠ p0 := fun hi => nT_7 (hm hi).1 e26
    obtain ⟨n27, q28, hG⟩ := ar_s hF; clear hF
    obtain ⟨q29, hF⟩ := ck_s hG; clear hG
    obtain ⟨x30, -, hG⟩ := bnd_g hF; clear hF
    rcases ite_s hG with ⟨q_5, hF⟩ | ⟨q_5, hF⟩
    · clear hG
      have hr := Option.some.inj hF; subst hr
      exact hm
    · clear hG
      obtain ⟨v33, H34, z32, hG⟩ := bC_s hF; clear hF
      replace hm : Ev p0 H H34 := hm.tr (e_MText_fails z32)
      have hr := Option.some.inj hG; subst hr
      exact hm
  · clear hF
    have hr := Option.some.inj hG; subst hr
    exact hm
