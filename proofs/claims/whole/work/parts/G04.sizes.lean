/-! ===== sizes of events stay below five, also where a text is refused ===== -/
def IE (H : Hp) (w : Nat) : Prop := isT H w ∧ ∃ x, x ≤ 4 ∧ H.D (w + 16) 0 = nI x
theorem Ev.ie {w : Nat} {H K : Hp} (h : Ev w H K) (hi : IE H w) : IE K w := by
  obtain ⟨x, x1, x2⟩ := hi.2
  exact ⟨(h hi.1).1, x, x1, by rw [(h hi.1).2.1]; exact x2⟩
theorem IE.w {w a f : Nat} {v : Int32} {H : Hp} (h : IE H w) (ha : a ≠ w + 16) : IE (H.sD a f v) w := by
  obtain ⟨x, x1, x2⟩ := h.2
  exact ⟨h.1, x, x1, by rw [rdw (fun y => ha y.symm)]; exact x2⟩
theorem IE.z {w f : Nat} {v : Int32} {H : Hp} (h : IE H w) (hv : f = 0 → ∃ x, x ≤ 4 ∧ v = nI x) : IE (H.sD (w + 16) f v) w := by
  by_cases y : f = 0
  · subst y
    obtain ⟨x, x1, x2⟩ := hv rfl
    exact ⟨h.1, x, x1, by rw [rds]; exact x2⟩
  · obtain ⟨x, x1, x2⟩ := h.2
    exact ⟨h.1, x, x1, by rw [rdf (fun z => y z.symm)]; exact x2⟩
theorem fails_pos {N p0 : Nat} {p1 p2 : Int32} {H : Hp} {r : Unit × Hp} (hF : F_MText_fails N p0 p1 p2 H = some r) (hp : ¬ p1 ≤ 0) : ¬ r.2.D p0 9 ≤ 0 := by
  unfold F_MText_fails at hF
  obtain ⟨q1, hG⟩ := ck_s hF
  obtain ⟨x2, e2, hG⟩ := bnd_g hG
  rcases ite_s hG with ⟨q, hF⟩ | ⟨q, hF⟩
  · obtain ⟨H4, e4, hF⟩ := bnd_g hF
    obtain ⟨a5, e5, hF⟩ := rf_s hF
    obtain ⟨n7, q7, hF⟩ := ar_s hF
    obtain ⟨q8, hF⟩ := ck_s hF
    obtain ⟨x10, -, hF⟩ := bnd_g hF
    obtain ⟨H11, e11, hF⟩ := bnd_g hF
    have hr := Option.some.inj hF; subst hr
    rw [e11, e4, rdf (by decide), rds]
    exact hp
  · have hr := Option.some.inj hF; subst hr
    rw [e2] at q
    exact q
theorem isKind_H {N p0 : Nat} {v : Int32} {H H2 : Hp} (hF : F_MText_isKind N p0 H = some (v, H2)) : H2 = H := by
  unfold F_MText_isKind at hF
  obtain ⟨q1, hF⟩ := ck_s hF
  obtain ⟨x2, e2, hF⟩ := bnd_g hF
  rcases ite_s hF with ⟨q, hF⟩ | ⟨q, hF⟩
  · obtain ⟨a4, -, hF⟩ := rf_s hF
    obtain ⟨x6, -, hF⟩ := bnd_g hF
    obtain ⟨n7, -, hF⟩ := ar_s hF
    obtain ⟨-, hF⟩ := ck_s hF
    obtain ⟨x10, -, hF⟩ := bnd_g hF
    rcases ite_s hF with ⟨q, hF⟩ | ⟨q, hF⟩
    · exact (Prod.mk.inj (Option.some.inj hF)).2.symm
    · obtain ⟨a4, -, hF⟩ := rf_s hF
      obtain ⟨x6, -, hF⟩ := bnd_g hF
      obtain ⟨n7, -, hF⟩ := ar_s hF
      obtain ⟨-, hF⟩ := ck_s hF
      obtain ⟨x10, -, hF⟩ := bnd_g hF
      rcases ite_s hF with ⟨q, hF⟩ | ⟨q, hF⟩
      · exact (Prod.mk.inj (Option.some.inj hF)).2.symm
      · exact (Prod.mk.inj (Option.some.inj hF)).2.symm
  · exact (Prod.mk.inj (Option.some.inj hF)).2.symm
theorem kind_f {N p0 : Nat} {v : Int32} {H H2 : Hp} (hF : F_MText_kind N p0 H = some (v, H2)) (hi : isT H p0) (hk : ∀ y K, F_MText_isKind N p0 H = some (y, K) → y = 0) : ¬ H2.D p0 9 ≤ 0 := by
  unfold F_MText_kind at hF
  obtain ⟨q1, hF⟩ := ck_s hF
  obtain ⟨a4, -, hF⟩ := rf_s hF
  obtain ⟨x6, -, hF⟩ := bnd_g hF
  obtain ⟨n7, -, hF⟩ := ar_s hF
  obtain ⟨-, hF⟩ := ck_s hF
  obtain ⟨x10, -, hF⟩ := bnd_g hF
  obtain ⟨x11, -, hF⟩ := bnd_g hF
  obtain ⟨y, K, z, hG⟩ := bC_s hF
  clear hF
  have hK := isKind_H z
  subst hK
  rcases ite_s hG with ⟨q, hF⟩ | ⟨q, hF⟩
  · obtain ⟨x12, -, hF⟩ := bnd_g hF
    obtain ⟨v2, K2, z2, hF⟩ := bC_s hF
    have f1 := fails_pos z2 (by decide)
    have t1 := (e_MText_fails z2 hi).1
    exact (eB_MText_kind_30 hF t1).2.2 f1
  · exact absurd (hk _ _ z) q
theorem e148 {N p0 : Nat} {kq : Int32 → Int32 → Hp → Option (Unit × Hp)} {l1 l4 l5 : Int32} {H : Hp} {r : Unit × Hp} (hk : ∀ a b H r, kq a b H = some r → IE H p0 → IE r.2 p0) (hF : B_MText_event_148 N p0 kq l1 l4 l5 H = some r) (hI : IE H p0) (hg : ¬ H.D p0 9 ≤ 0 ∨ (l1.toNatClampNeg = 0 → H.D (p0 + 16) 0 ≠ 4)) : IE r.2 p0 := by
  unfold B_MText_event_148 at hF
  obtain ⟨q1, hF⟩ := ck_s hF
  obtain ⟨x65, e65, hF⟩ := bnd_g hF
  rcases ite_s hF with ⟨q, hF⟩ | ⟨q, hF⟩
  · rw [e65] at q
    have hg2 := hg.resolve_left (fun y => y q)
    obtain ⟨a67, e67, hF⟩ := rf_s hF
    obtain ⟨a69, e69, hF⟩ := rf_s hF
    obtain ⟨n71, -, hF⟩ := ar_s hF
    obtain ⟨-, hF⟩ := ck_s hF
    obtain ⟨x74, -, hF⟩ := bnd_g hF
    obtain ⟨n75, -, hF⟩ := ar_s hF
    obtain ⟨-, hF⟩ := ck_s hF
    obtain ⟨H78, e78, hF⟩ := bnd_g hF
    have c67 := rP_i (TP_24 hI.1) e67
    have I78 : IE H78 p0 := by rw [e78]; exact hI.w (by omega)
    have d78 : H78.D (p0 + 16) 0 = H.D (p0 + 16) 0 := by rw [e78, rdw (by omega)]
    obtain ⟨a79, e79, hF⟩ := rf_s hF
    obtain ⟨a81, e81, hF⟩ := rf_s hF
    obtain ⟨n83, -, hF⟩ := ar_s hF
    obtain ⟨-, hF⟩ := ck_s hF
    obtain ⟨x86, -, hF⟩ := bnd_g hF
    obtain ⟨n87, -, hF⟩ := ar_s hF
    obtain ⟨-, hF⟩ := ck_s hF
    obtain ⟨H90, e90, hF⟩ := bnd_g hF
    have c79 := rP_i (TP_25 I78.1) e79
    have I90 : IE H90 p0 := by rw [e90]; exact I78.w (by omega)
    have d90 : H90.D (p0 + 16) 0 = H.D (p0 + 16) 0 := by rw [e90, rdw (by omega)]; exact d78
    obtain ⟨a91, e91, hF⟩ := rf_s hF
    obtain ⟨n93, -, hF⟩ := ar_s hF
    obtain ⟨-, hF⟩ := ck_s hF
    obtain ⟨x96, e96, hF⟩ := bnd_g hF
    obtain ⟨-, hF⟩ := ck_s hF
    obtain ⟨H98, e98, hF⟩ := bnd_g hF
    have c91 := rP_i (TP_23 I90.1) e91
    have I98 : IE H98 p0 := by
      rw [e98, c91]
      refine I90.z fun y => ?_
      have n4 := hg2 y
      obtain ⟨x, x1, x2⟩ := I90.2
      rw [← d90, x2] at n4
      have : x ≠ 4 := fun z => n4 (by rw [z]; rfl)
      refine ⟨x + 1, by omega, ?_⟩
      rw [e96, c91, y, x2, nI_1]
    obtain ⟨v100, H101, z, hF⟩ := bC_s hF
    exact hk _ _ _ _ hF ((e_MText_accepts z).ie I98)
  · have hr := Option.some.inj hF; subst hr
    exact hI
theorem e112 {N p0 : Nat} {kq : Int32 → Int32 → Hp → Option (Unit × Hp)} {l1 : Int32} {H : Hp} {r : Unit × Hp} (hk : ∀ a b H r, kq a b H = some r → IE H p0 → IE r.2 p0) (hF : B_MText_event_112 N p0 kq l1 H = some r) (hI : IE H p0) (hg : ¬ H.D p0 9 ≤ 0 ∨ (l1.toNatClampNeg = 0 → H.D (p0 + 16) 0 ≠ 4) ∨ ∀ y K, F_MText_isKind N p0 H = some (y, K) → y = 0) : IE r.2 p0 := by
  unfold B_MText_event_112 at hF
  obtain ⟨q1, hF⟩ := ck_s hF
  obtain ⟨v57, H58, z57, hF⟩ := bC_s hF
  obtain ⟨v60, H61, z60, hF⟩ := bC_s hF
  obtain ⟨x62, -, hF⟩ := bnd_g hF
  have k1 := e_MText_kind z57
  have k2 := e_MText_name z60
  have I58 := k1.ie hI
  have I61 := k2.ie I58
  have g58 : ¬ H58.D p0 9 ≤ 0 ∨ (l1.toNatClampNeg = 0 → H58.D (p0 + 16) 0 ≠ 4) := by
    rcases hg with y | y | y
    · exact .inl ((k1 hI.1).2.2 y)
    · exact .inr (by rw [(k1 hI.1).2.1]; exact y)
    · exact .inl (kind_f z57 hI.1 y)
  have mv : ∀ K K2, Ev p0 K K2 → IE K p0 → (¬ K.D p0 9 ≤ 0 ∨ (l1.toNatClampNeg = 0 → K.D (p0 + 16) 0 ≠ 4)) → ¬ K2.D p0 9 ≤ 0 ∨ (l1.toNatClampNeg = 0 → K2.D (p0 + 16) 0 ≠ 4) := fun K K2 e i y => y.imp ((e i.1).2.2) (fun z => by rw [(e i.1).2.1]; exact z)
  have g61 := mv _ _ k2 I58 g58
  rcases ite_s hF with ⟨q, hF⟩ | ⟨q, hF⟩
  · obtain ⟨v141, H142, z141, hF⟩ := bC_s hF
    have k3 := e_MText_eventMemberOf z141
    have I142 := k3.ie I61
    have g142 := mv _ _ k3 I61 g61
    rcases ite_s hF with ⟨q, hF⟩ | ⟨q, hF⟩
    · exact e148 hk hF I142 g142
    · obtain ⟨v145, H146, z145, hF⟩ := bC_s hF
      have k4 := e_MText_fails z145
      exact e148 hk hF (k4.ie I142) (mv _ _ k4 I142 g142)
  · exact e148 hk hF I61 g61
theorem e210 {N p0 : Nat} {H : Hp} {r : Unit × Hp} (hF : B_MText_event_210 N p0 H = some r) (hI : IE H p0) : IE r.2 p0 := by
  unfold B_MText_event_210 at hF
  obtain ⟨q1, hF⟩ := ck_s hF
  obtain ⟨v57, H58, z57, hF⟩ := bC_s hF
  obtain ⟨v60, H61, z60, hF⟩ := bC_s hF
  have hr := Option.some.inj hF; subst hr
  exact (e_MText_takes z60).ie ((e_MText_takes z57).ie hI)
theorem e75 {N p0 : Nat} : ∀ n l1 l3 H r, B_MText_event_75 N p0 n l1 l3 H = some r → IE H p0 → IE r.2 p0 := by
  intro n
  induction n with
  | zero => intro l1 l3 H r hF; rw [B_MText_event_75] at hF; cases hF
  | succ n ih =>
    intro l1 l3 H r hF hI
    rw [B_MText_event_75] at hF
    obtain ⟨q1, hF⟩ := ck_s hF
    obtain ⟨x34, -, hF⟩ := bnd_g hF
    rcases ite_s hF with ⟨q, hF⟩ | ⟨q, hF⟩
    · rcases ite_s hF with ⟨q, hF⟩ | ⟨q, hF⟩
      · exact e210 hF hI
      · obtain ⟨v52, H53, z52, hG⟩ := bC_s hF
        clear hF
        have hH := isKind_H z52
        subst hH
        rcases ite_s hG with ⟨q, hF⟩ | ⟨q, hF⟩
        · exact e112 ih hF hI (.inr (.inr fun y K z => by rw [z52] at z; rw [← (Prod.mk.inj (Option.some.inj z)).1]; exact q))
        · obtain ⟨a, ea, hF⟩ := rf_s hF
          obtain ⟨n7, -, hF⟩ := ar_s hF
          obtain ⟨-, hF⟩ := ck_s hF
          obtain ⟨x168, e168, hF⟩ := bnd_g hF
          have ca := rP_i (TP_23 hI.1) ea
          rcases ite_s hF with ⟨q, hF⟩ | ⟨q, hF⟩
          · obtain ⟨x170, -, hF⟩ := bnd_g hF
            obtain ⟨v172, H173, z172, hF⟩ := bC_s hF
            exact e112 ih hF ((e_MText_fails z172).ie hI) (.inl (fails_pos z172 (by decide)))
          · refine e112 ih hF hI (.inr (.inl fun y => ?_))
            rw [e168, ca, y] at q
            exact q
    · exact e210 hF hI
theorem e_event {N p0 : Nat} {H : Hp} {r : Unit × Hp} (hF : F_MText_event N p0 H = some r) (hI : IE H p0) : IE r.2 p0 := by
  unfold F_MText_event at hF
  obtain ⟨q1, hF⟩ := ck_s hF
  obtain ⟨x2, -, hF⟩ := bnd_g hF
  obtain ⟨v4, H5, z4, hF⟩ := bC_s hF
  obtain ⟨x6, -, hF⟩ := bnd_g hF
  obtain ⟨v8, H9, z8, hF⟩ := bC_s hF
  obtain ⟨x10, -, hF⟩ := bnd_g hF
  have I9 := (e_MText_told z8).ie ((e_MText_begins z4).ie hI)
  rcases ite_s hF with ⟨q, hF⟩ | ⟨q, hF⟩
  · obtain ⟨a12, e12, hF⟩ := rf_s hF
    obtain ⟨n14, -, hF⟩ := ar_s hF
    obtain ⟨-, hF⟩ := ck_s hF
    obtain ⟨H17, e17, hF⟩ := bnd_g hF
    have c12 := rP_i (TP_22 I9.1) e12
    have I17 : IE H17 p0 := by rw [e17]; exact I9.w (by omega)
    obtain ⟨a18, e18, hF⟩ := rf_s hF
    obtain ⟨n20, -, hF⟩ := ar_s hF
    obtain ⟨-, hF⟩ := ck_s hF
    obtain ⟨H23, e23, hF⟩ := bnd_g hF
    have c18 := rP_i (TP_23 I17.1) e18
    have I23 : IE H23 p0 := by rw [e23, c18]; exact I17.z fun _ => ⟨0, by decide, rfl⟩
    obtain ⟨x24, -, hF⟩ := bnd_g hF
    obtain ⟨H25, e25, hF⟩ := bnd_g hF
    have I25 : IE H25 p0 := by rw [e25]; exact I23.w (by omega)
    obtain ⟨v27, H28, z27, hF⟩ := bC_s hF
    obtain ⟨v30, H31, z30, hF⟩ := bC_s hF
    have I31 := (e_MText_is z30).ie ((e_MText_takes z27).ie I25)
    rcases ite_s hF with ⟨q, hF⟩ | ⟨q, hF⟩
    · unfold B_MText_event_74 at hF
      exact e75 _ _ _ _ _ hF I31
    · unfold B_MText_event_74 at hF
      exact e75 _ _ _ _ _ hF I31
  · have hr := Option.some.inj hF; subst hr
    exact I9
theorem e145 {N p0 p1 : Nat} {p2 : Int32} {H : Hp} {r : Unit × Hp} (hF : B_MText_reads_145 N p0 p1 p2 H = some r) (hI : IE H p0) : IE r.2 p0 := by
  unfold B_MText_reads_145 at hF
  obtain ⟨q1, hF⟩ := ck_s hF
  obtain ⟨x2, -, hF⟩ := bnd_g hF
  rcases ite_s hF with ⟨q, hF⟩ | ⟨q, hF⟩
  · obtain ⟨v4, H5, z4, hF⟩ := bC_s hF
    have hr := Option.some.inj hF; subst hr
    exact (e_MText_groupsThem z4).ie hI
  · have hr := Option.some.inj hF; subst hr
    exact hI
theorem e53 {N p0 p1 : Nat} {p2 : Int32} : ∀ n H r, B_MText_reads_53 N p0 p1 p2 n H = some r → IE H p0 → IE r.2 p0 := by
  intro n
  induction n with
  | zero => intro H r hF; rw [B_MText_reads_53] at hF; cases hF
  | succ n ih =>
    intro H r hF hI
    rw [B_MText_reads_53] at hF
    obtain ⟨q1, hF⟩ := ck_s hF
    obtain ⟨x20, -, hF⟩ := bnd_g hF
    rcases ite_s hF with ⟨q, hF⟩ | ⟨q, hF⟩
    · obtain ⟨a34, -, hF⟩ := rf_s hF
      obtain ⟨x36, -, hF⟩ := bnd_g hF
      obtain ⟨n37, -, hF⟩ := ar_s hF
      obtain ⟨-, hF⟩ := ck_s hF
      obtain ⟨x40, -, hF⟩ := bnd_g hF
      rcases ite_s hF with ⟨q, hF⟩ | ⟨q, hF⟩
      · exact e145 hF hI
      · obtain ⟨a34, -, hF⟩ := rf_s hF
        obtain ⟨x36, -, hF⟩ := bnd_g hF
        obtain ⟨n37, -, hF⟩ := ar_s hF
        obtain ⟨-, hF⟩ := ck_s hF
        obtain ⟨x40, -, hF⟩ := bnd_g hF
        obtain ⟨x49, -, hF⟩ := bnd_g hF
        rcases ite_s hF with ⟨q, hF⟩ | ⟨q, hF⟩
        · obtain ⟨v4, H5, z4, hF⟩ := bC_s hF
          exact ih _ _ hF ((e_MText_component z4).ie hI)
        rcases ite_s hF with ⟨q, hF⟩ | ⟨q, hF⟩
        · obtain ⟨v4, H5, z4, hF⟩ := bC_s hF
          exact ih _ _ hF (e_event z4 hI)
        rcases ite_s hF with ⟨q, hF⟩ | ⟨q, hF⟩
        · obtain ⟨v4, H5, z4, hF⟩ := bC_s hF
          exact ih _ _ hF ((e_MText_prefab z4).ie hI)
        rcases ite_s hF with ⟨q, hF⟩ | ⟨q, hF⟩
        · obtain ⟨v4, H5, z4, hF⟩ := bC_s hF
          exact ih _ _ hF ((e_MText_system z4).ie hI)
        obtain ⟨x54, -, hF⟩ := bnd_g hF
        obtain ⟨v4, H5, z4, hF⟩ := bC_s hF
        exact ih _ _ hF ((e_MText_fails z4).ie hI)
    · exact e145 hF hI
theorem e_reads {N p0 p1 : Nat} {p2 : Int32} {H : Hp} {r : Unit × Hp} (hF : F_MText_reads N p0 p1 p2 H = some r) (hI : IE H p0) : IE r.2 p0 := by
  unfold F_MText_reads at hF
  obtain ⟨q1, hF⟩ := ck_s hF
  obtain ⟨v3, H4, z4, hF⟩ := bC_s hF
  have I4 := (e_MText_scans z4).ie hI
  obtain ⟨H5, e5, hF⟩ := bnd_g hF
  obtain ⟨H6, e6, hF⟩ := bnd_g hF
  obtain ⟨H7, e7, hF⟩ := bnd_g hF
  obtain ⟨H8, e8, hF⟩ := bnd_g hF
  obtain ⟨H9, e9, hF⟩ := bnd_g hF
  have I9 : IE H9 p0 := by
    rw [e9, e8, e7, e6, e5]
    exact ((((I4.w (by omega)).w (by omega)).w (by omega)).w (by omega)).w (by omega)
  obtain ⟨a10, e10, hF⟩ := rf_s hF
  obtain ⟨n12, -, hF⟩ := ar_s hF
  obtain ⟨-, hF⟩ := ck_s hF
  have c10 := rP_i (TP_18 I9.1) e10
  obtain ⟨H15, e15, hF⟩ := bnd_g hF
  obtain ⟨H16, e16, hF⟩ := bnd_g hF
  obtain ⟨H17, e17, hF⟩ := bnd_g hF
  obtain ⟨H18, e18, hF⟩ := bnd_g hF
  refine e53 _ _ _ hF ?_
  rw [e18, e17, e16, e15]
  exact (((I9.w (by omega)).w (by omega)).w (by omega)).w (by omega)
theorem e67 {N w : Nat} {x : Int32} {H : Hp} {r : Int32 × Hp} (hw : w ≠ 501) (hF : B_M_reads_67 N 517 517 x H = some r) (hI : IE H w) : IE r.2 w := by
  unfold B_M_reads_67 at hF
  obtain ⟨-, hF⟩ := ck_s hF
  obtain ⟨H34, e34, hF⟩ := bnd_g hF
  have I34 : IE H34 w := by rw [e34]; exact hI.w (by omega)
  obtain ⟨-, hF⟩ := ck_s hF
  obtain ⟨a36, -, hF⟩ := rf_s hF
  obtain ⟨-, hF⟩ := ck_s hF
  obtain ⟨x39, -, hF⟩ := bnd_g hF
  rcases ite_s hF with ⟨q, hF⟩ | ⟨q, hF⟩
  · have hr := Option.some.inj hF; subst hr
    exact I34
  · have hr := Option.some.inj hF; subst hr
    exact I34
theorem e42 {N w : Nat} {x : Int32} {H : Hp} {r : Int32 × Hp} (hw : w ≠ 501) (hF : B_M_reads_42 N 517 517 x H = some r) (hI : IE H w) : IE r.2 w := by
  unfold B_M_reads_42 at hF
  obtain ⟨-, hF⟩ := ck_s hF
  obtain ⟨H34, e34, hF⟩ := bnd_g hF
  have I34 : IE H34 w := by rw [e34]; exact hI.w (by omega)
  obtain ⟨-, hF⟩ := ck_s hF
  obtain ⟨a36, -, hF⟩ := rf_s hF
  obtain ⟨-, hF⟩ := ck_s hF
  obtain ⟨x39, -, hF⟩ := bnd_g hF
  rcases ite_s hF with ⟨q, hF⟩ | ⟨q, hF⟩
  · exact e67 hw hF I34
  · obtain ⟨a36, -, hF⟩ := rf_s hF
    obtain ⟨-, hF⟩ := ck_s hF
    obtain ⟨x39, -, hF⟩ := bnd_g hF
    exact e67 hw hF I34
/-- the whole reading of the reference -/
theorem e_Mreads {N w : Nat} {B : Hp} {r : Int32 × Hp} (hw : w ≠ 501) (b4 : B.P 517 4 = .ref w) (hF : F_M_reads N 517 B = some r) (hI : IE B w) : IE r.2 w := by
  unfold F_M_reads at hF
  obtain ⟨-, hF⟩ := ck_s hF
  obtain ⟨a2, e2, hF⟩ := rf_s hF
  have c2 := rP_i b4 e2
  subst c2
  obtain ⟨a4, -, hF⟩ := rf_s hF
  obtain ⟨x6, -, hF⟩ := bnd_g hF
  obtain ⟨-, hF⟩ := ck_s hF
  obtain ⟨v9, H10, z9, hF⟩ := bC_s hF
  have I10 := e_reads z9 hI
  obtain ⟨H11, e11, hF⟩ := bnd_g hF
  have I11 : IE H11 a2 := by rw [e11]; exact I10.w (by omega)
  obtain ⟨a12, -, hF⟩ := rf_s hF
  obtain ⟨-, hF⟩ := ck_s hF
  obtain ⟨x15, -, hF⟩ := bnd_g hF
  rcases ite_s hF with ⟨q, hF⟩ | ⟨q, hF⟩
  · exact e42 hw hF I11
  · obtain ⟨a36, -, hF⟩ := rf_s hF
    obtain ⟨-, hF⟩ := ck_s hF
    obtain ⟨x39, -, hF⟩ := bnd_g hF
    exact e42 hw hF I11
