/-! ===== (gen_ev.py) ===== -/
set_option maxRecDepth 20000 in
set_option maxHeartbeats 2000000 in
theorem eB_MText_isSame_77 {N : Nat} {p0 : Nat} {p1 : Int32} {p2 : Nat} {p3 : Int32} {kq25 : Int32 → Int32 → Hp → Option (Int32 × Hp)} (hm25 : ∀ (l4 : Int32) (l5 : Int32) (H : Hp) (r : Int32 × Hp), kq25 l4 l5 H = some r → Ev p0 H r.2) {l5 : Int32} {w0 : Int32} {H : Hp} {r : Int32 × Hp} (hF : B_MText_isSame_77 N p0 p1 p2 p3 kq25 l5 w0 H = some r) : Ev p0 H r.2 := by
  unfold B_MText_isSame_77 at hF
  have hm := Ev.rf (w := p0) H
  exact hm.tr (hm25 w0 (l5 + 1) H r hF)
set_option maxRecDepth 20000 in
set_option maxHeartbeats 2000000 in
theorem eB_MText_isSame_25 {N : Nat} {p0 : Nat} {p1 : Int32} {p2 : Nat} {p3 : Int32} : ∀ (n : Nat) (l4 : Int32) (l5 : Int32) (H : Hp) (r : Int32 × Hp), B_MText_isSame_25 N p0 p1 p2 p3 n l4 l5 H = some r → Ev p0 H r.2 := by
  intro n
  induction n with
  | zero => intro l4 l5 H r hF; rw [B_MText_isSame_25] at hF; cases hF
  | succ n ih =>
    intro l4 l5 H r hF
    rw [B_MText_isSame_25] at hF
    have hm := Ev.rf (w := p0) H
    obtain ⟨q53, hG⟩ := ck_s hF; clear hF
    obtain ⟨a54, e55, hF⟩ := rf_s hG; clear hG
    have da54 : isT H p0 → a54 ≠ p0 + 16 ∧ a54 ≠ p0 := fun hi => nT_5 (hm hi).1 e55
    obtain ⟨n56, q57, hG⟩ := ar_s hF; clear hF
    obtain ⟨q58, hF⟩ := ck_s hG; clear hG
    obtain ⟨x59, -, hG⟩ := bnd_g hF; clear hF
    rcases ite_s hG with ⟨q_1, hF⟩ | ⟨q_1, hF⟩
    · clear hG
      obtain ⟨q61, hG⟩ := ck_s hF; clear hF
      have hr := Option.some.inj hG; subst hr
      exact hm
    · clear hG
      rcases ite_s hF with ⟨q_2, hG⟩ | ⟨q_2, hG⟩
      · clear hF
        obtain ⟨q63, hF⟩ := ck_s hG; clear hG
        have hr := Option.some.inj hF; subst hr
        exact hm
      · clear hF
        obtain ⟨a64, e65, hF⟩ := rf_s hG; clear hG
        have da64 : isT H p0 → a64 ≠ p0 + 16 ∧ a64 ≠ p0 := fun hi => nT_0 (hm hi).1 e65
        obtain ⟨a66, e67, hG⟩ := rf_s hF; clear hF
        have da66 : isT H p0 → a66 ≠ p0 + 16 ∧ a66 ≠ p0 := fun hi => nT_4 (hm hi).1 e67
        obtain ⟨n68, q69, hF⟩ := ar_s hG; clear hG
        obtain ⟨q70, hG⟩ := ck_s hF; clear hF
        obtain ⟨x71, -, hF⟩ := bnd_g hG; clear hG
        obtain ⟨n72, q73, hG⟩ := ar_s hF; clear hF
        obtain ⟨q74, hF⟩ := ck_s hG; clear hG
        obtain ⟨x75, -, hG⟩ := bnd_g hF; clear hF
        obtain ⟨q76, hF⟩ := ck_s hG; clear hG
        obtain ⟨a77, e78, hG⟩ := rf_s hF; clear hF
        obtain ⟨a79, e80, hF⟩ := rf_s hG; clear hG
        obtain ⟨n81, q82, hG⟩ := ar_s hF; clear hF
        obtain ⟨q83, hF⟩ := ck_s hG; clear hG
        obtain ⟨x84, -, hG⟩ := bnd_g hF; clear hF
        obtain ⟨n85, q86, hF⟩ := ar_s hG; clear hG
        obtain ⟨q87, hG⟩ := ck_s hF; clear hF
        obtain ⟨x88, -, hF⟩ := bnd_g hG; clear hG
        rcases ite_s hF with ⟨q_3, hG⟩ | ⟨q_3, hG⟩
        · clear hF
          exact hm.tr (eB_MText_isSame_77 ih hG)
        · clear hF
          exact hm.tr (eB_MText_isSame_77 ih hG)
set_option maxRecDepth 20000 in
set_option maxHeartbeats 2000000 in
theorem eB_MText_isSame_20 {N : Nat} {p0 : Nat} {p1 : Int32} {p2 : Nat} {p3 : Int32} {w0 : Int32} {H : Hp} {r : Int32 × Hp} (hF : B_MText_isSame_20 N p0 p1 p2 p3 w0 H = some r) : Ev p0 H r.2 := by
  unfold B_MText_isSame_20 at hF
  have hm := Ev.rf (w := p0) H
  exact hm.tr (eB_MText_isSame_25 N w0 0 H r hF)
set_option maxRecDepth 20000 in
set_option maxHeartbeats 2000000 in
theorem e_MText_isSame {N : Nat} {p0 : Nat} {p1 : Int32} {p2 : Nat} {p3 : Int32} {H : Hp} {r : Int32 × Hp} (hF : F_MText_isSame N p0 p1 p2 p3 H = some r) : Ev p0 H r.2 := by
  unfold F_MText_isSame at hF
  have hm := Ev.rf (w := p0) H
  obtain ⟨q90, hG⟩ := ck_s hF; clear hF
  obtain ⟨a91, e92, hF⟩ := rf_s hG; clear hG
  have da91 : isT H p0 → a91 ≠ p0 + 16 ∧ a91 ≠ p0 := fun hi => nT_5 (hm hi).1 e92
  obtain ⟨n93, q94, hG⟩ := ar_s hF; clear hF
  obtain ⟨q95, hF⟩ := ck_s hG; clear hG
  obtain ⟨x96, -, hG⟩ := bnd_g hF; clear hF
  obtain ⟨q97, hF⟩ := ck_s hG; clear hG
  obtain ⟨a98, e99, hG⟩ := rf_s hF; clear hF
  obtain ⟨n100, q101, hF⟩ := ar_s hG; clear hG
  obtain ⟨q102, hG⟩ := ck_s hF; clear hF
  obtain ⟨x103, -, hF⟩ := bnd_g hG; clear hG
  rcases ite_s hF with ⟨q_4, hG⟩ | ⟨q_4, hG⟩
  · clear hF
    exact hm.tr (eB_MText_isSame_20 hG)
  · clear hF
    exact hm.tr (eB_MText_isSame_20 hG)
set_option maxRecDepth 20000 in
set_option maxHeartbeats 2000000 in
theorem eB_MText_index_2 {N : Nat} {p0 : Nat} {p1 : Int32} : ∀ (n : Nat) (l2 : Int32) (H : Hp) (r : Int32 × Hp), B_MText_index_2 N p0 p1 n l2 H = some r → Ev p0 H r.2 := by
  intro n
  induction n with
  | zero => intro l2 H r hF; rw [B_MText_index_2] at hF; cases hF
  | succ n ih =>
    intro l2 H r hF
    rw [B_MText_index_2] at hF
    have hm := Ev.rf (w := p0) H
    obtain ⟨q14, hG⟩ := ck_s hF; clear hF
    obtain ⟨x15, -, hF⟩ := bnd_g hG; clear hG
    rcases ite_s hF with ⟨q_2, hG⟩ | ⟨q_2, hG⟩
    · clear hF
      have hr := Option.some.inj hG; subst hr
      exact hm
    · clear hF
      obtain ⟨a17, e18, hF⟩ := rf_s hG; clear hG
      have da17 : isT H p0 → a17 ≠ p0 + 16 ∧ a17 ≠ p0 := fun hi => nT_13 (hm hi).1 e18
      obtain ⟨n19, q20, hG⟩ := ar_s hF; clear hF
      obtain ⟨q21, hF⟩ := ck_s hG; clear hG
      obtain ⟨x22, -, hG⟩ := bnd_g hF; clear hF
      obtain ⟨v24, H25, z23, hF⟩ := bC_s hG; clear hG
      replace hm : Ev p0 H H25 := hm.tr (e_MText_isSame z23)
      rcases ite_s hF with ⟨q_4, hG⟩ | ⟨q_4, hG⟩
      · clear hF
        exact hm.tr (ih (l2 + 1) H25 r hG)
      · clear hF
        have hr := Option.some.inj hG; subst hr
        exact hm
set_option maxRecDepth 20000 in
set_option maxHeartbeats 2000000 in
theorem e_MText_index {N : Nat} {p0 : Nat} {p1 : Int32} {H : Hp} {r : Int32 × Hp} (hF : F_MText_index N p0 p1 H = some r) : Ev p0 H r.2 := by
  unfold F_MText_index at hF
  have hm := Ev.rf (w := p0) H
  exact hm.tr (eB_MText_index_2 N 0 H r hF)
set_option maxRecDepth 20000 in
set_option maxHeartbeats 2000000 in
theorem eB_MText_told_26 {N : Nat} {p0 : Nat} {p1 : Int32} {p2 : Int32} {l3 : Int32} {H : Hp} {r : Int32 × Hp} (hF : B_MText_told_26 N p0 p1 p2 l3 H = some r) : Ev p0 H r.2 := by
  unfold B_MText_told_26 at hF
  have hm := Ev.rf (w := p0) H
  obtain ⟨q33, hG⟩ := ck_s hF; clear hF
  obtain ⟨x34, -, hF⟩ := bnd_g hG; clear hG
  rcases ite_s hF with ⟨q_6, hG⟩ | ⟨q_6, hG⟩
  · clear hF
    obtain ⟨a36, e37, hF⟩ := rf_s hG; clear hG
    have da36 : isT H p0 → a36 ≠ p0 + 16 ∧ a36 ≠ p0 := fun hi => nT_13 (hm hi).1 e37
    obtain ⟨x38, -, hG⟩ := bnd_g hF; clear hF
    obtain ⟨n39, q40, hF⟩ := ar_s hG; clear hG
    obtain ⟨q41, hG⟩ := ck_s hF; clear hF
    obtain ⟨H42, eH42, hF⟩ := bnd_g hG; clear hG
    replace hm : Ev p0 H H42 := by rw [eH42]; exact hm.w (fun hi => by first | omega | exact ⟨(da36 hi).1, fun y => (da36 hi).2 y.1⟩)
    obtain ⟨a43, e44, hG⟩ := rf_s hF; clear hF
    have da43 : isT H p0 → a43 ≠ p0 + 16 ∧ a43 ≠ p0 := fun hi => nT_14 (hm hi).1 e44
    obtain ⟨x45, -, hF⟩ := bnd_g hG; clear hG
    obtain ⟨n46, q47, hG⟩ := ar_s hF; clear hF
    obtain ⟨q48, hF⟩ := ck_s hG; clear hG
    obtain ⟨H49, eH49, hG⟩ := bnd_g hF; clear hF
    replace hm : Ev p0 H H49 := by rw [eH49]; exact hm.w (fun hi => by first | omega | exact ⟨(da43 hi).1, fun y => (da43 hi).2 y.1⟩ | exact ⟨(da36 hi).1, fun y => (da36 hi).2 y.1⟩)
    obtain ⟨a50, e51, hF⟩ := rf_s hG; clear hG
    have da50 : isT H p0 → a50 ≠ p0 + 16 ∧ a50 ≠ p0 := fun hi => nT_15 (hm hi).1 e51
    obtain ⟨x52, -, hG⟩ := bnd_g hF; clear hF
    obtain ⟨n53, q54, hF⟩ := ar_s hG; clear hG
    obtain ⟨q55, hG⟩ := ck_s hF; clear hF
    obtain ⟨H56, eH56, hF⟩ := bnd_g hG; clear hG
    replace hm : Ev p0 H H56 := by rw [eH56]; exact hm.w (fun hi => by first | omega | exact ⟨(da50 hi).1, fun y => (da50 hi).2 y.1⟩ | exact ⟨(da43 hi).1, fun y => (da43 hi).2 y.1⟩ | exact ⟨(da36 hi).1, fun y => (da36 hi).2 y.1⟩)
    obtain ⟨x57, -, hG⟩ := bnd_g hF; clear hF
    obtain ⟨H58, eH58, hF⟩ := bnd_g hG; clear hG
    replace hm : Ev p0 H H58 := by rw [eH58]; exact hm.w (fun hi => by first | omega | exact ⟨(da50 hi).1, fun y => (da50 hi).2 y.1⟩ | exact ⟨(da43 hi).1, fun y => (da43 hi).2 y.1⟩ | exact ⟨(da36 hi).1, fun y => (da36 hi).2 y.1⟩)
    have hr := Option.some.inj hF; subst hr
    exact hm
  · clear hF
    have hr := Option.some.inj hG; subst hr
    exact hm
set_option maxRecDepth 20000 in
set_option maxHeartbeats 2000000 in
theorem e_MText_told {N : Nat} {p0 : Nat} {p1 : Int32} {p2 : Int32} {H : Hp} {r : Int32 × Hp} (hF : F_MText_told N p0 p1 p2 H = some r) : Ev p0 H r.2 := by
  unfold F_MText_told at hF
  have hm := Ev.rf (w := p0) H
  obtain ⟨q66, hG⟩ := ck_s hF; clear hF
  obtain ⟨v68, H69, z67, hF⟩ := bC_s hG; clear hG
  replace hm : Ev p0 H H69 := hm.tr (e_MText_name z67)
  obtain ⟨x70, -, hG⟩ := bnd_g hF; clear hF
  rcases ite_s hG with ⟨q_14, hF⟩ | ⟨q_14, hF⟩
  · clear hG
    obtain ⟨v73, H74, z72, hG⟩ := bC_s hF; clear hF
    replace hm : Ev p0 H H74 := hm.tr (e_MText_index z72)
    rcases ite_s hG with ⟨q_16, hF⟩ | ⟨q_16, hF⟩
    · clear hG
      exact hm.tr (eB_MText_told_26 hF)
    · clear hG
      obtain ⟨v77, H78, z76, hG⟩ := bC_s hF; clear hF
      replace hm : Ev p0 H H78 := hm.tr (e_MText_fails z76)
      exact hm.tr (eB_MText_told_26 hG)
  · clear hG
    exact hm.tr (eB_MText_told_26 hF)
set_option maxRecDepth 20000 in
set_option maxHeartbeats 2000000 in
theorem e_MText_isKind {N : Nat} {p0 : Nat} {H : Hp} {r : Int32 × Hp} (hF : F_MText_isKind N p0 H = some r) : Ev p0 H r.2 := by
  unfold F_MText_isKind at hF
  have hm := Ev.rf (w := p0) H
  obtain ⟨q20, hG⟩ := ck_s hF; clear hF
  obtain ⟨x21, -, hF⟩ := bnd_g hG; clear hG
  rcases ite_s hF with ⟨q_1, hG⟩ | ⟨q_1, hG⟩
  · clear hF
    obtain ⟨a23, e24, hF⟩ := rf_s hG; clear hG
    have da23 : isT H p0 → a23 ≠ p0 + 16 ∧ a23 ≠ p0 := fun hi => nT_3 (hm hi).1 e24
    obtain ⟨x25, -, hG⟩ := bnd_g hF; clear hF
    obtain ⟨n26, q27, hF⟩ := ar_s hG; clear hG
    obtain ⟨q28, hG⟩ := ck_s hF; clear hF
    obtain ⟨x29, -, hF⟩ := bnd_g hG; clear hG
    rcases ite_s hF with ⟨q_2, hG⟩ | ⟨q_2, hG⟩
    · clear hF
      have hr := Option.some.inj hG; subst hr
      exact hm
    · clear hF
      obtain ⟨a31, e32, hF⟩ := rf_s hG; clear hG
      have da31 : isT H p0 → a31 ≠ p0 + 16 ∧ a31 ≠ p0 := fun hi => nT_3 (hm hi).1 e32
      obtain ⟨x33, -, hG⟩ := bnd_g hF; clear hF
      obtain ⟨n34, q35, hF⟩ := ar_s hG; clear hG
      obtain ⟨q36, hG⟩ := ck_s hF; clear hF
      obtain ⟨x37, -, hF⟩ := bnd_g hG; clear hG
      rcases ite_s hF with ⟨q_3, hG⟩ | ⟨q_3, hG⟩
      · clear hF
        have hr := Option.some.inj hG; subst hr
        exact hm
      · clear hF
        have hr := Option.some.inj hG; subst hr
        exact hm
  · clear hF
    have hr := Option.some.inj hG; subst hr
    exact hm
set_option maxRecDepth 20000 in
set_option maxHeartbeats 2000000 in
theorem eB_MText_kind_47 {N : Nat} {p0 : Nat} {l1 : Int32} {w1 : Int32} {w2 : Int32} {H : Hp} {r : Int32 × Hp} (hF : B_MText_kind_47 N p0 l1 p0 w1 w2 H = some r) : Ev p0 H r.2 := by
  unfold B_MText_kind_47 at hF
  have hm := Ev.rf (w := p0) H
  obtain ⟨q23, hG⟩ := ck_s hF; clear hF
  obtain ⟨H24, eH24, hF⟩ := bnd_g hG; clear hG
  replace hm : Ev p0 H H24 := by rw [eH24]; exact hm.w (fun hi => by first | omega)
  obtain ⟨q25, hG⟩ := ck_s hF; clear hF
  obtain ⟨x26, -, hF⟩ := bnd_g hG; clear hG
  rcases ite_s hF with ⟨q_4, hG⟩ | ⟨q_4, hG⟩
  · clear hF
    have hr := Option.some.inj hG; subst hr
    exact hm
  · clear hF
    have hr := Option.some.inj hG; subst hr
    exact hm
set_option maxRecDepth 20000 in
set_option maxHeartbeats 2000000 in
theorem eB_MText_kind_30 {N : Nat} {p0 : Nat} {l1 : Int32} {H : Hp} {r : Int32 × Hp} (hF : B_MText_kind_30 N p0 l1 H = some r) : Ev p0 H r.2 := by
  unfold B_MText_kind_30 at hF
  have hm := Ev.rf (w := p0) H
  obtain ⟨q28, hG⟩ := ck_s hF; clear hF
  obtain ⟨x29, -, hF⟩ := bnd_g hG; clear hG
  obtain ⟨x30, -, hG⟩ := bnd_g hF; clear hF
  rcases ite_s hG with ⟨q_5, hF⟩ | ⟨q_5, hF⟩
  · clear hG
    exact hm.tr (eB_MText_kind_47 hF)
  · clear hG
    exact hm.tr (eB_MText_kind_47 hF)
set_option maxRecDepth 20000 in
set_option maxHeartbeats 2000000 in
theorem e_MText_kind {N : Nat} {p0 : Nat} {H : Hp} {r : Int32 × Hp} (hF : F_MText_kind N p0 H = some r) : Ev p0 H r.2 := by
  unfold F_MText_kind at hF
  have hm := Ev.rf (w := p0) H
  obtain ⟨q36, hG⟩ := ck_s hF; clear hF
  obtain ⟨a37, e38, hF⟩ := rf_s hG; clear hG
  have da37 : isT H p0 → a37 ≠ p0 + 16 ∧ a37 ≠ p0 := fun hi => nT_3 (hm hi).1 e38
  obtain ⟨x39, -, hG⟩ := bnd_g hF; clear hF
  obtain ⟨n40, q41, hF⟩ := ar_s hG; clear hG
  obtain ⟨q42, hG⟩ := ck_s hF; clear hF
  obtain ⟨x43, -, hF⟩ := bnd_g hG; clear hG
  obtain ⟨x44, -, hG⟩ := bnd_g hF; clear hF
  obtain ⟨v46, H47, z45, hF⟩ := bC_s hG; clear hG
  replace hm : Ev p0 H H47 := hm.tr (e_MText_isKind z45)
  rcases ite_s hF with ⟨q_8, hG⟩ | ⟨q_8, hG⟩
  · clear hF
    obtain ⟨x49, -, hF⟩ := bnd_g hG; clear hG
    obtain ⟨v51, H52, z50, hG⟩ := bC_s hF; clear hF
    replace hm : Ev p0 H H52 := hm.tr (e_MText_fails z50)
    exact hm.tr (eB_MText_kind_30 hG)
  · clear hF
    exact hm.tr (eB_MText_kind_30 hG)
set_option maxRecDepth 20000 in
set_option maxHeartbeats 2000000 in
theorem eB_MText_member_8 {N : Nat} {p0 : Nat} {p1 : Int32} {p2 : Nat} {p3 : Int32} : ∀ (n : Nat) (l4 : Int32) (H : Hp) (r : Int32 × Hp), B_MText_member_8 N p0 p1 p2 p3 n l4 H = some r → Ev p0 H r.2 := by
  intro n
  induction n with
  | zero => intro l4 H r hF; rw [B_MText_member_8] at hF; cases hF
  | succ n ih =>
    intro l4 H r hF
    rw [B_MText_member_8] at hF
    have hm := Ev.rf (w := p0) H
    obtain ⟨q26, hG⟩ := ck_s hF; clear hF
    obtain ⟨a27, e28, hF⟩ := rf_s hG; clear hG
    have da27 : isT H p0 → a27 ≠ p0 + 16 ∧ a27 ≠ p0 := fun hi => nT_18 (hm hi).1 e28
    obtain ⟨n29, q30, hG⟩ := ar_s hF; clear hF
    obtain ⟨q31, hF⟩ := ck_s hG; clear hG
    obtain ⟨x32, -, hG⟩ := bnd_g hF; clear hF
    rcases ite_s hG with ⟨q_2, hF⟩ | ⟨q_2, hF⟩
    · clear hG
      have hr := Option.some.inj hF; subst hr
      exact hm
    · clear hG
      obtain ⟨a34, e35, hG⟩ := rf_s hF; clear hF
      have da34 : isT H p0 → a34 ≠ p0 + 16 ∧ a34 ≠ p0 := fun hi => nT_20 (hm hi).1 e35
      obtain ⟨n36, q37, hF⟩ := ar_s hG; clear hG
      obtain ⟨q38, hG⟩ := ck_s hF; clear hF
      obtain ⟨x39, -, hF⟩ := bnd_g hG; clear hG
      obtain ⟨v41, H42, z40, hG⟩ := bC_s hF; clear hF
      replace hm : Ev p0 H H42 := hm.tr (e_MText_isSame z40)
      rcases ite_s hG with ⟨q_4, hF⟩ | ⟨q_4, hF⟩
      · clear hG
        exact hm.tr (ih (l4 + 1) H42 r hF)
      · clear hG
        have hr := Option.some.inj hF; subst hr
        exact hm
set_option maxRecDepth 20000 in
set_option maxHeartbeats 2000000 in
theorem e_MText_member {N : Nat} {p0 : Nat} {p1 : Int32} {p2 : Nat} {p3 : Int32} {H : Hp} {r : Int32 × Hp} (hF : F_MText_member N p0 p1 p2 p3 H = some r) : Ev p0 H r.2 := by
  unfold F_MText_member at hF
  have hm := Ev.rf (w := p0) H
  obtain ⟨q44, hG⟩ := ck_s hF; clear hF
  obtain ⟨a45, e46, hF⟩ := rf_s hG; clear hG
  have da45 : isT H p0 → a45 ≠ p0 + 16 ∧ a45 ≠ p0 := fun hi => nT_18 (hm hi).1 e46
  obtain ⟨n47, q48, hG⟩ := ar_s hF; clear hF
  obtain ⟨q49, hF⟩ := ck_s hG; clear hG
  obtain ⟨x50, -, hG⟩ := bnd_g hF; clear hF
  exact hm.tr (eB_MText_member_8 N x50 H r hG)
set_option maxRecDepth 20000 in
set_option maxHeartbeats 2000000 in
theorem eB_MText_component_164 {N : Nat} {p0 : Nat} {kq67 : Int32 → Hp → Option (Unit × Hp)} (hm67 : ∀ (l1 : Int32) (H : Hp) (r : Unit × Hp), kq67 l1 H = some r → Ev p0 H r.2) {l1 : Int32} {l3 : Int32} {l4 : Int32} {l5 : Int32} {H : Hp} {r : Unit × Hp} (hF : B_MText_component_164 N p0 kq67 l1 l3 l4 l5 H = some r) : Ev p0 H r.2 := by
  unfold B_MText_component_164 at hF
  have hm := Ev.rf (w := p0) H
  obtain ⟨q87, hG⟩ := ck_s hF; clear hF
  obtain ⟨v89, H90, z88, hF⟩ := bC_s hG; clear hG
  replace hm : Ev p0 H H90 := hm.tr (e_MText_takes z88)
  obtain ⟨x91, -, hG⟩ := bnd_g hF; clear hF
  rcases ite_s hG with ⟨q_16, hF⟩ | ⟨q_16, hF⟩
  · clear hG
    obtain ⟨a93, e94, hG⟩ := rf_s hF; clear hF
    have da93 : isT H p0 → a93 ≠ p0 + 16 ∧ a93 ≠ p0 := fun hi => nT_19 (hm hi).1 e94
    obtain ⟨n95, q96, hF⟩ := ar_s hG; clear hG
    obtain ⟨q97, hG⟩ := ck_s hF; clear hF
    obtain ⟨H98, eH98, hF⟩ := bnd_g hG; clear hG
    replace hm : Ev p0 H H98 := by rw [eH98]; exact hm.w (fun hi => by first | omega | exact ⟨(da93 hi).1, fun y => (da93 hi).2 y.1⟩)
    obtain ⟨a99, e100, hG⟩ := rf_s hF; clear hF
    have da99 : isT H p0 → a99 ≠ p0 + 16 ∧ a99 ≠ p0 := fun hi => nT_20 (hm hi).1 e100
    obtain ⟨n101, q102, hF⟩ := ar_s hG; clear hG
    obtain ⟨q103, hG⟩ := ck_s hF; clear hF
    obtain ⟨H104, eH104, hF⟩ := bnd_g hG; clear hG
    replace hm : Ev p0 H H104 := by rw [eH104]; exact hm.w (fun hi => by first | omega | exact ⟨(da99 hi).1, fun y => (da99 hi).2 y.1⟩ | exact ⟨(da93 hi).1, fun y => (da93 hi).2 y.1⟩)
    obtain ⟨a105, e106, hG⟩ := rf_s hF; clear hF
    have da105 : isT H p0 → a105 ≠ p0 + 16 ∧ a105 ≠ p0 := fun hi => nT_18 (hm hi).1 e106
    obtain ⟨n107, q108, hF⟩ := ar_s hG; clear hG
    obtain ⟨q109, hG⟩ := ck_s hF; clear hF
    obtain ⟨x110, -, hF⟩ := bnd_g hG; clear hG
    obtain ⟨q111, hG⟩ := ck_s hF; clear hF
    obtain ⟨H112, eH112, hF⟩ := bnd_g hG; clear hG
    replace hm : Ev p0 H H112 := by rw [eH112]; exact hm.w (fun hi => by first | omega | exact ⟨(da105 hi).1, fun y => (da105 hi).2 y.1⟩ | exact ⟨(da99 hi).1, fun y => (da99 hi).2 y.1⟩ | exact ⟨(da93 hi).1, fun y => (da93 hi).2 y.1⟩)
    exact hm.tr (hm67 l1 H112 r hF)
  · clear hG
    have hr := Option.some.inj hF; subst hr
    exact hm
set_option maxRecDepth 20000 in
set_option maxHeartbeats 2000000 in
theorem eB_MText_component_127 {N : Nat} {p0 : Nat} {kq67 : Int32 → Hp → Option (Unit × Hp)} (hm67 : ∀ (l1 : Int32) (H : Hp) (r : Unit × Hp), kq67 l1 H = some r → Ev p0 H r.2) {l1 : Int32} {l3 : Int32} {H : Hp} {r : Unit × Hp} (hF : B_MText_component_127 N p0 kq67 l1 l3 H = some r) : Ev p0 H r.2 := by
  unfold B_MText_component_127 at hF
  have hm := Ev.rf (w := p0) H
  obtain ⟨q120, hG⟩ := ck_s hF; clear hF
  obtain ⟨v122, H123, z121, hF⟩ := bC_s hG; clear hG
  replace hm : Ev p0 H H123 := hm.tr (e_MText_kind z121)
  obtain ⟨v125, H126, z124, hG⟩ := bC_s hF; clear hF
  replace hm : Ev p0 H H126 := hm.tr (e_MText_name z124)
  obtain ⟨x127, -, hF⟩ := bnd_g hG; clear hG
  rcases ite_s hF with ⟨q_24, hG⟩ | ⟨q_24, hG⟩
  · clear hF
    obtain ⟨v130, H131, z129, hF⟩ := bC_s hG; clear hG
    replace hm : Ev p0 H H131 := hm.tr (e_MText_member z129)
    rcases ite_s hF with ⟨q_26, hG⟩ | ⟨q_26, hG⟩
    · clear hF
      exact hm.tr (eB_MText_component_164 hm67 hG)
    · clear hF
      obtain ⟨v134, H135, z133, hF⟩ := bC_s hG; clear hG
      replace hm : Ev p0 H H135 := hm.tr (e_MText_fails z133)
      exact hm.tr (eB_MText_component_164 hm67 hF)
  · clear hF
    exact hm.tr (eB_MText_component_164 hm67 hG)
set_option maxRecDepth 20000 in
set_option maxHeartbeats 2000000 in
theorem eB_MText_component_118 {N : Nat} {p0 : Nat} {kq67 : Int32 → Hp → Option (Unit × Hp)} (hm67 : ∀ (l1 : Int32) (H : Hp) (r : Unit × Hp), kq67 l1 H = some r → Ev p0 H r.2) {l1 : Int32} {l3 : Int32} {H : Hp} {r : Unit × Hp} (hF : B_MText_component_118 N p0 kq67 l1 l3 H = some r) : Ev p0 H r.2 := by
  unfold B_MText_component_118 at hF
  have hm := Ev.rf (w := p0) H
  obtain ⟨q148, hG⟩ := ck_s hF; clear hF
  obtain ⟨x149, -, hF⟩ := bnd_g hG; clear hG
  obtain ⟨v151, H152, z150, hG⟩ := bC_s hF; clear hF
  replace hm : Ev p0 H H152 := hm.tr (e_MText_fails z150)
  exact hm.tr (eB_MText_component_127 hm67 hG)
set_option maxRecDepth 20000 in
set_option maxHeartbeats 2000000 in
theorem eB_MText_component_67 {N : Nat} {p0 : Nat} : ∀ (n : Nat) (l1 : Int32) (H : Hp) (r : Unit × Hp), B_MText_component_67 N p0 n l1 H = some r → Ev p0 H r.2 := by
  intro n
  induction n with
  | zero => intro l1 H r hF; rw [B_MText_component_67] at hF; cases hF
  | succ n ih =>
    intro l1 H r hF
    rw [B_MText_component_67] at hF
    have hm := Ev.rf (w := p0) H
    obtain ⟨q154, hG⟩ := ck_s hF; clear hF
    obtain ⟨x155, -, hF⟩ := bnd_g hG; clear hG
    rcases ite_s hF with ⟨q_30, hG⟩ | ⟨q_30, hG⟩
    · clear hF
      obtain ⟨v158, H159, z157, hF⟩ := bC_s hG; clear hG
      replace hm : Ev p0 H H159 := hm.tr (e_MText_accepts z157)
      rcases ite_s hF with ⟨q_32, hG⟩ | ⟨q_32, hG⟩
      · clear hF
        obtain ⟨a161, e162, hF⟩ := rf_s hG; clear hG
        have da161 : isT H p0 → a161 ≠ p0 + 16 ∧ a161 ≠ p0 := fun hi => nT_18 (hm hi).1 e162
        obtain ⟨n163, q164, hG⟩ := ar_s hF; clear hF
        obtain ⟨q165, hF⟩ := ck_s hG; clear hG
        obtain ⟨x166, -, hG⟩ := bnd_g hF; clear hF
        obtain ⟨v168, H169, z167, hF⟩ := bC_s hG; clear hG
        replace hm : Ev p0 H H169 := hm.tr (e_MText_isKind z167)
        rcases ite_s hF with ⟨q_34, hG⟩ | ⟨q_34, hG⟩
        · clear hF
          exact hm.tr (eB_MText_component_127 ih hG)
        · clear hF
          obtain ⟨a171, e172, hF⟩ := rf_s hG; clear hG
          have da171 : isT H p0 → a171 ≠ p0 + 16 ∧ a171 ≠ p0 := fun hi => nT_18 (hm hi).1 e172
          obtain ⟨n173, q174, hG⟩ := ar_s hF; clear hF
          obtain ⟨q175, hF⟩ := ck_s hG; clear hG
          obtain ⟨x176, -, hG⟩ := bnd_g hF; clear hF
          rcases ite_s hG with ⟨q_35, hF⟩ | ⟨q_35, hF⟩
          · clear hG
            exact hm.tr (eB_MText_component_118 ih hF)
          · clear hG
            rcases ite_s hF with ⟨q_36, hG⟩ | ⟨q_36, hG⟩
            · clear hF
              exact hm.tr (eB_MText_component_118 ih hG)
            · clear hF
              exact hm.tr (eB_MText_component_127 ih hG)
      · clear hF
        have hr := Option.some.inj hG; subst hr
        exact hm
    · clear hF
      have hr := Option.some.inj hG; subst hr
      exact hm
set_option maxRecDepth 20000 in
set_option maxHeartbeats 2000000 in
theorem e_MText_component {N : Nat} {p0 : Nat} {H : Hp} {r : Unit × Hp} (hF : F_MText_component N p0 H = some r) : Ev p0 H r.2 := by
  unfold F_MText_component at hF
  have hm := Ev.rf (w := p0) H
  obtain ⟨q179, hG⟩ := ck_s hF; clear hF
  obtain ⟨x180, -, hF⟩ := bnd_g hG; clear hG
  obtain ⟨v182, H183, z181, hG⟩ := bC_s hF; clear hF
  replace hm : Ev p0 H H183 := hm.tr (e_MText_begins z181)
  obtain ⟨x184, -, hF⟩ := bnd_g hG; clear hG
  obtain ⟨v186, H187, z185, hG⟩ := bC_s hF; clear hF
  replace hm : Ev p0 H H187 := hm.tr (e_MText_told z185)
  obtain ⟨x188, -, hF⟩ := bnd_g hG; clear hG
  rcases ite_s hF with ⟨q_39, hG⟩ | ⟨q_39, hG⟩
  · clear hF
    obtain ⟨a190, e191, hF⟩ := rf_s hG; clear hG
    have da190 : isT H p0 → a190 ≠ p0 + 16 ∧ a190 ≠ p0 := fun hi => nT_17 (hm hi).1 e191
    obtain ⟨n192, q193, hG⟩ := ar_s hF; clear hF
    obtain ⟨q194, hF⟩ := ck_s hG; clear hG
    obtain ⟨H195, eH195, hG⟩ := bnd_g hF; clear hF
    replace hm : Ev p0 H H195 := by rw [eH195]; exact hm.w (fun hi => by first | omega | exact ⟨(da190 hi).1, fun y => (da190 hi).2 y.1⟩)
    obtain ⟨a196, e197, hF⟩ := rf_s hG; clear hG
    have da196 : isT H p0 → a196 ≠ p0 + 16 ∧ a196 ≠ p0 := fun hi => nT_18 (hm hi).1 e197
    obtain ⟨a198, e199, hG⟩ := rf_s hF; clear hF
    have da198 : isT H p0 → a198 ≠ p0 + 16 ∧ a198 ≠ p0 := fun hi => nT_18 (hm hi).1 e199
    obtain ⟨n200, q201, hF⟩ := ar_s hG; clear hG
    obtain ⟨q202, hG⟩ := ck_s hF; clear hF
    obtain ⟨x203, -, hF⟩ := bnd_g hG; clear hG
    obtain ⟨n204, q205, hG⟩ := ar_s hF; clear hF
    obtain ⟨q206, hF⟩ := ck_s hG; clear hG
    obtain ⟨H207, eH207, hG⟩ := bnd_g hF; clear hF
    replace hm : Ev p0 H H207 := by rw [eH207]; exact hm.w (fun hi => by first | omega | exact ⟨(da198 hi).1, fun y => (da198 hi).2 y.1⟩ | exact ⟨(da196 hi).1, fun y => (da196 hi).2 y.1⟩ | exact ⟨(da190 hi).1, fun y => (da190 hi).2 y.1⟩)
    obtain ⟨x208, -, hF⟩ := bnd_g hG; clear hG
    obtain ⟨H209, eH209, hG⟩ := bnd_g hF; clear hF
    replace hm : Ev p0 H H209 := by rw [eH209]; exact hm.w (fun hi => by first | omega | exact ⟨(da198 hi).1, fun y => (da198 hi).2 y.1⟩ | exact ⟨(da196 hi).1, fun y => (da196 hi).2 y.1⟩ | exact ⟨(da190 hi).1, fun y => (da190 hi).2 y.1⟩)
    obtain ⟨v211, H212, z210, hF⟩ := bC_s hG; clear hG
    replace hm : Ev p0 H H212 := hm.tr (e_MText_takes z210)
    exact hm.tr (eB_MText_component_67 N x184 H212 r hF)
  · clear hF
    have hr := Option.some.inj hG; subst hr
    exact hm
set_option maxRecDepth 20000 in
set_option maxHeartbeats 2000000 in
theorem eB_MText_eventMemberOf_2 {N : Nat} {p0 : Nat} {p1 : Int32} {p2 : Int32} : ∀ (n : Nat) (l3 : Int32) (H : Hp) (r : Int32 × Hp), B_MText_eventMemberOf_2 N p0 p1 p2 n l3 H = some r → Ev p0 H r.2 := by
  intro n
  induction n with
  | zero => intro l3 H r hF; rw [B_MText_eventMemberOf_2] at hF; cases hF
  | succ n ih =>
    intro l3 H r hF
    rw [B_MText_eventMemberOf_2] at hF
    have hm := Ev.rf (w := p0) H
    obtain ⟨q19, hG⟩ := ck_s hF; clear hF
    obtain ⟨a20, e21, hF⟩ := rf_s hG; clear hG
    obtain ⟨n22, q23, hG⟩ := ar_s hF; clear hF
    obtain ⟨q24, hF⟩ := ck_s hG; clear hG
    obtain ⟨x25, -, hG⟩ := bnd_g hF; clear hF
    rcases ite_s hG with ⟨q_2, hF⟩ | ⟨q_2, hF⟩
    · clear hG
      have hr := Option.some.inj hF; subst hr
      exact hm
    · clear hG
      obtain ⟨a27, e28, hG⟩ := rf_s hF; clear hF
      have da27 : isT H p0 → a27 ≠ p0 + 16 ∧ a27 ≠ p0 := fun hi => nT_25 (hm hi).1 e28
      obtain ⟨n29, q30, hF⟩ := ar_s hG; clear hG
      obtain ⟨q31, hG⟩ := ck_s hF; clear hF
      obtain ⟨x32, -, hF⟩ := bnd_g hG; clear hG
      obtain ⟨v34, H35, z33, hG⟩ := bC_s hF; clear hF
      replace hm : Ev p0 H H35 := hm.tr (e_MText_isSame z33)
      rcases ite_s hG with ⟨q_4, hF⟩ | ⟨q_4, hF⟩
      · clear hG
        exact hm.tr (ih (l3 + 1) H35 r hF)
      · clear hG
        have hr := Option.some.inj hF; subst hr
        exact hm
set_option maxRecDepth 20000 in
set_option maxHeartbeats 2000000 in
theorem e_MText_eventMemberOf {N : Nat} {p0 : Nat} {p1 : Int32} {p2 : Int32} {H : Hp} {r : Int32 × Hp} (hF : F_MText_eventMemberOf N p0 p1 p2 H = some r) : Ev p0 H r.2 := by
  unfold F_MText_eventMemberOf at hF
  have hm := Ev.rf (w := p0) H
  exact hm.tr (eB_MText_eventMemberOf_2 N 0 H r hF)
set_option maxRecDepth 20000 in
set_option maxHeartbeats 2000000 in
theorem eB_MText_local_2 {N : Nat} {p0 : Nat} {p1 : Int32} : ∀ (n : Nat) (l2 : Int32) (H : Hp) (r : Int32 × Hp), B_MText_local_2 N p0 p1 n l2 H = some r → Ev p0 H r.2 := by
  intro n
  induction n with
  | zero => intro l2 H r hF; rw [B_MText_local_2] at hF; cases hF
  | succ n ih =>
    intro l2 H r hF
    rw [B_MText_local_2] at hF
    have hm := Ev.rf (w := p0) H
    obtain ⟨q14, hG⟩ := ck_s hF; clear hF
    obtain ⟨x15, -, hF⟩ := bnd_g hG; clear hG
    rcases ite_s hF with ⟨q_2, hG⟩ | ⟨q_2, hG⟩
    · clear hF
      have hr := Option.some.inj hG; subst hr
      exact hm
    · clear hF
      obtain ⟨a17, e18, hF⟩ := rf_s hG; clear hG
      have da17 : isT H p0 → a17 ≠ p0 + 16 ∧ a17 ≠ p0 := fun hi => nT_38 (hm hi).1 e18
      obtain ⟨n19, q20, hG⟩ := ar_s hF; clear hF
      obtain ⟨q21, hF⟩ := ck_s hG; clear hG
      obtain ⟨x22, -, hG⟩ := bnd_g hF; clear hF
      obtain ⟨v24, H25, z23, hF⟩ := bC_s hG; clear hG
      replace hm : Ev p0 H H25 := hm.tr (e_MText_isSame z23)
      rcases ite_s hF with ⟨q_4, hG⟩ | ⟨q_4, hG⟩
      · clear hF
        exact hm.tr (ih (l2 + 1) H25 r hG)
      · clear hF
        have hr := Option.some.inj hG; subst hr
        exact hm
set_option maxRecDepth 20000 in
set_option maxHeartbeats 2000000 in
theorem e_MText_local {N : Nat} {p0 : Nat} {p1 : Int32} {H : Hp} {r : Int32 × Hp} (hF : F_MText_local N p0 p1 H = some r) : Ev p0 H r.2 := by
  unfold F_MText_local at hF
  have hm := Ev.rf (w := p0) H
  exact hm.tr (eB_MText_local_2 N 0 H r hF)
set_option maxRecDepth 20000 in
set_option maxHeartbeats 2000000 in
theorem eB_MText_sort_35 {N : Nat} {p0 : Nat} {p1 : Int32} {l2 : Int32} {H : Hp} {r : Int32 × Hp} (hF : B_MText_sort_35 N p0 p1 l2 H = some r) : Ev p0 H r.2 := by
  unfold B_MText_sort_35 at hF
  have hm := Ev.rf (w := p0) H
  rcases ite_s hF with ⟨q_3, hG⟩ | ⟨q_3, hG⟩
  · clear hF
    obtain ⟨q21, hF⟩ := ck_s hG; clear hG
    obtain ⟨a22, e23, hG⟩ := rf_s hF; clear hF
    have da22 : isT H p0 → a22 ≠ p0 + 16 ∧ a22 ≠ p0 := fun hi => nT_14 (hm hi).1 e23
    obtain ⟨n24, q25, hF⟩ := ar_s hG; clear hG
    obtain ⟨q26, hG⟩ := ck_s hF; clear hF
    obtain ⟨x27, -, hF⟩ := bnd_g hG; clear hG
    have hr := Option.some.inj hF; subst hr
    exact hm
  · clear hF
    have hr := Option.some.inj hG; subst hr
    exact hm
set_option maxRecDepth 20000 in
set_option maxHeartbeats 2000000 in
theorem e_MText_sort {N : Nat} {p0 : Nat} {p1 : Int32} {H : Hp} {r : Int32 × Hp} (hF : F_MText_sort N p0 p1 H = some r) : Ev p0 H r.2 := by
  unfold F_MText_sort at hF
  have hm := Ev.rf (w := p0) H
  obtain ⟨q31, hG⟩ := ck_s hF; clear hF
  obtain ⟨x32, -, hF⟩ := bnd_g hG; clear hG
  rcases ite_s hF with ⟨q_5, hG⟩ | ⟨q_5, hG⟩
  · clear hF
    obtain ⟨v35, H36, z34, hF⟩ := bC_s hG; clear hG
    replace hm : Ev p0 H H36 := hm.tr (e_MText_local z34)
    rcases ite_s hF with ⟨q_7, hG⟩ | ⟨q_7, hG⟩
    · clear hF
      obtain ⟨v39, H40, z38, hF⟩ := bC_s hG; clear hG
      replace hm : Ev p0 H H40 := hm.tr (e_MText_index z38)
      rcases ite_s hF with ⟨q_9, hG⟩ | ⟨q_9, hG⟩
      · clear hF
        exact hm.tr (eB_MText_sort_35 hG)
      · clear hF
        obtain ⟨v43, H44, z42, hF⟩ := bC_s hG; clear hG
        replace hm : Ev p0 H H44 := hm.tr (e_MText_fails z42)
        exact hm.tr (eB_MText_sort_35 hF)
    · clear hF
      have hr := Option.some.inj hG; subst hr
      exact hm
  · clear hF
    have hr := Option.some.inj hG; subst hr
    exact hm
set_option maxRecDepth 20000 in
set_option maxHeartbeats 2000000 in
theorem eB_MText_numberOf_24 {N : Nat} {p0 : Nat} {p1 : Int32} {p2 : Int32}  {H : Hp} {r : Int32 × Hp} (hF : B_MText_numberOf_24 N p0 p1 p2  H = some r) : Ev p0 H r.2 := by
  unfold B_MText_numberOf_24 at hF
  have hm := Ev.rf (w := p0) H
  obtain ⟨q31, hG⟩ := ck_s hF; clear hF
  obtain ⟨x32, -, hF⟩ := bnd_g hG; clear hG
  rcases ite_s hF with ⟨q_4, hG⟩ | ⟨q_4, hG⟩
  · clear hF
    obtain ⟨a34, e35, hF⟩ := rf_s hG; clear hG
    have da34 : isT H p0 → a34 ≠ p0 + 16 ∧ a34 ≠ p0 := fun hi => nT_8 (hm hi).1 e35
    obtain ⟨a36, e37, hG⟩ := rf_s hF; clear hF
    have da36 : isT H p0 → a36 ≠ p0 + 16 ∧ a36 ≠ p0 := fun hi => nT_15 (hm hi).1 e37
    obtain ⟨v39, H40, z38, hF⟩ := bC_s hG; clear hG
    replace hm : Ev p0 H H40 := hm.tr (e_MText_index z38)
    obtain ⟨n41, q42, hG⟩ := ar_s hF; clear hF
    obtain ⟨q43, hF⟩ := ck_s hG; clear hG
    obtain ⟨x44, -, hG⟩ := bnd_g hF; clear hF
    obtain ⟨n45, q46, hF⟩ := ar_s hG; clear hG
    obtain ⟨q47, hG⟩ := ck_s hF; clear hF
    obtain ⟨H48, eH48, hF⟩ := bnd_g hG; clear hG
    replace hm : Ev p0 H H48 := by rw [eH48]; exact hm.w (fun hi => by first | omega | exact ⟨(da36 hi).1, fun y => (da36 hi).2 y.1⟩ | exact ⟨(da34 hi).1, fun y => (da34 hi).2 y.1⟩)
    obtain ⟨a49, e50, hG⟩ := rf_s hF; clear hF
    have da49 : isT H p0 → a49 ≠ p0 + 16 ∧ a49 ≠ p0 := fun hi => nT_8 (hm hi).1 e50
    obtain ⟨n51, q52, hF⟩ := ar_s hG; clear hG
    obtain ⟨q53, hG⟩ := ck_s hF; clear hF
    obtain ⟨x54, -, hF⟩ := bnd_g hG; clear hG
    have hr := Option.some.inj hF; subst hr
    exact hm
  · clear hF
    have hr := Option.some.inj hG; subst hr
    exact hm
set_option maxRecDepth 20000 in
set_option maxHeartbeats 2000000 in
theorem e_MText_numberOf {N : Nat} {p0 : Nat} {p1 : Int32} {p2 : Int32} {H : Hp} {r : Int32 × Hp} (hF : F_MText_numberOf N p0 p1 p2 H = some r) : Ev p0 H r.2 := by
  unfold F_MText_numberOf at hF
  have hm := Ev.rf (w := p0) H
  obtain ⟨q59, hG⟩ := ck_s hF; clear hF
  obtain ⟨v61, H62, z60, hF⟩ := bC_s hG; clear hG
  replace hm : Ev p0 H H62 := hm.tr (e_MText_sort z60)
  obtain ⟨x63, -, hG⟩ := bnd_g hF; clear hF
  rcases ite_s hG with ⟨q_9, hF⟩ | ⟨q_9, hF⟩
  · clear hG
    rcases ite_s hF with ⟨q_10, hG⟩ | ⟨q_10, hG⟩
    · clear hF
      exact hm.tr (eB_MText_numberOf_24 hG)
    · clear hF
      obtain ⟨v67, H68, z66, hF⟩ := bC_s hG; clear hG
      replace hm : Ev p0 H H68 := hm.tr (e_MText_fails z66)
      exact hm.tr (eB_MText_numberOf_24 hF)
  · clear hG
    exact hm.tr (eB_MText_numberOf_24 hF)
set_option maxRecDepth 20000 in
set_option maxHeartbeats 2000000 in
theorem eB_MText_componentOf_77 {N : Nat} {p0 : Nat} {p1 : Int32} {p2 : Int32} {p3 : Int32} {p4 : Int32}  {H : Hp} {r : Int32 × Hp} (hF : B_MText_componentOf_77 N p0 p1 p2 p3 p4  H = some r) : Ev p0 H r.2 := by
  unfold B_MText_componentOf_77 at hF
  have hm := Ev.rf (w := p0) H
  obtain ⟨q16, hG⟩ := ck_s hF; clear hF
  obtain ⟨v18, H19, z17, hF⟩ := bC_s hG; clear hG
  replace hm : Ev p0 H H19 := hm.tr (e_MText_numberOf z17)
  obtain ⟨x20, -, hG⟩ := bnd_g hF; clear hF
  rcases ite_s hG with ⟨q_4, hF⟩ | ⟨q_4, hF⟩
  · clear hG
    rcases ite_s hF with ⟨q_5, hG⟩ | ⟨q_5, hG⟩
    · clear hF
      obtain ⟨v24, H25, z23, hF⟩ := bC_s hG; clear hG
      replace hm : Ev p0 H H25 := hm.tr (e_MText_fails z23)
      have hr := Option.some.inj hF; subst hr
      exact hm
    · clear hF
      have hr := Option.some.inj hG; subst hr
      exact hm
  · clear hG
    have hr := Option.some.inj hF; subst hr
    exact hm
set_option maxRecDepth 20000 in
set_option maxHeartbeats 2000000 in
theorem eB_MText_componentOf_47 {N : Nat} {p0 : Nat} {p1 : Int32} {p2 : Int32} {p3 : Int32} {p4 : Int32} {l5 : Int32} {w0 : Int32} {H : Hp} {r : Int32 × Hp} (hF : B_MText_componentOf_47 N p0 p1 p2 p3 p4 l5 w0 H = some r) : Ev p0 H r.2 := by
  unfold B_MText_componentOf_47 at hF
  have hm := Ev.rf (w := p0) H
  rcases ite_s hF with ⟨q_8, hG⟩ | ⟨q_8, hG⟩
  · clear hF
    exact hm.tr (eB_MText_componentOf_77 hG)
  · clear hF
    obtain ⟨q38, hF⟩ := ck_s hG; clear hG
    obtain ⟨a39, e40, hG⟩ := rf_s hF; clear hF
    have da39 : isT H p0 → a39 ≠ p0 + 16 ∧ a39 ≠ p0 := fun hi => nT_15 (hm hi).1 e40
    obtain ⟨n41, q42, hF⟩ := ar_s hG; clear hG
    obtain ⟨q43, hG⟩ := ck_s hF; clear hF
    obtain ⟨x44, -, hF⟩ := bnd_g hG; clear hG
    rcases ite_s hF with ⟨q_9, hG⟩ | ⟨q_9, hG⟩
    · clear hF
      obtain ⟨v47, H48, z46, hF⟩ := bC_s hG; clear hG
      replace hm : Ev p0 H H48 := hm.tr (e_MText_fails z46)
      exact hm.tr (eB_MText_componentOf_77 hF)
    · clear hF
      exact hm.tr (eB_MText_componentOf_77 hG)
set_option maxRecDepth 20000 in
set_option maxHeartbeats 2000000 in
theorem eB_MText_componentOf_46 {N : Nat} {p0 : Nat} {p1 : Int32} {p2 : Int32} {p3 : Int32} {p4 : Int32} {l5 : Int32} {H : Hp} {r : Int32 × Hp} (hF : B_MText_componentOf_46 N p0 p1 p2 p3 p4 l5 H = some r) : Ev p0 H r.2 := by
  unfold B_MText_componentOf_46 at hF
  have hm := Ev.rf (w := p0) H
  exact hm.tr (eB_MText_componentOf_47 hF)
set_option maxRecDepth 20000 in
set_option maxHeartbeats 2000000 in
theorem eB_MText_componentOf_24 {N : Nat} {p0 : Nat} {p1 : Int32} {p2 : Int32} {p3 : Int32} {p4 : Int32} {w0 : Int32} {H : Hp} {r : Int32 × Hp} (hF : B_MText_componentOf_24 N p0 p1 p2 p3 p4 w0 H = some r) : Ev p0 H r.2 := by
  unfold B_MText_componentOf_24 at hF
  have hm := Ev.rf (w := p0) H
  rcases ite_s hF with ⟨q_11, hG⟩ | ⟨q_11, hG⟩
  · clear hF
    exact hm.tr (eB_MText_componentOf_46 hG)
  · clear hF
    obtain ⟨q58, hF⟩ := ck_s hG; clear hG
    obtain ⟨a59, e60, hG⟩ := rf_s hF; clear hF
    have da59 : isT H p0 → a59 ≠ p0 + 16 ∧ a59 ≠ p0 := fun hi => nT_14 (hm hi).1 e60
    obtain ⟨n61, q62, hF⟩ := ar_s hG; clear hG
    obtain ⟨q63, hG⟩ := ck_s hF; clear hF
    obtain ⟨x64, -, hF⟩ := bnd_g hG; clear hG
    rcases ite_s hF with ⟨q_12, hG⟩ | ⟨q_12, hG⟩
    · clear hF
      exact hm.tr (eB_MText_componentOf_47 hG)
    · clear hF
      exact hm.tr (eB_MText_componentOf_46 hG)
set_option maxRecDepth 20000 in
set_option maxHeartbeats 2000000 in
theorem eB_MText_componentOf_15 {N : Nat} {p0 : Nat} {p1 : Int32} {p2 : Int32} {p3 : Int32} {p4 : Int32}  {H : Hp} {r : Int32 × Hp} (hF : B_MText_componentOf_15 N p0 p1 p2 p3 p4  H = some r) : Ev p0 H r.2 := by
  unfold B_MText_componentOf_15 at hF
  have hm := Ev.rf (w := p0) H
  exact hm.tr (eB_MText_componentOf_24 hF)
set_option maxRecDepth 20000 in
set_option maxHeartbeats 2000000 in
theorem e_MText_componentOf {N : Nat} {p0 : Nat} {p1 : Int32} {p2 : Int32} {p3 : Int32} {p4 : Int32} {H : Hp} {r : Int32 × Hp} (hF : F_MText_componentOf N p0 p1 p2 p3 p4 H = some r) : Ev p0 H r.2 := by
  unfold F_MText_componentOf at hF
  have hm := Ev.rf (w := p0) H
  obtain ⟨q73, hG⟩ := ck_s hF; clear hF
  obtain ⟨x74, -, hF⟩ := bnd_g hG; clear hG
  rcases ite_s hF with ⟨q_15, hG⟩ | ⟨q_15, hG⟩
  · clear hF
    exact hm.tr (eB_MText_componentOf_15 hG)
  · clear hF
    obtain ⟨v77, H78, z76, hF⟩ := bC_s hG; clear hG
    replace hm : Ev p0 H H78 := hm.tr (e_MText_local z76)
    rcases ite_s hF with ⟨q_17, hG⟩ | ⟨q_17, hG⟩
    · clear hF
      obtain ⟨v81, H82, z80, hF⟩ := bC_s hG; clear hG
      replace hm : Ev p0 H H82 := hm.tr (e_MText_index z80)
      exact hm.tr (eB_MText_componentOf_24 hF)
    · clear hF
      exact hm.tr (eB_MText_componentOf_15 hG)
set_option maxRecDepth 20000 in
set_option maxHeartbeats 2000000 in
theorem e_M_first {N wz : Nat} {p0 : Int32} {H : Hp} {r : Int32 × Hp} (hF : F_M_first N p0 H = some r) : Ev wz H r.2 := by
  unfold F_M_first at hF
  have hm := Ev.rf (w := wz) H
  rcases ite_s hF with ⟨q_1, hG⟩ | ⟨q_1, hG⟩
  · clear hF
    have hr := Option.some.inj hG; subst hr
    exact hm
  · clear hF
    have hr := Option.some.inj hG; subst hr
    exact hm
set_option maxRecDepth 20000 in
set_option maxHeartbeats 2000000 in
theorem e_M_held {N wz : Nat} {p0 : Int32} {p1 : Int64} {H : Hp} {r : Int32 × Hp} (hF : F_M_held N p0 p1 H = some r) : Ev wz H r.2 := by
  unfold F_M_held at hF
  have hm := Ev.rf (w := wz) H
  rcases ite_s hF with ⟨q_1, hG⟩ | ⟨q_1, hG⟩
  · clear hF
    rcases ite_s hG with ⟨q_2, hF⟩ | ⟨q_2, hF⟩
    · clear hG
      rcases ite_s hF with ⟨q_3, hG⟩ | ⟨q_3, hG⟩
      · clear hF
        have hr := Option.some.inj hG; subst hr
        exact hm
      · clear hF
        have hr := Option.some.inj hG; subst hr
        exact hm
    · clear hG
      have hr := Option.some.inj hF; subst hr
      exact hm
  · clear hF
    rcases ite_s hG with ⟨q_4, hF⟩ | ⟨q_4, hF⟩
    · clear hG
      rcases ite_s hF with ⟨q_5, hG⟩ | ⟨q_5, hG⟩
      · clear hF
        rcases ite_s hG with ⟨q_6, hF⟩ | ⟨q_6, hF⟩
        · clear hG
          have hr := Option.some.inj hF; subst hr
          exact hm
        · clear hG
          have hr := Option.some.inj hF; subst hr
          exact hm
      · clear hF
        have hr := Option.some.inj hG; subst hr
        exact hm
    · clear hG
      have hr := Option.some.inj hF; subst hr
      exact hm
set_option maxRecDepth 20000 in
set_option maxHeartbeats 2000000 in
theorem eB_MText_constant_301 {N : Nat} {p0 : Nat} {p1 : Int32} {w0 : Int32} {w1 : Int64} {H : Hp} {r : Int32 × Hp} (hF : B_MText_constant_301 N p0 p1 w0 w1 H = some r) : Ev p0 H r.2 := by
  unfold B_MText_constant_301 at hF
  have hm := Ev.rf (w := p0) H
  obtain ⟨v54, H55, z53, hG⟩ := bC_s hF; clear hF
  replace hm : Ev p0 H H55 := hm.tr (e_M_held z53)
  have hr := Option.some.inj hG; subst hr
  exact hm
set_option maxRecDepth 20000 in
set_option maxHeartbeats 2000000 in
theorem eB_MText_constant_284 {N : Nat} {p0 : Nat} {p1 : Int32} {l3 : Int32} {w0 : Int32} {H : Hp} {r : Int32 × Hp} (hF : B_MText_constant_284 N p0 p1 l3 w0 H = some r) : Ev p0 H r.2 := by
  unfold B_MText_constant_284 at hF
  have hm := Ev.rf (w := p0) H
  rcases ite_s hF with ⟨q_9, hG⟩ | ⟨q_9, hG⟩
  · clear hF
    exact hm.tr (eB_MText_constant_301 hG)
  · clear hF
    exact hm.tr (eB_MText_constant_301 hG)
set_option maxRecDepth 20000 in
set_option maxHeartbeats 2000000 in
theorem eB_MText_constant_215 {N : Nat} {p0 : Nat} {p1 : Int32} {l3 : Int32} {l4 : Int32} {l5 : Int32} {H : Hp} {r : Int32 × Hp} (hF : B_MText_constant_215 N p0 p1 l3 l4 l5 H = some r) : Ev p0 H r.2 := by
  unfold B_MText_constant_215 at hF
  have hm := Ev.rf (w := p0) H
  obtain ⟨q63, hG⟩ := ck_s hF; clear hF
  obtain ⟨x64, -, hF⟩ := bnd_g hG; clear hG
  rcases ite_s hF with ⟨q_10, hG⟩ | ⟨q_10, hG⟩
  · clear hF
    obtain ⟨x66, -, hF⟩ := bnd_g hG; clear hG
    obtain ⟨H67, eH67, hG⟩ := bnd_g hF; clear hF
    replace hm : Ev p0 H H67 := by rw [eH67]; exact hm.w (fun hi => by first | omega)
    rcases ite_s hG with ⟨q_12, hF⟩ | ⟨q_12, hF⟩
    · clear hG
      obtain ⟨a69, e70, hG⟩ := rf_s hF; clear hF
      have da69 : isT H p0 → a69 ≠ p0 + 16 ∧ a69 ≠ p0 := fun hi => nT_3 (hm hi).1 e70
      obtain ⟨n71, q72, hF⟩ := ar_s hG; clear hG
      obtain ⟨q73, hG⟩ := ck_s hF; clear hF
      obtain ⟨x74, -, hF⟩ := bnd_g hG; clear hG
      rcases ite_s hF with ⟨q_13, hG⟩ | ⟨q_13, hG⟩
      · clear hF
        exact hm.tr (eB_MText_constant_284 hG)
      · clear hF
        obtain ⟨a76, e77, hF⟩ := rf_s hG; clear hG
        have da76 : isT H p0 → a76 ≠ p0 + 16 ∧ a76 ≠ p0 := fun hi => nT_3 (hm hi).1 e77
        obtain ⟨n78, q79, hG⟩ := ar_s hF; clear hF
        obtain ⟨q80, hF⟩ := ck_s hG; clear hG
        obtain ⟨x81, -, hG⟩ := bnd_g hF; clear hF
        rcases ite_s hG with ⟨q_14, hF⟩ | ⟨q_14, hF⟩
        · clear hG
          exact hm.tr (eB_MText_constant_284 hF)
        · clear hG
          exact hm.tr (eB_MText_constant_284 hF)
    · clear hG
      obtain ⟨a83, e84, hG⟩ := rf_s hF; clear hF
      have da83 : isT H p0 → a83 ≠ p0 + 16 ∧ a83 ≠ p0 := fun hi => nT_6 (hm hi).1 e84
      obtain ⟨n85, q86, hF⟩ := ar_s hG; clear hG
      obtain ⟨q87, hG⟩ := ck_s hF; clear hF
      obtain ⟨x88, -, hF⟩ := bnd_g hG; clear hG
      exact hm.tr (eB_MText_constant_284 hF)
  · clear hF
    have hr := Option.some.inj hG; subst hr
    exact hm
set_option maxRecDepth 20000 in
set_option maxHeartbeats 2000000 in
theorem eB_MText_constant_202 {N : Nat} {p0 : Nat} {p1 : Int32} {l2 : Int32} {l3 : Int32} {l4 : Int32} {l5 : Int32} {w0 : Int32} {H : Hp} {r : Int32 × Hp} (hF : B_MText_constant_202 N p0 p1 l2 l3 l4 l5 w0 H = some r) : Ev p0 H r.2 := by
  unfold B_MText_constant_202 at hF
  have hm := Ev.rf (w := p0) H
  rcases ite_s hF with ⟨q_16, hG⟩ | ⟨q_16, hG⟩
  · clear hF
    obtain ⟨q94, hF⟩ := ck_s hG; clear hG
    obtain ⟨v96, H97, z95, hG⟩ := bC_s hF; clear hF
    replace hm : Ev p0 H H97 := hm.tr (e_MText_fails z95)
    exact hm.tr (eB_MText_constant_215 hG)
  · clear hF
    exact hm.tr (eB_MText_constant_215 hG)
set_option maxRecDepth 20000 in
set_option maxHeartbeats 2000000 in
theorem eB_MText_constant_140 {N : Nat} {p0 : Nat} {p1 : Int32} {l2 : Int32} {l3 : Int32} {l4 : Int32} {l5 : Int32} {H : Hp} {r : Int32 × Hp} (hF : B_MText_constant_140 N p0 p1 l2 l3 l4 l5 H = some r) : Ev p0 H r.2 := by
  unfold B_MText_constant_140 at hF
  have hm := Ev.rf (w := p0) H
  exact hm.tr (eB_MText_constant_202 hF)
set_option maxRecDepth 20000 in
set_option maxHeartbeats 2000000 in
theorem eB_MText_constant_123 {N : Nat} {p0 : Nat} {p1 : Int32} {l2 : Int32} {l3 : Int32} {l4 : Int32} {l5 : Int32} {H : Hp} {r : Int32 × Hp} (hF : B_MText_constant_123 N p0 p1 l2 l3 l4 l5 H = some r) : Ev p0 H r.2 := by
  unfold B_MText_constant_123 at hF
  have hm := Ev.rf (w := p0) H
  obtain ⟨q102, hG⟩ := ck_s hF; clear hF
  obtain ⟨v104, H105, z103, hF⟩ := bC_s hG; clear hG
  replace hm : Ev p0 H H105 := hm.tr (e_MText_is z103)
  rcases ite_s hF with ⟨q_19, hG⟩ | ⟨q_19, hG⟩
  · clear hF
    obtain ⟨v108, H109, z107, hF⟩ := bC_s hG; clear hG
    replace hm : Ev p0 H H109 := hm.tr (e_MText_is z107)
    rcases ite_s hF with ⟨q_21, hG⟩ | ⟨q_21, hG⟩
    · clear hF
      obtain ⟨v112, H113, z111, hF⟩ := bC_s hG; clear hG
      replace hm : Ev p0 H H113 := hm.tr (e_MText_is z111)
      rcases ite_s hF with ⟨q_23, hG⟩ | ⟨q_23, hG⟩
      · clear hF
        rcases ite_s hG with ⟨q_24, hF⟩ | ⟨q_24, hF⟩
        · clear hG
          exact hm.tr (eB_MText_constant_202 hF)
        · clear hG
          exact hm.tr (eB_MText_constant_202 hF)
      · clear hF
        rcases ite_s hG with ⟨q_25, hF⟩ | ⟨q_25, hF⟩
        · clear hG
          exact hm.tr (eB_MText_constant_202 hF)
        · clear hG
          exact hm.tr (eB_MText_constant_202 hF)
    · clear hF
      rcases ite_s hG with ⟨q_26, hF⟩ | ⟨q_26, hF⟩
      · clear hG
        exact hm.tr (eB_MText_constant_202 hF)
      · clear hG
        exact hm.tr (eB_MText_constant_202 hF)
  · clear hF
    rcases ite_s hG with ⟨q_27, hF⟩ | ⟨q_27, hF⟩
    · clear hG
      exact hm.tr (eB_MText_constant_140 hF)
    · clear hG
      rcases ite_s hF with ⟨q_28, hG⟩ | ⟨q_28, hG⟩
      · clear hF
        exact hm.tr (eB_MText_constant_140 hG)
      · clear hF
        exact hm.tr (eB_MText_constant_202 hG)
set_option maxRecDepth 20000 in
set_option maxHeartbeats 2000000 in
theorem eB_MText_constant_101 {N : Nat} {p0 : Nat} {p1 : Int32} {l2 : Int32} {l3 : Int32} {l4 : Int32} {l5 : Int32} {H : Hp} {r : Int32 × Hp} (hF : B_MText_constant_101 N p0 p1 l2 l3 l4 l5 H = some r) : Ev p0 H r.2 := by
  unfold B_MText_constant_101 at hF
  have hm := Ev.rf (w := p0) H
  rcases ite_s hF with ⟨q_30, hG⟩ | ⟨q_30, hG⟩
  · clear hF
    exact hm.tr (eB_MText_constant_123 hG)
  · clear hF
    obtain ⟨q132, hF⟩ := ck_s hG; clear hG
    obtain ⟨a133, e134, hG⟩ := rf_s hF; clear hF
    have da133 : isT H p0 → a133 ≠ p0 + 16 ∧ a133 ≠ p0 := fun hi => nT_7 (hm hi).1 e134
    obtain ⟨n135, q136, hF⟩ := ar_s hG; clear hG
    obtain ⟨q137, hG⟩ := ck_s hF; clear hF
    obtain ⟨x138, -, hF⟩ := bnd_g hG; clear hG
    rcases ite_s hF with ⟨q_31, hG⟩ | ⟨q_31, hG⟩
    · clear hF
      exact hm.tr (eB_MText_constant_123 hG)
    · clear hF
      obtain ⟨v141, H142, z140, hF⟩ := bC_s hG; clear hG
      replace hm : Ev p0 H H142 := hm.tr (e_MText_fails z140)
      exact hm.tr (eB_MText_constant_123 hF)
set_option maxRecDepth 20000 in
set_option maxHeartbeats 2000000 in
theorem eB_MText_constant_80 {N : Nat} {p0 : Nat} {p1 : Int32} {l2 : Int32} {l3 : Int32} {l4 : Int32} {l5 : Int32} {w0 : Int32} {H : Hp} {r : Int32 × Hp} (hF : B_MText_constant_80 N p0 p1 l2 l3 l4 l5 w0 H = some r) : Ev p0 H r.2 := by
  unfold B_MText_constant_80 at hF
  have hm := Ev.rf (w := p0) H
  rcases ite_s hF with ⟨q_34, hG⟩ | ⟨q_34, hG⟩
  · clear hF
    rcases ite_s hG with ⟨q_35, hF⟩ | ⟨q_35, hF⟩
    · clear hG
      obtain ⟨q151, hG⟩ := ck_s hF; clear hF
      obtain ⟨x152, -, hF⟩ := bnd_g hG; clear hG
      obtain ⟨v154, H155, z153, hG⟩ := bC_s hF; clear hF
      replace hm : Ev p0 H H155 := hm.tr (e_MText_fails z153)
      exact hm.tr (eB_MText_constant_101 hG)
    · clear hG
      exact hm.tr (eB_MText_constant_101 hF)
  · clear hF
    exact hm.tr (eB_MText_constant_101 hG)
set_option maxRecDepth 20000 in
set_option maxHeartbeats 2000000 in
theorem eB_MText_constant_79 {N : Nat} {p0 : Nat} {p1 : Int32} {l2 : Int32} {l3 : Int32} {l4 : Int32} {l5 : Int32} {H : Hp} {r : Int32 × Hp} (hF : B_MText_constant_79 N p0 p1 l2 l3 l4 l5 H = some r) : Ev p0 H r.2 := by
  unfold B_MText_constant_79 at hF
  have hm := Ev.rf (w := p0) H
  exact hm.tr (eB_MText_constant_80 hF)
set_option maxRecDepth 20000 in
set_option maxHeartbeats 2000000 in
theorem eB_MText_constant_75 {N : Nat} {p0 : Nat} {p1 : Int32} {l2 : Int32} {l3 : Int32} {l4 : Int32} {l5 : Int32} {H : Hp} {r : Int32 × Hp} (hF : B_MText_constant_75 N p0 p1 l2 l3 l4 l5 H = some r) : Ev p0 H r.2 := by
  unfold B_MText_constant_75 at hF
  have hm := Ev.rf (w := p0) H
  exact hm.tr (eB_MText_constant_80 hF)
set_option maxRecDepth 20000 in
set_option maxHeartbeats 2000000 in
theorem eB_MText_constant_39 {N : Nat} {p0 : Nat} {p1 : Int32} {l2 : Int32} {l3 : Int32} {l4 : Int32} {w0 : Int32} {H : Hp} {r : Int32 × Hp} (hF : B_MText_constant_39 N p0 p1 l2 l3 l4 w0 H = some r) : Ev p0 H r.2 := by
  unfold B_MText_constant_39 at hF
  have hm := Ev.rf (w := p0) H
  rcases ite_s hF with ⟨q_40, hG⟩ | ⟨q_40, hG⟩
  · clear hF
    obtain ⟨q170, hF⟩ := ck_s hG; clear hG
    obtain ⟨v172, H173, z171, hG⟩ := bC_s hF; clear hF
    replace hm : Ev p0 H H173 := hm.tr (e_MText_is z171)
    rcases ite_s hG with ⟨q_42, hF⟩ | ⟨q_42, hF⟩
    · clear hG
      obtain ⟨v176, H177, z175, hG⟩ := bC_s hF; clear hF
      replace hm : Ev p0 H H177 := hm.tr (e_MText_is z175)
      rcases ite_s hG with ⟨q_44, hF⟩ | ⟨q_44, hF⟩
      · clear hG
        obtain ⟨v180, H181, z179, hG⟩ := bC_s hF; clear hF
        replace hm : Ev p0 H H181 := hm.tr (e_MText_is z179)
        rcases ite_s hG with ⟨q_46, hF⟩ | ⟨q_46, hF⟩
        · clear hG
          exact hm.tr (eB_MText_constant_79 hF)
        · clear hG
          exact hm.tr (eB_MText_constant_75 hF)
      · clear hG
        exact hm.tr (eB_MText_constant_75 hF)
    · clear hG
      exact hm.tr (eB_MText_constant_75 hF)
  · clear hF
    exact hm.tr (eB_MText_constant_79 hG)
set_option maxRecDepth 20000 in
set_option maxHeartbeats 2000000 in
theorem eB_MText_constant_34 {N : Nat} {p0 : Nat} {p1 : Int32} {l2 : Int32} {l3 : Int32} {l4 : Int32} {H : Hp} {r : Int32 × Hp} (hF : B_MText_constant_34 N p0 p1 l2 l3 l4 H = some r) : Ev p0 H r.2 := by
  unfold B_MText_constant_34 at hF
  have hm := Ev.rf (w := p0) H
  exact hm.tr (eB_MText_constant_39 hF)
set_option maxRecDepth 20000 in
set_option maxHeartbeats 2000000 in
theorem e_MText_constant {N : Nat} {p0 : Nat} {p1 : Int32} {H : Hp} {r : Int32 × Hp} (hF : F_MText_constant N p0 p1 H = some r) : Ev p0 H r.2 := by
  unfold F_MText_constant at hF
  have hm := Ev.rf (w := p0) H
  obtain ⟨q187, hG⟩ := ck_s hF; clear hF
  obtain ⟨x188, -, hF⟩ := bnd_g hG; clear hG
  obtain ⟨v190, H191, z189, hG⟩ := bC_s hF; clear hF
  replace hm : Ev p0 H H191 := hm.tr (e_MText_accepts z189)
  obtain ⟨x192, -, hF⟩ := bnd_g hG; clear hG
  obtain ⟨v194, H195, z193, hG⟩ := bC_s hF; clear hF
  replace hm : Ev p0 H H195 := hm.tr (e_MText_is z193)
  rcases ite_s hG with ⟨q_50, hF⟩ | ⟨q_50, hF⟩
  · clear hG
    obtain ⟨v198, H199, z197, hG⟩ := bC_s hF; clear hF
    replace hm : Ev p0 H H199 := hm.tr (e_MText_is z197)
    rcases ite_s hG with ⟨q_52, hF⟩ | ⟨q_52, hF⟩
    · clear hG
      exact hm.tr (eB_MText_constant_39 hF)
    · clear hG
      exact hm.tr (eB_MText_constant_34 hF)
  · clear hG
    exact hm.tr (eB_MText_constant_34 hF)
set_option maxRecDepth 20000 in
set_option maxHeartbeats 2000000 in
theorem eB_MText_values_147 {N : Nat} {p0 : Nat} {p1 : Int32} {p2 : Int32}  {H : Hp} {r : Unit × Hp} (hF : B_MText_values_147 N p0 p1 p2  H = some r) : Ev p0 H r.2 := by
  unfold B_MText_values_147 at hF
  have hm := Ev.rf (w := p0) H
  obtain ⟨q8, hG⟩ := ck_s hF; clear hF
  obtain ⟨v10, H11, z9, hF⟩ := bC_s hG; clear hG
  replace hm : Ev p0 H H11 := hm.tr (e_MText_takes z9)
  have hr := Option.some.inj hF; subst hr
  exact hm
set_option maxRecDepth 20000 in
set_option maxHeartbeats 2000000 in
theorem eB_MText_values_85 {N : Nat} {p0 : Nat} {p1 : Int32} {p2 : Int32} {kq5 : Int32 → Int32 → Hp → Option (Unit × Hp)} (hm5 : ∀ (l3 : Int32) (l4 : Int32) (H : Hp) (r : Unit × Hp), kq5 l3 l4 H = some r → Ev p0 H r.2) {l3 : Int32} {l6 : Int32} {H : Hp} {r : Unit × Hp} (hF : B_MText_values_85 N p0 p1 p2 kq5 l3 l6 H = some r) : Ev p0 H r.2 := by
  unfold B_MText_values_85 at hF
  have hm := Ev.rf (w := p0) H
  obtain ⟨q51, hG⟩ := ck_s hF; clear hF
  obtain ⟨v53, H54, z52, hF⟩ := bC_s hG; clear hG
  replace hm : Ev p0 H H54 := hm.tr (e_MText_takes z52)
  obtain ⟨x55, -, hG⟩ := bnd_g hF; clear hF
  rcases ite_s hG with ⟨q_9, hF⟩ | ⟨q_9, hF⟩
  · clear hG
    obtain ⟨a57, e58, hG⟩ := rf_s hF; clear hF
    have da57 : isT H p0 → a57 ≠ p0 + 16 ∧ a57 ≠ p0 := fun hi => nT_18 (hm hi).1 e58
    obtain ⟨n59, q60, hF⟩ := ar_s hG; clear hG
    obtain ⟨q61, hG⟩ := ck_s hF; clear hF
    obtain ⟨x62, -, hF⟩ := bnd_g hG; clear hG
    obtain ⟨x63, -, hG⟩ := bnd_g hF; clear hF
    obtain ⟨a64, e65, hF⟩ := rf_s hG; clear hG
    have da64 : isT H p0 → a64 ≠ p0 + 16 ∧ a64 ≠ p0 := fun hi => nT_28 (hm hi).1 e65
    obtain ⟨a66, e67, hG⟩ := rf_s hF; clear hF
    have da66 : isT H p0 → a66 ≠ p0 + 16 ∧ a66 ≠ p0 := fun hi => nT_19 (hm hi).1 e67
    obtain ⟨n68, q69, hF⟩ := ar_s hG; clear hG
    obtain ⟨q70, hG⟩ := ck_s hF; clear hF
    obtain ⟨x71, -, hF⟩ := bnd_g hG; clear hG
    obtain ⟨v73, H74, z72, hG⟩ := bC_s hF; clear hF
    replace hm : Ev p0 H H74 := hm.tr (e_MText_constant z72)
    obtain ⟨n75, q76, hF⟩ := ar_s hG; clear hG
    obtain ⟨q77, hG⟩ := ck_s hF; clear hF
    obtain ⟨H78, eH78, hF⟩ := bnd_g hG; clear hG
    replace hm : Ev p0 H H78 := by rw [eH78]; exact hm.w (fun hi => by first | omega | exact ⟨(da66 hi).1, fun y => (da66 hi).2 y.1⟩ | exact ⟨(da64 hi).1, fun y => (da64 hi).2 y.1⟩ | exact ⟨(da57 hi).1, fun y => (da57 hi).2 y.1⟩)
    obtain ⟨v80, H81, z79, hG⟩ := bC_s hF; clear hF
    replace hm : Ev p0 H H81 := hm.tr (e_MText_accepts z79)
    exact hm.tr (hm5 x63 v80 H81 r hG)
  · clear hG
    have hr := Option.some.inj hF; subst hr
    exact hm
set_option maxRecDepth 20000 in
set_option maxHeartbeats 2000000 in
theorem eB_MText_values_73 {N : Nat} {p0 : Nat} {p1 : Int32} {p2 : Int32} {kq5 : Int32 → Int32 → Hp → Option (Unit × Hp)} (hm5 : ∀ (l3 : Int32) (l4 : Int32) (H : Hp) (r : Unit × Hp), kq5 l3 l4 H = some r → Ev p0 H r.2) {l3 : Int32} {l5 : Int32} {l6 : Int32} {H : Hp} {r : Unit × Hp} (hF : B_MText_values_73 N p0 p1 p2 kq5 l3 l5 l6 H = some r) : Ev p0 H r.2 := by
  unfold B_MText_values_73 at hF
  have hm := Ev.rf (w := p0) H
  rcases ite_s hF with ⟨q_14, hG⟩ | ⟨q_14, hG⟩
  · clear hF
    exact hm.tr (eB_MText_values_85 hm5 hG)
  · clear hF
    obtain ⟨q87, hF⟩ := ck_s hG; clear hG
    obtain ⟨v89, H90, z88, hG⟩ := bC_s hF; clear hF
    replace hm : Ev p0 H H90 := hm.tr (e_MText_fails z88)
    exact hm.tr (eB_MText_values_85 hm5 hG)
set_option maxRecDepth 20000 in
set_option maxHeartbeats 2000000 in
theorem eB_MText_values_42 {N : Nat} {p0 : Nat} {p1 : Int32} {p2 : Int32} {kq5 : Int32 → Int32 → Hp → Option (Unit × Hp)} (hm5 : ∀ (l3 : Int32) (l4 : Int32) (H : Hp) (r : Unit × Hp), kq5 l3 l4 H = some r → Ev p0 H r.2) {l3 : Int32} {l5 : Int32} {w0 : Int32} {H : Hp} {r : Unit × Hp} (hF : B_MText_values_42 N p0 p1 p2 kq5 l3 l5 w0 H = some r) : Ev p0 H r.2 := by
  unfold B_MText_values_42 at hF
  have hm := Ev.rf (w := p0) H
  rcases ite_s hF with ⟨q_17, hG⟩ | ⟨q_17, hG⟩
  · clear hF
    exact hm.tr (eB_MText_values_73 hm5 hG)
  · clear hF
    obtain ⟨q103, hF⟩ := ck_s hG; clear hG
    obtain ⟨a104, e105, hG⟩ := rf_s hF; clear hF
    have da104 : isT H p0 → a104 ≠ p0 + 16 ∧ a104 ≠ p0 := fun hi => nT_18 (hm hi).1 e105
    obtain ⟨n106, q107, hF⟩ := ar_s hG; clear hG
    obtain ⟨q108, hG⟩ := ck_s hF; clear hF
    obtain ⟨x109, -, hF⟩ := bnd_g hG; clear hG
    rcases ite_s hF with ⟨q_18, hG⟩ | ⟨q_18, hG⟩
    · clear hF
      obtain ⟨v112, H113, z111, hF⟩ := bC_s hG; clear hG
      replace hm : Ev p0 H H113 := hm.tr (e_MText_fails z111)
      exact hm.tr (eB_MText_values_73 hm5 hF)
    · clear hF
      exact hm.tr (eB_MText_values_73 hm5 hG)
set_option maxRecDepth 20000 in
set_option maxHeartbeats 2000000 in
theorem eB_MText_values_5 {N : Nat} {p0 : Nat} {p1 : Int32} {p2 : Int32} : ∀ (n : Nat) (l3 : Int32) (l4 : Int32) (H : Hp) (r : Unit × Hp), B_MText_values_5 N p0 p1 p2 n l3 l4 H = some r → Ev p0 H r.2 := by
  intro n
  induction n with
  | zero => intro l3 l4 H r hF; rw [B_MText_values_5] at hF; cases hF
  | succ n ih =>
    intro l3 l4 H r hF
    rw [B_MText_values_5] at hF
    have hm := Ev.rf (w := p0) H
    obtain ⟨q117, hG⟩ := ck_s hF; clear hF
    obtain ⟨x118, -, hF⟩ := bnd_g hG; clear hG
    rcases ite_s hF with ⟨q_21, hG⟩ | ⟨q_21, hG⟩
    · clear hF
      rcases ite_s hG with ⟨q_22, hF⟩ | ⟨q_22, hF⟩
      · clear hG
        exact hm.tr (eB_MText_values_147 hF)
      · clear hG
        obtain ⟨v122, H123, z121, hG⟩ := bC_s hF; clear hF
        replace hm : Ev p0 H H123 := hm.tr (e_MText_name z121)
        obtain ⟨x124, -, hF⟩ := bnd_g hG; clear hG
        rcases ite_s hF with ⟨q_24, hG⟩ | ⟨q_24, hG⟩
        · clear hF
          obtain ⟨v127, H128, z126, hF⟩ := bC_s hG; clear hG
          replace hm : Ev p0 H H128 := hm.tr (e_MText_member z126)
          exact hm.tr (eB_MText_values_42 ih hF)
        · clear hF
          exact hm.tr (eB_MText_values_42 ih hG)
    · clear hF
      exact hm.tr (eB_MText_values_147 hG)
set_option maxRecDepth 20000 in
set_option maxHeartbeats 2000000 in
theorem e_MText_values {N : Nat} {p0 : Nat} {p1 : Int32} {p2 : Int32} {H : Hp} {r : Unit × Hp} (hF : F_MText_values N p0 p1 p2 H = some r) : Ev p0 H r.2 := by
  unfold F_MText_values at hF
  have hm := Ev.rf (w := p0) H
  exact hm.tr (eB_MText_values_5 N 0 1 H r hF)
set_option maxRecDepth 20000 in
set_option maxHeartbeats 2000000 in
theorem eB_MText_prefab_206 {N : Nat} {p0 : Nat} {kq55 : Int32 → Int32 → Hp → Option (Unit × Hp)} (hm55 : ∀ (l1 : Int32) (l3 : Int32) (H : Hp) (r : Unit × Hp), kq55 l1 l3 H = some r → Ev p0 H r.2) {l1 : Int32} {l3 : Int32} {H : Hp} {r : Unit × Hp} (hF : B_MText_prefab_206 N p0 kq55 l1 l3 H = some r) : Ev p0 H r.2 := by
  unfold B_MText_prefab_206 at hF
  have hm := Ev.rf (w := p0) H
  obtain ⟨q77, hG⟩ := ck_s hF; clear hF
  obtain ⟨v79, H80, z78, hF⟩ := bC_s hG; clear hG
  replace hm : Ev p0 H H80 := hm.tr (e_MText_takes z78)
  exact hm.tr (hm55 l1 l3 H80 r hF)
set_option maxRecDepth 20000 in
set_option maxHeartbeats 2000000 in
theorem eB_MText_prefab_148 {N : Nat} {p0 : Nat} {kq55 : Int32 → Int32 → Hp → Option (Unit × Hp)} (hm55 : ∀ (l1 : Int32) (l3 : Int32) (H : Hp) (r : Unit × Hp), kq55 l1 l3 H = some r → Ev p0 H r.2) : ∀ (n : Nat) (l1 : Int32) (l3 : Int32) (l5 : Int32) (l6 : Int32) (H : Hp) (r : Unit × Hp), B_MText_prefab_148 N p0 kq55 n l1 l3 l5 l6 H = some r → Ev p0 H r.2 := by
  intro n
  induction n with
  | zero => intro l1 l3 l5 l6 H r hF; rw [B_MText_prefab_148] at hF; cases hF
  | succ n ih =>
    intro l1 l3 l5 l6 H r hF
    rw [B_MText_prefab_148] at hF
    have hm := Ev.rf (w := p0) H
    obtain ⟨q99, hG⟩ := ck_s hF; clear hF
    obtain ⟨a100, e101, hF⟩ := rf_s hG; clear hG
    have da100 : isT H p0 → a100 ≠ p0 + 16 ∧ a100 ≠ p0 := fun hi => nT_18 (hm hi).1 e101
    obtain ⟨n102, q103, hG⟩ := ar_s hF; clear hF
    obtain ⟨q104, hF⟩ := ck_s hG; clear hG
    obtain ⟨x105, -, hG⟩ := bnd_g hF; clear hF
    rcases ite_s hG with ⟨q_16, hF⟩ | ⟨q_16, hF⟩
    · clear hG
      obtain ⟨v108, H109, z107, hG⟩ := bC_s hF; clear hF
      replace hm : Ev p0 H H109 := hm.tr (e_MText_accepts z107)
      rcases ite_s hG with ⟨q_18, hF⟩ | ⟨q_18, hF⟩
      · clear hG
        exact hm.tr (eB_MText_prefab_206 hm55 hF)
      · clear hG
        obtain ⟨v112, H113, z111, hG⟩ := bC_s hF; clear hF
        replace hm : Ev p0 H H113 := hm.tr (e_MText_values z111)
        exact hm.tr (eB_MText_prefab_206 hm55 hG)
    · clear hG
      obtain ⟨a114, e115, hG⟩ := rf_s hF; clear hF
      have da114 : isT H p0 → a114 ≠ p0 + 16 ∧ a114 ≠ p0 := fun hi => nT_28 (hm hi).1 e115
      obtain ⟨a116, e117, hF⟩ := rf_s hG; clear hG
      have da116 : isT H p0 → a116 ≠ p0 + 16 ∧ a116 ≠ p0 := fun hi => nT_19 (hm hi).1 e117
      obtain ⟨n118, q119, hG⟩ := ar_s hF; clear hF
      obtain ⟨q120, hF⟩ := ck_s hG; clear hG
      obtain ⟨x121, -, hG⟩ := bnd_g hF; clear hF
      obtain ⟨v123, H124, z122, hF⟩ := bC_s hG; clear hG
      replace hm : Ev p0 H H124 := hm.tr (e_M_first z122)
      obtain ⟨n125, q126, hG⟩ := ar_s hF; clear hF
      obtain ⟨q127, hF⟩ := ck_s hG; clear hG
      obtain ⟨H128, eH128, hG⟩ := bnd_g hF; clear hF
      replace hm : Ev p0 H H128 := by rw [eH128]; exact hm.w (fun hi => by first | omega | exact ⟨(da116 hi).1, fun y => (da116 hi).2 y.1⟩ | exact ⟨(da114 hi).1, fun y => (da114 hi).2 y.1⟩ | exact ⟨(da100 hi).1, fun y => (da100 hi).2 y.1⟩)
      exact hm.tr (ih l1 l3 l5 (l6 + 1) H128 r hG)
set_option maxRecDepth 20000 in
set_option maxHeartbeats 2000000 in
theorem eB_MText_prefab_97 {N : Nat} {p0 : Nat} {kq55 : Int32 → Int32 → Hp → Option (Unit × Hp)} (hm55 : ∀ (l1 : Int32) (l3 : Int32) (H : Hp) (r : Unit × Hp), kq55 l1 l3 H = some r → Ev p0 H r.2) {l1 : Int32} {l3 : Int32} {l4 : Int32} {H : Hp} {r : Unit × Hp} (hF : B_MText_prefab_97 N p0 kq55 l1 l3 l4 H = some r) : Ev p0 H r.2 := by
  unfold B_MText_prefab_97 at hF
  have hm := Ev.rf (w := p0) H
  obtain ⟨q129, hG⟩ := ck_s hF; clear hF
  obtain ⟨a130, e131, hF⟩ := rf_s hG; clear hG
  have da130 : isT H p0 → a130 ≠ p0 + 16 ∧ a130 ≠ p0 := fun hi => nT_27 (hm hi).1 e131
  obtain ⟨n132, q133, hG⟩ := ar_s hF; clear hF
  obtain ⟨q134, hF⟩ := ck_s hG; clear hG
  obtain ⟨x135, -, hG⟩ := bnd_g hF; clear hF
  obtain ⟨v137, H138, z136, hF⟩ := bC_s hG; clear hG
  replace hm : Ev p0 H H138 := hm.tr (e_MText_componentOf z136)
  obtain ⟨x139, -, hG⟩ := bnd_g hF; clear hF
  rcases ite_s hG with ⟨q_23, hF⟩ | ⟨q_23, hF⟩
  · clear hG
    obtain ⟨a141, e142, hG⟩ := rf_s hF; clear hF
    have da141 : isT H p0 → a141 ≠ p0 + 16 ∧ a141 ≠ p0 := fun hi => nT_27 (hm hi).1 e142
    obtain ⟨n143, q144, hF⟩ := ar_s hG; clear hG
    obtain ⟨q145, hG⟩ := ck_s hF; clear hF
    obtain ⟨x146, -, hF⟩ := bnd_g hG; clear hG
    obtain ⟨q147, hG⟩ := ck_s hF; clear hF
    obtain ⟨H148, eH148, hF⟩ := bnd_g hG; clear hG
    replace hm : Ev p0 H H148 := by rw [eH148]; exact hm.w (fun hi => by first | omega | exact ⟨(da141 hi).1, fun y => (da141 hi).2 y.1⟩ | exact ⟨(da130 hi).1, fun y => (da130 hi).2 y.1⟩)
    obtain ⟨a149, e150, hG⟩ := rf_s hF; clear hF
    have da149 : isT H p0 → a149 ≠ p0 + 16 ∧ a149 ≠ p0 := fun hi => nT_18 (hm hi).1 e150
    obtain ⟨n151, q152, hF⟩ := ar_s hG; clear hG
    obtain ⟨q153, hG⟩ := ck_s hF; clear hF
    obtain ⟨x154, -, hF⟩ := bnd_g hG; clear hG
    exact hm.tr (eB_MText_prefab_148 hm55 N l1 (l3 + 1) v137 x154 H148 r hF)
  · clear hG
    have hr := Option.some.inj hF; subst hr
    exact hm
set_option maxRecDepth 20000 in
set_option maxHeartbeats 2000000 in
theorem eB_MText_prefab_55 {N : Nat} {p0 : Nat} : ∀ (n : Nat) (l1 : Int32) (l3 : Int32) (H : Hp) (r : Unit × Hp), B_MText_prefab_55 N p0 n l1 l3 H = some r → Ev p0 H r.2 := by
  intro n
  induction n with
  | zero => intro l1 l3 H r hF; rw [B_MText_prefab_55] at hF; cases hF
  | succ n ih =>
    intro l1 l3 H r hF
    rw [B_MText_prefab_55] at hF
    have hm := Ev.rf (w := p0) H
    obtain ⟨q159, hG⟩ := ck_s hF; clear hF
    obtain ⟨x160, -, hF⟩ := bnd_g hG; clear hG
    rcases ite_s hF with ⟨q_26, hG⟩ | ⟨q_26, hG⟩
    · clear hF
      obtain ⟨v163, H164, z162, hF⟩ := bC_s hG; clear hG
      replace hm : Ev p0 H H164 := hm.tr (e_MText_accepts z162)
      rcases ite_s hF with ⟨q_28, hG⟩ | ⟨q_28, hG⟩
      · clear hF
        obtain ⟨v167, H168, z166, hF⟩ := bC_s hG; clear hG
        replace hm : Ev p0 H H168 := hm.tr (e_MText_name z166)
        obtain ⟨x169, -, hG⟩ := bnd_g hF; clear hF
        rcases ite_s hG with ⟨q_30, hF⟩ | ⟨q_30, hF⟩
        · clear hG
          rcases ite_s hF with ⟨q_31, hG⟩ | ⟨q_31, hG⟩
          · clear hF
            obtain ⟨v173, H174, z172, hF⟩ := bC_s hG; clear hG
            replace hm : Ev p0 H H174 := hm.tr (e_MText_fails z172)
            exact hm.tr (eB_MText_prefab_97 ih hF)
          · clear hF
            exact hm.tr (eB_MText_prefab_97 ih hG)
        · clear hG
          exact hm.tr (eB_MText_prefab_97 ih hF)
      · clear hF
        have hr := Option.some.inj hG; subst hr
        exact hm
    · clear hF
      have hr := Option.some.inj hG; subst hr
      exact hm
set_option maxRecDepth 20000 in
set_option maxHeartbeats 2000000 in
theorem e_MText_prefab {N : Nat} {p0 : Nat} {H : Hp} {r : Unit × Hp} (hF : F_MText_prefab N p0 H = some r) : Ev p0 H r.2 := by
  unfold F_MText_prefab at hF
  have hm := Ev.rf (w := p0) H
  obtain ⟨q175, hG⟩ := ck_s hF; clear hF
  obtain ⟨x176, -, hF⟩ := bnd_g hG; clear hG
  obtain ⟨v178, H179, z177, hG⟩ := bC_s hF; clear hF
  replace hm : Ev p0 H H179 := hm.tr (e_MText_begins z177)
  obtain ⟨x180, -, hF⟩ := bnd_g hG; clear hG
  obtain ⟨v182, H183, z181, hG⟩ := bC_s hF; clear hF
  replace hm : Ev p0 H H183 := hm.tr (e_MText_told z181)
  obtain ⟨x184, -, hF⟩ := bnd_g hG; clear hG
  rcases ite_s hF with ⟨q_35, hG⟩ | ⟨q_35, hG⟩
  · clear hF
    obtain ⟨x186, -, hF⟩ := bnd_g hG; clear hG
    obtain ⟨H187, eH187, hG⟩ := bnd_g hF; clear hF
    replace hm : Ev p0 H H187 := by rw [eH187]; exact hm.w (fun hi => by first | omega)
    obtain ⟨a188, e189, hF⟩ := rf_s hG; clear hG
    have da188 : isT H p0 → a188 ≠ p0 + 16 ∧ a188 ≠ p0 := fun hi => nT_27 (hm hi).1 e189
    obtain ⟨n190, q191, hG⟩ := ar_s hF; clear hF
    obtain ⟨q192, hF⟩ := ck_s hG; clear hG
    obtain ⟨H193, eH193, hG⟩ := bnd_g hF; clear hF
    replace hm : Ev p0 H H193 := by rw [eH193]; exact hm.w (fun hi => by first | omega | exact ⟨(da188 hi).1, fun y => (da188 hi).2 y.1⟩)
    obtain ⟨v195, H196, z194, hF⟩ := bC_s hG; clear hG
    replace hm : Ev p0 H H196 := hm.tr (e_MText_takes z194)
    exact hm.tr (eB_MText_prefab_55 N x180 0 H196 r hF)
  · clear hF
    have hr := Option.some.inj hG; subst hr
    exact hm
set_option maxRecDepth 20000 in
set_option maxHeartbeats 2000000 in
theorem eB_MText_systemNames_99 {N : Nat} {p0 : Nat} {kq4 : Int32 → Int32 → Hp → Option (Int32 × Hp)} (hm4 : ∀ (l1 : Int32) (l2 : Int32) (H : Hp) (r : Int32 × Hp), kq4 l1 l2 H = some r → Ev p0 H r.2) {w0 : Int32} {w1 : Int32} {H : Hp} {r : Int32 × Hp} (hF : B_MText_systemNames_99 N p0 kq4 w0 w1 H = some r) : Ev p0 H r.2 := by
  unfold B_MText_systemNames_99 at hF
  have hm := Ev.rf (w := p0) H
  obtain ⟨q24, hG⟩ := ck_s hF; clear hF
  obtain ⟨v26, H27, z25, hF⟩ := bC_s hG; clear hG
  replace hm : Ev p0 H H27 := hm.tr (e_MText_accepts z25)
  exact hm.tr (hm4 (w0 ||| w1) v26 H27 r hF)
