/-! ===== (gen_ev.py) ===== -/
set_option maxRecDepth 20000 in
set_option maxHeartbeats 2000000 in
theorem eB_MText_value_46 {N : Nat} {o : Orc_TextE} (hmo : eo_TextE o) {p0 : Nat} {kq5 : Int32 → Hp → Option (Int32 × Hp)} (hm5 : ∀ (l1 : Int32) (H : Hp) (r : Int32 × Hp), kq5 l1 H = some r → Ev p0 H r.2) {w1 : Int32} {w2 : Int32} {w3 : Int32} {w4 : Int32} {H : Hp} {r : Int32 × Hp} (hF : B_MText_value_46 N o p0 kq5 p0 w1 w2 w3 w4 H = some r) : Ev p0 H r.2 := by
  unfold B_MText_value_46 at hF
  have hm := Ev.rf (w := p0) H
  obtain ⟨q21, hG⟩ := ck_s hF; clear hF
  obtain ⟨v23, H24, z22, hF⟩ := bC_s hG; clear hG
  replace hm : Ev p0 H H24 := hm.tr (e_MText_goTogether z22)
  exact hm.tr (hm5 v23 H24 r hF)
set_option maxRecDepth 20000 in
set_option maxHeartbeats 2000000 in
theorem eB_MText_value_5 {N : Nat} {o : Orc_TextE} (hmo : eo_TextE o) {p0 : Nat} : ∀ (n : Nat) (l1 : Int32) (H : Hp) (r : Int32 × Hp), B_MText_value_5 N o p0 n l1 H = some r → Ev p0 H r.2 := by
  intro n
  induction n with
  | zero => intro l1 H r hF; rw [B_MText_value_5] at hF; cases hF
  | succ n ih =>
    intro l1 H r hF
    rw [B_MText_value_5] at hF
    have hm := Ev.rf (w := p0) H
    obtain ⟨q25, hG⟩ := ck_s hF; clear hF
    obtain ⟨v27, H28, z26, hF⟩ := bC_s hG; clear hG
    replace hm : Ev p0 H H28 := hm.tr (e_MText_is z26)
    rcases ite_s hF with ⟨q_8, hG⟩ | ⟨q_8, hG⟩
    · clear hF
      have hr := Option.some.inj hG; subst hr
      exact hm
    · clear hF
      obtain ⟨x30, -, hF⟩ := bnd_g hG; clear hG
      obtain ⟨x31, -, hG⟩ := bnd_g hF; clear hF
      obtain ⟨H32, eH32, hF⟩ := bnd_g hG; clear hG
      replace hm : Ev p0 H H32 := by rw [eH32]; exact hm.w (fun hi => by first | omega)
      obtain ⟨v34, H35, z33, hG⟩ := bC_s hF; clear hF
      replace hm : Ev p0 H H35 := hm.tr (e_MText_both hmo z33)
      rcases ite_s hG with ⟨q_11, hF⟩ | ⟨q_11, hF⟩
      · clear hG
        exact hm.tr (eB_MText_value_46 hmo ih hF)
      · clear hG
        exact hm.tr (eB_MText_value_46 hmo ih hF)
set_option maxRecDepth 20000 in
set_option maxHeartbeats 2000000 in
theorem e_MText_value {N : Nat} {o : Orc_TextE} (hmo : eo_TextE o) {p0 : Nat} {H : Hp} {r : Int32 × Hp} (hF : F_MText_value N o p0 H = some r) : Ev p0 H r.2 := by
  unfold F_MText_value at hF
  have hm := Ev.rf (w := p0) H
  obtain ⟨q37, hG⟩ := ck_s hF; clear hF
  obtain ⟨v39, H40, z38, hF⟩ := bC_s hG; clear hG
  replace hm : Ev p0 H H40 := hm.tr (e_MText_both hmo z38)
  exact hm.tr (eB_MText_value_5 hmo N v39 H40 r hF)
set_option maxRecDepth 20000 in
set_option maxHeartbeats 2000000 in
theorem eoX_TextE {N : Nat} : ∀ d, eo_TextE (X_TextE N d) := by
  intro d
  induction d with
  | zero => exact ⟨(fun _ _ _ hz => absurd (show none = some _ from hz) (by simp)), (fun _ _ _ hz => absurd (show none = some _ from hz) (by simp))⟩
  | succ d ih => exact ⟨(fun _ _ _ hz => e_MText_value ih hz), (fun _ _ _ hz => e_MText_unary ih hz)⟩
set_option maxRecDepth 20000 in
set_option maxHeartbeats 2000000 in
theorem eB_MText_assigns_188 {N : Nat} {p0 : Nat}  {H : Hp} {r : Unit × Hp} (hF : B_MText_assigns_188 N p0  H = some r) : Ev p0 H r.2 := by
  unfold B_MText_assigns_188 at hF
  have hm := Ev.rf (w := p0) H
  obtain ⟨q40, hG⟩ := ck_s hF; clear hF
  obtain ⟨v42, H43, z41, hF⟩ := bC_s hG; clear hG
  replace hm : Ev p0 H H43 := hm.tr (e_MText_takes z41)
  have hr := Option.some.inj hF; subst hr
  exact hm
set_option maxRecDepth 20000 in
set_option maxHeartbeats 2000000 in
theorem eB_MText_assigns_148 {N : Nat} {p0 : Nat} {l3 : Int32} {H : Hp} {r : Unit × Hp} (hF : B_MText_assigns_148 N p0 l3 H = some r) : Ev p0 H r.2 := by
  unfold B_MText_assigns_148 at hF
  have hm := Ev.rf (w := p0) H
  obtain ⟨q56, hG⟩ := ck_s hF; clear hF
  obtain ⟨v58, H59, z57, hF⟩ := bC_s hG; clear hG
  replace hm : Ev p0 H H59 := hm.tr (e_MText_takes z57)
  obtain ⟨v61, H62, z60, hG⟩ := bC_s hF; clear hF
  replace hm : Ev p0 H H62 := hm.tr (e_MText_memberName z60)
  obtain ⟨v64, H65, z63, hF⟩ := bC_s hG; clear hG
  replace hm : Ev p0 H H65 := hm.tr (e_MText_takes z63)
  obtain ⟨x66, -, hG⟩ := bnd_g hF; clear hF
  rcases ite_s hG with ⟨q_16, hF⟩ | ⟨q_16, hF⟩
  · clear hG
    obtain ⟨a68, e69, hG⟩ := rf_s hF; clear hF
    have da68 : isT H p0 → a68 ≠ p0 + 16 ∧ a68 ≠ p0 := fun hi => nT_19 (hm hi).1 e69
    obtain ⟨n70, q71, hF⟩ := ar_s hG; clear hG
    obtain ⟨q72, hG⟩ := ck_s hF; clear hF
    obtain ⟨x73, -, hF⟩ := bnd_g hG; clear hG
    obtain ⟨v75, H76, z74, hG⟩ := bC_s hF; clear hF
    replace hm : Ev p0 H H76 := hm.tr (e_MText_plain z74)
    obtain ⟨v78, H79, z77, hF⟩ := bC_s hG; clear hG
    replace hm : Ev p0 H H79 := hm.tr (e_MText_wants (eoX_TextE 50) z77)
    exact hm.tr (eB_MText_assigns_188 hF)
  · clear hG
    exact hm.tr (eB_MText_assigns_188 hF)
set_option maxRecDepth 20000 in
set_option maxHeartbeats 2000000 in
theorem eB_MText_assigns_82 {N : Nat} {p0 : Nat} {l1 : Int32} {l3 : Int32} {H : Hp} {r : Unit × Hp} (hF : B_MText_assigns_82 N p0 l1 l3 H = some r) : Ev p0 H r.2 := by
  unfold B_MText_assigns_82 at hF
  have hm := Ev.rf (w := p0) H
  obtain ⟨q117, hG⟩ := ck_s hF; clear hF
  obtain ⟨x118, -, hF⟩ := bnd_g hG; clear hG
  rcases ite_s hF with ⟨q_24, hG⟩ | ⟨q_24, hG⟩
  · clear hF
    obtain ⟨a120, e121, hF⟩ := rf_s hG; clear hG
    have da120 : isT H p0 → a120 ≠ p0 + 16 ∧ a120 ≠ p0 := fun hi => nT_8 (hm hi).1 e121
    obtain ⟨n122, q123, hG⟩ := ar_s hF; clear hF
    obtain ⟨q124, hF⟩ := ck_s hG; clear hG
    obtain ⟨H125, eH125, hG⟩ := bnd_g hF; clear hF
    replace hm : Ev p0 H H125 := by rw [eH125]; exact hm.w (fun hi => by first | omega | exact ⟨(da120 hi).1, fun y => (da120 hi).2 y.1⟩)
    obtain ⟨a126, e127, hF⟩ := rf_s hG; clear hG
    have da126 : isT H p0 → a126 ≠ p0 + 16 ∧ a126 ≠ p0 := fun hi => nT_39 (hm hi).1 e127
    obtain ⟨n128, q129, hG⟩ := ar_s hF; clear hF
    obtain ⟨q130, hF⟩ := ck_s hG; clear hG
    obtain ⟨x131, -, hG⟩ := bnd_g hF; clear hF
    obtain ⟨v133, H134, z132, hF⟩ := bC_s hG; clear hG
    replace hm : Ev p0 H H134 := hm.tr (e_MText_wants (eoX_TextE 50) z132)
    exact hm.tr (eB_MText_assigns_188 hF)
  · clear hF
    have hr := Option.some.inj hG; subst hr
    exact hm
set_option maxRecDepth 20000 in
set_option maxHeartbeats 2000000 in
theorem eB_MText_assigns_76 {N : Nat} {p0 : Nat} {l1 : Int32} {l3 : Int32} {H : Hp} {r : Unit × Hp} (hF : B_MText_assigns_76 N p0 l1 l3 H = some r) : Ev p0 H r.2 := by
  unfold B_MText_assigns_76 at hF
  have hm := Ev.rf (w := p0) H
  obtain ⟨q135, hG⟩ := ck_s hF; clear hF
  obtain ⟨v137, H138, z136, hF⟩ := bC_s hG; clear hG
  replace hm : Ev p0 H H138 := hm.tr (e_MText_fails z136)
  exact hm.tr (eB_MText_assigns_82 hF)
set_option maxRecDepth 20000 in
set_option maxHeartbeats 2000000 in
theorem eB_MText_assigns_47 {N : Nat} {p0 : Nat} {l1 : Int32} {l2 : Int32} {H : Hp} {r : Unit × Hp} (hF : B_MText_assigns_47 N p0 l1 l2 H = some r) : Ev p0 H r.2 := by
  unfold B_MText_assigns_47 at hF
  have hm := Ev.rf (w := p0) H
  obtain ⟨q146, hG⟩ := ck_s hF; clear hF
  obtain ⟨v148, H149, z147, hF⟩ := bC_s hG; clear hG
  replace hm : Ev p0 H H149 := hm.tr (e_MText_accepts z147)
  rcases ite_s hF with ⟨q_29, hG⟩ | ⟨q_29, hG⟩
  · clear hF
    obtain ⟨v152, H153, z151, hF⟩ := bC_s hG; clear hG
    replace hm : Ev p0 H H153 := hm.tr (e_MText_numberOf z151)
    obtain ⟨x154, -, hG⟩ := bnd_g hF; clear hF
    rcases ite_s hG with ⟨q_31, hF⟩ | ⟨q_31, hF⟩
    · clear hG
      obtain ⟨a156, e157, hG⟩ := rf_s hF; clear hF
      have da156 : isT H p0 → a156 ≠ p0 + 16 ∧ a156 ≠ p0 := fun hi => nT_32 (hm hi).1 e157
      obtain ⟨x158, -, hF⟩ := bnd_g hG; clear hG
      obtain ⟨n159, q160, hG⟩ := ar_s hF; clear hF
      obtain ⟨q161, hF⟩ := ck_s hG; clear hG
      obtain ⟨x162, -, hG⟩ := bnd_g hF; clear hF
      rcases ite_s hG with ⟨q_32, hF⟩ | ⟨q_32, hF⟩
      · clear hG
        obtain ⟨v165, H166, z164, hG⟩ := bC_s hF; clear hF
        replace hm : Ev p0 H H166 := hm.tr (e_MText_fails z164)
        exact hm.tr (eB_MText_assigns_148 hG)
      · clear hG
        exact hm.tr (eB_MText_assigns_148 hF)
    · clear hG
      exact hm.tr (eB_MText_assigns_148 hF)
  · clear hF
    obtain ⟨v168, H169, z167, hF⟩ := bC_s hG; clear hG
    replace hm : Ev p0 H H169 := hm.tr (e_MText_local z167)
    rcases ite_s hF with ⟨q_35, hG⟩ | ⟨q_35, hG⟩
    · clear hF
      obtain ⟨a171, e172, hF⟩ := rf_s hG; clear hG
      have da171 : isT H p0 → a171 ≠ p0 + 16 ∧ a171 ≠ p0 := fun hi => nT_40 (hm hi).1 e172
      obtain ⟨n173, q174, hG⟩ := ar_s hF; clear hF
      obtain ⟨q175, hF⟩ := ck_s hG; clear hG
      obtain ⟨x176, -, hG⟩ := bnd_g hF; clear hF
      rcases ite_s hG with ⟨q_36, hF⟩ | ⟨q_36, hF⟩
      · clear hG
        exact hm.tr (eB_MText_assigns_82 hF)
      · clear hG
        exact hm.tr (eB_MText_assigns_76 hF)
    · clear hF
      exact hm.tr (eB_MText_assigns_76 hG)
set_option maxRecDepth 20000 in
set_option maxHeartbeats 2000000 in
theorem e_MText_assigns {N : Nat} {p0 : Nat} {H : Hp} {r : Unit × Hp} (hF : F_MText_assigns N p0 H = some r) : Ev p0 H r.2 := by
  unfold F_MText_assigns at hF
  have hm := Ev.rf (w := p0) H
  obtain ⟨q186, hG⟩ := ck_s hF; clear hF
  obtain ⟨v188, H189, z187, hF⟩ := bC_s hG; clear hG
  replace hm : Ev p0 H H189 := hm.tr (e_MText_name z187)
  obtain ⟨v191, H192, z190, hG⟩ := bC_s hF; clear hF
  replace hm : Ev p0 H H192 := hm.tr (e_MText_sort z190)
  obtain ⟨x193, -, hF⟩ := bnd_g hG; clear hG
  rcases ite_s hF with ⟨q_41, hG⟩ | ⟨q_41, hG⟩
  · clear hF
    obtain ⟨v196, H197, z195, hF⟩ := bC_s hG; clear hG
    replace hm : Ev p0 H H197 := hm.tr (e_MText_is z195)
    rcases ite_s hF with ⟨q_43, hG⟩ | ⟨q_43, hG⟩
    · clear hF
      obtain ⟨v200, H201, z199, hF⟩ := bC_s hG; clear hG
      replace hm : Ev p0 H H201 := hm.tr (e_MText_is z199)
      rcases ite_s hF with ⟨q_45, hG⟩ | ⟨q_45, hG⟩
      · clear hF
        obtain ⟨x203, -, hF⟩ := bnd_g hG; clear hG
        obtain ⟨v205, H206, z204, hG⟩ := bC_s hF; clear hF
        replace hm : Ev p0 H H206 := hm.tr (e_MText_fails z204)
        have hr := Option.some.inj hG; subst hr
        exact hm
      · clear hF
        exact hm.tr (eB_MText_assigns_47 hG)
    · clear hF
      exact hm.tr (eB_MText_assigns_47 hG)
  · clear hF
    have hr := Option.some.inj hG; subst hr
    exact hm
set_option maxRecDepth 20000 in
set_option maxHeartbeats 2000000 in
theorem eB_MText_localName_50 {N : Nat} {p0 : Nat} {l1 : Int32} {H : Hp} {r : Int32 × Hp} (hF : B_MText_localName_50 N p0 l1 H = some r) : Ev p0 H r.2 := by
  unfold B_MText_localName_50 at hF
  have hm := Ev.rf (w := p0) H
  obtain ⟨q18, hG⟩ := ck_s hF; clear hF
  obtain ⟨v20, H21, z19, hF⟩ := bC_s hG; clear hG
  replace hm : Ev p0 H H21 := hm.tr (e_MText_fails z19)
  have hr := Option.some.inj hF; subst hr
  exact hm
set_option maxRecDepth 20000 in
set_option maxHeartbeats 2000000 in
theorem eB_MText_localName_27 {N : Nat} {p0 : Nat} {l1 : Int32} {H : Hp} {r : Int32 × Hp} (hF : B_MText_localName_27 N p0 l1 H = some r) : Ev p0 H r.2 := by
  unfold B_MText_localName_27 at hF
  have hm := Ev.rf (w := p0) H
  obtain ⟨q26, hG⟩ := ck_s hF; clear hF
  obtain ⟨x27, -, hF⟩ := bnd_g hG; clear hG
  rcases ite_s hF with ⟨q_6, hG⟩ | ⟨q_6, hG⟩
  · clear hF
    obtain ⟨v30, H31, z29, hF⟩ := bC_s hG; clear hG
    replace hm : Ev p0 H H31 := hm.tr (e_MText_local z29)
    rcases ite_s hF with ⟨q_8, hG⟩ | ⟨q_8, hG⟩
    · clear hF
      exact hm.tr (eB_MText_localName_50 hG)
    · clear hF
      obtain ⟨v34, H35, z33, hF⟩ := bC_s hG; clear hG
      replace hm : Ev p0 H H35 := hm.tr (e_MText_index z33)
      rcases ite_s hF with ⟨q_10, hG⟩ | ⟨q_10, hG⟩
      · clear hF
        have hr := Option.some.inj hG; subst hr
        exact hm
      · clear hF
        exact hm.tr (eB_MText_localName_50 hG)
  · clear hF
    have hr := Option.some.inj hG; subst hr
    exact hm
set_option maxRecDepth 20000 in
set_option maxHeartbeats 2000000 in
theorem e_MText_localName {N : Nat} {p0 : Nat} {H : Hp} {r : Int32 × Hp} (hF : F_MText_localName N p0 H = some r) : Ev p0 H r.2 := by
  unfold F_MText_localName at hF
  have hm := Ev.rf (w := p0) H
  obtain ⟨q42, hG⟩ := ck_s hF; clear hF
  obtain ⟨v44, H45, z43, hF⟩ := bC_s hG; clear hG
  replace hm : Ev p0 H H45 := hm.tr (e_MText_name z43)
  obtain ⟨x46, -, hG⟩ := bnd_g hF; clear hF
  rcases ite_s hG with ⟨q_13, hF⟩ | ⟨q_13, hF⟩
  · clear hG
    obtain ⟨x48, -, hG⟩ := bnd_g hF; clear hF
    rcases ite_s hG with ⟨q_14, hF⟩ | ⟨q_14, hF⟩
    · clear hG
      obtain ⟨v51, H52, z50, hG⟩ := bC_s hF; clear hF
      replace hm : Ev p0 H H52 := hm.tr (e_MText_fails z50)
      exact hm.tr (eB_MText_localName_27 hG)
    · clear hG
      exact hm.tr (eB_MText_localName_27 hF)
  · clear hG
    exact hm.tr (eB_MText_localName_27 hF)
set_option maxRecDepth 20000 in
set_option maxHeartbeats 2000000 in
theorem e_MText_tells {N : Nat} {p0 : Nat} {p1 : Int32} {p2 : Int32} {p3 : Int32} {H : Hp} {r : Unit × Hp} (hF : F_MText_tells N p0 p1 p2 p3 H = some r) : Ev p0 H r.2 := by
  unfold F_MText_tells at hF
  have hm := Ev.rf (w := p0) H
  obtain ⟨q34, hG⟩ := ck_s hF; clear hF
  obtain ⟨x35, -, hF⟩ := bnd_g hG; clear hG
  rcases ite_s hF with ⟨q_6, hG⟩ | ⟨q_6, hG⟩
  · clear hF
    obtain ⟨a37, e38, hF⟩ := rf_s hG; clear hG
    have da37 : isT H p0 → a37 ≠ p0 + 16 ∧ a37 ≠ p0 := fun hi => nT_8 (hm hi).1 e38
    obtain ⟨x39, -, hG⟩ := bnd_g hF; clear hF
    obtain ⟨n40, q41, hF⟩ := ar_s hG; clear hG
    obtain ⟨q42, hG⟩ := ck_s hF; clear hF
    obtain ⟨H43, eH43, hF⟩ := bnd_g hG; clear hG
    replace hm : Ev p0 H H43 := by rw [eH43]; exact hm.w (fun hi => by first | omega | exact ⟨(da37 hi).1, fun y => (da37 hi).2 y.1⟩)
    obtain ⟨a44, e45, hG⟩ := rf_s hF; clear hF
    have da44 : isT H p0 → a44 ≠ p0 + 16 ∧ a44 ≠ p0 := fun hi => nT_38 (hm hi).1 e45
    obtain ⟨x46, -, hF⟩ := bnd_g hG; clear hG
    obtain ⟨n47, q48, hG⟩ := ar_s hF; clear hF
    obtain ⟨q49, hF⟩ := ck_s hG; clear hG
    obtain ⟨H50, eH50, hG⟩ := bnd_g hF; clear hF
    replace hm : Ev p0 H H50 := by rw [eH50]; exact hm.w (fun hi => by first | omega | exact ⟨(da44 hi).1, fun y => (da44 hi).2 y.1⟩ | exact ⟨(da37 hi).1, fun y => (da37 hi).2 y.1⟩)
    obtain ⟨a51, e52, hF⟩ := rf_s hG; clear hG
    have da51 : isT H p0 → a51 ≠ p0 + 16 ∧ a51 ≠ p0 := fun hi => nT_39 (hm hi).1 e52
    obtain ⟨x53, -, hG⟩ := bnd_g hF; clear hF
    obtain ⟨n54, q55, hF⟩ := ar_s hG; clear hG
    obtain ⟨q56, hG⟩ := ck_s hF; clear hF
    obtain ⟨H57, eH57, hF⟩ := bnd_g hG; clear hG
    replace hm : Ev p0 H H57 := by rw [eH57]; exact hm.w (fun hi => by first | omega | exact ⟨(da51 hi).1, fun y => (da51 hi).2 y.1⟩ | exact ⟨(da44 hi).1, fun y => (da44 hi).2 y.1⟩ | exact ⟨(da37 hi).1, fun y => (da37 hi).2 y.1⟩)
    obtain ⟨a58, e59, hG⟩ := rf_s hF; clear hF
    have da58 : isT H p0 → a58 ≠ p0 + 16 ∧ a58 ≠ p0 := fun hi => nT_40 (hm hi).1 e59
    obtain ⟨x60, -, hF⟩ := bnd_g hG; clear hG
    obtain ⟨n61, q62, hG⟩ := ar_s hF; clear hF
    obtain ⟨q63, hF⟩ := ck_s hG; clear hG
    obtain ⟨H64, eH64, hG⟩ := bnd_g hF; clear hF
    replace hm : Ev p0 H H64 := by rw [eH64]; exact hm.w (fun hi => by first | omega | exact ⟨(da58 hi).1, fun y => (da58 hi).2 y.1⟩ | exact ⟨(da51 hi).1, fun y => (da51 hi).2 y.1⟩ | exact ⟨(da44 hi).1, fun y => (da44 hi).2 y.1⟩ | exact ⟨(da37 hi).1, fun y => (da37 hi).2 y.1⟩)
    obtain ⟨x65, -, hF⟩ := bnd_g hG; clear hG
    obtain ⟨H66, eH66, hG⟩ := bnd_g hF; clear hF
    replace hm : Ev p0 H H66 := by rw [eH66]; exact hm.w (fun hi => by first | omega | exact ⟨(da58 hi).1, fun y => (da58 hi).2 y.1⟩ | exact ⟨(da51 hi).1, fun y => (da51 hi).2 y.1⟩ | exact ⟨(da44 hi).1, fun y => (da44 hi).2 y.1⟩ | exact ⟨(da37 hi).1, fun y => (da37 hi).2 y.1⟩)
    have hr := Option.some.inj hG; subst hr
    exact hm
  · clear hF
    have hr := Option.some.inj hG; subst hr
    exact hm
set_option maxRecDepth 20000 in
set_option maxHeartbeats 2000000 in
theorem eB_MText_spawns_158 {N : Nat} {p0 : Nat}  {H : Hp} {r : Unit × Hp} (hF : B_MText_spawns_158 N p0  H = some r) : Ev p0 H r.2 := by
  unfold B_MText_spawns_158 at hF
  have hm := Ev.rf (w := p0) H
  obtain ⟨q16, hG⟩ := ck_s hF; clear hF
  obtain ⟨v18, H19, z17, hF⟩ := bC_s hG; clear hG
  replace hm : Ev p0 H H19 := hm.tr (e_MText_takes z17)
  have hr := Option.some.inj hF; subst hr
  exact hm
set_option maxRecDepth 20000 in
set_option maxHeartbeats 2000000 in
theorem eB_MText_spawns_154 {N : Nat} {p0 : Nat}  {H : Hp} {r : Unit × Hp} (hF : B_MText_spawns_154 N p0  H = some r) : Ev p0 H r.2 := by
  unfold B_MText_spawns_154 at hF
  have hm := Ev.rf (w := p0) H
  obtain ⟨q30, hG⟩ := ck_s hF; clear hF
  obtain ⟨v32, H33, z31, hF⟩ := bC_s hG; clear hG
  replace hm : Ev p0 H H33 := hm.tr (e_MText_closes z31)
  exact hm.tr (eB_MText_spawns_158 hF)
set_option maxRecDepth 20000 in
set_option maxHeartbeats 2000000 in
theorem eB_MText_spawns_141 {N : Nat} {p0 : Nat} {kq27 : Int32 → Int32 → Int32 → Hp → Option (Unit × Hp)} (hm27 : ∀ (l1 : Int32) (l2 : Int32) (l3 : Int32) (H : Hp) (r : Unit × Hp), kq27 l1 l2 l3 H = some r → Ev p0 H r.2) {l1 : Int32} {l2 : Int32} {H : Hp} {r : Unit × Hp} (hF : B_MText_spawns_141 N p0 kq27 l1 l2 H = some r) : Ev p0 H r.2 := by
  unfold B_MText_spawns_141 at hF
  have hm := Ev.rf (w := p0) H
  obtain ⟨q62, hG⟩ := ck_s hF; clear hF
  obtain ⟨v64, H65, z63, hF⟩ := bC_s hG; clear hG
  replace hm : Ev p0 H H65 := hm.tr (e_MText_accepts z63)
  exact hm.tr (hm27 l1 (l2 + 1) v64 H65 r hF)
set_option maxRecDepth 20000 in
set_option maxHeartbeats 2000000 in
theorem eB_MText_spawns_100 {N : Nat} {p0 : Nat} {kq27 : Int32 → Int32 → Int32 → Hp → Option (Unit × Hp)} (hm27 : ∀ (l1 : Int32) (l2 : Int32) (l3 : Int32) (H : Hp) (r : Unit × Hp), kq27 l1 l2 l3 H = some r → Ev p0 H r.2) {l1 : Int32} {l2 : Int32} {l5 : Int32} {H : Hp} {r : Unit × Hp} (hF : B_MText_spawns_100 N p0 kq27 l1 l2 l5 H = some r) : Ev p0 H r.2 := by
  unfold B_MText_spawns_100 at hF
  have hm := Ev.rf (w := p0) H
  obtain ⟨q78, hG⟩ := ck_s hF; clear hF
  obtain ⟨v80, H81, z79, hF⟩ := bC_s hG; clear hG
  replace hm : Ev p0 H H81 := hm.tr (e_MText_takes z79)
  obtain ⟨v83, H84, z82, hG⟩ := bC_s hF; clear hF
  replace hm : Ev p0 H H84 := hm.tr (e_MText_memberName z82)
  obtain ⟨v86, H87, z85, hF⟩ := bC_s hG; clear hG
  replace hm : Ev p0 H H87 := hm.tr (e_MText_takes z85)
  obtain ⟨x88, -, hG⟩ := bnd_g hF; clear hF
  rcases ite_s hG with ⟨q_21, hF⟩ | ⟨q_21, hF⟩
  · clear hG
    obtain ⟨a90, e91, hG⟩ := rf_s hF; clear hF
    have da90 : isT H p0 → a90 ≠ p0 + 16 ∧ a90 ≠ p0 := fun hi => nT_19 (hm hi).1 e91
    obtain ⟨n92, q93, hF⟩ := ar_s hG; clear hG
    obtain ⟨q94, hG⟩ := ck_s hF; clear hF
    obtain ⟨x95, -, hF⟩ := bnd_g hG; clear hG
    obtain ⟨v97, H98, z96, hG⟩ := bC_s hF; clear hF
    replace hm : Ev p0 H H98 := hm.tr (e_MText_plain z96)
    obtain ⟨v100, H101, z99, hF⟩ := bC_s hG; clear hG
    replace hm : Ev p0 H H101 := hm.tr (e_MText_wants (eoX_TextE 50) z99)
    exact hm.tr (eB_MText_spawns_141 hm27 hF)
  · clear hG
    exact hm.tr (eB_MText_spawns_141 hm27 hF)
set_option maxRecDepth 20000 in
set_option maxHeartbeats 2000000 in
theorem eB_MText_spawns_63 {N : Nat} {p0 : Nat} {kq27 : Int32 → Int32 → Int32 → Hp → Option (Unit × Hp)} (hm27 : ∀ (l1 : Int32) (l2 : Int32) (l3 : Int32) (H : Hp) (r : Unit × Hp), kq27 l1 l2 l3 H = some r → Ev p0 H r.2) {l1 : Int32} {l2 : Int32} {l4 : Int32} {H : Hp} {r : Unit × Hp} (hF : B_MText_spawns_63 N p0 kq27 l1 l2 l4 H = some r) : Ev p0 H r.2 := by
  unfold B_MText_spawns_63 at hF
  have hm := Ev.rf (w := p0) H
  obtain ⟨q112, hG⟩ := ck_s hF; clear hF
  obtain ⟨v114, H115, z113, hF⟩ := bC_s hG; clear hG
  replace hm : Ev p0 H H115 := hm.tr (e_MText_numberOf z113)
  obtain ⟨x116, -, hG⟩ := bnd_g hF; clear hF
  rcases ite_s hG with ⟨q_26, hF⟩ | ⟨q_26, hF⟩
  · clear hG
    obtain ⟨a118, e119, hG⟩ := rf_s hF; clear hF
    have da118 : isT H p0 → a118 ≠ p0 + 16 ∧ a118 ≠ p0 := fun hi => nT_27 (hm hi).1 e119
    obtain ⟨n120, q121, hF⟩ := ar_s hG; clear hG
    obtain ⟨q122, hG⟩ := ck_s hF; clear hF
    obtain ⟨x123, -, hF⟩ := bnd_g hG; clear hG
    rcases ite_s hF with ⟨q_27, hG⟩ | ⟨q_27, hG⟩
    · clear hF
      obtain ⟨v126, H127, z125, hF⟩ := bC_s hG; clear hG
      replace hm : Ev p0 H H127 := hm.tr (e_MText_fails z125)
      exact hm.tr (eB_MText_spawns_100 hm27 hF)
    · clear hF
      exact hm.tr (eB_MText_spawns_100 hm27 hG)
  · clear hG
    exact hm.tr (eB_MText_spawns_100 hm27 hF)
set_option maxRecDepth 20000 in
set_option maxHeartbeats 2000000 in
theorem eB_MText_spawns_27 {N : Nat} {p0 : Nat} : ∀ (n : Nat) (l1 : Int32) (l2 : Int32) (l3 : Int32) (H : Hp) (r : Unit × Hp), B_MText_spawns_27 N p0 n l1 l2 l3 H = some r → Ev p0 H r.2 := by
  intro n
  induction n with
  | zero => intro l1 l2 l3 H r hF; rw [B_MText_spawns_27] at hF; cases hF
  | succ n ih =>
    intro l1 l2 l3 H r hF
    rw [B_MText_spawns_27] at hF
    have hm := Ev.rf (w := p0) H
    obtain ⟨q132, hG⟩ := ck_s hF; clear hF
    obtain ⟨x133, -, hF⟩ := bnd_g hG; clear hG
    rcases ite_s hF with ⟨q_30, hG⟩ | ⟨q_30, hG⟩
    · clear hF
      rcases ite_s hG with ⟨q_31, hF⟩ | ⟨q_31, hF⟩
      · clear hG
        exact hm.tr (eB_MText_spawns_154 hF)
      · clear hG
        obtain ⟨v137, H138, z136, hG⟩ := bC_s hF; clear hF
        replace hm : Ev p0 H H138 := hm.tr (e_MText_name z136)
        obtain ⟨x139, -, hF⟩ := bnd_g hG; clear hG
        rcases ite_s hF with ⟨q_33, hG⟩ | ⟨q_33, hG⟩
        · clear hF
          rcases ite_s hG with ⟨q_34, hF⟩ | ⟨q_34, hF⟩
          · clear hG
            obtain ⟨v143, H144, z142, hG⟩ := bC_s hF; clear hF
            replace hm : Ev p0 H H144 := hm.tr (e_MText_fails z142)
            exact hm.tr (eB_MText_spawns_63 ih hG)
          · clear hG
            exact hm.tr (eB_MText_spawns_63 ih hF)
        · clear hF
          exact hm.tr (eB_MText_spawns_63 ih hG)
    · clear hF
      exact hm.tr (eB_MText_spawns_154 hG)
set_option maxRecDepth 20000 in
set_option maxHeartbeats 2000000 in
theorem e_MText_spawns {N : Nat} {p0 : Nat} {H : Hp} {r : Unit × Hp} (hF : F_MText_spawns N p0 H = some r) : Ev p0 H r.2 := by
  unfold F_MText_spawns at hF
  have hm := Ev.rf (w := p0) H
  obtain ⟨q145, hG⟩ := ck_s hF; clear hF
  obtain ⟨v147, H148, z146, hF⟩ := bC_s hG; clear hG
  replace hm : Ev p0 H H148 := hm.tr (e_MText_name z146)
  obtain ⟨v150, H151, z149, hG⟩ := bC_s hF; clear hF
  replace hm : Ev p0 H H151 := hm.tr (e_MText_numberOf z149)
  obtain ⟨v153, H154, z152, hF⟩ := bC_s hG; clear hG
  replace hm : Ev p0 H H154 := hm.tr (e_MText_is z152)
  rcases ite_s hF with ⟨q_39, hG⟩ | ⟨q_39, hG⟩
  · clear hF
    exact hm.tr (eB_MText_spawns_158 hG)
  · clear hF
    obtain ⟨v157, H158, z156, hF⟩ := bC_s hG; clear hG
    replace hm : Ev p0 H H158 := hm.tr (e_MText_opens z156)
    exact hm.tr (eB_MText_spawns_27 N v150 0 1 H158 r hF)
set_option maxRecDepth 20000 in
set_option maxHeartbeats 2000000 in
theorem eB_MText_emits_118 {N : Nat} {p0 : Nat}  {H : Hp} {r : Unit × Hp} (hF : B_MText_emits_118 N p0  H = some r) : Ev p0 H r.2 := by
  unfold B_MText_emits_118 at hF
  have hm := Ev.rf (w := p0) H
  obtain ⟨q42, hG⟩ := ck_s hF; clear hF
  obtain ⟨v44, H45, z43, hF⟩ := bC_s hG; clear hG
  replace hm : Ev p0 H H45 := hm.tr (e_MText_closes z43)
  obtain ⟨v47, H48, z46, hG⟩ := bC_s hF; clear hF
  replace hm : Ev p0 H H48 := hm.tr (e_MText_takes z46)
  obtain ⟨v50, H51, z49, hF⟩ := bC_s hG; clear hG
  replace hm : Ev p0 H H51 := hm.tr (e_MText_wantsIn (eoX_TextE 50) z49)
  obtain ⟨v53, H54, z52, hG⟩ := bC_s hF; clear hF
  replace hm : Ev p0 H H54 := hm.tr (e_MText_takes z52)
  obtain ⟨v56, H57, z55, hF⟩ := bC_s hG; clear hG
  replace hm : Ev p0 H H57 := hm.tr (e_MText_wantsIn (eoX_TextE 50) z55)
  obtain ⟨v59, H60, z58, hG⟩ := bC_s hF; clear hF
  replace hm : Ev p0 H H60 := hm.tr (e_MText_takes z58)
  have hr := Option.some.inj hG; subst hr
  exact hm
set_option maxRecDepth 20000 in
set_option maxHeartbeats 2000000 in
theorem eB_MText_emits_90 {N : Nat} {p0 : Nat} {l1 : Int32} {l2 : Int32} {H : Hp} {r : Unit × Hp} (hF : B_MText_emits_90 N p0 l1 l2 H = some r) : Ev p0 H r.2 := by
  unfold B_MText_emits_90 at hF
  have hm := Ev.rf (w := p0) H
  obtain ⟨q72, hG⟩ := ck_s hF; clear hF
  obtain ⟨v74, H75, z73, hF⟩ := bC_s hG; clear hG
  replace hm : Ev p0 H H75 := hm.tr (e_MText_is z73)
  rcases ite_s hF with ⟨q_20, hG⟩ | ⟨q_20, hG⟩
  · clear hF
    exact hm.tr (eB_MText_emits_118 hG)
  · clear hF
    obtain ⟨a77, e78, hF⟩ := rf_s hG; clear hG
    obtain ⟨n79, q80, hG⟩ := ar_s hF; clear hF
    obtain ⟨q81, hF⟩ := ck_s hG; clear hG
    obtain ⟨x82, -, hG⟩ := bnd_g hF; clear hF
    rcases ite_s hG with ⟨q_21, hF⟩ | ⟨q_21, hF⟩
    · clear hG
      exact hm.tr (eB_MText_emits_118 hF)
    · clear hG
      obtain ⟨x84, -, hG⟩ := bnd_g hF; clear hF
      obtain ⟨v86, H87, z85, hF⟩ := bC_s hG; clear hG
      replace hm : Ev p0 H H87 := hm.tr (e_MText_fails z85)
      exact hm.tr (eB_MText_emits_118 hF)
set_option maxRecDepth 20000 in
set_option maxHeartbeats 2000000 in
theorem eB_MText_emits_77 {N : Nat} {p0 : Nat} {kq31 : Int32 → Int32 → Int32 → Hp → Option (Unit × Hp)} (hm31 : ∀ (l1 : Int32) (l2 : Int32) (l3 : Int32) (H : Hp) (r : Unit × Hp), kq31 l1 l2 l3 H = some r → Ev p0 H r.2) {l1 : Int32} {l2 : Int32} {H : Hp} {r : Unit × Hp} (hF : B_MText_emits_77 N p0 kq31 l1 l2 H = some r) : Ev p0 H r.2 := by
  unfold B_MText_emits_77 at hF
  have hm := Ev.rf (w := p0) H
  obtain ⟨q103, hG⟩ := ck_s hF; clear hF
  obtain ⟨v105, H106, z104, hF⟩ := bC_s hG; clear hG
  replace hm : Ev p0 H H106 := hm.tr (e_MText_accepts z104)
  exact hm.tr (hm31 l1 (l2 + 1) v105 H106 r hF)
set_option maxRecDepth 20000 in
set_option maxHeartbeats 2000000 in
theorem eB_MText_emits_31 {N : Nat} {p0 : Nat} : ∀ (n : Nat) (l1 : Int32) (l2 : Int32) (l3 : Int32) (H : Hp) (r : Unit × Hp), B_MText_emits_31 N p0 n l1 l2 l3 H = some r → Ev p0 H r.2 := by
  intro n
  induction n with
  | zero => intro l1 l2 l3 H r hF; rw [B_MText_emits_31] at hF; cases hF
  | succ n ih =>
    intro l1 l2 l3 H r hF
    rw [B_MText_emits_31] at hF
    have hm := Ev.rf (w := p0) H
    obtain ⟨q119, hG⟩ := ck_s hF; clear hF
    obtain ⟨x120, -, hF⟩ := bnd_g hG; clear hG
    rcases ite_s hF with ⟨q_28, hG⟩ | ⟨q_28, hG⟩
    · clear hF
      rcases ite_s hG with ⟨q_29, hF⟩ | ⟨q_29, hF⟩
      · clear hG
        exact hm.tr (eB_MText_emits_90 hF)
      · clear hG
        obtain ⟨a123, e124, hG⟩ := rf_s hF; clear hF
        obtain ⟨n125, q126, hF⟩ := ar_s hG; clear hG
        obtain ⟨q127, hG⟩ := ck_s hF; clear hF
        obtain ⟨x128, -, hF⟩ := bnd_g hG; clear hG
        rcases ite_s hF with ⟨q_30, hG⟩ | ⟨q_30, hG⟩
        · clear hF
          obtain ⟨v131, H132, z130, hF⟩ := bC_s hG; clear hG
          replace hm : Ev p0 H H132 := hm.tr ((eoX_TextE 50).1 _ _ _ z130)
          exact hm.tr (eB_MText_emits_77 ih hF)
        · clear hF
          obtain ⟨a133, e134, hF⟩ := rf_s hG; clear hG
          have da133 : isT H p0 → a133 ≠ p0 + 16 ∧ a133 ≠ p0 := fun hi => nT_24 (hm hi).1 e134
          obtain ⟨n135, q136, hG⟩ := ar_s hF; clear hF
          obtain ⟨q137, hF⟩ := ck_s hG; clear hG
          obtain ⟨x138, -, hG⟩ := bnd_g hF; clear hF
          obtain ⟨v140, H141, z139, hF⟩ := bC_s hG; clear hG
          replace hm : Ev p0 H H141 := hm.tr (e_MText_plain z139)
          obtain ⟨v143, H144, z142, hG⟩ := bC_s hF; clear hF
          replace hm : Ev p0 H H144 := hm.tr (e_MText_wants (eoX_TextE 50) z142)
          exact hm.tr (eB_MText_emits_77 ih hG)
    · clear hF
      exact hm.tr (eB_MText_emits_90 hG)
set_option maxRecDepth 20000 in
set_option maxHeartbeats 2000000 in
theorem eB_MText_emits_30 {N : Nat} {p0 : Nat} {l1 : Int32} {l2 : Int32} {w0 : Int32} {H : Hp} {r : Unit × Hp} (hF : B_MText_emits_30 N p0 l1 l2 w0 H = some r) : Ev p0 H r.2 := by
  unfold B_MText_emits_30 at hF
  have hm := Ev.rf (w := p0) H
  exact hm.tr (eB_MText_emits_31 N l1 l2 w0 H r hF)
set_option maxRecDepth 20000 in
set_option maxHeartbeats 2000000 in
theorem e_MText_emits {N : Nat} {p0 : Nat} {H : Hp} {r : Unit × Hp} (hF : F_MText_emits N p0 H = some r) : Ev p0 H r.2 := by
  unfold F_MText_emits at hF
  have hm := Ev.rf (w := p0) H
  obtain ⟨q145, hG⟩ := ck_s hF; clear hF
  obtain ⟨v147, H148, z146, hF⟩ := bC_s hG; clear hG
  replace hm : Ev p0 H H148 := hm.tr (e_MText_name z146)
  obtain ⟨v150, H151, z149, hG⟩ := bC_s hF; clear hF
  replace hm : Ev p0 H H151 := hm.tr (e_MText_numberOf z149)
  obtain ⟨v153, H154, z152, hF⟩ := bC_s hG; clear hG
  replace hm : Ev p0 H H154 := hm.tr (e_MText_opens z152)
  obtain ⟨v156, H157, z155, hG⟩ := bC_s hF; clear hF
  replace hm : Ev p0 H H157 := hm.tr (e_MText_is z155)
  rcases ite_s hG with ⟨q_38, hF⟩ | ⟨q_38, hF⟩
  · clear hG
    exact hm.tr (eB_MText_emits_30 hF)
  · clear hG
    exact hm.tr (eB_MText_emits_30 hF)
set_option maxRecDepth 20000 in
set_option maxHeartbeats 2000000 in
theorem eB_MText_commands_104 {N : Nat} {p0 : Nat} {p1 : Int32}  {H : Hp} {r : Unit × Hp} (hF : B_MText_commands_104 N p0 p1  H = some r) : Ev p0 H r.2 := by
  unfold B_MText_commands_104 at hF
  have hm := Ev.rf (w := p0) H
  obtain ⟨q19, hG⟩ := ck_s hF; clear hF
  obtain ⟨v21, H22, z20, hF⟩ := bC_s hG; clear hG
  replace hm : Ev p0 H H22 := hm.tr (e_MText_takes z20)
  have hr := Option.some.inj hF; subst hr
  exact hm
set_option maxRecDepth 20000 in
set_option maxHeartbeats 2000000 in
theorem eB_MText_commands_49 {N : Nat} {p0 : Nat} {p1 : Int32}  {H : Hp} {r : Unit × Hp} (hF : B_MText_commands_49 N p0 p1  H = some r) : Ev p0 H r.2 := by
  unfold B_MText_commands_49 at hF
  have hm := Ev.rf (w := p0) H
  obtain ⟨q46, hG⟩ := ck_s hF; clear hF
  obtain ⟨v48, H49, z47, hF⟩ := bC_s hG; clear hG
  replace hm : Ev p0 H H49 := hm.tr (e_MText_name z47)
  obtain ⟨v51, H52, z50, hG⟩ := bC_s hF; clear hF
  replace hm : Ev p0 H H52 := hm.tr (e_MText_numberOf z50)
  rcases ite_s hG with ⟨q_13, hF⟩ | ⟨q_13, hF⟩
  · clear hG
    obtain ⟨v55, H56, z54, hG⟩ := bC_s hF; clear hF
    replace hm : Ev p0 H H56 := hm.tr (e_MText_takes z54)
    obtain ⟨v58, H59, z57, hF⟩ := bC_s hG; clear hG
    replace hm : Ev p0 H H59 := hm.tr (e_MText_memberName z57)
    obtain ⟨v61, H62, z60, hG⟩ := bC_s hF; clear hF
    replace hm : Ev p0 H H62 := hm.tr (e_MText_takes z60)
    obtain ⟨x63, -, hF⟩ := bnd_g hG; clear hG
    rcases ite_s hF with ⟨q_17, hG⟩ | ⟨q_17, hG⟩
    · clear hF
      obtain ⟨a65, e66, hF⟩ := rf_s hG; clear hG
      have da65 : isT H p0 → a65 ≠ p0 + 16 ∧ a65 ≠ p0 := fun hi => nT_19 (hm hi).1 e66
      obtain ⟨n67, q68, hG⟩ := ar_s hF; clear hF
      obtain ⟨q69, hF⟩ := ck_s hG; clear hG
      obtain ⟨x70, -, hG⟩ := bnd_g hF; clear hF
      obtain ⟨v72, H73, z71, hF⟩ := bC_s hG; clear hG
      replace hm : Ev p0 H H73 := hm.tr (e_MText_plain z71)
      obtain ⟨v75, H76, z74, hG⟩ := bC_s hF; clear hF
      replace hm : Ev p0 H H76 := hm.tr (e_MText_wants (eoX_TextE 50) z74)
      exact hm.tr (eB_MText_commands_104 hG)
    · clear hF
      exact hm.tr (eB_MText_commands_104 hG)
  · clear hG
    exact hm.tr (eB_MText_commands_104 hF)
set_option maxRecDepth 20000 in
set_option maxHeartbeats 2000000 in
theorem eB_MText_commands_28 {N : Nat} {p0 : Nat} {p1 : Int32}  {H : Hp} {r : Unit × Hp} (hF : B_MText_commands_28 N p0 p1  H = some r) : Ev p0 H r.2 := by
  unfold B_MText_commands_28 at hF
  have hm := Ev.rf (w := p0) H
  rcases ite_s hF with ⟨q_20, hG⟩ | ⟨q_20, hG⟩
  · clear hF
    exact hm.tr (eB_MText_commands_49 hG)
  · clear hF
    rcases ite_s hG with ⟨q_21, hF⟩ | ⟨q_21, hF⟩
    · clear hG
      exact hm.tr (eB_MText_commands_49 hF)
    · clear hG
      rcases ite_s hF with ⟨q_22, hG⟩ | ⟨q_22, hG⟩
      · clear hF
        exact hm.tr (eB_MText_commands_49 hG)
      · clear hF
        exact hm.tr (eB_MText_commands_104 hG)
set_option maxRecDepth 20000 in
set_option maxHeartbeats 2000000 in
theorem e_MText_commands {N : Nat} {p0 : Nat} {p1 : Int32} {H : Hp} {r : Unit × Hp} (hF : F_MText_commands N p0 p1 H = some r) : Ev p0 H r.2 := by
  unfold F_MText_commands at hF
  have hm := Ev.rf (w := p0) H
  rcases ite_s hF with ⟨q_26, hG⟩ | ⟨q_26, hG⟩
  · clear hF
    obtain ⟨q93, hF⟩ := ck_s hG; clear hG
    obtain ⟨v95, H96, z94, hG⟩ := bC_s hF; clear hF
    replace hm : Ev p0 H H96 := hm.tr (e_MText_opens z94)
    obtain ⟨v98, H99, z97, hF⟩ := bC_s hG; clear hG
    replace hm : Ev p0 H H99 := hm.tr ((eoX_TextE 50).1 _ _ _ z97)
    obtain ⟨v101, H102, z100, hG⟩ := bC_s hF; clear hF
    replace hm : Ev p0 H H102 := hm.tr (e_MText_closes z100)
    exact hm.tr (eB_MText_commands_28 hG)
  · clear hF
    obtain ⟨q103, hF⟩ := ck_s hG; clear hG
    obtain ⟨v105, H106, z104, hG⟩ := bC_s hF; clear hF
    replace hm : Ev p0 H H106 := hm.tr (e_MText_wantsIn (eoX_TextE 50) z104)
    exact hm.tr (eB_MText_commands_28 hG)
def eo_TextS (o : Orc_TextS) : Prop :=
  (∀ (a0 : Nat) (H : Hp) (r : Unit × Hp), o a0 H = some r → Ev a0 H r.2)
set_option maxRecDepth 20000 in
set_option maxHeartbeats 2000000 in
theorem eB_MText_block_13 {N : Nat} {o : Orc_TextS} (hmo : eo_TextS o) {p0 : Nat}  {H : Hp} {r : Unit × Hp} (hF : B_MText_block_13 N o p0  H = some r) : Ev p0 H r.2 := by
  unfold B_MText_block_13 at hF
  have hm := Ev.rf (w := p0) H
  obtain ⟨q12, hG⟩ := ck_s hF; clear hF
  obtain ⟨v14, H15, z13, hF⟩ := bC_s hG; clear hG
  replace hm : Ev p0 H H15 := hm.tr (hmo _ _ _ z13)
  obtain ⟨x16, -, hG⟩ := bnd_g hF; clear hF
  obtain ⟨H17, eH17, hF⟩ := bnd_g hG; clear hG
  replace hm : Ev p0 H H17 := by rw [eH17]; exact hm.w (fun hi => by first | omega)
  have hr := Option.some.inj hF; subst hr
  exact hm
set_option maxRecDepth 20000 in
set_option maxHeartbeats 2000000 in
theorem e_MText_block {N : Nat} {o : Orc_TextS} (hmo : eo_TextS o) {p0 : Nat} {H : Hp} {r : Unit × Hp} (hF : F_MText_block N o p0 H = some r) : Ev p0 H r.2 := by
  unfold F_MText_block at hF
  have hm := Ev.rf (w := p0) H
  obtain ⟨q21, hG⟩ := ck_s hF; clear hF
  obtain ⟨v23, H24, z22, hF⟩ := bC_s hG; clear hG
  replace hm : Ev p0 H H24 := hm.tr (e_MText_is z22)
  rcases ite_s hF with ⟨q_8, hG⟩ | ⟨q_8, hG⟩
  · clear hF
    exact hm.tr (eB_MText_block_13 hmo hG)
  · clear hF
    obtain ⟨v27, H28, z26, hF⟩ := bC_s hG; clear hG
    replace hm : Ev p0 H H28 := hm.tr (e_MText_deeper z26)
    exact hm.tr (eB_MText_block_13 hmo hF)
set_option maxRecDepth 20000 in
set_option maxHeartbeats 2000000 in
theorem e_MText_hears {N : Nat} {o : Orc_TextS} (hmo : eo_TextS o) {p0 : Nat} {H : Hp} {r : Unit × Hp} (hF : F_MText_hears N o p0 H = some r) : Ev p0 H r.2 := by
  unfold F_MText_hears at hF
  have hm := Ev.rf (w := p0) H
  obtain ⟨q15, hG⟩ := ck_s hF; clear hF
  obtain ⟨v17, H18, z16, hF⟩ := bC_s hG; clear hG
  replace hm : Ev p0 H H18 := hm.tr (e_MText_name z16)
  obtain ⟨v20, H21, z19, hG⟩ := bC_s hF; clear hF
  replace hm : Ev p0 H H21 := hm.tr (e_MText_numberOf z19)
  obtain ⟨x22, -, hF⟩ := bnd_g hG; clear hG
  obtain ⟨x23, -, hG⟩ := bnd_g hF; clear hF
  obtain ⟨H24, eH24, hF⟩ := bnd_g hG; clear hG
  replace hm : Ev p0 H H24 := by rw [eH24]; exact hm.w (fun hi => by first | omega)
  obtain ⟨v26, H27, z25, hG⟩ := bC_s hF; clear hF
  replace hm : Ev p0 H H27 := hm.tr (e_MText_block hmo z25)
  obtain ⟨H28, eH28, hF⟩ := bnd_g hG; clear hG
  replace hm : Ev p0 H H28 := by rw [eH28]; exact hm.w (fun hi => by first | omega)
  have hr := Option.some.inj hF; subst hr
  exact hm
set_option maxRecDepth 20000 in
set_option maxHeartbeats 2000000 in
theorem eB_MText_goes_165 {N : Nat} {o : Orc_TextS} (hmo : eo_TextS o) {p0 : Nat} {l1 : Int32} {H : Hp} {r : Unit × Hp} (hF : B_MText_goes_165 N o p0 l1 H = some r) : Ev p0 H r.2 := by
  unfold B_MText_goes_165 at hF
  have hm := Ev.rf (w := p0) H
  obtain ⟨q27, hG⟩ := ck_s hF; clear hF
  obtain ⟨x28, -, hF⟩ := bnd_g hG; clear hG
  obtain ⟨v30, H31, z29, hG⟩ := bC_s hF; clear hF
  replace hm : Ev p0 H H31 := hm.tr (e_MText_tells z29)
  obtain ⟨v33, H34, z32, hF⟩ := bC_s hG; clear hG
  replace hm : Ev p0 H H34 := hm.tr (e_MText_block hmo z32)
  obtain ⟨H35, eH35, hG⟩ := bnd_g hF; clear hF
  replace hm : Ev p0 H H35 := by rw [eH35]; exact hm.w (fun hi => by first | omega)
  have hr := Option.some.inj hG; subst hr
  exact hm
set_option maxRecDepth 20000 in
set_option maxHeartbeats 2000000 in
theorem eB_MText_goes_142 {N : Nat} {o : Orc_TextS} (hmo : eo_TextS o) {p0 : Nat} {l1 : Int32} {H : Hp} {r : Unit × Hp} (hF : B_MText_goes_142 N o p0 l1 H = some r) : Ev p0 H r.2 := by
  unfold B_MText_goes_142 at hF
  have hm := Ev.rf (w := p0) H
  obtain ⟨q65, hG⟩ := ck_s hF; clear hF
  obtain ⟨x66, -, hF⟩ := bnd_g hG; clear hG
  obtain ⟨H67, eH67, hG⟩ := bnd_g hF; clear hF
  replace hm : Ev p0 H H67 := by rw [eH67]; exact hm.w (fun hi => by first | omega)
  obtain ⟨v69, H70, z68, hF⟩ := bC_s hG; clear hG
  replace hm : Ev p0 H H70 := hm.tr (e_MText_opens z68)
  obtain ⟨v72, H73, z71, hG⟩ := bC_s hF; clear hF
  replace hm : Ev p0 H H73 := hm.tr (e_MText_wants (eoX_TextE 50) z71)
  obtain ⟨v75, H76, z74, hF⟩ := bC_s hG; clear hG
  replace hm : Ev p0 H H76 := hm.tr (e_MText_closes z74)
  exact hm.tr (eB_MText_goes_165 hmo hF)
set_option maxRecDepth 20000 in
set_option maxHeartbeats 2000000 in
theorem eB_MText_goes_128 {N : Nat} {o : Orc_TextS} (hmo : eo_TextS o) {p0 : Nat} {l1 : Int32} {w0 : Int32} {H : Hp} {r : Unit × Hp} (hF : B_MText_goes_128 N o p0 l1 w0 H = some r) : Ev p0 H r.2 := by
  unfold B_MText_goes_128 at hF
  have hm := Ev.rf (w := p0) H
  rcases ite_s hF with ⟨q_21, hG⟩ | ⟨q_21, hG⟩
  · clear hF
    obtain ⟨q83, hF⟩ := ck_s hG; clear hG
    obtain ⟨x84, -, hG⟩ := bnd_g hF; clear hF
    obtain ⟨v86, H87, z85, hF⟩ := bC_s hG; clear hG
    replace hm : Ev p0 H H87 := hm.tr (e_MText_fails z85)
    exact hm.tr (eB_MText_goes_142 hmo hF)
  · clear hF
    exact hm.tr (eB_MText_goes_142 hmo hG)
set_option maxRecDepth 20000 in
set_option maxHeartbeats 2000000 in
theorem eB_MText_goes_127 {N : Nat} {o : Orc_TextS} (hmo : eo_TextS o) {p0 : Nat} {l1 : Int32} {H : Hp} {r : Unit × Hp} (hF : B_MText_goes_127 N o p0 l1 H = some r) : Ev p0 H r.2 := by
  unfold B_MText_goes_127 at hF
  have hm := Ev.rf (w := p0) H
  exact hm.tr (eB_MText_goes_128 hmo hF)
set_option maxRecDepth 20000 in
set_option maxHeartbeats 2000000 in
theorem eB_MText_goes_67 {N : Nat} {o : Orc_TextS} (hmo : eo_TextS o) {p0 : Nat} {l1 : Int32} {l2 : Int32} {w0 : Int32} {H : Hp} {r : Unit × Hp} (hF : B_MText_goes_67 N o p0 l1 l2 w0 H = some r) : Ev p0 H r.2 := by
  unfold B_MText_goes_67 at hF
  have hm := Ev.rf (w := p0) H
  rcases ite_s hF with ⟨q_23, hG⟩ | ⟨q_23, hG⟩
  · clear hF
    exact hm.tr (eB_MText_goes_127 hmo hG)
  · clear hF
    obtain ⟨q129, hF⟩ := ck_s hG; clear hG
    obtain ⟨a130, e131, hG⟩ := rf_s hF; clear hF
    have da130 : isT H p0 → a130 ≠ p0 + 16 ∧ a130 ≠ p0 := fun hi => nT_18 (hm hi).1 e131
    obtain ⟨n132, q133, hF⟩ := ar_s hG; clear hG
    obtain ⟨q134, hG⟩ := ck_s hF; clear hF
    obtain ⟨x135, -, hF⟩ := bnd_g hG; clear hG
    obtain ⟨a136, e137, hG⟩ := rf_s hF; clear hF
    have da136 : isT H p0 → a136 ≠ p0 + 16 ∧ a136 ≠ p0 := fun hi => nT_18 (hm hi).1 e137
    obtain ⟨n138, q139, hF⟩ := ar_s hG; clear hG
    obtain ⟨q140, hG⟩ := ck_s hF; clear hF
    obtain ⟨x141, -, hF⟩ := bnd_g hG; clear hG
    rcases ite_s hF with ⟨q_24, hG⟩ | ⟨q_24, hG⟩
    · clear hF
      exact hm.tr (eB_MText_goes_127 hmo hG)
    · clear hF
      obtain ⟨a143, e144, hF⟩ := rf_s hG; clear hG
      have da143 : isT H p0 → a143 ≠ p0 + 16 ∧ a143 ≠ p0 := fun hi => nT_19 (hm hi).1 e144
      obtain ⟨a145, e146, hG⟩ := rf_s hF; clear hF
      have da145 : isT H p0 → a145 ≠ p0 + 16 ∧ a145 ≠ p0 := fun hi => nT_18 (hm hi).1 e146
      obtain ⟨n147, q148, hF⟩ := ar_s hG; clear hG
      obtain ⟨q149, hG⟩ := ck_s hF; clear hF
      obtain ⟨x150, -, hF⟩ := bnd_g hG; clear hG
      obtain ⟨n151, q152, hG⟩ := ar_s hF; clear hF
      obtain ⟨q153, hF⟩ := ck_s hG; clear hG
      obtain ⟨x154, -, hG⟩ := bnd_g hF; clear hF
      rcases ite_s hG with ⟨q_25, hF⟩ | ⟨q_25, hF⟩
      · clear hG
        obtain ⟨a156, e157, hG⟩ := rf_s hF; clear hF
        have da156 : isT H p0 → a156 ≠ p0 + 16 ∧ a156 ≠ p0 := fun hi => nT_19 (hm hi).1 e157
        obtain ⟨a158, e159, hF⟩ := rf_s hG; clear hG
        have da158 : isT H p0 → a158 ≠ p0 + 16 ∧ a158 ≠ p0 := fun hi => nT_18 (hm hi).1 e159
        obtain ⟨n160, q161, hG⟩ := ar_s hF; clear hF
        obtain ⟨q162, hF⟩ := ck_s hG; clear hG
        obtain ⟨x163, -, hG⟩ := bnd_g hF; clear hF
        obtain ⟨n164, q165, hF⟩ := ar_s hG; clear hG
        obtain ⟨q166, hG⟩ := ck_s hF; clear hF
        obtain ⟨x167, -, hF⟩ := bnd_g hG; clear hG
        rcases ite_s hF with ⟨q_26, hG⟩ | ⟨q_26, hG⟩
        · clear hF
          exact hm.tr (eB_MText_goes_128 hmo hG)
        · clear hF
          exact hm.tr (eB_MText_goes_127 hmo hG)
      · clear hG
        exact hm.tr (eB_MText_goes_127 hmo hF)
set_option maxRecDepth 20000 in
set_option maxHeartbeats 2000000 in
theorem e_MText_goes {N : Nat} {o : Orc_TextS} (hmo : eo_TextS o) {p0 : Nat} {H : Hp} {r : Unit × Hp} (hF : F_MText_goes N o p0 H = some r) : Ev p0 H r.2 := by
  unfold F_MText_goes at hF
  have hm := Ev.rf (w := p0) H
  obtain ⟨q169, hG⟩ := ck_s hF; clear hF
  obtain ⟨v171, H172, z170, hF⟩ := bC_s hG; clear hG
  replace hm : Ev p0 H H172 := hm.tr (e_MText_localName z170)
  obtain ⟨v174, H175, z173, hG⟩ := bC_s hF; clear hF
  replace hm : Ev p0 H H175 := hm.tr (e_MText_takes z173)
  obtain ⟨v177, H178, z176, hF⟩ := bC_s hG; clear hG
  replace hm : Ev p0 H H178 := hm.tr (e_MText_name z176)
  obtain ⟨v180, H181, z179, hG⟩ := bC_s hF; clear hF
  replace hm : Ev p0 H H181 := hm.tr (e_MText_numberOf z179)
  obtain ⟨v183, H184, z182, hF⟩ := bC_s hG; clear hG
  replace hm : Ev p0 H H184 := hm.tr (e_MText_is z182)
  rcases ite_s hF with ⟨q_32, hG⟩ | ⟨q_32, hG⟩
  · clear hF
    exact hm.tr (eB_MText_goes_165 hmo hG)
  · clear hF
    obtain ⟨a186, e187, hF⟩ := rf_s hG; clear hG
    have da186 : isT H p0 → a186 ≠ p0 + 16 ∧ a186 ≠ p0 := fun hi => nT_30 (hm hi).1 e187
    obtain ⟨x188, -, hG⟩ := bnd_g hF; clear hF
    obtain ⟨n189, q190, hF⟩ := ar_s hG; clear hG
    obtain ⟨q191, hG⟩ := ck_s hF; clear hF
    obtain ⟨x192, -, hF⟩ := bnd_g hG; clear hG
    obtain ⟨a193, e194, hG⟩ := rf_s hF; clear hF
    have da193 : isT H p0 → a193 ≠ p0 + 16 ∧ a193 ≠ p0 := fun hi => nT_33 (hm hi).1 e194
    obtain ⟨x195, -, hF⟩ := bnd_g hG; clear hG
    obtain ⟨n196, q197, hG⟩ := ar_s hF; clear hF
    obtain ⟨q198, hF⟩ := ck_s hG; clear hG
    obtain ⟨x199, -, hG⟩ := bnd_g hF; clear hF
    rcases ite_s hG with ⟨q_33, hF⟩ | ⟨q_33, hF⟩
    · clear hG
      exact hm.tr (eB_MText_goes_67 hmo hF)
    · clear hG
      exact hm.tr (eB_MText_goes_67 hmo hF)
set_option maxRecDepth 20000 in
set_option maxHeartbeats 2000000 in
theorem e_MText_statement {N : Nat} {o : Orc_TextS} (hmo : eo_TextS o) {p0 : Nat} {H : Hp} {r : Unit × Hp} (hF : F_MText_statement N o p0 H = some r) : Ev p0 H r.2 := by
  unfold F_MText_statement at hF
  have hm := Ev.rf (w := p0) H
  obtain ⟨q102, hG⟩ := ck_s hF; clear hF
  obtain ⟨a103, e104, hF⟩ := rf_s hG; clear hG
  have da103 : isT H p0 → a103 ≠ p0 + 16 ∧ a103 ≠ p0 := fun hi => nT_3 (hm hi).1 e104
  obtain ⟨x105, -, hG⟩ := bnd_g hF; clear hF
  obtain ⟨n106, q107, hF⟩ := ar_s hG; clear hG
  obtain ⟨q108, hG⟩ := ck_s hF; clear hF
  obtain ⟨x109, -, hF⟩ := bnd_g hG; clear hG
  rcases ite_s hF with ⟨q_34, hG⟩ | ⟨q_34, hG⟩
  · clear hF
    obtain ⟨v112, H113, z111, hF⟩ := bC_s hG; clear hG
    replace hm : Ev p0 H H113 := hm.tr (e_MText_assigns z111)
    have hr := Option.some.inj hF; subst hr
    exact hm
  · clear hF
    obtain ⟨x114, -, hF⟩ := bnd_g hG; clear hG
    obtain ⟨x115, -, hG⟩ := bnd_g hF; clear hF
    obtain ⟨H116, eH116, hF⟩ := bnd_g hG; clear hG
    replace hm : Ev p0 H H116 := by rw [eH116]; exact hm.w (fun hi => by first | omega | exact ⟨(da103 hi).1, fun y => (da103 hi).2 y.1⟩)
    rcases ite_s hF with ⟨q_37, hG⟩ | ⟨q_37, hG⟩
    · clear hF
      obtain ⟨v119, H120, z118, hF⟩ := bC_s hG; clear hG
      replace hm : Ev p0 H H120 := hm.tr (e_MText_localName z118)
      obtain ⟨v122, H123, z121, hG⟩ := bC_s hF; clear hF
      replace hm : Ev p0 H H123 := hm.tr (e_MText_takes z121)
      obtain ⟨v125, H126, z124, hF⟩ := bC_s hG; clear hG
      replace hm : Ev p0 H H126 := hm.tr ((eoX_TextE 50).1 _ _ _ z124)
      obtain ⟨v128, H129, z127, hG⟩ := bC_s hF; clear hF
      replace hm : Ev p0 H H129 := hm.tr (e_MText_tells z127)
      obtain ⟨v131, H132, z130, hF⟩ := bC_s hG; clear hG
      replace hm : Ev p0 H H132 := hm.tr (e_MText_takes z130)
      have hr := Option.some.inj hF; subst hr
      exact hm
    clear hF
    rcases ite_s hG with ⟨q_43, hF⟩ | ⟨q_43, hF⟩
    · clear hG
      obtain ⟨v135, H136, z134, hG⟩ := bC_s hF; clear hF
      replace hm : Ev p0 H H136 := hm.tr (e_MText_wants (eoX_TextE 50) z134)
      obtain ⟨v138, H139, z137, hF⟩ := bC_s hG; clear hG
      replace hm : Ev p0 H H139 := hm.tr (e_MText_block hmo z137)
      obtain ⟨v141, H142, z140, hG⟩ := bC_s hF; clear hF
      replace hm : Ev p0 H H142 := hm.tr (e_MText_accepts z140)
      rcases ite_s hG with ⟨q_47, hF⟩ | ⟨q_47, hF⟩
      · clear hG
        have hr := Option.some.inj hF; subst hr
        exact hm
      · clear hG
        obtain ⟨v145, H146, z144, hG⟩ := bC_s hF; clear hF
        replace hm : Ev p0 H H146 := hm.tr (e_MText_block hmo z144)
        have hr := Option.some.inj hG; subst hr
        exact hm
    clear hG
    rcases ite_s hF with ⟨q_49, hG⟩ | ⟨q_49, hG⟩
    · clear hF
      obtain ⟨v149, H150, z148, hF⟩ := bC_s hG; clear hG
      replace hm : Ev p0 H H150 := hm.tr (e_MText_wants (eoX_TextE 50) z148)
      obtain ⟨v152, H153, z151, hG⟩ := bC_s hF; clear hF
      replace hm : Ev p0 H H153 := hm.tr (e_MText_block hmo z151)
      have hr := Option.some.inj hG; subst hr
      exact hm
    clear hF
    rcases ite_s hG with ⟨q_52, hF⟩ | ⟨q_52, hF⟩
    · clear hG
      obtain ⟨v156, H157, z155, hG⟩ := bC_s hF; clear hF
      replace hm : Ev p0 H H157 := hm.tr (e_MText_goes hmo z155)
      have hr := Option.some.inj hG; subst hr
      exact hm
    clear hG
    rcases ite_s hF with ⟨q_54, hG⟩ | ⟨q_54, hG⟩
    · clear hF
      obtain ⟨v160, H161, z159, hF⟩ := bC_s hG; clear hG
      replace hm : Ev p0 H H161 := hm.tr (e_MText_hears hmo z159)
      have hr := Option.some.inj hF; subst hr
      exact hm
    clear hF
    rcases ite_s hG with ⟨q_56, hF⟩ | ⟨q_56, hF⟩
    · clear hG
      obtain ⟨v164, H165, z163, hG⟩ := bC_s hF; clear hF
      replace hm : Ev p0 H H165 := hm.tr (e_MText_spawns z163)
      have hr := Option.some.inj hG; subst hr
      exact hm
    clear hG
    rcases ite_s hF with ⟨q_58, hG⟩ | ⟨q_58, hG⟩
    · clear hF
      obtain ⟨v168, H169, z167, hF⟩ := bC_s hG; clear hG
      replace hm : Ev p0 H H169 := hm.tr (e_MText_commands z167)
      have hr := Option.some.inj hF; subst hr
      exact hm
    clear hF
    rcases ite_s hG with ⟨q_60, hF⟩ | ⟨q_60, hF⟩
    · clear hG
      obtain ⟨v172, H173, z171, hG⟩ := bC_s hF; clear hF
      replace hm : Ev p0 H H173 := hm.tr (e_MText_commands z171)
      have hr := Option.some.inj hG; subst hr
      exact hm
    clear hG
    rcases ite_s hF with ⟨q_62, hG⟩ | ⟨q_62, hG⟩
    · clear hF
      obtain ⟨v176, H177, z175, hF⟩ := bC_s hG; clear hG
      replace hm : Ev p0 H H177 := hm.tr (e_MText_commands z175)
      have hr := Option.some.inj hF; subst hr
      exact hm
    clear hF
    rcases ite_s hG with ⟨q_64, hF⟩ | ⟨q_64, hF⟩
    · clear hG
      obtain ⟨v180, H181, z179, hG⟩ := bC_s hF; clear hF
      replace hm : Ev p0 H H181 := hm.tr (e_MText_commands z179)
      have hr := Option.some.inj hG; subst hr
      exact hm
    clear hG
    rcases ite_s hF with ⟨q_66, hG⟩ | ⟨q_66, hG⟩
    · clear hF
      obtain ⟨v184, H185, z183, hF⟩ := bC_s hG; clear hG
      replace hm : Ev p0 H H185 := hm.tr (e_MText_emits z183)
      have hr := Option.some.inj hF; subst hr
      exact hm
    clear hF
    rcases ite_s hG with ⟨q_68, hF⟩ | ⟨q_68, hF⟩
    · clear hG
      obtain ⟨v188, H189, z187, hG⟩ := bC_s hF; clear hF
      replace hm : Ev p0 H H189 := hm.tr (e_MText_commands z187)
      have hr := Option.some.inj hG; subst hr
      exact hm
    clear hG
    rcases ite_s hF with ⟨q_70, hG⟩ | ⟨q_70, hG⟩
    · clear hF
      obtain ⟨v192, H193, z191, hF⟩ := bC_s hG; clear hG
      replace hm : Ev p0 H H193 := hm.tr (e_MText_takes z191)
      have hr := Option.some.inj hF; subst hr
      exact hm
    clear hF
    obtain ⟨H194, eH194, hF⟩ := bnd_g hG; clear hG
    replace hm : Ev p0 H H194 := by rw [eH194]; exact hm.w (fun hi => by first | omega | exact ⟨(da103 hi).1, fun y => (da103 hi).2 y.1⟩)
    obtain ⟨x195, -, hG⟩ := bnd_g hF; clear hF
    obtain ⟨v197, H198, z196, hF⟩ := bC_s hG; clear hG
    replace hm : Ev p0 H H198 := hm.tr (e_MText_fails z196)
    have hr := Option.some.inj hF; subst hr
    exact hm
set_option maxRecDepth 20000 in
set_option maxHeartbeats 2000000 in
theorem eB_MText_statements_39 {N : Nat} {o : Orc_TextS} (hmo : eo_TextS o) {p0 : Nat} {l1 : Int32} {l2 : Int32} {H : Hp} {r : Unit × Hp} (hF : B_MText_statements_39 N o p0 l1 l2 H = some r) : Ev p0 H r.2 := by
  unfold B_MText_statements_39 at hF
  have hm := Ev.rf (w := p0) H
  obtain ⟨q22, hG⟩ := ck_s hF; clear hF
  obtain ⟨a23, e24, hF⟩ := rf_s hG; clear hG
  have da23 : isT H p0 → a23 ≠ p0 + 16 ∧ a23 ≠ p0 := fun hi => nT_8 (hm hi).1 e24
  obtain ⟨x25, -, hG⟩ := bnd_g hF; clear hF
  obtain ⟨n26, q27, hF⟩ := ar_s hG; clear hG
  obtain ⟨q28, hG⟩ := ck_s hF; clear hF
  obtain ⟨H29, eH29, hF⟩ := bnd_g hG; clear hG
  replace hm : Ev p0 H H29 := by rw [eH29]; exact hm.w (fun hi => by first | omega | exact ⟨(da23 hi).1, fun y => (da23 hi).2 y.1⟩)
  obtain ⟨v31, H32, z30, hG⟩ := bC_s hF; clear hF
  replace hm : Ev p0 H H32 := hm.tr (e_MText_takes z30)
  obtain ⟨H33, eH33, hF⟩ := bnd_g hG; clear hG
  replace hm : Ev p0 H H33 := by rw [eH33]; exact hm.w (fun hi => by first | omega | exact ⟨(da23 hi).1, fun y => (da23 hi).2 y.1⟩)
  have hr := Option.some.inj hF; subst hr
  exact hm
set_option maxRecDepth 20000 in
set_option maxHeartbeats 2000000 in
theorem eB_MText_statements_16 {N : Nat} {o : Orc_TextS} (hmo : eo_TextS o) {p0 : Nat} : ∀ (n : Nat) (l1 : Int32) (l2 : Int32) (H : Hp) (r : Unit × Hp), B_MText_statements_16 N o p0 n l1 l2 H = some r → Ev p0 H r.2 := by
  intro n
  induction n with
  | zero => intro l1 l2 H r hF; rw [B_MText_statements_16] at hF; cases hF
  | succ n ih =>
    intro l1 l2 H r hF
    rw [B_MText_statements_16] at hF
    have hm := Ev.rf (w := p0) H
    obtain ⟨q41, hG⟩ := ck_s hF; clear hF
    obtain ⟨x42, -, hF⟩ := bnd_g hG; clear hG
    rcases ite_s hF with ⟨q_10, hG⟩ | ⟨q_10, hG⟩
    · clear hF
      obtain ⟨v45, H46, z44, hF⟩ := bC_s hG; clear hG
      replace hm : Ev p0 H H46 := hm.tr (e_MText_is z44)
      rcases ite_s hF with ⟨q_12, hG⟩ | ⟨q_12, hG⟩
      · clear hF
        obtain ⟨v49, H50, z48, hF⟩ := bC_s hG; clear hG
        replace hm : Ev p0 H H50 := hm.tr (e_MText_statement hmo z48)
        exact hm.tr (ih l1 l2 H50 r hF)
      · clear hF
        exact hm.tr (eB_MText_statements_39 hmo hG)
    · clear hF
      exact hm.tr (eB_MText_statements_39 hmo hG)
set_option maxRecDepth 20000 in
set_option maxHeartbeats 2000000 in
theorem e_MText_statements {N : Nat} {o : Orc_TextS} (hmo : eo_TextS o) {p0 : Nat} {H : Hp} {r : Unit × Hp} (hF : F_MText_statements N o p0 H = some r) : Ev p0 H r.2 := by
  unfold F_MText_statements at hF
  have hm := Ev.rf (w := p0) H
  obtain ⟨q51, hG⟩ := ck_s hF; clear hF
  obtain ⟨x52, -, hF⟩ := bnd_g hG; clear hG
  obtain ⟨x53, -, hG⟩ := bnd_g hF; clear hF
  obtain ⟨v55, H56, z54, hF⟩ := bC_s hG; clear hG
  replace hm : Ev p0 H H56 := hm.tr (e_MText_takes z54)
  exact hm.tr (eB_MText_statements_16 hmo N x52 x53 H56 r hF)
set_option maxRecDepth 20000 in
set_option maxHeartbeats 2000000 in
theorem eoX_TextS {N : Nat} : ∀ d, eo_TextS (X_TextS N d) := by
  intro d
  induction d with
  | zero => exact (fun _ _ _ hz => absurd (show none = some _ from hz) (by simp))
  | succ d ih => exact (fun _ _ _ hz => e_MText_statements ih hz)
set_option maxRecDepth 20000 in
set_option maxHeartbeats 2000000 in
theorem eB_MText_system_198 {N : Nat} {p0 : Nat} {l1 : Int32} {w0 : Nat} (hw0 : w0 ≠ p0 + 16 ∧ w0 ≠ p0) {w1 : Int32} {w2 : Int32} {H : Hp} {r : Unit × Hp} (hF : B_MText_system_198 N p0 l1 w0 w1 w2 H = some r) : Ev p0 H r.2 := by
  unfold B_MText_system_198 at hF
  have hm := Ev.rf (w := p0) H
  obtain ⟨n83, q84, hG⟩ := ar_s hF; clear hF
  obtain ⟨q85, hF⟩ := ck_s hG; clear hG
  obtain ⟨H86, eH86, hG⟩ := bnd_g hF; clear hF
  replace hm : Ev p0 H H86 := by rw [eH86]; exact hm.w (fun hi => by first | omega | exact ⟨hw0.1, fun y => hw0.2 y.1⟩)
  obtain ⟨q87, hF⟩ := ck_s hG; clear hG
  obtain ⟨a88, e89, hG⟩ := rf_s hF; clear hF
  have da88 : isT H p0 → a88 ≠ p0 + 16 ∧ a88 ≠ p0 := fun hi => nT_35 (hm hi).1 e89
  obtain ⟨x90, -, hF⟩ := bnd_g hG; clear hG
  obtain ⟨n91, q92, hG⟩ := ar_s hF; clear hF
  obtain ⟨q93, hF⟩ := ck_s hG; clear hG
  obtain ⟨H94, eH94, hG⟩ := bnd_g hF; clear hF
  replace hm : Ev p0 H H94 := by rw [eH94]; exact hm.w (fun hi => by first | omega | exact ⟨(da88 hi).1, fun y => (da88 hi).2 y.1⟩ | exact ⟨hw0.1, fun y => hw0.2 y.1⟩)
  obtain ⟨v96, H97, z95, hF⟩ := bC_s hG; clear hG
  replace hm : Ev p0 H H97 := hm.tr ((eoX_TextS 24) _ _ _ z95)
  have hr := Option.some.inj hF; subst hr
  exact hm
set_option maxRecDepth 20000 in
set_option maxHeartbeats 2000000 in
theorem eB_MText_system_163 {N : Nat} {p0 : Nat} {l1 : Int32} {l3 : Int32} {w0 : Nat} (hw0 : w0 ≠ p0 + 16 ∧ w0 ≠ p0) {w1 : Int32} {w2 : Int32} {H : Hp} {r : Unit × Hp} (hF : B_MText_system_163 N p0 l1 l3 w0 w1 w2 H = some r) : Ev p0 H r.2 := by
  unfold B_MText_system_163 at hF
  have hm := Ev.rf (w := p0) H
  obtain ⟨n107, q108, hG⟩ := ar_s hF; clear hF
  obtain ⟨q109, hF⟩ := ck_s hG; clear hG
  obtain ⟨H110, eH110, hG⟩ := bnd_g hF; clear hF
  replace hm : Ev p0 H H110 := by rw [eH110]; exact hm.w (fun hi => by first | omega | exact ⟨hw0.1, fun y => hw0.2 y.1⟩)
  obtain ⟨q111, hF⟩ := ck_s hG; clear hG
  obtain ⟨a112, e113, hG⟩ := rf_s hF; clear hF
  have da112 : isT H p0 → a112 ≠ p0 + 16 ∧ a112 ≠ p0 := fun hi => nT_33 (hm hi).1 e113
  obtain ⟨v115, H116, z114, hF⟩ := bC_s hG; clear hG
  replace hm : Ev p0 H H116 := hm.tr (e_MText_accepts z114)
  rcases ite_s hF with ⟨q_26, hG⟩ | ⟨q_26, hG⟩
  · clear hF
    first | exact hm.tr' (fun hi => eB_MText_system_198 (da112 hi) hG) | exact hm.tr' (fun hi => eB_MText_system_198 hw0 hG)
  · clear hF
    obtain ⟨a118, e119, hF⟩ := rf_s hG; clear hG
    have da118 : isT H p0 → a118 ≠ p0 + 16 ∧ a118 ≠ p0 := fun hi => nT_32 (hm hi).1 e119
    obtain ⟨n120, q121, hG⟩ := ar_s hF; clear hF
    obtain ⟨q122, hF⟩ := ck_s hG; clear hG
    obtain ⟨x123, -, hG⟩ := bnd_g hF; clear hF
    obtain ⟨v125, H126, z124, hF⟩ := bC_s hG; clear hG
    replace hm : Ev p0 H H126 := hm.tr (e_MText_names z124)
    first | exact hm.tr' (fun hi => eB_MText_system_198 (da118 hi) hF) | exact hm.tr' (fun hi => eB_MText_system_198 (da112 hi) hF) | exact hm.tr' (fun hi => eB_MText_system_198 hw0 hF)
set_option maxRecDepth 20000 in
set_option maxHeartbeats 2000000 in
theorem eB_MText_system_132 {N : Nat} {p0 : Nat} {l1 : Int32} {l3 : Int32} {w0 : Nat} (hw0 : w0 ≠ p0 + 16 ∧ w0 ≠ p0) {w1 : Int32} {w2 : Int32} {H : Hp} {r : Unit × Hp} (hF : B_MText_system_132 N p0 l1 l3 w0 w1 w2 H = some r) : Ev p0 H r.2 := by
  unfold B_MText_system_132 at hF
  have hm := Ev.rf (w := p0) H
  obtain ⟨n136, q137, hG⟩ := ar_s hF; clear hF
  obtain ⟨q138, hF⟩ := ck_s hG; clear hG
  obtain ⟨H139, eH139, hG⟩ := bnd_g hF; clear hF
  replace hm : Ev p0 H H139 := by rw [eH139]; exact hm.w (fun hi => by first | omega | exact ⟨hw0.1, fun y => hw0.2 y.1⟩)
  obtain ⟨q140, hF⟩ := ck_s hG; clear hG
  obtain ⟨a141, e142, hG⟩ := rf_s hF; clear hF
  have da141 : isT H p0 → a141 ≠ p0 + 16 ∧ a141 ≠ p0 := fun hi => nT_32 (hm hi).1 e142
  obtain ⟨v144, H145, z143, hF⟩ := bC_s hG; clear hG
  replace hm : Ev p0 H H145 := hm.tr (e_MText_accepts z143)
  rcases ite_s hF with ⟨q_31, hG⟩ | ⟨q_31, hG⟩
  · clear hF
    first | exact hm.tr' (fun hi => eB_MText_system_163 (da141 hi) hG) | exact hm.tr' (fun hi => eB_MText_system_163 hw0 hG)
  · clear hF
    obtain ⟨a147, e148, hF⟩ := rf_s hG; clear hG
    have da147 : isT H p0 → a147 ≠ p0 + 16 ∧ a147 ≠ p0 := fun hi => nT_30 (hm hi).1 e148
    obtain ⟨n149, q150, hG⟩ := ar_s hF; clear hF
    obtain ⟨q151, hF⟩ := ck_s hG; clear hG
    obtain ⟨x152, -, hG⟩ := bnd_g hF; clear hF
    obtain ⟨v154, H155, z153, hF⟩ := bC_s hG; clear hG
    replace hm : Ev p0 H H155 := hm.tr (e_MText_names z153)
    first | exact hm.tr' (fun hi => eB_MText_system_163 (da147 hi) hF) | exact hm.tr' (fun hi => eB_MText_system_163 (da141 hi) hF) | exact hm.tr' (fun hi => eB_MText_system_163 hw0 hF)
set_option maxRecDepth 20000 in
set_option maxHeartbeats 2000000 in
theorem eB_MText_system_82 {N : Nat} {p0 : Nat} {l1 : Int32} {l3 : Int32} {w0 : Nat} (hw0 : w0 ≠ p0 + 16 ∧ w0 ≠ p0) {w1 : Int32} {w2 : Int32} {H : Hp} {r : Unit × Hp} (hF : B_MText_system_82 N p0 l1 l3 w0 w1 w2 H = some r) : Ev p0 H r.2 := by
  unfold B_MText_system_82 at hF
  have hm := Ev.rf (w := p0) H
  obtain ⟨n165, q166, hG⟩ := ar_s hF; clear hF
  obtain ⟨q167, hF⟩ := ck_s hG; clear hG
  obtain ⟨H168, eH168, hG⟩ := bnd_g hF; clear hF
  replace hm : Ev p0 H H168 := by rw [eH168]; exact hm.w (fun hi => by first | omega | exact ⟨hw0.1, fun y => hw0.2 y.1⟩)
  obtain ⟨q169, hF⟩ := ck_s hG; clear hG
  obtain ⟨v171, H172, z170, hG⟩ := bC_s hF; clear hF
  replace hm : Ev p0 H H172 := hm.tr (e_MText_takes z170)
  obtain ⟨a173, e174, hF⟩ := rf_s hG; clear hG
  have da173 : isT H p0 → a173 ≠ p0 + 16 ∧ a173 ≠ p0 := fun hi => nT_30 (hm hi).1 e174
  obtain ⟨v176, H177, z175, hG⟩ := bC_s hF; clear hF
  replace hm : Ev p0 H H177 := hm.tr (e_MText_names z175)
  obtain ⟨n178, q179, hF⟩ := ar_s hG; clear hG
  obtain ⟨q180, hG⟩ := ck_s hF; clear hF
  obtain ⟨H181, eH181, hF⟩ := bnd_g hG; clear hG
  replace hm : Ev p0 H H181 := by rw [eH181]; exact hm.w (fun hi => by first | omega | exact ⟨(da173 hi).1, fun y => (da173 hi).2 y.1⟩ | exact ⟨hw0.1, fun y => hw0.2 y.1⟩)
  obtain ⟨a182, e183, hG⟩ := rf_s hF; clear hF
  have da182 : isT H p0 → a182 ≠ p0 + 16 ∧ a182 ≠ p0 := fun hi => nT_31 (hm hi).1 e183
  obtain ⟨v185, H186, z184, hF⟩ := bC_s hG; clear hG
  replace hm : Ev p0 H H186 := hm.tr (e_MText_accepts z184)
  rcases ite_s hF with ⟨q_39, hG⟩ | ⟨q_39, hG⟩
  · clear hF
    first | exact hm.tr' (fun hi => eB_MText_system_132 (da182 hi) hG) | exact hm.tr' (fun hi => eB_MText_system_132 (da173 hi) hG) | exact hm.tr' (fun hi => eB_MText_system_132 hw0 hG)
  · clear hF
    obtain ⟨a188, e189, hF⟩ := rf_s hG; clear hG
    have da188 : isT H p0 → a188 ≠ p0 + 16 ∧ a188 ≠ p0 := fun hi => nT_30 (hm hi).1 e189
    obtain ⟨n190, q191, hG⟩ := ar_s hF; clear hF
    obtain ⟨q192, hF⟩ := ck_s hG; clear hG
    obtain ⟨x193, -, hG⟩ := bnd_g hF; clear hF
    obtain ⟨v195, H196, z194, hF⟩ := bC_s hG; clear hG
    replace hm : Ev p0 H H196 := hm.tr (e_MText_names z194)
    first | exact hm.tr' (fun hi => eB_MText_system_132 (da188 hi) hF) | exact hm.tr' (fun hi => eB_MText_system_132 (da182 hi) hF) | exact hm.tr' (fun hi => eB_MText_system_132 (da173 hi) hF) | exact hm.tr' (fun hi => eB_MText_system_132 hw0 hF)
set_option maxRecDepth 20000 in
set_option maxHeartbeats 2000000 in
theorem e_MText_system {N : Nat} {p0 : Nat} {H : Hp} {r : Unit × Hp} (hF : F_MText_system N p0 H = some r) : Ev p0 H r.2 := by
  unfold F_MText_system at hF
  have hm := Ev.rf (w := p0) H
  obtain ⟨q200, hG⟩ := ck_s hF; clear hF
  obtain ⟨x201, -, hF⟩ := bnd_g hG; clear hG
  obtain ⟨v203, H204, z202, hG⟩ := bC_s hF; clear hF
  replace hm : Ev p0 H H204 := hm.tr (e_MText_begins z202)
  obtain ⟨x205, -, hF⟩ := bnd_g hG; clear hG
  obtain ⟨v207, H208, z206, hG⟩ := bC_s hF; clear hF
  replace hm : Ev p0 H H208 := hm.tr (e_MText_told z206)
  obtain ⟨x209, -, hF⟩ := bnd_g hG; clear hG
  rcases ite_s hF with ⟨q_44, hG⟩ | ⟨q_44, hG⟩
  · clear hF
    obtain ⟨x211, -, hF⟩ := bnd_g hG; clear hG
    obtain ⟨H212, eH212, hG⟩ := bnd_g hF; clear hF
    replace hm : Ev p0 H H212 := by rw [eH212]; exact hm.w (fun hi => by first | omega)
    obtain ⟨H213, eH213, hF⟩ := bnd_g hG; clear hG
    replace hm : Ev p0 H H213 := by rw [eH213]; exact hm.w (fun hi => by first | omega)
    obtain ⟨H214, eH214, hG⟩ := bnd_g hF; clear hF
    replace hm : Ev p0 H H214 := by rw [eH214]; exact hm.w (fun hi => by first | omega)
    obtain ⟨H215, eH215, hF⟩ := bnd_g hG; clear hG
    replace hm : Ev p0 H H215 := by rw [eH215]; exact hm.w (fun hi => by first | omega)
    obtain ⟨a216, e217, hG⟩ := rf_s hF; clear hF
    have da216 : isT H p0 → a216 ≠ p0 + 16 ∧ a216 ≠ p0 := fun hi => nT_34 (hm hi).1 e217
    obtain ⟨v219, H220, z218, hF⟩ := bC_s hG; clear hG
    replace hm : Ev p0 H H220 := hm.tr (e_MText_accepts z218)
    rcases ite_s hF with ⟨q_50, hG⟩ | ⟨q_50, hG⟩
    · clear hF
      first | exact hm.tr' (fun hi => eB_MText_system_82 (da216 hi) hG)
    · clear hF
      obtain ⟨v223, H224, z222, hF⟩ := bC_s hG; clear hG
      replace hm : Ev p0 H H224 := hm.tr (e_MText_systemNames z222)
      first | exact hm.tr' (fun hi => eB_MText_system_82 (da216 hi) hF)
  · clear hF
    have hr := Option.some.inj hG; subst hr
    exact hm
set_option maxRecDepth 20000 in
set_option maxHeartbeats 2000000 in
theorem eB_MText_groupsThem_132 {N : Nat} {p0 : Nat} {kq6 : Int32 → Int32 → Int32 → Hp → Option (Unit × Hp)} (hm6 : ∀ (l1 : Int32) (l2 : Int32) (l3 : Int32) (H : Hp) (r : Unit × Hp), kq6 l1 l2 l3 H = some r → Ev p0 H r.2) {l1 : Int32} {l2 : Int32} {l3 : Int32} {H : Hp} {r : Unit × Hp} (hF : B_MText_groupsThem_132 N p0 kq6 l1 l2 l3 H = some r) : Ev p0 H r.2 := by
  unfold B_MText_groupsThem_132 at hF
  have hm := Ev.rf (w := p0) H
  obtain ⟨q13, hG⟩ := ck_s hF; clear hF
  obtain ⟨a14, e15, hF⟩ := rf_s hG; clear hG
  have da14 : isT H p0 → a14 ≠ p0 + 16 ∧ a14 ≠ p0 := fun hi => nT_36 (hm hi).1 e15
  obtain ⟨n16, q17, hG⟩ := ar_s hF; clear hF
  obtain ⟨q18, hF⟩ := ck_s hG; clear hG
  obtain ⟨H19, eH19, hG⟩ := bnd_g hF; clear hF
  replace hm : Ev p0 H H19 := by rw [eH19]; exact hm.w (fun hi => by first | omega | exact ⟨(da14 hi).1, fun y => (da14 hi).2 y.1⟩)
  exact hm.tr (hm6 l1 l2 (l3 + 1) H19 r hG)
set_option maxRecDepth 20000 in
set_option maxHeartbeats 2000000 in
theorem eB_MText_groupsThem_114 {N : Nat} {p0 : Nat} {kq6 : Int32 → Int32 → Int32 → Hp → Option (Unit × Hp)} {kq20 : Int32 → Int32 → Int32 → Int32 → Int32 → Hp → Option (Unit × Hp)} (hm6 : ∀ (l1 : Int32) (l2 : Int32) (l3 : Int32) (H : Hp) (r : Unit × Hp), kq6 l1 l2 l3 H = some r → Ev p0 H r.2) (hm20 : ∀ (l1 : Int32) (l2 : Int32) (l3 : Int32) (l4 : Int32) (l5 : Int32) (H : Hp) (r : Unit × Hp), kq20 l1 l2 l3 l4 l5 H = some r → Ev p0 H r.2) {l1 : Int32} {l2 : Int32} {l3 : Int32} {l5 : Int32} {w0 : Int32} {H : Hp} {r : Unit × Hp} (hF : B_MText_groupsThem_114 N p0 kq6 kq20 l1 l2 l3 l5 w0 H = some r) : Ev p0 H r.2 := by
  unfold B_MText_groupsThem_114 at hF
  have hm := Ev.rf (w := p0) H
  exact hm.tr (hm20 l1 l2 l3 w0 (l5 + 1) H r hF)
set_option maxRecDepth 20000 in
set_option maxHeartbeats 2000000 in
theorem eB_MText_groupsThem_113 {N : Nat} {p0 : Nat} {kq6 : Int32 → Int32 → Int32 → Hp → Option (Unit × Hp)} {kq20 : Int32 → Int32 → Int32 → Int32 → Int32 → Hp → Option (Unit × Hp)} (hm6 : ∀ (l1 : Int32) (l2 : Int32) (l3 : Int32) (H : Hp) (r : Unit × Hp), kq6 l1 l2 l3 H = some r → Ev p0 H r.2) (hm20 : ∀ (l1 : Int32) (l2 : Int32) (l3 : Int32) (l4 : Int32) (l5 : Int32) (H : Hp) (r : Unit × Hp), kq20 l1 l2 l3 l4 l5 H = some r → Ev p0 H r.2) {l1 : Int32} {l2 : Int32} {l3 : Int32} {l5 : Int32} {H : Hp} {r : Unit × Hp} (hF : B_MText_groupsThem_113 N p0 kq6 kq20 l1 l2 l3 l5 H = some r) : Ev p0 H r.2 := by
  unfold B_MText_groupsThem_113 at hF
  have hm := Ev.rf (w := p0) H
  exact hm.tr (eB_MText_groupsThem_114 hm6 hm20 hF)
set_option maxRecDepth 20000 in
set_option maxHeartbeats 2000000 in
theorem eB_MText_groupsThem_20 {N : Nat} {p0 : Nat} {kq6 : Int32 → Int32 → Int32 → Hp → Option (Unit × Hp)} (hm6 : ∀ (l1 : Int32) (l2 : Int32) (l3 : Int32) (H : Hp) (r : Unit × Hp), kq6 l1 l2 l3 H = some r → Ev p0 H r.2) : ∀ (n : Nat) (l1 : Int32) (l2 : Int32) (l3 : Int32) (l4 : Int32) (l5 : Int32) (H : Hp) (r : Unit × Hp), B_MText_groupsThem_20 N p0 kq6 n l1 l2 l3 l4 l5 H = some r → Ev p0 H r.2 := by
  intro n
  induction n with
  | zero => intro l1 l2 l3 l4 l5 H r hF; rw [B_MText_groupsThem_20] at hF; cases hF
  | succ n ih =>
    intro l1 l2 l3 l4 l5 H r hF
    rw [B_MText_groupsThem_20] at hF
    have hm := Ev.rf (w := p0) H
    rcases ite_s hF with ⟨q_3, hG⟩ | ⟨q_3, hG⟩
    · clear hF
      rcases ite_s hG with ⟨q_4, hF⟩ | ⟨q_4, hF⟩
      · clear hG
        exact hm.tr (eB_MText_groupsThem_132 hm6 hF)
      · clear hG
        exact hm.tr (eB_MText_groupsThem_132 hm6 hF)
    · clear hF
      rcases ite_s hG with ⟨q_5, hF⟩ | ⟨q_5, hF⟩
      · clear hG
        exact hm.tr (eB_MText_groupsThem_113 hm6 ih hF)
      · clear hG
        obtain ⟨q82, hG⟩ := ck_s hF; clear hF
        obtain ⟨a83, e84, hF⟩ := rf_s hG; clear hG
        have da83 : isT H p0 → a83 ≠ p0 + 16 ∧ a83 ≠ p0 := fun hi => nT_34 (hm hi).1 e84
        obtain ⟨n85, q86, hG⟩ := ar_s hF; clear hF
        obtain ⟨q87, hF⟩ := ck_s hG; clear hG
        obtain ⟨x88, -, hG⟩ := bnd_g hF; clear hF
        rcases ite_s hG with ⟨q_6, hF⟩ | ⟨q_6, hF⟩
        · clear hG
          obtain ⟨a90, e91, hG⟩ := rf_s hF; clear hF
          have da90 : isT H p0 → a90 ≠ p0 + 16 ∧ a90 ≠ p0 := fun hi => nT_32 (hm hi).1 e91
          obtain ⟨n92, q93, hF⟩ := ar_s hG; clear hG
          obtain ⟨q94, hG⟩ := ck_s hF; clear hF
          obtain ⟨x95, -, hF⟩ := bnd_g hG; clear hG
          obtain ⟨a96, e97, hG⟩ := rf_s hF; clear hF
          have da96 : isT H p0 → a96 ≠ p0 + 16 ∧ a96 ≠ p0 := fun hi => nT_30 (hm hi).1 e97
          obtain ⟨n98, q99, hF⟩ := ar_s hG; clear hG
          obtain ⟨q100, hG⟩ := ck_s hF; clear hF
          obtain ⟨x101, -, hF⟩ := bnd_g hG; clear hG
          obtain ⟨a102, e103, hG⟩ := rf_s hF; clear hF
          have da102 : isT H p0 → a102 ≠ p0 + 16 ∧ a102 ≠ p0 := fun hi => nT_32 (hm hi).1 e103
          obtain ⟨n104, q105, hF⟩ := ar_s hG; clear hG
          obtain ⟨q106, hG⟩ := ck_s hF; clear hF
          obtain ⟨x107, -, hF⟩ := bnd_g hG; clear hG
          obtain ⟨a108, e109, hG⟩ := rf_s hF; clear hF
          have da108 : isT H p0 → a108 ≠ p0 + 16 ∧ a108 ≠ p0 := fun hi => nT_33 (hm hi).1 e109
          obtain ⟨n110, q111, hF⟩ := ar_s hG; clear hG
          obtain ⟨q112, hG⟩ := ck_s hF; clear hF
          obtain ⟨x113, -, hF⟩ := bnd_g hG; clear hG
          rcases ite_s hF with ⟨q_7, hG⟩ | ⟨q_7, hG⟩
          · clear hF
            obtain ⟨a115, e116, hF⟩ := rf_s hG; clear hG
            have da115 : isT H p0 → a115 ≠ p0 + 16 ∧ a115 ≠ p0 := fun hi => nT_32 (hm hi).1 e116
            obtain ⟨n117, q118, hG⟩ := ar_s hF; clear hF
            obtain ⟨q119, hF⟩ := ck_s hG; clear hG
            obtain ⟨x120, -, hG⟩ := bnd_g hF; clear hF
            obtain ⟨a121, e122, hF⟩ := rf_s hG; clear hG
            have da121 : isT H p0 → a121 ≠ p0 + 16 ∧ a121 ≠ p0 := fun hi => nT_30 (hm hi).1 e122
            obtain ⟨n123, q124, hG⟩ := ar_s hF; clear hF
            obtain ⟨q125, hF⟩ := ck_s hG; clear hG
            obtain ⟨x126, -, hG⟩ := bnd_g hF; clear hF
            obtain ⟨a127, e128, hF⟩ := rf_s hG; clear hG
            have da127 : isT H p0 → a127 ≠ p0 + 16 ∧ a127 ≠ p0 := fun hi => nT_32 (hm hi).1 e128
            obtain ⟨n129, q130, hG⟩ := ar_s hF; clear hF
            obtain ⟨q131, hF⟩ := ck_s hG; clear hG
            obtain ⟨x132, -, hG⟩ := bnd_g hF; clear hF
            obtain ⟨a133, e134, hF⟩ := rf_s hG; clear hG
            have da133 : isT H p0 → a133 ≠ p0 + 16 ∧ a133 ≠ p0 := fun hi => nT_33 (hm hi).1 e134
            obtain ⟨n135, q136, hG⟩ := ar_s hF; clear hF
            obtain ⟨q137, hF⟩ := ck_s hG; clear hG
            obtain ⟨x138, -, hG⟩ := bnd_g hF; clear hF
            rcases ite_s hG with ⟨q_8, hF⟩ | ⟨q_8, hF⟩
            · clear hG
              exact hm.tr (eB_MText_groupsThem_114 hm6 ih hF)
            · clear hG
              exact hm.tr (eB_MText_groupsThem_113 hm6 ih hF)
          · clear hF
            exact hm.tr (eB_MText_groupsThem_113 hm6 ih hG)
        · clear hG
          exact hm.tr (eB_MText_groupsThem_113 hm6 ih hF)
set_option maxRecDepth 20000 in
set_option maxHeartbeats 2000000 in
theorem eB_MText_groupsThem_6 {N : Nat} {p0 : Nat} : ∀ (n : Nat) (l1 : Int32) (l2 : Int32) (l3 : Int32) (H : Hp) (r : Unit × Hp), B_MText_groupsThem_6 N p0 n l1 l2 l3 H = some r → Ev p0 H r.2 := by
  intro n
  induction n with
  | zero => intro l1 l2 l3 H r hF; rw [B_MText_groupsThem_6] at hF; cases hF
  | succ n ih =>
    intro l1 l2 l3 H r hF
    rw [B_MText_groupsThem_6] at hF
    have hm := Ev.rf (w := p0) H
    obtain ⟨q140, hG⟩ := ck_s hF; clear hF
    obtain ⟨x141, -, hF⟩ := bnd_g hG; clear hG
    rcases ite_s hF with ⟨q_9, hG⟩ | ⟨q_9, hG⟩
    · clear hF
      have hr := Option.some.inj hG; subst hr
      exact hm
    · clear hF
      exact hm.tr (eB_MText_groupsThem_20 ih N l1 l2 l3 1 l2 H r hG)
set_option maxRecDepth 20000 in
set_option maxHeartbeats 2000000 in
theorem e_MText_groupsThem {N : Nat} {p0 : Nat} {H : Hp} {r : Unit × Hp} (hF : F_MText_groupsThem N p0 H = some r) : Ev p0 H r.2 := by
  unfold F_MText_groupsThem at hF
  have hm := Ev.rf (w := p0) H
  exact hm.tr (eB_MText_groupsThem_6 N 0 0 0 H r hF)
