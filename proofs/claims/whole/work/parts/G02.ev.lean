/-! ===== (gen_ev.py) ===== -/
set_option maxRecDepth 20000 in
set_option maxHeartbeats 2000000 in
theorem eB_MText_systemNames_75 {N : Nat} {p0 : Nat} {kq4 : Int32 → Int32 → Hp → Option (Int32 × Hp)} (hm4 : ∀ (l1 : Int32) (l2 : Int32) (H : Hp) (r : Int32 × Hp), kq4 l1 l2 H = some r → Ev p0 H r.2) {l1 : Int32} {l3 : Int32} {H : Hp} {r : Int32 × Hp} (hF : B_MText_systemNames_75 N p0 kq4 l1 l3 H = some r) : Ev p0 H r.2 := by
  unfold B_MText_systemNames_75 at hF
  have hm := Ev.rf (w := p0) H
  obtain ⟨q28, hG⟩ := ck_s hF; clear hF
  obtain ⟨v30, H31, z29, hF⟩ := bC_s hG; clear hG
  replace hm : Ev p0 H H31 := hm.tr (e_MText_numberOf z29)
  obtain ⟨x32, -, hG⟩ := bnd_g hF; clear hF
  rcases ite_s hG with ⟨q_7, hF⟩ | ⟨q_7, hF⟩
  · clear hG
    exact hm.tr (eB_MText_systemNames_99 hm4 hF)
  · clear hG
    exact hm.tr (eB_MText_systemNames_99 hm4 hF)
set_option maxRecDepth 20000 in
set_option maxHeartbeats 2000000 in
theorem eB_MText_systemNames_36 {N : Nat} {p0 : Nat} {kq4 : Int32 → Int32 → Hp → Option (Int32 × Hp)} (hm4 : ∀ (l1 : Int32) (l2 : Int32) (H : Hp) (r : Int32 × Hp), kq4 l1 l2 H = some r → Ev p0 H r.2) {l1 : Int32} {l3 : Int32} {w0 : Int32} {H : Hp} {r : Int32 × Hp} (hF : B_MText_systemNames_36 N p0 kq4 l1 l3 w0 H = some r) : Ev p0 H r.2 := by
  unfold B_MText_systemNames_36 at hF
  have hm := Ev.rf (w := p0) H
  rcases ite_s hF with ⟨q_9, hG⟩ | ⟨q_9, hG⟩
  · clear hF
    exact hm.tr (eB_MText_systemNames_75 hm4 hG)
  · clear hF
    obtain ⟨q53, hF⟩ := ck_s hG; clear hG
    obtain ⟨a54, e55, hG⟩ := rf_s hF; clear hF
    have da54 : isT H p0 → a54 ≠ p0 + 16 ∧ a54 ≠ p0 := fun hi => nT_14 (hm hi).1 e55
    obtain ⟨n56, q57, hF⟩ := ar_s hG; clear hG
    obtain ⟨q58, hG⟩ := ck_s hF; clear hF
    obtain ⟨x59, -, hF⟩ := bnd_g hG; clear hG
    rcases ite_s hF with ⟨q_10, hG⟩ | ⟨q_10, hG⟩
    · clear hF
      obtain ⟨a61, e62, hF⟩ := rf_s hG; clear hG
      have da61 : isT H p0 → a61 ≠ p0 + 16 ∧ a61 ≠ p0 := fun hi => nT_15 (hm hi).1 e62
      obtain ⟨n63, q64, hG⟩ := ar_s hF; clear hF
      obtain ⟨q65, hF⟩ := ck_s hG; clear hG
      obtain ⟨x66, -, hG⟩ := bnd_g hF; clear hF
      rcases ite_s hG with ⟨q_11, hF⟩ | ⟨q_11, hF⟩
      · clear hG
        obtain ⟨v69, H70, z68, hG⟩ := bC_s hF; clear hF
        replace hm : Ev p0 H H70 := hm.tr (e_MText_fails z68)
        exact hm.tr (eB_MText_systemNames_75 hm4 hG)
      · clear hG
        exact hm.tr (eB_MText_systemNames_75 hm4 hF)
    · clear hF
      exact hm.tr (eB_MText_systemNames_75 hm4 hG)
set_option maxRecDepth 20000 in
set_option maxHeartbeats 2000000 in
theorem eB_MText_systemNames_4 {N : Nat} {p0 : Nat} : ∀ (n : Nat) (l1 : Int32) (l2 : Int32) (H : Hp) (r : Int32 × Hp), B_MText_systemNames_4 N p0 n l1 l2 H = some r → Ev p0 H r.2 := by
  intro n
  induction n with
  | zero => intro l1 l2 H r hF; rw [B_MText_systemNames_4] at hF; cases hF
  | succ n ih =>
    intro l1 l2 H r hF
    rw [B_MText_systemNames_4] at hF
    have hm := Ev.rf (w := p0) H
    obtain ⟨q71, hG⟩ := ck_s hF; clear hF
    obtain ⟨x72, -, hF⟩ := bnd_g hG; clear hG
    rcases ite_s hF with ⟨q_13, hG⟩ | ⟨q_13, hG⟩
    · clear hF
      rcases ite_s hG with ⟨q_14, hF⟩ | ⟨q_14, hF⟩
      · clear hG
        have hr := Option.some.inj hF; subst hr
        exact hm
      · clear hG
        obtain ⟨v76, H77, z75, hG⟩ := bC_s hF; clear hF
        replace hm : Ev p0 H H77 := hm.tr (e_MText_name z75)
        obtain ⟨x78, -, hF⟩ := bnd_g hG; clear hG
        rcases ite_s hF with ⟨q_16, hG⟩ | ⟨q_16, hG⟩
        · clear hF
          obtain ⟨v81, H82, z80, hF⟩ := bC_s hG; clear hG
          replace hm : Ev p0 H H82 := hm.tr (e_MText_index z80)
          exact hm.tr (eB_MText_systemNames_36 ih hF)
        · clear hF
          exact hm.tr (eB_MText_systemNames_36 ih hG)
    · clear hF
      have hr := Option.some.inj hG; subst hr
      exact hm
set_option maxRecDepth 20000 in
set_option maxHeartbeats 2000000 in
theorem e_MText_systemNames {N : Nat} {p0 : Nat} {H : Hp} {r : Int32 × Hp} (hF : F_MText_systemNames N p0 H = some r) : Ev p0 H r.2 := by
  unfold F_MText_systemNames at hF
  have hm := Ev.rf (w := p0) H
  exact hm.tr (eB_MText_systemNames_4 N 0 1 H r hF)
set_option maxRecDepth 20000 in
set_option maxHeartbeats 2000000 in
theorem eB_MText_names_46 {N : Nat} {p0 : Nat} {p1 : Int32} {p2 : Int32} {kq5 : Int32 → Int32 → Hp → Option (Int32 × Hp)} (hm5 : ∀ (l3 : Int32) (l4 : Int32) (H : Hp) (r : Int32 × Hp), kq5 l3 l4 H = some r → Ev p0 H r.2) {w0 : Int32} {w1 : Int32} {H : Hp} {r : Int32 × Hp} (hF : B_MText_names_46 N p0 p1 p2 kq5 w0 w1 H = some r) : Ev p0 H r.2 := by
  unfold B_MText_names_46 at hF
  have hm := Ev.rf (w := p0) H
  obtain ⟨q17, hG⟩ := ck_s hF; clear hF
  obtain ⟨v19, H20, z18, hF⟩ := bC_s hG; clear hG
  replace hm : Ev p0 H H20 := hm.tr (e_MText_accepts z18)
  exact hm.tr (hm5 (w0 ||| w1) v19 H20 r hF)
set_option maxRecDepth 20000 in
set_option maxHeartbeats 2000000 in
theorem eB_MText_names_5 {N : Nat} {p0 : Nat} {p1 : Int32} {p2 : Int32} : ∀ (n : Nat) (l3 : Int32) (l4 : Int32) (H : Hp) (r : Int32 × Hp), B_MText_names_5 N p0 p1 p2 n l3 l4 H = some r → Ev p0 H r.2 := by
  intro n
  induction n with
  | zero => intro l3 l4 H r hF; rw [B_MText_names_5] at hF; cases hF
  | succ n ih =>
    intro l3 l4 H r hF
    rw [B_MText_names_5] at hF
    have hm := Ev.rf (w := p0) H
    obtain ⟨q21, hG⟩ := ck_s hF; clear hF
    obtain ⟨x22, -, hF⟩ := bnd_g hG; clear hG
    rcases ite_s hF with ⟨q_5, hG⟩ | ⟨q_5, hG⟩
    · clear hF
      rcases ite_s hG with ⟨q_6, hF⟩ | ⟨q_6, hF⟩
      · clear hG
        have hr := Option.some.inj hF; subst hr
        exact hm
      · clear hG
        obtain ⟨v26, H27, z25, hG⟩ := bC_s hF; clear hF
        replace hm : Ev p0 H H27 := hm.tr (e_MText_name z25)
        obtain ⟨v29, H30, z28, hF⟩ := bC_s hG; clear hG
        replace hm : Ev p0 H H30 := hm.tr (e_MText_componentOf z28)
        obtain ⟨x31, -, hG⟩ := bnd_g hF; clear hF
        rcases ite_s hG with ⟨q_9, hF⟩ | ⟨q_9, hF⟩
        · clear hG
          exact hm.tr (eB_MText_names_46 ih hF)
        · clear hG
          exact hm.tr (eB_MText_names_46 ih hF)
    · clear hF
      have hr := Option.some.inj hG; subst hr
      exact hm
set_option maxRecDepth 20000 in
set_option maxHeartbeats 2000000 in
theorem e_MText_names {N : Nat} {p0 : Nat} {p1 : Int32} {p2 : Int32} {H : Hp} {r : Int32 × Hp} (hF : F_MText_names N p0 p1 p2 H = some r) : Ev p0 H r.2 := by
  unfold F_MText_names at hF
  have hm := Ev.rf (w := p0) H
  exact hm.tr (eB_MText_names_5 N 0 1 H r hF)
set_option maxRecDepth 20000 in
set_option maxHeartbeats 2000000 in
theorem e_MText_plain {N wz : Nat} {p0 : Int32} {H : Hp} {r : Int32 × Hp} (hF : F_MText_plain N p0 H = some r) : Ev wz H r.2 := by
  unfold F_MText_plain at hF
  have hm := Ev.rf (w := wz) H
  rcases ite_s hF with ⟨q_1, hG⟩ | ⟨q_1, hG⟩
  · clear hF
    have hr := Option.some.inj hG; subst hr
    exact hm
  · clear hF
    have hr := Option.some.inj hG; subst hr
    exact hm
set_option maxRecDepth 20000 in
set_option maxHeartbeats 2000000 in
theorem eB_MText_memberName_34 {N : Nat} {p0 : Nat} {p1 : Int32} {l2 : Int32} {l3 : Int32} {H : Hp} {r : Int32 × Hp} (hF : B_MText_memberName_34 N p0 p1 l2 l3 H = some r) : Ev p0 H r.2 := by
  unfold B_MText_memberName_34 at hF
  have hm := Ev.rf (w := p0) H
  obtain ⟨q16, hG⟩ := ck_s hF; clear hF
  obtain ⟨a17, e18, hF⟩ := rf_s hG; clear hG
  have da17 : isT H p0 → a17 ≠ p0 + 16 ∧ a17 ≠ p0 := fun hi => nT_8 (hm hi).1 e18
  obtain ⟨n19, q20, hG⟩ := ar_s hF; clear hF
  obtain ⟨q21, hF⟩ := ck_s hG; clear hG
  obtain ⟨H22, eH22, hG⟩ := bnd_g hF; clear hF
  replace hm : Ev p0 H H22 := by rw [eH22]; exact hm.w (fun hi => by first | omega | exact ⟨(da17 hi).1, fun y => (da17 hi).2 y.1⟩)
  rcases ite_s hG with ⟨q_4, hF⟩ | ⟨q_4, hF⟩
  · clear hG
    have hr := Option.some.inj hF; subst hr
    exact hm
  · clear hG
    have hr := Option.some.inj hF; subst hr
    exact hm
set_option maxRecDepth 20000 in
set_option maxHeartbeats 2000000 in
theorem eB_MText_memberName_23 {N : Nat} {p0 : Nat} {p1 : Int32} {l2 : Int32} {w0 : Int32} {H : Hp} {r : Int32 × Hp} (hF : B_MText_memberName_23 N p0 p1 l2 w0 H = some r) : Ev p0 H r.2 := by
  unfold B_MText_memberName_23 at hF
  have hm := Ev.rf (w := p0) H
  rcases ite_s hF with ⟨q_6, hG⟩ | ⟨q_6, hG⟩
  · clear hF
    exact hm.tr (eB_MText_memberName_34 hG)
  · clear hF
    obtain ⟨q29, hF⟩ := ck_s hG; clear hG
    obtain ⟨v31, H32, z30, hG⟩ := bC_s hF; clear hF
    replace hm : Ev p0 H H32 := hm.tr (e_MText_fails z30)
    exact hm.tr (eB_MText_memberName_34 hG)
set_option maxRecDepth 20000 in
set_option maxHeartbeats 2000000 in
theorem e_MText_memberName {N : Nat} {p0 : Nat} {p1 : Int32} {H : Hp} {r : Int32 × Hp} (hF : F_MText_memberName N p0 p1 H = some r) : Ev p0 H r.2 := by
  unfold F_MText_memberName at hF
  have hm := Ev.rf (w := p0) H
  obtain ⟨q36, hG⟩ := ck_s hF; clear hF
  obtain ⟨v38, H39, z37, hF⟩ := bC_s hG; clear hG
  replace hm : Ev p0 H H39 := hm.tr (e_MText_name z37)
  obtain ⟨x40, -, hG⟩ := bnd_g hF; clear hF
  rcases ite_s hG with ⟨q_10, hF⟩ | ⟨q_10, hF⟩
  · clear hG
    obtain ⟨v43, H44, z42, hG⟩ := bC_s hF; clear hF
    replace hm : Ev p0 H H44 := hm.tr (e_MText_member z42)
    exact hm.tr (eB_MText_memberName_23 hG)
  · clear hG
    exact hm.tr (eB_MText_memberName_23 hF)
set_option maxRecDepth 20000 in
set_option maxHeartbeats 2000000 in
theorem eB_MText_named_330 {N : Nat} {p0 : Nat} {l5 : Int32} {H : Hp} {r : Int32 × Hp} (hF : B_MText_named_330 N p0 l5 H = some r) : Ev p0 H r.2 := by
  unfold B_MText_named_330 at hF
  have hm := Ev.rf (w := p0) H
  obtain ⟨q65, hG⟩ := ck_s hF; clear hF
  obtain ⟨v67, H68, z66, hF⟩ := bC_s hG; clear hG
  replace hm : Ev p0 H H68 := hm.tr (e_MText_memberName z66)
  obtain ⟨x69, -, hG⟩ := bnd_g hF; clear hF
  rcases ite_s hG with ⟨q_12, hF⟩ | ⟨q_12, hF⟩
  · clear hG
    obtain ⟨a71, e72, hG⟩ := rf_s hF; clear hF
    have da71 : isT H p0 → a71 ≠ p0 + 16 ∧ a71 ≠ p0 := fun hi => nT_19 (hm hi).1 e72
    obtain ⟨n73, q74, hF⟩ := ar_s hG; clear hG
    obtain ⟨q75, hG⟩ := ck_s hF; clear hF
    obtain ⟨x76, -, hF⟩ := bnd_g hG; clear hG
    obtain ⟨v78, H79, z77, hG⟩ := bC_s hF; clear hF
    replace hm : Ev p0 H H79 := hm.tr (e_MText_plain z77)
    have hr := Option.some.inj hG; subst hr
    exact hm
  · clear hG
    have hr := Option.some.inj hF; subst hr
    exact hm
set_option maxRecDepth 20000 in
set_option maxHeartbeats 2000000 in
theorem eB_MText_named_324 {N : Nat} {p0 : Nat} {l5 : Int32} {H : Hp} {r : Int32 × Hp} (hF : B_MText_named_324 N p0 l5 H = some r) : Ev p0 H r.2 := by
  unfold B_MText_named_324 at hF
  have hm := Ev.rf (w := p0) H
  obtain ⟨q92, hG⟩ := ck_s hF; clear hF
  obtain ⟨v94, H95, z93, hF⟩ := bC_s hG; clear hG
  replace hm : Ev p0 H H95 := hm.tr (e_MText_takes z93)
  exact hm.tr (eB_MText_named_330 hF)
set_option maxRecDepth 20000 in
set_option maxHeartbeats 2000000 in
theorem eB_MText_named_235 {N : Nat} {p0 : Nat} {l5 : Int32} {l7 : Int32} {l8 : Int32} {H : Hp} {r : Int32 × Hp} (hF : B_MText_named_235 N p0 l5 l7 l8 H = some r) : Ev p0 H r.2 := by
  unfold B_MText_named_235 at hF
  have hm := Ev.rf (w := p0) H
  obtain ⟨q131, hG⟩ := ck_s hF; clear hF
  obtain ⟨a132, e133, hF⟩ := rf_s hG; clear hG
  have da132 : isT H p0 → a132 ≠ p0 + 16 ∧ a132 ≠ p0 := fun hi => nT_8 (hm hi).1 e133
  obtain ⟨n134, q135, hG⟩ := ar_s hF; clear hF
  obtain ⟨q136, hF⟩ := ck_s hG; clear hG
  obtain ⟨H137, eH137, hG⟩ := bnd_g hF; clear hF
  replace hm : Ev p0 H H137 := by rw [eH137]; exact hm.w (fun hi => by first | omega | exact ⟨(da132 hi).1, fun y => (da132 hi).2 y.1⟩)
  obtain ⟨x138, -, hF⟩ := bnd_g hG; clear hG
  rcases ite_s hF with ⟨q_23, hG⟩ | ⟨q_23, hG⟩
  · clear hF
    obtain ⟨a140, e141, hF⟩ := rf_s hG; clear hG
    have da140 : isT H p0 → a140 ≠ p0 + 16 ∧ a140 ≠ p0 := fun hi => nT_24 (hm hi).1 e141
    obtain ⟨n142, q143, hG⟩ := ar_s hF; clear hF
    obtain ⟨q144, hF⟩ := ck_s hG; clear hG
    obtain ⟨x145, -, hG⟩ := bnd_g hF; clear hF
    obtain ⟨v147, H148, z146, hF⟩ := bC_s hG; clear hG
    replace hm : Ev p0 H H148 := hm.tr (e_MText_plain z146)
    have hr := Option.some.inj hF; subst hr
    exact hm
  · clear hF
    have hr := Option.some.inj hG; subst hr
    exact hm
set_option maxRecDepth 20000 in
set_option maxHeartbeats 2000000 in
theorem eB_MText_named_221 {N : Nat} {p0 : Nat} {l5 : Int32} {l7 : Int32} {w0 : Int32} {H : Hp} {r : Int32 × Hp} (hF : B_MText_named_221 N p0 l5 l7 w0 H = some r) : Ev p0 H r.2 := by
  unfold B_MText_named_221 at hF
  have hm := Ev.rf (w := p0) H
  rcases ite_s hF with ⟨q_26, hG⟩ | ⟨q_26, hG⟩
  · clear hF
    exact hm.tr (eB_MText_named_235 hG)
  · clear hF
    obtain ⟨q154, hF⟩ := ck_s hG; clear hG
    obtain ⟨v156, H157, z155, hG⟩ := bC_s hF; clear hF
    replace hm : Ev p0 H H157 := hm.tr (e_MText_fails z155)
    exact hm.tr (eB_MText_named_235 hG)
set_option maxRecDepth 20000 in
set_option maxHeartbeats 2000000 in
theorem eB_MText_named_149 {N : Nat} {p0 : Nat} {l1 : Int32} {l2 : Int32} {l3 : Int32} {l4 : Int32} {l5 : Int32} {H : Hp} {r : Int32 × Hp} (hF : B_MText_named_149 N p0 l1 l2 l3 l4 l5 H = some r) : Ev p0 H r.2 := by
  unfold B_MText_named_149 at hF
  have hm := Ev.rf (w := p0) H
  obtain ⟨q167, hG⟩ := ck_s hF; clear hF
  obtain ⟨x168, -, hF⟩ := bnd_g hG; clear hG
  rcases ite_s hF with ⟨q_29, hG⟩ | ⟨q_29, hG⟩
  · clear hF
    obtain ⟨a170, e171, hF⟩ := rf_s hG; clear hG
    have da170 : isT H p0 → a170 ≠ p0 + 16 ∧ a170 ≠ p0 := fun hi => nT_8 (hm hi).1 e171
    obtain ⟨n172, q173, hG⟩ := ar_s hF; clear hF
    obtain ⟨q174, hF⟩ := ck_s hG; clear hG
    obtain ⟨H175, eH175, hG⟩ := bnd_g hF; clear hF
    replace hm : Ev p0 H H175 := by rw [eH175]; exact hm.w (fun hi => by first | omega | exact ⟨(da170 hi).1, fun y => (da170 hi).2 y.1⟩)
    obtain ⟨a176, e177, hF⟩ := rf_s hG; clear hG
    have da176 : isT H p0 → a176 ≠ p0 + 16 ∧ a176 ≠ p0 := fun hi => nT_6 (hm hi).1 e177
    obtain ⟨n178, q179, hG⟩ := ar_s hF; clear hF
    obtain ⟨q180, hF⟩ := ck_s hG; clear hG
    obtain ⟨H181, eH181, hG⟩ := bnd_g hF; clear hF
    replace hm : Ev p0 H H181 := by rw [eH181]; exact hm.w (fun hi => by first | omega | exact ⟨(da176 hi).1, fun y => (da176 hi).2 y.1⟩ | exact ⟨(da170 hi).1, fun y => (da170 hi).2 y.1⟩)
    rcases ite_s hG with ⟨q_32, hF⟩ | ⟨q_32, hF⟩
    · clear hG
      obtain ⟨a183, e184, hG⟩ := rf_s hF; clear hF
      have da183 : isT H p0 → a183 ≠ p0 + 16 ∧ a183 ≠ p0 := fun hi => nT_39 (hm hi).1 e184
      obtain ⟨n185, q186, hF⟩ := ar_s hG; clear hG
      obtain ⟨q187, hG⟩ := ck_s hF; clear hF
      obtain ⟨x188, -, hF⟩ := bnd_g hG; clear hG
      have hr := Option.some.inj hF; subst hr
      exact hm
    · clear hG
      obtain ⟨v190, H191, z189, hG⟩ := bC_s hF; clear hF
      replace hm : Ev p0 H H191 := hm.tr (e_MText_takes z189)
      rcases ite_s hG with ⟨q_34, hF⟩ | ⟨q_34, hF⟩
      · clear hG
        obtain ⟨v194, H195, z193, hG⟩ := bC_s hF; clear hF
        replace hm : Ev p0 H H195 := hm.tr (e_MText_name z193)
        obtain ⟨x196, -, hF⟩ := bnd_g hG; clear hG
        rcases ite_s hF with ⟨q_36, hG⟩ | ⟨q_36, hG⟩
        · clear hF
          obtain ⟨v199, H200, z198, hF⟩ := bC_s hG; clear hG
          replace hm : Ev p0 H H200 := hm.tr (e_MText_eventMemberOf z198)
          exact hm.tr (eB_MText_named_221 hF)
        · clear hF
          exact hm.tr (eB_MText_named_221 hG)
      · clear hG
        rcases ite_s hF with ⟨q_38, hG⟩ | ⟨q_38, hG⟩
        · clear hF
          obtain ⟨v203, H204, z202, hF⟩ := bC_s hG; clear hG
          replace hm : Ev p0 H H204 := hm.tr (e_MText_name z202)
          obtain ⟨v206, H207, z205, hG⟩ := bC_s hF; clear hF
          replace hm : Ev p0 H H207 := hm.tr (e_MText_numberOf z205)
          obtain ⟨x208, -, hF⟩ := bnd_g hG; clear hG
          rcases ite_s hF with ⟨q_41, hG⟩ | ⟨q_41, hG⟩
          · clear hF
            obtain ⟨a210, e211, hF⟩ := rf_s hG; clear hG
            have da210 : isT H p0 → a210 ≠ p0 + 16 ∧ a210 ≠ p0 := fun hi => nT_33 (hm hi).1 e211
            obtain ⟨x212, -, hG⟩ := bnd_g hF; clear hF
            obtain ⟨n213, q214, hF⟩ := ar_s hG; clear hG
            obtain ⟨q215, hG⟩ := ck_s hF; clear hF
            obtain ⟨x216, -, hF⟩ := bnd_g hG; clear hG
            rcases ite_s hF with ⟨q_42, hG⟩ | ⟨q_42, hG⟩
            · clear hF
              obtain ⟨v219, H220, z218, hF⟩ := bC_s hG; clear hG
              replace hm : Ev p0 H H220 := hm.tr (e_MText_fails z218)
              exact hm.tr (eB_MText_named_324 hF)
            · clear hF
              exact hm.tr (eB_MText_named_324 hG)
          · clear hF
            exact hm.tr (eB_MText_named_324 hG)
        · clear hF
          exact hm.tr (eB_MText_named_330 hG)
  · clear hF
    have hr := Option.some.inj hG; subst hr
    exact hm
set_option maxRecDepth 20000 in
set_option maxHeartbeats 2000000 in
theorem eB_MText_named_136 {N : Nat} {p0 : Nat} {l1 : Int32} {l2 : Int32} {l3 : Int32} {l4 : Int32} {l5 : Int32} {w0 : Int32} {H : Hp} {r : Int32 × Hp} (hF : B_MText_named_136 N p0 l1 l2 l3 l4 l5 w0 H = some r) : Ev p0 H r.2 := by
  unfold B_MText_named_136 at hF
  have hm := Ev.rf (w := p0) H
  rcases ite_s hF with ⟨q_45, hG⟩ | ⟨q_45, hG⟩
  · clear hF
    obtain ⟨q226, hF⟩ := ck_s hG; clear hG
    obtain ⟨v228, H229, z227, hG⟩ := bC_s hF; clear hF
    replace hm : Ev p0 H H229 := hm.tr (e_MText_fails z227)
    exact hm.tr (eB_MText_named_149 hG)
  · clear hF
    exact hm.tr (eB_MText_named_149 hG)
set_option maxRecDepth 20000 in
set_option maxHeartbeats 2000000 in
theorem eB_MText_named_135 {N : Nat} {p0 : Nat} {l1 : Int32} {l2 : Int32} {l3 : Int32} {l4 : Int32} {l5 : Int32} {H : Hp} {r : Int32 × Hp} (hF : B_MText_named_135 N p0 l1 l2 l3 l4 l5 H = some r) : Ev p0 H r.2 := by
  unfold B_MText_named_135 at hF
  have hm := Ev.rf (w := p0) H
  exact hm.tr (eB_MText_named_136 hF)
set_option maxRecDepth 20000 in
set_option maxHeartbeats 2000000 in
theorem eB_MText_named_131 {N : Nat} {p0 : Nat} {l1 : Int32} {l2 : Int32} {l3 : Int32} {l4 : Int32} {l5 : Int32} {H : Hp} {r : Int32 × Hp} (hF : B_MText_named_131 N p0 l1 l2 l3 l4 l5 H = some r) : Ev p0 H r.2 := by
  unfold B_MText_named_131 at hF
  have hm := Ev.rf (w := p0) H
  exact hm.tr (eB_MText_named_136 hF)
set_option maxRecDepth 20000 in
set_option maxHeartbeats 2000000 in
theorem eB_MText_named_113 {N : Nat} {p0 : Nat} {l1 : Int32} {l2 : Int32} {l3 : Int32} {l4 : Int32} {l5 : Int32} {H : Hp} {r : Int32 × Hp} (hF : B_MText_named_113 N p0 l1 l2 l3 l4 l5 H = some r) : Ev p0 H r.2 := by
  unfold B_MText_named_113 at hF
  have hm := Ev.rf (w := p0) H
  rcases ite_s hF with ⟨q_47, hG⟩ | ⟨q_47, hG⟩
  · clear hF
    obtain ⟨q236, hF⟩ := ck_s hG; clear hG
    obtain ⟨x237, -, hG⟩ := bnd_g hF; clear hF
    rcases ite_s hG with ⟨q_48, hF⟩ | ⟨q_48, hF⟩
    · clear hG
      exact hm.tr (eB_MText_named_131 hF)
    · clear hG
      exact hm.tr (eB_MText_named_135 hF)
  · clear hF
    exact hm.tr (eB_MText_named_135 hG)
set_option maxRecDepth 20000 in
set_option maxHeartbeats 2000000 in
theorem eB_MText_named_75 {N : Nat} {p0 : Nat} {l1 : Int32} {l2 : Int32} {l3 : Int32} {l4 : Int32} {l5 : Int32} {H : Hp} {r : Int32 × Hp} (hF : B_MText_named_75 N p0 l1 l2 l3 l4 l5 H = some r) : Ev p0 H r.2 := by
  unfold B_MText_named_75 at hF
  have hm := Ev.rf (w := p0) H
  exact hm.tr (eB_MText_named_136 hF)
set_option maxRecDepth 20000 in
set_option maxHeartbeats 2000000 in
theorem eB_MText_named_53 {N : Nat} {p0 : Nat} {l1 : Int32} {l2 : Int32} {l3 : Int32} {l4 : Int32} {w0 : Int32} {H : Hp} {r : Int32 × Hp} (hF : B_MText_named_53 N p0 l1 l2 l3 l4 w0 H = some r) : Ev p0 H r.2 := by
  unfold B_MText_named_53 at hF
  have hm := Ev.rf (w := p0) H
  rcases ite_s hF with ⟨q_49, hG⟩ | ⟨q_49, hG⟩
  · clear hF
    rcases ite_s hG with ⟨q_50, hF⟩ | ⟨q_50, hF⟩
    · clear hG
      exact hm.tr (eB_MText_named_75 hF)
    · clear hG
      obtain ⟨q259, hG⟩ := ck_s hF; clear hF
      obtain ⟨a260, e261, hF⟩ := rf_s hG; clear hG
      have da260 : isT H p0 → a260 ≠ p0 + 16 ∧ a260 ≠ p0 := fun hi => nT_39 (hm hi).1 e261
      obtain ⟨n262, q263, hG⟩ := ar_s hF; clear hF
      obtain ⟨q264, hF⟩ := ck_s hG; clear hG
      obtain ⟨x265, -, hG⟩ := bnd_g hF; clear hF
      rcases ite_s hG with ⟨q_51, hF⟩ | ⟨q_51, hF⟩
      · clear hG
        exact hm.tr (eB_MText_named_75 hF)
      · clear hG
        exact hm.tr (eB_MText_named_136 hF)
  · clear hF
    rcases ite_s hG with ⟨q_52, hF⟩ | ⟨q_52, hF⟩
    · clear hG
      exact hm.tr (eB_MText_named_135 hF)
    · clear hG
      rcases ite_s hF with ⟨q_53, hG⟩ | ⟨q_53, hG⟩
      · clear hF
        obtain ⟨q269, hF⟩ := ck_s hG; clear hG
        obtain ⟨a270, e271, hG⟩ := rf_s hF; clear hF
        have da270 : isT H p0 → a270 ≠ p0 + 16 ∧ a270 ≠ p0 := fun hi => nT_30 (hm hi).1 e271
        obtain ⟨x272, -, hF⟩ := bnd_g hG; clear hG
        obtain ⟨n273, q274, hG⟩ := ar_s hF; clear hF
        obtain ⟨q275, hF⟩ := ck_s hG; clear hG
        obtain ⟨x276, -, hG⟩ := bnd_g hF; clear hF
        rcases ite_s hG with ⟨q_54, hF⟩ | ⟨q_54, hF⟩
        · clear hG
          exact hm.tr (eB_MText_named_131 hF)
        · clear hG
          exact hm.tr (eB_MText_named_113 hF)
      · clear hF
        exact hm.tr (eB_MText_named_113 hG)
set_option maxRecDepth 20000 in
set_option maxHeartbeats 2000000 in
theorem e_MText_named {N : Nat} {p0 : Nat} {H : Hp} {r : Int32 × Hp} (hF : F_MText_named N p0 H = some r) : Ev p0 H r.2 := by
  unfold F_MText_named at hF
  have hm := Ev.rf (w := p0) H
  obtain ⟨q278, hG⟩ := ck_s hF; clear hF
  obtain ⟨v280, H281, z279, hF⟩ := bC_s hG; clear hG
  replace hm : Ev p0 H H281 := hm.tr (e_MText_name z279)
  obtain ⟨v283, H284, z282, hG⟩ := bC_s hF; clear hF
  replace hm : Ev p0 H H284 := hm.tr (e_MText_sort z282)
  obtain ⟨x285, -, hF⟩ := bnd_g hG; clear hG
  rcases ite_s hF with ⟨q_57, hG⟩ | ⟨q_57, hG⟩
  · clear hF
    obtain ⟨v288, H289, z287, hF⟩ := bC_s hG; clear hG
    replace hm : Ev p0 H H289 := hm.tr (e_MText_local z287)
    obtain ⟨v291, H292, z290, hG⟩ := bC_s hF; clear hF
    replace hm : Ev p0 H H292 := hm.tr (e_MText_is z290)
    rcases ite_s hG with ⟨q_60, hF⟩ | ⟨q_60, hF⟩
    · clear hG
      exact hm.tr (eB_MText_named_53 hF)
    · clear hG
      obtain ⟨a294, e295, hG⟩ := rf_s hF; clear hF
      have da294 : isT H p0 → a294 ≠ p0 + 16 ∧ a294 ≠ p0 := fun hi => nT_15 (hm hi).1 e295
      obtain ⟨v297, H298, z296, hF⟩ := bC_s hG; clear hG
      replace hm : Ev p0 H H298 := hm.tr (e_MText_index z296)
      obtain ⟨n299, q300, hG⟩ := ar_s hF; clear hF
      obtain ⟨q301, hF⟩ := ck_s hG; clear hG
      obtain ⟨x302, -, hG⟩ := bnd_g hF; clear hF
      exact hm.tr (eB_MText_named_53 hG)
  · clear hF
    have hr := Option.some.inj hG; subst hr
    exact hm
set_option maxRecDepth 20000 in
set_option maxHeartbeats 2000000 in
theorem eB_MText_deeper_25 {N : Nat} {p0 : Nat}  {H : Hp} {r : Unit × Hp} (hF : B_MText_deeper_25 N p0  H = some r) : Ev p0 H r.2 := by
  unfold B_MText_deeper_25 at hF
  have hm := Ev.rf (w := p0) H
  obtain ⟨q7, hG⟩ := ck_s hF; clear hF
  obtain ⟨x8, -, hF⟩ := bnd_g hG; clear hG
  obtain ⟨H9, eH9, hG⟩ := bnd_g hF; clear hF
  replace hm : Ev p0 H H9 := by rw [eH9]; exact hm.w (fun hi => by first | omega)
  have hr := Option.some.inj hG; subst hr
  exact hm
set_option maxRecDepth 20000 in
set_option maxHeartbeats 2000000 in
theorem e_MText_deeper {N : Nat} {p0 : Nat} {H : Hp} {r : Unit × Hp} (hF : F_MText_deeper N p0 H = some r) : Ev p0 H r.2 := by
  unfold F_MText_deeper at hF
  have hm := Ev.rf (w := p0) H
  obtain ⟨q16, hG⟩ := ck_s hF; clear hF
  obtain ⟨x17, -, hF⟩ := bnd_g hG; clear hG
  rcases ite_s hF with ⟨q_4, hG⟩ | ⟨q_4, hG⟩
  · clear hF
    obtain ⟨x19, -, hF⟩ := bnd_g hG; clear hG
    rcases ite_s hF with ⟨q_5, hG⟩ | ⟨q_5, hG⟩
    · clear hF
      obtain ⟨x21, -, hF⟩ := bnd_g hG; clear hG
      obtain ⟨v23, H24, z22, hG⟩ := bC_s hF; clear hF
      replace hm : Ev p0 H H24 := hm.tr (e_MText_fails z22)
      exact hm.tr (eB_MText_deeper_25 hG)
    · clear hF
      exact hm.tr (eB_MText_deeper_25 hG)
  · clear hF
    exact hm.tr (eB_MText_deeper_25 hG)
set_option maxRecDepth 20000 in
set_option maxHeartbeats 2000000 in
theorem eB_MText_opens_13 {N : Nat} {p0 : Nat}  {H : Hp} {r : Unit × Hp} (hF : B_MText_opens_13 N p0  H = some r) : Ev p0 H r.2 := by
  unfold B_MText_opens_13 at hF
  have hm := Ev.rf (w := p0) H
  obtain ⟨q10, hG⟩ := ck_s hF; clear hF
  obtain ⟨v12, H13, z11, hF⟩ := bC_s hG; clear hG
  replace hm : Ev p0 H H13 := hm.tr (e_MText_takes z11)
  have hr := Option.some.inj hF; subst hr
  exact hm
set_option maxRecDepth 20000 in
set_option maxHeartbeats 2000000 in
theorem e_MText_opens {N : Nat} {p0 : Nat} {H : Hp} {r : Unit × Hp} (hF : F_MText_opens N p0 H = some r) : Ev p0 H r.2 := by
  unfold F_MText_opens at hF
  have hm := Ev.rf (w := p0) H
  obtain ⟨q17, hG⟩ := ck_s hF; clear hF
  obtain ⟨v19, H20, z18, hF⟩ := bC_s hG; clear hG
  replace hm : Ev p0 H H20 := hm.tr (e_MText_is z18)
  rcases ite_s hF with ⟨q_6, hG⟩ | ⟨q_6, hG⟩
  · clear hF
    exact hm.tr (eB_MText_opens_13 hG)
  · clear hF
    obtain ⟨v23, H24, z22, hF⟩ := bC_s hG; clear hG
    replace hm : Ev p0 H H24 := hm.tr (e_MText_deeper z22)
    exact hm.tr (eB_MText_opens_13 hF)
set_option maxRecDepth 20000 in
set_option maxHeartbeats 2000000 in
theorem e_MText_closes {N : Nat} {p0 : Nat} {H : Hp} {r : Unit × Hp} (hF : F_MText_closes N p0 H = some r) : Ev p0 H r.2 := by
  unfold F_MText_closes at hF
  have hm := Ev.rf (w := p0) H
  obtain ⟨q7, hG⟩ := ck_s hF; clear hF
  obtain ⟨v9, H10, z8, hF⟩ := bC_s hG; clear hG
  replace hm : Ev p0 H H10 := hm.tr (e_MText_takes z8)
  obtain ⟨x11, -, hG⟩ := bnd_g hF; clear hF
  obtain ⟨H12, eH12, hF⟩ := bnd_g hG; clear hG
  replace hm : Ev p0 H H12 := by rw [eH12]; exact hm.w (fun hi => by first | omega)
  have hr := Option.some.inj hF; subst hr
  exact hm
set_option maxRecDepth 20000 in
set_option maxHeartbeats 2000000 in
theorem eB_MText_reckons_9 {N wz : Nat} {p0 : Int32}  {H : Hp} {r : Int32 × Hp} (hF : B_MText_reckons_9 N p0  H = some r) : Ev wz H r.2 := by
  unfold B_MText_reckons_9 at hF
  have hm := Ev.rf (w := wz) H
  have hr := Option.some.inj hF; subst hr
  exact hm
set_option maxRecDepth 20000 in
set_option maxHeartbeats 2000000 in
theorem e_MText_reckons {N wz : Nat} {p0 : Int32} {H : Hp} {r : Int32 × Hp} (hF : F_MText_reckons N p0 H = some r) : Ev wz H r.2 := by
  unfold F_MText_reckons at hF
  have hm := Ev.rf (w := wz) H
  rcases ite_s hF with ⟨q_1, hG⟩ | ⟨q_1, hG⟩
  · clear hF
    exact hm.tr (eB_MText_reckons_9 hG)
  · clear hF
    rcases ite_s hG with ⟨q_2, hF⟩ | ⟨q_2, hF⟩
    · clear hG
      exact hm.tr (eB_MText_reckons_9 hF)
    · clear hG
      have hr := Option.some.inj hF; subst hr
      exact hm
set_option maxRecDepth 20000 in
set_option maxHeartbeats 2000000 in
theorem eB_MText_goTogether_23 {N : Nat} {p0 : Nat} {p1 : Int32} {p2 : Int32} {p3 : Int32} {p4 : Int32}  {H : Hp} {r : Int32 × Hp} (hF : B_MText_goTogether_23 N p0 p1 p2 p3 p4  H = some r) : Ev p0 H r.2 := by
  unfold B_MText_goTogether_23 at hF
  have hm := Ev.rf (w := p0) H
  obtain ⟨q11, hG⟩ := ck_s hF; clear hF
  obtain ⟨a12, e13, hF⟩ := rf_s hG; clear hG
  have da12 : isT H p0 → a12 ≠ p0 + 16 ∧ a12 ≠ p0 := fun hi => nT_8 (hm hi).1 e13
  obtain ⟨n14, q15, hG⟩ := ar_s hF; clear hF
  obtain ⟨q16, hF⟩ := ck_s hG; clear hG
  obtain ⟨H17, eH17, hG⟩ := bnd_g hF; clear hF
  replace hm : Ev p0 H H17 := by rw [eH17]; exact hm.w (fun hi => by first | omega | exact ⟨(da12 hi).1, fun y => (da12 hi).2 y.1⟩)
  have hr := Option.some.inj hG; subst hr
  exact hm
set_option maxRecDepth 20000 in
set_option maxHeartbeats 2000000 in
theorem eB_MText_goTogether_17 {N : Nat} {p0 : Nat} {p1 : Int32} {p2 : Int32} {p3 : Int32} {p4 : Int32}  {H : Hp} {r : Int32 × Hp} (hF : B_MText_goTogether_17 N p0 p1 p2 p3 p4  H = some r) : Ev p0 H r.2 := by
  unfold B_MText_goTogether_17 at hF
  have hm := Ev.rf (w := p0) H
  obtain ⟨q23, hG⟩ := ck_s hF; clear hF
  obtain ⟨v25, H26, z24, hF⟩ := bC_s hG; clear hG
  replace hm : Ev p0 H H26 := hm.tr (e_MText_fails z24)
  exact hm.tr (eB_MText_goTogether_23 hF)
set_option maxRecDepth 20000 in
set_option maxHeartbeats 2000000 in
theorem e_MText_goTogether {N : Nat} {p0 : Nat} {p1 : Int32} {p2 : Int32} {p3 : Int32} {p4 : Int32} {H : Hp} {r : Int32 × Hp} (hF : F_MText_goTogether N p0 p1 p2 p3 p4 H = some r) : Ev p0 H r.2 := by
  unfold F_MText_goTogether at hF
  have hm := Ev.rf (w := p0) H
  obtain ⟨q28, hG⟩ := ck_s hF; clear hF
  obtain ⟨x29, -, hF⟩ := bnd_g hG; clear hG
  rcases ite_s hF with ⟨q_5, hG⟩ | ⟨q_5, hG⟩
  · clear hF
    rcases ite_s hG with ⟨q_6, hF⟩ | ⟨q_6, hF⟩
    · clear hG
      exact hm.tr (eB_MText_goTogether_17 hF)
    · clear hG
      rcases ite_s hF with ⟨q_7, hG⟩ | ⟨q_7, hG⟩
      · clear hF
        exact hm.tr (eB_MText_goTogether_23 hG)
      · clear hF
        exact hm.tr (eB_MText_goTogether_17 hG)
  · clear hF
    exact hm.tr (eB_MText_goTogether_23 hG)
set_option maxRecDepth 20000 in
set_option maxHeartbeats 2000000 in
theorem eB_MText_isLess_35 {N : Nat} {p0 : Nat}  {H : Hp} {r : Int32 × Hp} (hF : B_MText_isLess_35 N p0  H = some r) : Ev p0 H r.2 := by
  unfold B_MText_isLess_35 at hF
  have hm := Ev.rf (w := p0) H
  have hr := Option.some.inj hF; subst hr
  exact hm
set_option maxRecDepth 20000 in
set_option maxHeartbeats 2000000 in
theorem e_MText_isLess {N : Nat} {p0 : Nat} {H : Hp} {r : Int32 × Hp} (hF : F_MText_isLess N p0 H = some r) : Ev p0 H r.2 := by
  unfold F_MText_isLess at hF
  have hm := Ev.rf (w := p0) H
  obtain ⟨q18, hG⟩ := ck_s hF; clear hF
  obtain ⟨v20, H21, z19, hF⟩ := bC_s hG; clear hG
  replace hm : Ev p0 H H21 := hm.tr (e_MText_is z19)
  rcases ite_s hF with ⟨q_6, hG⟩ | ⟨q_6, hG⟩
  · clear hF
    obtain ⟨v24, H25, z23, hF⟩ := bC_s hG; clear hG
    replace hm : Ev p0 H H25 := hm.tr (e_MText_is z23)
    rcases ite_s hF with ⟨q_8, hG⟩ | ⟨q_8, hG⟩
    · clear hF
      obtain ⟨v28, H29, z27, hF⟩ := bC_s hG; clear hG
      replace hm : Ev p0 H H29 := hm.tr (e_MText_is z27)
      rcases ite_s hF with ⟨q_10, hG⟩ | ⟨q_10, hG⟩
      · clear hF
        obtain ⟨v32, H33, z31, hF⟩ := bC_s hG; clear hG
        replace hm : Ev p0 H H33 := hm.tr (e_MText_is z31)
        rcases ite_s hF with ⟨q_12, hG⟩ | ⟨q_12, hG⟩
        · clear hF
          have hr := Option.some.inj hG; subst hr
          exact hm
        · clear hF
          exact hm.tr (eB_MText_isLess_35 hG)
      · clear hF
        exact hm.tr (eB_MText_isLess_35 hG)
    · clear hF
      exact hm.tr (eB_MText_isLess_35 hG)
  · clear hF
    exact hm.tr (eB_MText_isLess_35 hG)
def eo_TextE (o : Orc_TextE) : Prop :=
  (∀ (a0 : Nat) (H : Hp) (r : Int32 × Hp), o.1 a0 H = some r → Ev a0 H r.2) ∧
  (∀ (a0 : Nat) (H : Hp) (r : Int32 × Hp), o.2 a0 H = some r → Ev a0 H r.2)
set_option maxRecDepth 20000 in
set_option maxHeartbeats 2000000 in
theorem e_MText_wants {N : Nat} {o : Orc_TextE} (hmo : eo_TextE o) {p0 : Nat} {p1 : Int32} {H : Hp} {r : Unit × Hp} (hF : F_MText_wants N o p0 p1 H = some r) : Ev p0 H r.2 := by
  unfold F_MText_wants at hF
  have hm := Ev.rf (w := p0) H
  obtain ⟨q12, hG⟩ := ck_s hF; clear hF
  obtain ⟨x13, -, hF⟩ := bnd_g hG; clear hG
  obtain ⟨v15, H16, z14, hG⟩ := bC_s hF; clear hF
  replace hm : Ev p0 H H16 := hm.tr (hmo.1 _ _ _ z14)
  obtain ⟨x17, -, hF⟩ := bnd_g hG; clear hG
  rcases ite_s hF with ⟨q_4, hG⟩ | ⟨q_4, hG⟩
  · clear hF
    rcases ite_s hG with ⟨q_5, hF⟩ | ⟨q_5, hF⟩
    · clear hG
      have hr := Option.some.inj hF; subst hr
      exact hm
    · clear hG
      obtain ⟨v21, H22, z20, hG⟩ := bC_s hF; clear hF
      replace hm : Ev p0 H H22 := hm.tr (e_MText_fails z20)
      have hr := Option.some.inj hG; subst hr
      exact hm
  · clear hF
    have hr := Option.some.inj hG; subst hr
    exact hm
set_option maxRecDepth 20000 in
set_option maxHeartbeats 2000000 in
theorem e_MText_wantsIn {N : Nat} {o : Orc_TextE} (hmo : eo_TextE o) {p0 : Nat} {p1 : Int32} {H : Hp} {r : Unit × Hp} (hF : F_MText_wantsIn N o p0 p1 H = some r) : Ev p0 H r.2 := by
  unfold F_MText_wantsIn at hF
  have hm := Ev.rf (w := p0) H
  obtain ⟨q11, hG⟩ := ck_s hF; clear hF
  obtain ⟨v13, H14, z12, hF⟩ := bC_s hG; clear hG
  replace hm : Ev p0 H H14 := hm.tr (e_MText_opens z12)
  obtain ⟨v16, H17, z15, hG⟩ := bC_s hF; clear hF
  replace hm : Ev p0 H H17 := hm.tr (e_MText_wants hmo z15)
  obtain ⟨v19, H20, z18, hF⟩ := bC_s hG; clear hG
  replace hm : Ev p0 H H20 := hm.tr (e_MText_closes z18)
  have hr := Option.some.inj hF; subst hr
  exact hm
set_option maxRecDepth 20000 in
set_option maxHeartbeats 2000000 in
theorem eB_MText_primary_51 {N : Nat} {o : Orc_TextE} (hmo : eo_TextE o) {p0 : Nat} {l1 : Int32} {l2 : Int32} {H : Hp} {r : Int32 × Hp} (hF : B_MText_primary_51 N o p0 l1 l2 H = some r) : Ev p0 H r.2 := by
  unfold B_MText_primary_51 at hF
  have hm := Ev.rf (w := p0) H
  obtain ⟨q100, hG⟩ := ck_s hF; clear hF
  obtain ⟨x101, -, hF⟩ := bnd_g hG; clear hG
  rcases ite_s hF with ⟨q_21, hG⟩ | ⟨q_21, hG⟩
  · clear hF
    rcases ite_s hG with ⟨q_22, hF⟩ | ⟨q_22, hF⟩
    · clear hG
      obtain ⟨v105, H106, z104, hG⟩ := bC_s hF; clear hF
      replace hm : Ev p0 H H106 := hm.tr (e_MText_named z104)
      have hr := Option.some.inj hG; subst hr
      exact hm
    · clear hG
      obtain ⟨x107, -, hG⟩ := bnd_g hF; clear hF
      obtain ⟨H108, eH108, hF⟩ := bnd_g hG; clear hG
      replace hm : Ev p0 H H108 := by rw [eH108]; exact hm.w (fun hi => by first | omega)
      rcases ite_s hF with ⟨q_25, hG⟩ | ⟨q_25, hG⟩
      · clear hF
        have hr := Option.some.inj hG; subst hr
        exact hm
      clear hF
      rcases ite_s hG with ⟨q_26, hF⟩ | ⟨q_26, hF⟩
      · clear hG
        have hr := Option.some.inj hF; subst hr
        exact hm
      clear hG
      rcases ite_s hF with ⟨q_27, hG⟩ | ⟨q_27, hG⟩
      · clear hF
        obtain ⟨H112, eH112, hF⟩ := bnd_g hG; clear hG
        replace hm : Ev p0 H H112 := by rw [eH112]; exact hm.w (fun hi => by first | omega)
        obtain ⟨v114, H115, z113, hG⟩ := bC_s hF; clear hF
        replace hm : Ev p0 H H115 := hm.tr (e_MText_opens z113)
        obtain ⟨v117, H118, z116, hF⟩ := bC_s hG; clear hG
        replace hm : Ev p0 H H118 := hm.tr (hmo.1 _ _ _ z116)
        obtain ⟨v120, H121, z119, hG⟩ := bC_s hF; clear hF
        replace hm : Ev p0 H H121 := hm.tr (e_MText_closes z119)
        have hr := Option.some.inj hG; subst hr
        exact hm
      clear hF
      rcases ite_s hG with ⟨q_32, hF⟩ | ⟨q_32, hF⟩
      · clear hG
        obtain ⟨v124, H125, z123, hG⟩ := bC_s hF; clear hF
        replace hm : Ev p0 H H125 := hm.tr (e_MText_wantsIn hmo z123)
        rcases ite_s hG with ⟨q_34, hF⟩ | ⟨q_34, hF⟩
        · clear hG
          have hr := Option.some.inj hF; subst hr
          exact hm
        · clear hG
          have hr := Option.some.inj hF; subst hr
          exact hm
      clear hG
      rcases ite_s hF with ⟨q_35, hG⟩ | ⟨q_35, hG⟩
      · clear hF
        obtain ⟨v129, H130, z128, hF⟩ := bC_s hG; clear hG
        replace hm : Ev p0 H H130 := hm.tr (e_MText_wantsIn hmo z128)
        rcases ite_s hF with ⟨q_37, hG⟩ | ⟨q_37, hG⟩
        · clear hF
          have hr := Option.some.inj hG; subst hr
          exact hm
        · clear hF
          have hr := Option.some.inj hG; subst hr
          exact hm
      clear hF
      rcases ite_s hG with ⟨q_38, hF⟩ | ⟨q_38, hF⟩
      · clear hG
        have hr := Option.some.inj hF; subst hr
        exact hm
      clear hG
      rcases ite_s hF with ⟨q_39, hG⟩ | ⟨q_39, hG⟩
      · clear hF
        have hr := Option.some.inj hG; subst hr
        exact hm
      clear hF
      rcases ite_s hG with ⟨q_40, hF⟩ | ⟨q_40, hF⟩
      · clear hG
        have hr := Option.some.inj hF; subst hr
        exact hm
      clear hG
      rcases ite_s hF with ⟨q_41, hG⟩ | ⟨q_41, hG⟩
      · clear hF
        have hr := Option.some.inj hG; subst hr
        exact hm
      clear hF
      rcases ite_s hG with ⟨q_42, hF⟩ | ⟨q_42, hF⟩
      · clear hG
        have hr := Option.some.inj hF; subst hr
        exact hm
      clear hG
      rcases ite_s hF with ⟨q_43, hG⟩ | ⟨q_43, hG⟩
      · clear hF
        obtain ⟨v139, H140, z138, hF⟩ := bC_s hG; clear hG
        replace hm : Ev p0 H H140 := hm.tr (e_MText_wantsIn hmo z138)
        rcases ite_s hF with ⟨q_45, hG⟩ | ⟨q_45, hG⟩
        · clear hF
          have hr := Option.some.inj hG; subst hr
          exact hm
        · clear hF
          have hr := Option.some.inj hG; subst hr
          exact hm
      clear hF
      rcases ite_s hG with ⟨q_46, hF⟩ | ⟨q_46, hF⟩
      · clear hG
        obtain ⟨v144, H145, z143, hG⟩ := bC_s hF; clear hF
        replace hm : Ev p0 H H145 := hm.tr (e_MText_wantsIn hmo z143)
        rcases ite_s hG with ⟨q_48, hF⟩ | ⟨q_48, hF⟩
        · clear hG
          have hr := Option.some.inj hF; subst hr
          exact hm
        · clear hG
          have hr := Option.some.inj hF; subst hr
          exact hm
      clear hG
      rcases ite_s hF with ⟨q_49, hG⟩ | ⟨q_49, hG⟩
      · clear hF
        obtain ⟨v149, H150, z148, hF⟩ := bC_s hG; clear hG
        replace hm : Ev p0 H H150 := hm.tr (e_MText_wantsIn hmo z148)
        have hr := Option.some.inj hF; subst hr
        exact hm
      clear hF
      rcases ite_s hG with ⟨q_51, hF⟩ | ⟨q_51, hF⟩
      · clear hG
        obtain ⟨v153, H154, z152, hG⟩ := bC_s hF; clear hF
        replace hm : Ev p0 H H154 := hm.tr (e_MText_wantsIn hmo z152)
        rcases ite_s hG with ⟨q_53, hF⟩ | ⟨q_53, hF⟩
        · clear hG
          have hr := Option.some.inj hF; subst hr
          exact hm
        · clear hG
          have hr := Option.some.inj hF; subst hr
          exact hm
      clear hG
      rcases ite_s hF with ⟨q_54, hG⟩ | ⟨q_54, hG⟩
      · clear hF
        obtain ⟨v158, H159, z157, hF⟩ := bC_s hG; clear hG
        replace hm : Ev p0 H H159 := hm.tr (e_MText_opens z157)
        obtain ⟨v161, H162, z160, hG⟩ := bC_s hF; clear hF
        replace hm : Ev p0 H H162 := hm.tr (e_MText_wants hmo z160)
        obtain ⟨v164, H165, z163, hF⟩ := bC_s hG; clear hG
        replace hm : Ev p0 H H165 := hm.tr (e_MText_takes z163)
        obtain ⟨v167, H168, z166, hG⟩ := bC_s hF; clear hF
        replace hm : Ev p0 H H168 := hm.tr (e_MText_name z166)
        obtain ⟨v170, H171, z169, hF⟩ := bC_s hG; clear hG
        replace hm : Ev p0 H H171 := hm.tr (e_MText_numberOf z169)
        obtain ⟨v173, H174, z172, hG⟩ := bC_s hF; clear hF
        replace hm : Ev p0 H H174 := hm.tr (e_MText_closes z172)
        have hr := Option.some.inj hG; subst hr
        exact hm
      clear hF
      obtain ⟨H175, eH175, hF⟩ := bnd_g hG; clear hG
      replace hm : Ev p0 H H175 := by rw [eH175]; exact hm.w (fun hi => by first | omega)
      obtain ⟨v177, H178, z176, hG⟩ := bC_s hF; clear hF
      replace hm : Ev p0 H H178 := hm.tr (e_MText_fails z176)
      have hr := Option.some.inj hG; subst hr
      exact hm
  · clear hF
    have hr := Option.some.inj hG; subst hr
    exact hm
set_option maxRecDepth 20000 in
set_option maxHeartbeats 2000000 in
theorem eB_MText_primary_36 {N : Nat} {o : Orc_TextE} (hmo : eo_TextE o) {p0 : Nat} {l1 : Int32} {l2 : Int32} {H : Hp} {r : Int32 × Hp} (hF : B_MText_primary_36 N o p0 l1 l2 H = some r) : Ev p0 H r.2 := by
  unfold B_MText_primary_36 at hF
  have hm := Ev.rf (w := p0) H
  obtain ⟨q182, hG⟩ := ck_s hF; clear hF
  obtain ⟨a183, e184, hF⟩ := rf_s hG; clear hG
  have da183 : isT H p0 → a183 ≠ p0 + 16 ∧ a183 ≠ p0 := fun hi => nT_7 (hm hi).1 e184
  obtain ⟨n185, q186, hG⟩ := ar_s hF; clear hF
  obtain ⟨q187, hF⟩ := ck_s hG; clear hG
  obtain ⟨x188, -, hG⟩ := bnd_g hF; clear hF
  rcases ite_s hG with ⟨q_64, hF⟩ | ⟨q_64, hF⟩
  · clear hG
    exact hm.tr (eB_MText_primary_51 hmo hF)
  · clear hG
    obtain ⟨v191, H192, z190, hG⟩ := bC_s hF; clear hF
    replace hm : Ev p0 H H192 := hm.tr (e_MText_fails z190)
    exact hm.tr (eB_MText_primary_51 hmo hG)
set_option maxRecDepth 20000 in
set_option maxHeartbeats 2000000 in
theorem eB_MText_primary_25 {N : Nat} {o : Orc_TextE} (hmo : eo_TextE o) {p0 : Nat} {l1 : Int32} {w0 : Int32} {H : Hp} {r : Int32 × Hp} (hF : B_MText_primary_25 N o p0 l1 w0 H = some r) : Ev p0 H r.2 := by
  unfold B_MText_primary_25 at hF
  have hm := Ev.rf (w := p0) H
  rcases ite_s hF with ⟨q_66, hG⟩ | ⟨q_66, hG⟩
  · clear hF
    exact hm.tr (eB_MText_primary_36 hmo hG)
  · clear hF
    rcases ite_s hG with ⟨q_67, hF⟩ | ⟨q_67, hF⟩
    · clear hG
      exact hm.tr (eB_MText_primary_36 hmo hF)
    · clear hG
      exact hm.tr (eB_MText_primary_51 hmo hF)
set_option maxRecDepth 20000 in
set_option maxHeartbeats 2000000 in
theorem e_MText_primary {N : Nat} {o : Orc_TextE} (hmo : eo_TextE o) {p0 : Nat} {H : Hp} {r : Int32 × Hp} (hF : F_MText_primary N o p0 H = some r) : Ev p0 H r.2 := by
  unfold F_MText_primary at hF
  have hm := Ev.rf (w := p0) H
  obtain ⟨q196, hG⟩ := ck_s hF; clear hF
  obtain ⟨x197, -, hF⟩ := bnd_g hG; clear hG
  obtain ⟨x198, -, hG⟩ := bnd_g hF; clear hF
  rcases ite_s hG with ⟨q_68, hF⟩ | ⟨q_68, hF⟩
  · clear hG
    obtain ⟨a200, e201, hG⟩ := rf_s hF; clear hF
    have da200 : isT H p0 → a200 ≠ p0 + 16 ∧ a200 ≠ p0 := fun hi => nT_3 (hm hi).1 e201
    obtain ⟨x202, -, hF⟩ := bnd_g hG; clear hG
    obtain ⟨n203, q204, hG⟩ := ar_s hF; clear hF
    obtain ⟨q205, hF⟩ := ck_s hG; clear hG
    obtain ⟨x206, -, hG⟩ := bnd_g hF; clear hF
    exact hm.tr (eB_MText_primary_25 hmo hG)
  · clear hG
    exact hm.tr (eB_MText_primary_25 hmo hF)
set_option maxRecDepth 20000 in
set_option maxHeartbeats 2000000 in
theorem eB_MText_unary_96 {N : Nat} {o : Orc_TextE} (hmo : eo_TextE o) {p0 : Nat} {l1 : Int32} {l2 : Int32} {H : Hp} {r : Int32 × Hp} (hF : B_MText_unary_96 N o p0 l1 l2 H = some r) : Ev p0 H r.2 := by
  unfold B_MText_unary_96 at hF
  have hm := Ev.rf (w := p0) H
  obtain ⟨q27, hG⟩ := ck_s hF; clear hF
  obtain ⟨a28, e29, hF⟩ := rf_s hG; clear hG
  have da28 : isT H p0 → a28 ≠ p0 + 16 ∧ a28 ≠ p0 := fun hi => nT_8 (hm hi).1 e29
  obtain ⟨n30, q31, hG⟩ := ar_s hF; clear hF
  obtain ⟨q32, hF⟩ := ck_s hG; clear hG
  obtain ⟨H33, eH33, hG⟩ := bnd_g hF; clear hF
  replace hm : Ev p0 H H33 := by rw [eH33]; exact hm.w (fun hi => by first | omega | exact ⟨(da28 hi).1, fun y => (da28 hi).2 y.1⟩)
  have hr := Option.some.inj hG; subst hr
  exact hm
set_option maxRecDepth 20000 in
set_option maxHeartbeats 2000000 in
theorem eB_MText_unary_90 {N : Nat} {o : Orc_TextE} (hmo : eo_TextE o) {p0 : Nat} {l1 : Int32} {l2 : Int32} {H : Hp} {r : Int32 × Hp} (hF : B_MText_unary_90 N o p0 l1 l2 H = some r) : Ev p0 H r.2 := by
  unfold B_MText_unary_90 at hF
  have hm := Ev.rf (w := p0) H
  obtain ⟨q49, hG⟩ := ck_s hF; clear hF
  obtain ⟨v51, H52, z50, hF⟩ := bC_s hG; clear hG
  replace hm : Ev p0 H H52 := hm.tr (e_MText_fails z50)
  exact hm.tr (eB_MText_unary_96 hmo hF)
set_option maxRecDepth 20000 in
set_option maxHeartbeats 2000000 in
theorem eB_MText_unary_23 {N : Nat} {o : Orc_TextE} (hmo : eo_TextE o) {p0 : Nat}  {H : Hp} {r : Int32 × Hp} (hF : B_MText_unary_23 N o p0  H = some r) : Ev p0 H r.2 := by
  unfold B_MText_unary_23 at hF
  have hm := Ev.rf (w := p0) H
  obtain ⟨q54, hG⟩ := ck_s hF; clear hF
  obtain ⟨x55, -, hF⟩ := bnd_g hG; clear hG
  obtain ⟨v57, H58, z56, hG⟩ := bC_s hF; clear hF
  replace hm : Ev p0 H H58 := hm.tr (e_MText_deeper z56)
  obtain ⟨x59, -, hF⟩ := bnd_g hG; clear hG
  obtain ⟨H60, eH60, hG⟩ := bnd_g hF; clear hF
  replace hm : Ev p0 H H60 := by rw [eH60]; exact hm.w (fun hi => by first | omega)
  obtain ⟨v62, H63, z61, hF⟩ := bC_s hG; clear hG
  replace hm : Ev p0 H H63 := hm.tr (hmo.2 _ _ _ z61)
  obtain ⟨x64, -, hG⟩ := bnd_g hF; clear hF
  obtain ⟨H65, eH65, hF⟩ := bnd_g hG; clear hG
  replace hm : Ev p0 H H65 := by rw [eH65]; exact hm.w (fun hi => by first | omega)
  obtain ⟨x66, -, hG⟩ := bnd_g hF; clear hF
  rcases ite_s hG with ⟨q_15, hF⟩ | ⟨q_15, hF⟩
  · clear hG
    obtain ⟨a68, e69, hG⟩ := rf_s hF; clear hF
    have da68 : isT H p0 → a68 ≠ p0 + 16 ∧ a68 ≠ p0 := fun hi => nT_3 (hm hi).1 e69
    obtain ⟨n70, q71, hF⟩ := ar_s hG; clear hG
    obtain ⟨q72, hG⟩ := ck_s hF; clear hF
    obtain ⟨x73, -, hF⟩ := bnd_g hG; clear hG
    rcases ite_s hF with ⟨q_16, hG⟩ | ⟨q_16, hG⟩
    · clear hF
      rcases ite_s hG with ⟨q_17, hF⟩ | ⟨q_17, hF⟩
      · clear hG
        exact hm.tr (eB_MText_unary_96 hmo hF)
      · clear hG
        exact hm.tr (eB_MText_unary_90 hmo hF)
    · clear hF
      obtain ⟨v77, H78, z76, hF⟩ := bC_s hG; clear hG
      replace hm : Ev p0 H H78 := hm.tr (e_MText_reckons z76)
      rcases ite_s hF with ⟨q_19, hG⟩ | ⟨q_19, hG⟩
      · clear hF
        exact hm.tr (eB_MText_unary_90 hmo hG)
      · clear hF
        exact hm.tr (eB_MText_unary_96 hmo hG)
  · clear hG
    exact hm.tr (eB_MText_unary_96 hmo hF)
set_option maxRecDepth 20000 in
set_option maxHeartbeats 2000000 in
theorem e_MText_unary {N : Nat} {o : Orc_TextE} (hmo : eo_TextE o) {p0 : Nat} {H : Hp} {r : Int32 × Hp} (hF : F_MText_unary N o p0 H = some r) : Ev p0 H r.2 := by
  unfold F_MText_unary at hF
  have hm := Ev.rf (w := p0) H
  obtain ⟨q87, hG⟩ := ck_s hF; clear hF
  obtain ⟨v89, H90, z88, hF⟩ := bC_s hG; clear hG
  replace hm : Ev p0 H H90 := hm.tr (e_MText_is z88)
  rcases ite_s hF with ⟨q_23, hG⟩ | ⟨q_23, hG⟩
  · clear hF
    obtain ⟨v93, H94, z92, hF⟩ := bC_s hG; clear hG
    replace hm : Ev p0 H H94 := hm.tr (e_MText_is z92)
    rcases ite_s hF with ⟨q_25, hG⟩ | ⟨q_25, hG⟩
    · clear hF
      obtain ⟨v97, H98, z96, hF⟩ := bC_s hG; clear hG
      replace hm : Ev p0 H H98 := hm.tr (e_MText_primary hmo z96)
      have hr := Option.some.inj hF; subst hr
      exact hm
    · clear hF
      exact hm.tr (eB_MText_unary_23 hmo hG)
  · clear hF
    exact hm.tr (eB_MText_unary_23 hmo hG)
set_option maxRecDepth 20000 in
set_option maxHeartbeats 2000000 in
theorem eB_MText_product_81 {N : Nat} {o : Orc_TextE} (hmo : eo_TextE o) {p0 : Nat} {kq5 : Int32 → Hp → Option (Int32 × Hp)} (hm5 : ∀ (l1 : Int32) (H : Hp) (r : Int32 × Hp), kq5 l1 H = some r → Ev p0 H r.2) {w1 : Int32} {w2 : Int32} {w3 : Int32} {w4 : Int32} {H : Hp} {r : Int32 × Hp} (hF : B_MText_product_81 N o p0 kq5 p0 w1 w2 w3 w4 H = some r) : Ev p0 H r.2 := by
  unfold B_MText_product_81 at hF
  have hm := Ev.rf (w := p0) H
  obtain ⟨q31, hG⟩ := ck_s hF; clear hF
  obtain ⟨v33, H34, z32, hF⟩ := bC_s hG; clear hG
  replace hm : Ev p0 H H34 := hm.tr (e_MText_goTogether z32)
  exact hm.tr (hm5 v33 H34 r hF)
set_option maxRecDepth 20000 in
set_option maxHeartbeats 2000000 in
theorem eB_MText_product_32 {N : Nat} {o : Orc_TextE} (hmo : eo_TextE o) {p0 : Nat} {kq5 : Int32 → Hp → Option (Int32 × Hp)} (hm5 : ∀ (l1 : Int32) (H : Hp) (r : Int32 × Hp), kq5 l1 H = some r → Ev p0 H r.2) {l1 : Int32} {H : Hp} {r : Int32 × Hp} (hF : B_MText_product_32 N o p0 kq5 l1 H = some r) : Ev p0 H r.2 := by
  unfold B_MText_product_32 at hF
  have hm := Ev.rf (w := p0) H
  obtain ⟨q36, hG⟩ := ck_s hF; clear hF
  obtain ⟨x37, -, hF⟩ := bnd_g hG; clear hG
  obtain ⟨x38, -, hG⟩ := bnd_g hF; clear hF
  obtain ⟨H39, eH39, hF⟩ := bnd_g hG; clear hG
  replace hm : Ev p0 H H39 := by rw [eH39]; exact hm.w (fun hi => by first | omega)
  obtain ⟨v41, H42, z40, hG⟩ := bC_s hF; clear hF
  replace hm : Ev p0 H H42 := hm.tr (hmo.2 _ _ _ z40)
  obtain ⟨a43, e44, hF⟩ := rf_s hG; clear hG
  have da43 : isT H p0 → a43 ≠ p0 + 16 ∧ a43 ≠ p0 := fun hi => nT_3 (hm hi).1 e44
  obtain ⟨n45, q46, hG⟩ := ar_s hF; clear hF
  obtain ⟨q47, hF⟩ := ck_s hG; clear hG
  obtain ⟨x48, -, hG⟩ := bnd_g hF; clear hF
  rcases ite_s hG with ⟨q_10, hF⟩ | ⟨q_10, hF⟩
  · clear hG
    rcases ite_s hF with ⟨q_11, hG⟩ | ⟨q_11, hG⟩
    · clear hF
      exact hm.tr (eB_MText_product_81 hmo hm5 hG)
    · clear hF
      exact hm.tr (eB_MText_product_81 hmo hm5 hG)
  · clear hG
    obtain ⟨v52, H53, z51, hG⟩ := bC_s hF; clear hF
    replace hm : Ev p0 H H53 := hm.tr (e_MText_reckons z51)
    exact hm.tr (eB_MText_product_81 hmo hm5 hG)
set_option maxRecDepth 20000 in
set_option maxHeartbeats 2000000 in
theorem eB_MText_product_5 {N : Nat} {o : Orc_TextE} (hmo : eo_TextE o) {p0 : Nat} : ∀ (n : Nat) (l1 : Int32) (H : Hp) (r : Int32 × Hp), B_MText_product_5 N o p0 n l1 H = some r → Ev p0 H r.2 := by
  intro n
  induction n with
  | zero => intro l1 H r hF; rw [B_MText_product_5] at hF; cases hF
  | succ n ih =>
    intro l1 H r hF
    rw [B_MText_product_5] at hF
    have hm := Ev.rf (w := p0) H
    obtain ⟨q62, hG⟩ := ck_s hF; clear hF
    obtain ⟨v64, H65, z63, hF⟩ := bC_s hG; clear hG
    replace hm : Ev p0 H H65 := hm.tr (e_MText_is z63)
    rcases ite_s hF with ⟨q_16, hG⟩ | ⟨q_16, hG⟩
    · clear hF
      obtain ⟨v68, H69, z67, hF⟩ := bC_s hG; clear hG
      replace hm : Ev p0 H H69 := hm.tr (e_MText_is z67)
      rcases ite_s hF with ⟨q_18, hG⟩ | ⟨q_18, hG⟩
      · clear hF
        obtain ⟨v72, H73, z71, hF⟩ := bC_s hG; clear hG
        replace hm : Ev p0 H H73 := hm.tr (e_MText_is z71)
        rcases ite_s hF with ⟨q_20, hG⟩ | ⟨q_20, hG⟩
        · clear hF
          have hr := Option.some.inj hG; subst hr
          exact hm
        · clear hF
          exact hm.tr (eB_MText_product_32 hmo ih hG)
      · clear hF
        exact hm.tr (eB_MText_product_32 hmo ih hG)
    · clear hF
      exact hm.tr (eB_MText_product_32 hmo ih hG)
set_option maxRecDepth 20000 in
set_option maxHeartbeats 2000000 in
theorem e_MText_product {N : Nat} {o : Orc_TextE} (hmo : eo_TextE o) {p0 : Nat} {H : Hp} {r : Int32 × Hp} (hF : F_MText_product N o p0 H = some r) : Ev p0 H r.2 := by
  unfold F_MText_product at hF
  have hm := Ev.rf (w := p0) H
  obtain ⟨q75, hG⟩ := ck_s hF; clear hF
  obtain ⟨v77, H78, z76, hF⟩ := bC_s hG; clear hG
  replace hm : Ev p0 H H78 := hm.tr (hmo.2 _ _ _ z76)
  exact hm.tr (eB_MText_product_5 hmo N v77 H78 r hF)
set_option maxRecDepth 20000 in
set_option maxHeartbeats 2000000 in
theorem eB_MText_sum_23 {N : Nat} {o : Orc_TextE} (hmo : eo_TextE o) {p0 : Nat} {kq5 : Int32 → Hp → Option (Int32 × Hp)} (hm5 : ∀ (l1 : Int32) (H : Hp) (r : Int32 × Hp), kq5 l1 H = some r → Ev p0 H r.2) {l1 : Int32} {H : Hp} {r : Int32 × Hp} (hF : B_MText_sum_23 N o p0 kq5 l1 H = some r) : Ev p0 H r.2 := by
  unfold B_MText_sum_23 at hF
  have hm := Ev.rf (w := p0) H
  obtain ⟨q23, hG⟩ := ck_s hF; clear hF
  obtain ⟨x24, -, hF⟩ := bnd_g hG; clear hG
  obtain ⟨x25, -, hG⟩ := bnd_g hF; clear hF
  obtain ⟨H26, eH26, hF⟩ := bnd_g hG; clear hG
  replace hm : Ev p0 H H26 := by rw [eH26]; exact hm.w (fun hi => by first | omega)
  obtain ⟨v28, H29, z27, hG⟩ := bC_s hF; clear hF
  replace hm : Ev p0 H H29 := hm.tr (e_MText_product hmo z27)
  obtain ⟨v31, H32, z30, hF⟩ := bC_s hG; clear hG
  replace hm : Ev p0 H H32 := hm.tr (e_MText_reckons z30)
  obtain ⟨v34, H35, z33, hG⟩ := bC_s hF; clear hF
  replace hm : Ev p0 H H35 := hm.tr (e_MText_goTogether z33)
  exact hm.tr (hm5 v34 H35 r hG)
set_option maxRecDepth 20000 in
set_option maxHeartbeats 2000000 in
theorem eB_MText_sum_5 {N : Nat} {o : Orc_TextE} (hmo : eo_TextE o) {p0 : Nat} : ∀ (n : Nat) (l1 : Int32) (H : Hp) (r : Int32 × Hp), B_MText_sum_5 N o p0 n l1 H = some r → Ev p0 H r.2 := by
  intro n
  induction n with
  | zero => intro l1 H r hF; rw [B_MText_sum_5] at hF; cases hF
  | succ n ih =>
    intro l1 H r hF
    rw [B_MText_sum_5] at hF
    have hm := Ev.rf (w := p0) H
    obtain ⟨q40, hG⟩ := ck_s hF; clear hF
    obtain ⟨v42, H43, z41, hF⟩ := bC_s hG; clear hG
    replace hm : Ev p0 H H43 := hm.tr (e_MText_is z41)
    rcases ite_s hF with ⟨q_13, hG⟩ | ⟨q_13, hG⟩
    · clear hF
      obtain ⟨v46, H47, z45, hF⟩ := bC_s hG; clear hG
      replace hm : Ev p0 H H47 := hm.tr (e_MText_is z45)
      rcases ite_s hF with ⟨q_15, hG⟩ | ⟨q_15, hG⟩
      · clear hF
        have hr := Option.some.inj hG; subst hr
        exact hm
      · clear hF
        exact hm.tr (eB_MText_sum_23 hmo ih hG)
    · clear hF
      exact hm.tr (eB_MText_sum_23 hmo ih hG)
set_option maxRecDepth 20000 in
set_option maxHeartbeats 2000000 in
theorem e_MText_sum {N : Nat} {o : Orc_TextE} (hmo : eo_TextE o) {p0 : Nat} {H : Hp} {r : Int32 × Hp} (hF : F_MText_sum N o p0 H = some r) : Ev p0 H r.2 := by
  unfold F_MText_sum at hF
  have hm := Ev.rf (w := p0) H
  obtain ⟨q49, hG⟩ := ck_s hF; clear hF
  obtain ⟨v51, H52, z50, hF⟩ := bC_s hG; clear hG
  replace hm : Ev p0 H H52 := hm.tr (e_MText_product hmo z50)
  exact hm.tr (eB_MText_sum_5 hmo N v51 H52 r hF)
set_option maxRecDepth 20000 in
set_option maxHeartbeats 2000000 in
theorem eB_MText_compared_72 {N : Nat} {o : Orc_TextE} (hmo : eo_TextE o) {p0 : Nat} {w1 : Int32} {w2 : Int32} {w3 : Int32} {w4 : Int32} {H : Hp} {r : Int32 × Hp} (hF : B_MText_compared_72 N o p0 p0 w1 w2 w3 w4 H = some r) : Ev p0 H r.2 := by
  unfold B_MText_compared_72 at hF
  have hm := Ev.rf (w := p0) H
  obtain ⟨q21, hG⟩ := ck_s hF; clear hF
  obtain ⟨v23, H24, z22, hF⟩ := bC_s hG; clear hG
  replace hm : Ev p0 H H24 := hm.tr (e_MText_goTogether z22)
  have hr := Option.some.inj hF; subst hr
  exact hm
set_option maxRecDepth 20000 in
set_option maxHeartbeats 2000000 in
theorem eB_MText_compared_67 {N : Nat} {o : Orc_TextE} (hmo : eo_TextE o) {p0 : Nat} {w1 : Int32} {w2 : Int32} {w3 : Int32} {H : Hp} {r : Int32 × Hp} (hF : B_MText_compared_67 N o p0 p0 w1 w2 w3 H = some r) : Ev p0 H r.2 := by
  unfold B_MText_compared_67 at hF
  have hm := Ev.rf (w := p0) H
  exact hm.tr (eB_MText_compared_72 hmo hF)
set_option maxRecDepth 20000 in
set_option maxHeartbeats 2000000 in
theorem eB_MText_compared_34 {N : Nat} {o : Orc_TextE} (hmo : eo_TextE o) {p0 : Nat} {l1 : Int32} {l2 : Int32} {H : Hp} {r : Int32 × Hp} (hF : B_MText_compared_34 N o p0 l1 l2 H = some r) : Ev p0 H r.2 := by
  unfold B_MText_compared_34 at hF
  have hm := Ev.rf (w := p0) H
  obtain ⟨q29, hG⟩ := ck_s hF; clear hF
  obtain ⟨x30, -, hF⟩ := bnd_g hG; clear hG
  obtain ⟨x31, -, hG⟩ := bnd_g hF; clear hF
  obtain ⟨H32, eH32, hF⟩ := bnd_g hG; clear hG
  replace hm : Ev p0 H H32 := by rw [eH32]; exact hm.w (fun hi => by first | omega)
  obtain ⟨v34, H35, z33, hG⟩ := bC_s hF; clear hF
  replace hm : Ev p0 H H35 := hm.tr (e_MText_sum hmo z33)
  rcases ite_s hG with ⟨q_10, hF⟩ | ⟨q_10, hF⟩
  · clear hG
    exact hm.tr (eB_MText_compared_67 hmo hF)
  · clear hG
    obtain ⟨v38, H39, z37, hG⟩ := bC_s hF; clear hF
    replace hm : Ev p0 H H39 := hm.tr (e_MText_reckons z37)
    rcases ite_s hG with ⟨q_12, hF⟩ | ⟨q_12, hF⟩
    · clear hG
      exact hm.tr (eB_MText_compared_72 hmo hF)
    · clear hG
      exact hm.tr (eB_MText_compared_67 hmo hF)
set_option maxRecDepth 20000 in
set_option maxHeartbeats 2000000 in
theorem e_MText_compared {N : Nat} {o : Orc_TextE} (hmo : eo_TextE o) {p0 : Nat} {H : Hp} {r : Int32 × Hp} (hF : F_MText_compared N o p0 H = some r) : Ev p0 H r.2 := by
  unfold F_MText_compared at hF
  have hm := Ev.rf (w := p0) H
  obtain ⟨q49, hG⟩ := ck_s hF; clear hF
  obtain ⟨v51, H52, z50, hF⟩ := bC_s hG; clear hG
  replace hm : Ev p0 H H52 := hm.tr (e_MText_sum hmo z50)
  obtain ⟨v54, H55, z53, hG⟩ := bC_s hF; clear hF
  replace hm : Ev p0 H H55 := hm.tr (e_MText_isLess z53)
  rcases ite_s hG with ⟨q_17, hF⟩ | ⟨q_17, hF⟩
  · clear hG
    obtain ⟨v58, H59, z57, hG⟩ := bC_s hF; clear hF
    replace hm : Ev p0 H H59 := hm.tr (e_MText_is z57)
    rcases ite_s hG with ⟨q_19, hF⟩ | ⟨q_19, hF⟩
    · clear hG
      obtain ⟨v62, H63, z61, hG⟩ := bC_s hF; clear hF
      replace hm : Ev p0 H H63 := hm.tr (e_MText_is z61)
      rcases ite_s hG with ⟨q_21, hF⟩ | ⟨q_21, hF⟩
      · clear hG
        have hr := Option.some.inj hF; subst hr
        exact hm
      · clear hG
        exact hm.tr (eB_MText_compared_34 hmo hF)
    · clear hG
      exact hm.tr (eB_MText_compared_34 hmo hF)
  · clear hG
    exact hm.tr (eB_MText_compared_34 hmo hF)
set_option maxRecDepth 20000 in
set_option maxHeartbeats 2000000 in
theorem eB_MText_both_46 {N : Nat} {o : Orc_TextE} (hmo : eo_TextE o) {p0 : Nat} {kq5 : Int32 → Hp → Option (Int32 × Hp)} (hm5 : ∀ (l1 : Int32) (H : Hp) (r : Int32 × Hp), kq5 l1 H = some r → Ev p0 H r.2) {w1 : Int32} {w2 : Int32} {w3 : Int32} {w4 : Int32} {H : Hp} {r : Int32 × Hp} (hF : B_MText_both_46 N o p0 kq5 p0 w1 w2 w3 w4 H = some r) : Ev p0 H r.2 := by
  unfold B_MText_both_46 at hF
  have hm := Ev.rf (w := p0) H
  obtain ⟨q21, hG⟩ := ck_s hF; clear hF
  obtain ⟨v23, H24, z22, hF⟩ := bC_s hG; clear hG
  replace hm : Ev p0 H H24 := hm.tr (e_MText_goTogether z22)
  exact hm.tr (hm5 v23 H24 r hF)
set_option maxRecDepth 20000 in
set_option maxHeartbeats 2000000 in
theorem eB_MText_both_5 {N : Nat} {o : Orc_TextE} (hmo : eo_TextE o) {p0 : Nat} : ∀ (n : Nat) (l1 : Int32) (H : Hp) (r : Int32 × Hp), B_MText_both_5 N o p0 n l1 H = some r → Ev p0 H r.2 := by
  intro n
  induction n with
  | zero => intro l1 H r hF; rw [B_MText_both_5] at hF; cases hF
  | succ n ih =>
    intro l1 H r hF
    rw [B_MText_both_5] at hF
    have hm := Ev.rf (w := p0) H
    obtain ⟨q25, hG⟩ := ck_s hF; clear hF
    obtain ⟨v27, H28, z26, hF⟩ := bC_s hG; clear hG
    replace hm : Ev p0 H H28 := hm.tr (e_MText_is z26)
    rcases ite_s hF with ⟨q_8, hG⟩ | ⟨q_8, hG⟩
    · clear hF
      have hr := Option.some.inj hG; subst hr
      exact hm
    · clear hF
      obtain ⟨x30, -, hF⟩ := bnd_g hG; clear hG
      obtain ⟨x31, -, hG⟩ := bnd_g hF; clear hF
      obtain ⟨H32, eH32, hF⟩ := bnd_g hG; clear hG
      replace hm : Ev p0 H H32 := by rw [eH32]; exact hm.w (fun hi => by first | omega)
      obtain ⟨v34, H35, z33, hG⟩ := bC_s hF; clear hF
      replace hm : Ev p0 H H35 := hm.tr (e_MText_compared hmo z33)
      rcases ite_s hG with ⟨q_11, hF⟩ | ⟨q_11, hF⟩
      · clear hG
        exact hm.tr (eB_MText_both_46 hmo ih hF)
      · clear hG
        exact hm.tr (eB_MText_both_46 hmo ih hF)
set_option maxRecDepth 20000 in
set_option maxHeartbeats 2000000 in
theorem e_MText_both {N : Nat} {o : Orc_TextE} (hmo : eo_TextE o) {p0 : Nat} {H : Hp} {r : Int32 × Hp} (hF : F_MText_both N o p0 H = some r) : Ev p0 H r.2 := by
  unfold F_MText_both at hF
  have hm := Ev.rf (w := p0) H
  obtain ⟨q37, hG⟩ := ck_s hF; clear hF
  obtain ⟨v39, H40, z38, hF⟩ := bC_s hG; clear hG
  replace hm : Ev p0 H H40 := hm.tr (e_MText_compared hmo z38)
  exact hm.tr (eB_MText_both_5 hmo N v39 H40 r hF)
