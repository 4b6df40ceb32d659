set_option maxRecDepth 20000 in
set_option maxHeartbeats 2000000 in
theorem g_W_make {N : Nat} {Q : Nat → Prop} {p0 : Nat} {p1 : Int32} {H : Hp} {r : Int32 × Hp} (hF : F_W_make N p0 p1 H = some r) (hc0 : Cl Q H) (q_p0 : Q p0) : Rg Q H r.2 := by
  unfold F_W_make at hF
  have hm := Rg.rf hc0
  obtain ⟨q71, hG⟩ := ck_s hF; clear hF
  obtain ⟨a72, e73, hF⟩ := rf_s hG; clear hG
  have qa72 : Q a72 := hm.1 _ _ _ q_p0 e73
  obtain ⟨q74, hG⟩ := ck_s hF; clear hF
  obtain ⟨v76, H77, z75, hF⟩ := bC_s hG; clear hG
  have gz_11 := (g_Play_isQuiet z75 hm.1 qa72)
  replace hm : Rg Q H H77 := hm.tr gz_11
  have s_12 : Sa H H77 := (m_Play_isQuiet z75)
  rcases ite_s hF with ⟨q_13, hG⟩ | ⟨q_13, hG⟩
  · clear hF
    have hr := Option.some.inj hG; subst hr
    exact hm
  · clear hF
    rcases ite_s hG with ⟨q_14, hF⟩ | ⟨q_14, hF⟩
    · clear hG
      have hr := Option.some.inj hF; subst hr
      exact hm
    · clear hG
      obtain ⟨a80, e81, hG⟩ := rf_s hF; clear hF
      have qa80 : Q a80 := hm.1 _ _ _ q_p0 e81
      obtain ⟨q82, hF⟩ := ck_s hG; clear hG
      rw [(s_12).1] at q82
      obtain ⟨x83, -, hG⟩ := bnd_g hF; clear hF
      rcases ite_s hG with ⟨q_15, hF⟩ | ⟨q_15, hF⟩
      · clear hG
        obtain ⟨a85, e86, hG⟩ := rf_s hF; clear hF
        have qa85 : Q a85 := hm.1 _ _ _ q_p0 e86
        obtain ⟨q87, hF⟩ := ck_s hG; clear hG
        rw [(s_12).1] at q87
        obtain ⟨a88, e89, hG⟩ := rf_s hF; clear hF
        have qa88 : Q a88 := hm.1 _ _ _ qa85 e89
        obtain ⟨a90, e91, hF⟩ := rf_s hG; clear hG
        have qa90 : Q a90 := hm.1 _ _ _ q_p0 e91
        obtain ⟨q92, hG⟩ := ck_s hF; clear hF
        rw [(s_12).1] at q92
        obtain ⟨v94, H95, z93, hF⟩ := bC_s hG; clear hG
        have gz_16 := (g_World_bear z93 hm.1 qa88 qa90)
        replace hm : Rg Q H H95 := hm.tr gz_16
        have s_17 : Sa H H95 := (s_12).tr (m_World_bear z93)
        rcases ite_s hF with ⟨q_18, hG⟩ | ⟨q_18, hG⟩
        · clear hF
          obtain ⟨a97, e98, hF⟩ := rf_s hG; clear hG
          have qa97 : Q a97 := hm.1 _ _ _ q_p0 e98
          obtain ⟨q99, hG⟩ := ck_s hF; clear hF
          rw [(s_17).1] at q99
          obtain ⟨a100, e101, hF⟩ := rf_s hG; clear hG
          have qa100 : Q a100 := hm.1 _ _ _ qa97 e101
          obtain ⟨q102, hG⟩ := ck_s hF; clear hF
          rw [(s_17).1] at q102
          obtain ⟨v104, H105, z103, hF⟩ := bC_s hG; clear hG
          have gz_19 := (g_World_numberAt z103 hm.1 qa100)
          replace hm : Rg Q H H105 := hm.tr gz_19
          have s_20 : Sa H H105 := (s_17).tr (m_World_numberAt z103)
          have hr := Option.some.inj hF; subst hr
          exact hm
        · clear hF
          have hr := Option.some.inj hG; subst hr
          exact hm
      · clear hG
        have hr := Option.some.inj hF; subst hr
        exact hm
set_option maxRecDepth 20000 in
set_option maxHeartbeats 2000000 in
theorem gB_W_change_97 {N : Nat} {Q : Nat → Prop} {p0 : Nat} {p1 : Int32} {p2 : Int32} {p3 : Int32} (q_p0 : Q p0) {l4 : Nat} {l5 : Int32} {w0 : Int32} {w1 : Int32} {H : Hp} {r : Int32 × Hp} (hF : B_W_change_97 N p0 p1 p2 p3 l4 l5 w0 w1 H = some r) (hc0 : Cl Q H) (q_l4 : Q l4) : Rg Q H r.2 := by
  unfold B_W_change_97 at hF
  have hm := Rg.rf hc0
  rcases ite_s hF with ⟨q_23, hG⟩ | ⟨q_23, hG⟩
  · clear hF
    have hr := Option.some.inj hG; subst hr
    exact hm
  · clear hF
    rcases ite_s hG with ⟨q_24, hF⟩ | ⟨q_24, hF⟩
    · clear hG
      obtain ⟨q103, hG⟩ := ck_s hF; clear hF
      obtain ⟨a104, e105, hF⟩ := rf_s hG; clear hG
      have qa104 : Q a104 := hm.1 _ _ _ q_p0 e105
      obtain ⟨q106, hG⟩ := ck_s hF; clear hF
      obtain ⟨v108, H109, z107, hF⟩ := bC_s hG; clear hG
      have gz_25 := (g_World_giveAt z107 hm.1 q_l4 qa104)
      replace hm : Rg Q H H109 := hm.tr gz_25
      have s_26 : Sa H H109 := (m_World_giveAt z107)
      have hr := Option.some.inj hF; subst hr
      exact hm
    · clear hG
      obtain ⟨q110, hG⟩ := ck_s hF; clear hF
      obtain ⟨v112, H113, z111, hF⟩ := bC_s hG; clear hG
      have gz_27 := (g_World_takeAt z111 hm.1 q_l4)
      replace hm : Rg Q H H113 := hm.tr gz_27
      have s_28 : Sa H H113 := (m_World_takeAt z111)
      have hr := Option.some.inj hF; subst hr
      exact hm
set_option maxRecDepth 20000 in
set_option maxHeartbeats 2000000 in
theorem g_W_change {N : Nat} {Q : Nat → Prop} {p0 : Nat} {p1 : Int32} {p2 : Int32} {p3 : Int32} {H : Hp} {r : Int32 × Hp} (hF : F_W_change N p0 p1 p2 p3 H = some r) (hc0 : Cl Q H) (q_p0 : Q p0) : Rg Q H r.2 := by
  unfold F_W_change at hF
  have hm := Rg.rf hc0
  obtain ⟨q114, hG⟩ := ck_s hF; clear hF
  obtain ⟨a115, e116, hF⟩ := rf_s hG; clear hG
  have qa115 : Q a115 := hm.1 _ _ _ q_p0 e116
  obtain ⟨q117, hG⟩ := ck_s hF; clear hF
  obtain ⟨v119, H120, z118, hF⟩ := bC_s hG; clear hG
  have gz_29 := (g_Play_isQuiet z118 hm.1 qa115)
  replace hm : Rg Q H H120 := hm.tr gz_29
  have s_30 : Sa H H120 := (m_Play_isQuiet z118)
  rcases ite_s hF with ⟨q_31, hG⟩ | ⟨q_31, hG⟩
  · clear hF
    have hr := Option.some.inj hG; subst hr
    exact hm
  · clear hF
    obtain ⟨a122, e123, hF⟩ := rf_s hG; clear hG
    have qa122 : Q a122 := hm.1 _ _ _ q_p0 e123
    obtain ⟨q124, hG⟩ := ck_s hF; clear hF
    rw [(s_30).1] at q124
    obtain ⟨a125, e126, hF⟩ := rf_s hG; clear hG
    have qa125 : Q a125 := hm.1 _ _ _ qa122 e126
    obtain ⟨q127, hG⟩ := ck_s hF; clear hF
    rw [(s_30).1] at q127
    obtain ⟨v129, H130, z128, hF⟩ := bC_s hG; clear hG
    have gz_32 := (g_World_placeOf z128 hm.1 qa125)
    replace hm : Rg Q H H130 := hm.tr gz_32
    have s_33 : Sa H H130 := (s_30).tr (m_World_placeOf z128)
    rcases ite_s hF with ⟨q_34, hG⟩ | ⟨q_34, hG⟩
    · clear hF
      have hr := Option.some.inj hG; subst hr
      exact hm
    · clear hF
      rcases ite_s hG with ⟨q_35, hF⟩ | ⟨q_35, hF⟩
      · clear hG
        have hr := Option.some.inj hF; subst hr
        exact hm
      · clear hG
        rcases ite_s hF with ⟨q_36, hG⟩ | ⟨q_36, hG⟩
        · clear hF
          rcases ite_s hG with ⟨q_37, hF⟩ | ⟨q_37, hF⟩
          · clear hG
            obtain ⟨v136, H137, z135, hG⟩ := bC_s hF; clear hF
            have gz_38 := (g_World_remove z135 hm.1 qa125)
            replace hm : Rg Q H H137 := hm.tr gz_38
            have s_39 : Sa H H137 := (s_33).tr (m_World_remove z135)
            have hr := Option.some.inj hG; subst hr
            exact hm
          · clear hG
            rcases ite_s hF with ⟨q_40, hG⟩ | ⟨q_40, hG⟩
            · clear hF
              have hr := Option.some.inj hG; subst hr
              exact hm
            · clear hF
              obtain ⟨a139, e140, hF⟩ := rf_s hG; clear hG
              have qa139 : Q a139 := hm.1 _ _ _ q_p0 e140
              obtain ⟨q141, hG⟩ := ck_s hF; clear hF
              rw [(s_33).1] at q141
              obtain ⟨a142, e143, hF⟩ := rf_s hG; clear hG
              have qa142 : Q a142 := hm.1 _ _ _ qa139 e143
              obtain ⟨q144, hG⟩ := ck_s hF; clear hF
              rw [(s_33).1] at q144
              obtain ⟨x145, -, hF⟩ := bnd_g hG; clear hG
              rcases ite_s hF with ⟨q_41, hG⟩ | ⟨q_41, hG⟩
              · clear hF
                obtain ⟨v148, H149, z147, hF⟩ := bC_s hG; clear hG
                have gz_42 := (g_World_owns z147 hm.1 qa125)
                replace hm : Rg Q H H149 := hm.tr gz_42
                have s_43 : Sa H H149 := (s_33).tr (m_World_owns z147)
                rcases ite_s hF with ⟨q_44, hG⟩ | ⟨q_44, hG⟩
                · clear hF
                  exact hm.tr (gB_W_change_97 q_p0 hG hm.1 qa125)
                · clear hF
                  exact hm.tr (gB_W_change_97 q_p0 hG hm.1 qa125)
              · clear hF
                have hr := Option.some.inj hG; subst hr
                exact hm
        · clear hF
          have hr := Option.some.inj hG; subst hr
          exact hm
set_option maxRecDepth 20000 in
set_option maxHeartbeats 2000000 in
theorem g_W_has {N : Nat} {Q : Nat → Prop} {p0 : Nat} {p1 : Int32} {p2 : Int32} {H : Hp} {r : Int32 × Hp} (hF : F_W_has N p0 p1 p2 H = some r) (hc0 : Cl Q H) (q_p0 : Q p0) : Rg Q H r.2 := by
  unfold F_W_has at hF
  have hm := Rg.rf hc0
  obtain ⟨q61, hG⟩ := ck_s hF; clear hF
  obtain ⟨a62, e63, hF⟩ := rf_s hG; clear hG
  have qa62 : Q a62 := hm.1 _ _ _ q_p0 e63
  obtain ⟨q64, hG⟩ := ck_s hF; clear hF
  obtain ⟨a65, e66, hF⟩ := rf_s hG; clear hG
  have qa65 : Q a65 := hm.1 _ _ _ qa62 e66
  obtain ⟨q67, hG⟩ := ck_s hF; clear hF
  obtain ⟨v69, H70, z68, hF⟩ := bC_s hG; clear hG
  have gz_8 := (g_World_placeOf z68 hm.1 qa65)
  replace hm : Rg Q H H70 := hm.tr gz_8
  have s_9 : Sa H H70 := (m_World_placeOf z68)
  rcases ite_s hF with ⟨q_10, hG⟩ | ⟨q_10, hG⟩
  · clear hF
    have hr := Option.some.inj hG; subst hr
    exact hm
  · clear hF
    rcases ite_s hG with ⟨q_11, hF⟩ | ⟨q_11, hF⟩
    · clear hG
      have hr := Option.some.inj hF; subst hr
      exact hm
    · clear hG
      obtain ⟨a73, e74, hG⟩ := rf_s hF; clear hF
      have qa73 : Q a73 := hm.1 _ _ _ q_p0 e74
      obtain ⟨q75, hF⟩ := ck_s hG; clear hG
      rw [(s_9).1] at q75
      obtain ⟨a76, e77, hG⟩ := rf_s hF; clear hF
      have qa76 : Q a76 := hm.1 _ _ _ qa73 e77
      obtain ⟨q78, hF⟩ := ck_s hG; clear hG
      rw [(s_9).1] at q78
      obtain ⟨x79, -, hG⟩ := bnd_g hF; clear hF
      rcases ite_s hG with ⟨q_12, hF⟩ | ⟨q_12, hF⟩
      · clear hG
        obtain ⟨a81, e82, hG⟩ := rf_s hF; clear hF
        have qa81 : Q a81 := hm.1 _ _ _ q_p0 e82
        obtain ⟨q83, hF⟩ := ck_s hG; clear hG
        rw [(s_9).1] at q83
        obtain ⟨a84, e85, hG⟩ := rf_s hF; clear hF
        have qa84 : Q a84 := hm.1 _ _ _ qa81 e85
        obtain ⟨q86, hF⟩ := ck_s hG; clear hG
        rw [(s_9).1] at q86
        obtain ⟨v88, H89, z87, hG⟩ := bC_s hF; clear hF
        have gz_13 := (g_World_owns z87 hm.1 qa84)
        replace hm : Rg Q H H89 := hm.tr gz_13
        have s_14 : Sa H H89 := (s_9).tr (m_World_owns z87)
        obtain ⟨q90, hF⟩ := ck_s hG; clear hG
        have hr := Option.some.inj hF; subst hr
        exact hm
      · clear hG
        have hr := Option.some.inj hF; subst hr
        exact hm
set_option maxRecDepth 20000 in
set_option maxHeartbeats 2000000 in
theorem g_W_offsetOf {N : Nat} {Q : Nat → Prop} {p0 : Nat} {p1 : Int32} {p2 : Int32} {p3 : Int32} {H : Hp} {r : Int32 × Hp} (hF : F_W_offsetOf N p0 p1 p2 p3 H = some r) (hc0 : Cl Q H) (q_p0 : Q p0) : Rg Q H r.2 := by
  unfold F_W_offsetOf at hF
  have hm := Rg.rf hc0
  obtain ⟨q45, hG⟩ := ck_s hF; clear hF
  obtain ⟨v47, H48, z46, hF⟩ := bC_s hG; clear hG
  have gz_8 := (g_W_has z46 hm.1 q_p0)
  replace hm : Rg Q H H48 := hm.tr gz_8
  have s_9 : Sa H H48 := (m_W_has z46)
  rcases ite_s hF with ⟨q_10, hG⟩ | ⟨q_10, hG⟩
  · clear hF
    have hr := Option.some.inj hG; subst hr
    exact hm
  · clear hF
    obtain ⟨a50, e51, hF⟩ := rf_s hG; clear hG
    have qa50 : Q a50 := hm.1 _ _ _ q_p0 e51
    obtain ⟨q52, hG⟩ := ck_s hF; clear hF
    rw [(s_9).1] at q52
    obtain ⟨a53, e54, hF⟩ := rf_s hG; clear hG
    have qa53 : Q a53 := hm.1 _ _ _ qa50 e54
    rcases ite_s hF with ⟨q_11, hG⟩ | ⟨q_11, hG⟩
    · clear hF
      have hr := Option.some.inj hG; subst hr
      exact hm
    · clear hF
      obtain ⟨q56, hF⟩ := ck_s hG; clear hG
      rw [(s_9).1] at q56
      obtain ⟨v58, H59, z57, hG⟩ := bC_s hF; clear hF
      have gz_12 := (g_Shapes_sizeOf z57 hm.1 qa53)
      replace hm : Rg Q H H59 := hm.tr gz_12
      have s_13 : Sa H H59 := (s_9).tr (m_Shapes_sizeOf z57)
      rcases ite_s hG with ⟨q_14, hF⟩ | ⟨q_14, hF⟩
      · clear hG
        obtain ⟨a61, e62, hG⟩ := rf_s hF; clear hF
        have qa61 : Q a61 := hm.1 _ _ _ qa53 e62
        obtain ⟨n63, q64, hF⟩ := ar_s hG; clear hG
        rw [(s_13).1] at q64
        obtain ⟨q65, hG⟩ := ck_s hF; clear hF
        obtain ⟨x66, -, hF⟩ := bnd_g hG; clear hG
        have hr := Option.some.inj hF; subst hr
        exact hm
      · clear hG
        have hr := Option.some.inj hF; subst hr
        exact hm
set_option maxRecDepth 20000 in
set_option maxHeartbeats 2000000 in
theorem gB_W_set_103 {N : Nat} {Q : Nat → Prop} {p0 : Nat} {p1 : Int32} {p2 : Int32} {p3 : Int32} {p4 : Int32} (q_p0 : Q p0) {l5 : Int32} {l7 : Int32} {H : Hp} {r : Int32 × Hp} (hF : B_W_set_103 N p0 p1 p2 p3 p4 l5 l7 H = some r) (hc0 : Cl Q H) : Rg Q H r.2 := by
  unfold B_W_set_103 at hF
  have hm := Rg.rf hc0
  obtain ⟨q119, hG⟩ := ck_s hF; clear hF
  obtain ⟨a120, e121, hF⟩ := rf_s hG; clear hG
  have qa120 : Q a120 := hm.1 _ _ _ q_p0 e121
  obtain ⟨q122, hG⟩ := ck_s hF; clear hF
  obtain ⟨a123, e124, hF⟩ := rf_s hG; clear hG
  have qa123 : Q a123 := hm.1 _ _ _ qa120 e124
  obtain ⟨a125, e126, hG⟩ := rf_s hF; clear hF
  have qa125 : Q a125 := hm.1 _ _ _ q_p0 e126
  obtain ⟨q127, hF⟩ := ck_s hG; clear hG
  obtain ⟨a128, e129, hG⟩ := rf_s hF; clear hF
  have qa128 : Q a128 := hm.1 _ _ _ qa125 e129
  obtain ⟨q130, hF⟩ := ck_s hG; clear hG
  obtain ⟨v132, H133, z131, hG⟩ := bC_s hF; clear hF
  have gz_20 := (g_World_placeOf z131 hm.1 qa128)
  replace hm : Rg Q H H133 := hm.tr gz_20
  have s_21 : Sa H H133 := (m_World_placeOf z131)
  obtain ⟨q134, hF⟩ := ck_s hG; clear hG
  rw [(s_21).1] at q134
  obtain ⟨v136, H137, z135, hG⟩ := bC_s hF; clear hF
  have gz_22 := (g_World_write z135 hm.1 qa123)
  replace hm : Rg Q H H137 := hm.tr gz_22
  have s_23 : Sa H H137 := (s_21).tr (m_World_write z135)
  have hr := Option.some.inj hG; subst hr
  exact hm
set_option maxRecDepth 20000 in
set_option maxHeartbeats 2000000 in
theorem g_W_set {N : Nat} {Q : Nat → Prop} {p0 : Nat} {p1 : Int32} {p2 : Int32} {p3 : Int32} {p4 : Int32} {H : Hp} {r : Int32 × Hp} (hF : F_W_set N p0 p1 p2 p3 p4 H = some r) (hc0 : Cl Q H) (q_p0 : Q p0) : Rg Q H r.2 := by
  unfold F_W_set at hF
  have hm := Rg.rf hc0
  obtain ⟨q138, hG⟩ := ck_s hF; clear hF
  obtain ⟨a139, e140, hF⟩ := rf_s hG; clear hG
  have qa139 : Q a139 := hm.1 _ _ _ q_p0 e140
  obtain ⟨q141, hG⟩ := ck_s hF; clear hF
  obtain ⟨v143, H144, z142, hF⟩ := bC_s hG; clear hG
  have gz_24 := (g_Play_isQuiet z142 hm.1 qa139)
  replace hm : Rg Q H H144 := hm.tr gz_24
  have s_25 : Sa H H144 := (m_Play_isQuiet z142)
  rcases ite_s hF with ⟨q_26, hG⟩ | ⟨q_26, hG⟩
  · clear hF
    have hr := Option.some.inj hG; subst hr
    exact hm
  · clear hF
    obtain ⟨v147, H148, z146, hF⟩ := bC_s hG; clear hG
    have gz_27 := (g_W_offsetOf z146 hm.1 q_p0)
    replace hm : Rg Q H H148 := hm.tr gz_27
    have s_28 : Sa H H148 := (s_25).tr (m_W_offsetOf z146)
    rcases ite_s hF with ⟨q_29, hG⟩ | ⟨q_29, hG⟩
    · clear hF
      obtain ⟨a150, e151, hF⟩ := rf_s hG; clear hG
      have qa150 : Q a150 := hm.1 _ _ _ q_p0 e151
      obtain ⟨q152, hG⟩ := ck_s hF; clear hF
      rw [(s_28).1] at q152
      obtain ⟨a153, e154, hF⟩ := rf_s hG; clear hG
      have qa153 : Q a153 := hm.1 _ _ _ qa150 e154
      obtain ⟨q155, hG⟩ := ck_s hF; clear hF
      rw [(s_28).1] at q155
      obtain ⟨a156, e157, hF⟩ := rf_s hG; clear hG
      have qa156 : Q a156 := hm.1 _ _ _ qa153 e157
      obtain ⟨n158, q159, hG⟩ := ar_s hF; clear hF
      rw [(s_28).1] at q159
      obtain ⟨q160, hF⟩ := ck_s hG; clear hG
      obtain ⟨a161, e162, hG⟩ := rf_s hF; clear hF
      have qa161 : Q a161 := hm.1 _ _ _ qa156 e162
      obtain ⟨q163, hF⟩ := ck_s hG; clear hG
      rw [(s_28).1] at q163
      obtain ⟨x164, -, hG⟩ := bnd_g hF; clear hF
      rcases ite_s hG with ⟨q_30, hF⟩ | ⟨q_30, hF⟩
      · clear hG
        obtain ⟨v167, H168, z166, hG⟩ := bC_s hF; clear hF
        have gz_31 := (g_Math_min z166 hm.1)
        replace hm : Rg Q H H168 := hm.tr gz_31
        have s_32 : Sa H H168 := (s_28).tr (m_Math_min z166)
        obtain ⟨v170, H171, z169, hF⟩ := bC_s hG; clear hG
        have gz_33 := (g_Math_max z169 hm.1)
        replace hm : Rg Q H H171 := hm.tr gz_33
        have s_34 : Sa H H171 := (s_32).tr (m_Math_max z169)
        exact hm.tr (gB_W_set_103 q_p0 hF hm.1)
      · clear hG
        rcases ite_s hF with ⟨q_35, hG⟩ | ⟨q_35, hG⟩
        · clear hF
          obtain ⟨x173, -, hF⟩ := bnd_g hG; clear hG
          exact hm.tr (gB_W_set_103 q_p0 hF hm.1)
        · clear hF
          rcases ite_s hG with ⟨q_36, hF⟩ | ⟨q_36, hF⟩
          · clear hG
            obtain ⟨v176, H177, z175, hG⟩ := bC_s hF; clear hF
            have gz_37 := (g_Math_max z175 hm.1)
            replace hm : Rg Q H H177 := hm.tr gz_37
            have s_38 : Sa H H177 := (s_28).tr (m_Math_max z175)
            exact hm.tr (gB_W_set_103 q_p0 hG hm.1)
          · clear hG
            exact hm.tr (gB_W_set_103 q_p0 hF hm.1)
    · clear hF
      have hr := Option.some.inj hG; subst hr
      exact hm
set_option maxRecDepth 20000 in
set_option maxHeartbeats 2000000 in
theorem gB_World_matchAt_41 {N : Nat} {Q : Nat → Prop} {p0 : Nat} {p1 : Int32} {p2 : Int32} {p3 : Int32} {kq6 : Int32 → Int32 → Hp → Option (Int32 × Hp)} (q_p0 : Q p0) (hg6 : ∀ (l4 : Int32) (l5 : Int32) (H : Hp) (r : Int32 × Hp), kq6 l4 l5 H = some r → Cl Q H → Rg Q H r.2) {l4 : Int32} {l5 : Int32} {H : Hp} {r : Int32 × Hp} (hF : B_World_matchAt_41 N p0 p1 p2 p3 kq6 l4 l5 H = some r) (hc0 : Cl Q H) : Rg Q H r.2 := by
  unfold B_World_matchAt_41 at hF
  have hm := Rg.rf hc0
  exact hm.tr (hg6 l4 (l5 + 1) H r hF hm.1)
set_option maxRecDepth 20000 in
set_option maxHeartbeats 2000000 in
theorem gB_World_matchAt_6 {N : Nat} {Q : Nat → Prop} {p0 : Nat} {p1 : Int32} {p2 : Int32} {p3 : Int32} (q_p0 : Q p0) : ∀ (n : Nat) (l4 : Int32) (l5 : Int32) (H : Hp) (r : Int32 × Hp), B_World_matchAt_6 N p0 p1 p2 p3 n l4 l5 H = some r → Cl Q H → Rg Q H r.2 := by
  intro n
  induction n with
  | zero => intro l4 l5 H r hF; rw [B_World_matchAt_6] at hF; cases hF
  | succ n ih =>
    intro l4 l5 H r hF hc0
    rw [B_World_matchAt_6] at hF
    have hm := Rg.rf hc0
    obtain ⟨q23, hG⟩ := ck_s hF; clear hF
    obtain ⟨x24, -, hF⟩ := bnd_g hG; clear hG
    rcases ite_s hF with ⟨q_8, hG⟩ | ⟨q_8, hG⟩
    · clear hF
      have hr := Option.some.inj hG; subst hr
      exact hm
    · clear hF
      obtain ⟨v27, H28, z26, hF⟩ := bC_s hG; clear hG
      have gz_9 := (g_World_matches z26 hm.1 q_p0)
      replace hm : Rg Q H H28 := hm.tr gz_9
      have s_10 : Sa H H28 := (m_World_matches z26)
      rcases ite_s hF with ⟨q_11, hG⟩ | ⟨q_11, hG⟩
      · clear hF
        exact hm.tr (gB_World_matchAt_41 q_p0 ih hG hm.1)
      · clear hF
        rcases ite_s hG with ⟨q_12, hF⟩ | ⟨q_12, hF⟩
        · clear hG
          obtain ⟨v32, H33, z31, hG⟩ := bC_s hF; clear hF
          have gz_13 := (g_World_numberAt z31 hm.1 q_p0)
          replace hm : Rg Q H H33 := hm.tr gz_13
          have s_14 : Sa H H33 := (s_10).tr (m_World_numberAt z31)
          have hr := Option.some.inj hG; subst hr
          exact hm
        · clear hG
          exact hm.tr (gB_World_matchAt_41 q_p0 ih hF hm.1)
set_option maxRecDepth 20000 in
set_option maxHeartbeats 2000000 in
theorem g_World_matchAt {N : Nat} {Q : Nat → Prop} {p0 : Nat} {p1 : Int32} {p2 : Int32} {p3 : Int32} {H : Hp} {r : Int32 × Hp} (hF : F_World_matchAt N p0 p1 p2 p3 H = some r) (hc0 : Cl Q H) (q_p0 : Q p0) : Rg Q H r.2 := by
  unfold F_World_matchAt at hF
  have hm := Rg.rf hc0
  exact hm.tr (gB_World_matchAt_6 q_p0 N p3 0 H r hF hm.1)
set_option maxRecDepth 20000 in
set_option maxHeartbeats 2000000 in
theorem g_W_entity {N : Nat} {Q : Nat → Prop} {p0 : Nat} {p1 : Int32} {H : Hp} {r : Int32 × Hp} (hF : F_W_entity N p0 p1 H = some r) (hc0 : Cl Q H) (q_p0 : Q p0) : Rg Q H r.2 := by
  unfold F_W_entity at hF
  have hm := Rg.rf hc0
  obtain ⟨q21, hG⟩ := ck_s hF; clear hF
  obtain ⟨a22, e23, hF⟩ := rf_s hG; clear hG
  have qa22 : Q a22 := hm.1 _ _ _ q_p0 e23
  obtain ⟨q24, hG⟩ := ck_s hF; clear hF
  obtain ⟨a25, e26, hF⟩ := rf_s hG; clear hG
  have qa25 : Q a25 := hm.1 _ _ _ qa22 e26
  obtain ⟨q27, hG⟩ := ck_s hF; clear hF
  obtain ⟨v29, H30, z28, hF⟩ := bC_s hG; clear hG
  have gz_3 := (g_World_matchAt z28 hm.1 qa25)
  replace hm : Rg Q H H30 := hm.tr gz_3
  have s_4 : Sa H H30 := (m_World_matchAt z28)
  have hr := Option.some.inj hF; subst hr
  exact hm
set_option maxRecDepth 20000 in
set_option maxHeartbeats 2000000 in
theorem g_W_row {N : Nat} {Q : Nat → Prop} {p0 : Nat} {p1 : Int32} {p2 : Int32} {H : Hp} {r : Int32 × Hp} (hF : F_W_row N p0 p1 p2 H = some r) (hc0 : Cl Q H) (q_p0 : Q p0) : Rg Q H r.2 := by
  unfold F_W_row at hF
  have hm := Rg.rf hc0
  rcases ite_s hF with ⟨q_5, hG⟩ | ⟨q_5, hG⟩
  · clear hF
    have hr := Option.some.inj hG; subst hr
    exact hm
  · clear hF
    obtain ⟨q70, hF⟩ := ck_s hG; clear hG
    obtain ⟨a71, e72, hG⟩ := rf_s hF; clear hF
    have qa71 : Q a71 := hm.1 _ _ _ q_p0 e72
    obtain ⟨q73, hF⟩ := ck_s hG; clear hG
    obtain ⟨x74, -, hG⟩ := bnd_g hF; clear hF
    rcases ite_s hG with ⟨q_6, hF⟩ | ⟨q_6, hF⟩
    · clear hG
      obtain ⟨a76, e77, hG⟩ := rf_s hF; clear hF
      have qa76 : Q a76 := hm.1 _ _ _ q_p0 e77
      obtain ⟨q78, hF⟩ := ck_s hG; clear hG
      obtain ⟨a79, e80, hG⟩ := rf_s hF; clear hF
      have qa79 : Q a79 := hm.1 _ _ _ qa76 e80
      obtain ⟨a81, e82, hF⟩ := rf_s hG; clear hG
      have qa81 : Q a81 := hm.1 _ _ _ q_p0 e82
      obtain ⟨q83, hG⟩ := ck_s hF; clear hF
      obtain ⟨a84, e85, hF⟩ := rf_s hG; clear hG
      have qa84 : Q a84 := hm.1 _ _ _ qa81 e85
      obtain ⟨n86, q87, hG⟩ := ar_s hF; clear hF
      obtain ⟨q88, hF⟩ := ck_s hG; clear hG
      obtain ⟨x89, -, hG⟩ := bnd_g hF; clear hF
      obtain ⟨a90, e91, hF⟩ := rf_s hG; clear hG
      have qa90 : Q a90 := hm.1 _ _ _ q_p0 e91
      obtain ⟨q92, hG⟩ := ck_s hF; clear hF
      obtain ⟨a93, e94, hF⟩ := rf_s hG; clear hG
      have qa93 : Q a93 := hm.1 _ _ _ qa90 e94
      obtain ⟨n95, q96, hG⟩ := ar_s hF; clear hF
      obtain ⟨q97, hF⟩ := ck_s hG; clear hG
      obtain ⟨x98, -, hG⟩ := bnd_g hF; clear hF
      obtain ⟨q99, hF⟩ := ck_s hG; clear hG
      obtain ⟨v101, H102, z100, hG⟩ := bC_s hF; clear hF
      have gz_7 := (g_World_matchAt z100 hm.1 qa79)
      replace hm : Rg Q H H102 := hm.tr gz_7
      have s_8 : Sa H H102 := (m_World_matchAt z100)
      have hr := Option.some.inj hG; subst hr
      exact hm
    · clear hG
      have hr := Option.some.inj hF; subst hr
      exact hm
set_option maxRecDepth 20000 in
set_option maxHeartbeats 2000000 in
theorem g_W_group {N : Nat} {Q : Nat → Prop} {p0 : Nat} {p1 : Int32} {H : Hp} {r : Int32 × Hp} (hF : F_W_group N p0 p1 H = some r) (hc0 : Cl Q H) (q_p0 : Q p0) : Rg Q H r.2 := by
  unfold F_W_group at hF
  have hm := Rg.rf hc0
  rcases ite_s hF with ⟨q_3, hG⟩ | ⟨q_3, hG⟩
  · clear hF
    have hr := Option.some.inj hG; subst hr
    exact hm
  · clear hF
    obtain ⟨q34, hF⟩ := ck_s hG; clear hG
    obtain ⟨a35, e36, hG⟩ := rf_s hF; clear hF
    have qa35 : Q a35 := hm.1 _ _ _ q_p0 e36
    obtain ⟨q37, hF⟩ := ck_s hG; clear hG
    obtain ⟨x38, -, hG⟩ := bnd_g hF; clear hF
    rcases ite_s hG with ⟨q_4, hF⟩ | ⟨q_4, hF⟩
    · clear hG
      obtain ⟨a40, e41, hG⟩ := rf_s hF; clear hF
      have qa40 : Q a40 := hm.1 _ _ _ q_p0 e41
      obtain ⟨q42, hF⟩ := ck_s hG; clear hG
      obtain ⟨a43, e44, hG⟩ := rf_s hF; clear hF
      have qa43 : Q a43 := hm.1 _ _ _ qa40 e44
      obtain ⟨n45, q46, hF⟩ := ar_s hG; clear hG
      obtain ⟨q47, hG⟩ := ck_s hF; clear hF
      obtain ⟨x48, -, hF⟩ := bnd_g hG; clear hG
      have hr := Option.some.inj hF; subst hr
      exact hm
    · clear hG
      have hr := Option.some.inj hF; subst hr
      exact hm
set_option maxRecDepth 20000 in
set_option maxHeartbeats 2000000 in
theorem g_W_failure {N : Nat} {Q : Nat → Prop} {p0 : Nat} {p1 : Int32} {H : Hp} {r : Int32 × Hp} (hF : F_W_failure N p0 p1 H = some r) (hc0 : Cl Q H) (q_p0 : Q p0) : Rg Q H r.2 := by
  unfold F_W_failure at hF
  have hm := Rg.rf hc0
  obtain ⟨q31, hG⟩ := ck_s hF; clear hF
  obtain ⟨a32, e33, hF⟩ := rf_s hG; clear hG
  have qa32 : Q a32 := hm.1 _ _ _ q_p0 e33
  obtain ⟨q34, hG⟩ := ck_s hF; clear hF
  obtain ⟨a35, e36, hF⟩ := rf_s hG; clear hG
  have qa35 : Q a35 := hm.1 _ _ _ qa32 e36
  obtain ⟨q37, hG⟩ := ck_s hF; clear hF
  obtain ⟨x38, -, hF⟩ := bnd_g hG; clear hG
  rcases ite_s hF with ⟨q_5, hG⟩ | ⟨q_5, hG⟩
  · clear hF
    have hr := Option.some.inj hG; subst hr
    exact hm
  · clear hF
    rcases ite_s hG with ⟨q_6, hF⟩ | ⟨q_6, hF⟩
    · clear hG
      obtain ⟨x41, -, hG⟩ := bnd_g hF; clear hF
      have hr := Option.some.inj hG; subst hr
      exact hm
    clear hG
    rcases ite_s hF with ⟨q_7, hG⟩ | ⟨q_7, hG⟩
    · clear hF
      obtain ⟨x43, -, hF⟩ := bnd_g hG; clear hG
      have hr := Option.some.inj hF; subst hr
      exact hm
    clear hF
    rcases ite_s hG with ⟨q_8, hF⟩ | ⟨q_8, hF⟩
    · clear hG
      obtain ⟨x45, -, hG⟩ := bnd_g hF; clear hF
      have hr := Option.some.inj hG; subst hr
      exact hm
    clear hG
    have hr := Option.some.inj hF; subst hr
    exact hm
set_option maxRecDepth 20000 in
set_option maxHeartbeats 2000000 in
theorem gB_W_pending_68 {N : Nat} {Q : Nat → Prop} {p0 : Nat} {p1 : Int32} {p2 : Int32} (q_p0 : Q p0) {l3 : Nat} {H : Hp} {r : Int32 × Hp} (hF : B_W_pending_68 N p0 p1 p2 l3 H = some r) (hc0 : Cl Q H) (q_l3 : Q l3) : Rg Q H r.2 := by
  unfold B_W_pending_68 at hF
  have hm := Rg.rf hc0
  obtain ⟨q73, hG⟩ := ck_s hF; clear hF
  obtain ⟨a74, e75, hF⟩ := rf_s hG; clear hG
  have qa74 : Q a74 := hm.1 _ _ _ q_l3 e75
  obtain ⟨n76, q77, hG⟩ := ar_s hF; clear hF
  obtain ⟨q78, hF⟩ := ck_s hG; clear hG
  obtain ⟨x79, -, hG⟩ := bnd_g hF; clear hF
  have hr := Option.some.inj hG; subst hr
  exact hm
set_option maxRecDepth 20000 in
set_option maxHeartbeats 2000000 in
theorem g_W_pending {N : Nat} {Q : Nat → Prop} {p0 : Nat} {p1 : Int32} {p2 : Int32} {H : Hp} {r : Int32 × Hp} (hF : F_W_pending N p0 p1 p2 H = some r) (hc0 : Cl Q H) (q_p0 : Q p0) : Rg Q H r.2 := by
  unfold F_W_pending at hF
  have hm := Rg.rf hc0
  obtain ⟨q80, hG⟩ := ck_s hF; clear hF
  obtain ⟨a81, e82, hF⟩ := rf_s hG; clear hG
  have qa81 : Q a81 := hm.1 _ _ _ q_p0 e82
  obtain ⟨q83, hG⟩ := ck_s hF; clear hF
  obtain ⟨a84, e85, hF⟩ := rf_s hG; clear hG
  have qa84 : Q a84 := hm.1 _ _ _ qa81 e85
  rcases ite_s hF with ⟨q_9, hG⟩ | ⟨q_9, hG⟩
  · clear hF
    have hr := Option.some.inj hG; subst hr
    exact hm
  · clear hF
    obtain ⟨q87, hF⟩ := ck_s hG; clear hG
    obtain ⟨x88, -, hG⟩ := bnd_g hF; clear hF
    rcases ite_s hG with ⟨q_10, hF⟩ | ⟨q_10, hF⟩
    · clear hG
      have hr := Option.some.inj hF; subst hr
      exact hm
    · clear hG
      rcases ite_s hF with ⟨q_11, hG⟩ | ⟨q_11, hG⟩
      · clear hF
        have hr := Option.some.inj hG; subst hr
        exact hm
      · clear hF
        rcases ite_s hG with ⟨q_12, hF⟩ | ⟨q_12, hF⟩
        · clear hG
          obtain ⟨a92, e93, hG⟩ := rf_s hF; clear hF
          have qa92 : Q a92 := hm.1 _ _ _ qa84 e93
          obtain ⟨n94, q95, hF⟩ := ar_s hG; clear hG
          obtain ⟨q96, hG⟩ := ck_s hF; clear hF
          obtain ⟨x97, -, hF⟩ := bnd_g hG; clear hG
          rcases ite_s hF with ⟨q_13, hG⟩ | ⟨q_13, hG⟩
          · clear hF
            exact hm.tr (gB_W_pending_68 q_p0 hG hm.1 qa84)
          · clear hF
            obtain ⟨a99, e100, hF⟩ := rf_s hG; clear hG
            have qa99 : Q a99 := hm.1 _ _ _ q_p0 e100
            obtain ⟨q101, hG⟩ := ck_s hF; clear hF
            obtain ⟨a102, e103, hF⟩ := rf_s hG; clear hG
            have qa102 : Q a102 := hm.1 _ _ _ qa99 e103
            obtain ⟨q104, hG⟩ := ck_s hF; clear hF
            obtain ⟨v106, H107, z105, hF⟩ := bC_s hG; clear hG
            have gz_14 := (g_Shapes_sizeOf z105 hm.1 qa102)
            replace hm : Rg Q H H107 := hm.tr gz_14
            have s_15 : Sa H H107 := (m_Shapes_sizeOf z105)
            rcases ite_s hF with ⟨q_16, hG⟩ | ⟨q_16, hG⟩
            · clear hF
              exact hm.tr (gB_W_pending_68 q_p0 hG hm.1 qa84)
            · clear hF
              have hr := Option.some.inj hG; subst hr
              exact hm
        · clear hG
          have hr := Option.some.inj hF; subst hr
          exact hm
set_option maxRecDepth 20000 in
set_option maxHeartbeats 2000000 in
theorem gB_World_entityCount_24 {N : Nat} {Q : Nat → Prop} {p0 : Nat} {kq4 : Int32 → Int32 → Hp → Option (Int32 × Hp)} (q_p0 : Q p0) (hg4 : ∀ (l1 : Int32) (l2 : Int32) (H : Hp) (r : Int32 × Hp), kq4 l1 l2 H = some r → Cl Q H → Rg Q H r.2) {l1 : Int32} {l2 : Int32} {H : Hp} {r : Int32 × Hp} (hF : B_World_entityCount_24 N p0 kq4 l1 l2 H = some r) (hc0 : Cl Q H) : Rg Q H r.2 := by
  unfold B_World_entityCount_24 at hF
  have hm := Rg.rf hc0
  exact hm.tr (hg4 l1 (l2 + 1) H r hF hm.1)
set_option maxRecDepth 20000 in
set_option maxHeartbeats 2000000 in
theorem gB_World_entityCount_4 {N : Nat} {Q : Nat → Prop} {p0 : Nat} (q_p0 : Q p0) : ∀ (n : Nat) (l1 : Int32) (l2 : Int32) (H : Hp) (r : Int32 × Hp), B_World_entityCount_4 N p0 n l1 l2 H = some r → Cl Q H → Rg Q H r.2 := by
  intro n
  induction n with
  | zero => intro l1 l2 H r hF; rw [B_World_entityCount_4] at hF; cases hF
  | succ n ih =>
    intro l1 l2 H r hF hc0
    rw [B_World_entityCount_4] at hF
    have hm := Rg.rf hc0
    obtain ⟨q21, hG⟩ := ck_s hF; clear hF
    obtain ⟨x22, -, hF⟩ := bnd_g hG; clear hG
    rcases ite_s hF with ⟨q_3, hG⟩ | ⟨q_3, hG⟩
    · clear hF
      have hr := Option.some.inj hG; subst hr
      exact hm
    · clear hF
      obtain ⟨a24, e25, hF⟩ := rf_s hG; clear hG
      have qa24 : Q a24 := hm.1 _ _ _ q_p0 e25
      obtain ⟨n26, q27, hG⟩ := ar_s hF; clear hF
      obtain ⟨q28, hF⟩ := ck_s hG; clear hG
      obtain ⟨x29, -, hG⟩ := bnd_g hF; clear hF
      rcases ite_s hG with ⟨q_4, hF⟩ | ⟨q_4, hF⟩
      · clear hG
        exact hm.tr (gB_World_entityCount_24 q_p0 ih hF hm.1)
      · clear hG
        exact hm.tr (gB_World_entityCount_24 q_p0 ih hF hm.1)
set_option maxRecDepth 20000 in
set_option maxHeartbeats 2000000 in
theorem g_World_entityCount {N : Nat} {Q : Nat → Prop} {p0 : Nat} {H : Hp} {r : Int32 × Hp} (hF : F_World_entityCount N p0 H = some r) (hc0 : Cl Q H) (q_p0 : Q p0) : Rg Q H r.2 := by
  unfold F_World_entityCount at hF
  have hm := Rg.rf hc0
  exact hm.tr (gB_World_entityCount_4 q_p0 N 0 0 H r hF hm.1)
set_option maxRecDepth 20000 in
set_option maxHeartbeats 2000000 in
theorem g_W_look {N : Nat} {Q : Nat → Prop} {p0 : Nat} {p1 : Int32} {H : Hp} {r : Int32 × Hp} (hF : F_W_look N p0 p1 H = some r) (hc0 : Cl Q H) (q_p0 : Q p0) : Rg Q H r.2 := by
  unfold F_W_look at hF
  have hm := Rg.rf hc0
  rcases ite_s hF with ⟨q_20, hG⟩ | ⟨q_20, hG⟩
  · clear hF
    obtain ⟨q222, hF⟩ := ck_s hG; clear hG
    obtain ⟨a223, e224, hG⟩ := rf_s hF; clear hF
    have qa223 : Q a223 := hm.1 _ _ _ q_p0 e224
    obtain ⟨q225, hF⟩ := ck_s hG; clear hG
    obtain ⟨x226, -, hG⟩ := bnd_g hF; clear hF
    have hr := Option.some.inj hG; subst hr
    exact hm
  clear hF
  rcases ite_s hG with ⟨q_21, hF⟩ | ⟨q_21, hF⟩
  · clear hG
    obtain ⟨q228, hG⟩ := ck_s hF; clear hF
    obtain ⟨a229, e230, hF⟩ := rf_s hG; clear hG
    have qa229 : Q a229 := hm.1 _ _ _ q_p0 e230
    obtain ⟨q231, hG⟩ := ck_s hF; clear hF
    obtain ⟨a232, e233, hF⟩ := rf_s hG; clear hG
    have qa232 : Q a232 := hm.1 _ _ _ qa229 e233
    obtain ⟨q234, hG⟩ := ck_s hF; clear hF
    obtain ⟨x235, -, hF⟩ := bnd_g hG; clear hG
    have hr := Option.some.inj hF; subst hr
    exact hm
  clear hG
  rcases ite_s hF with ⟨q_22, hG⟩ | ⟨q_22, hG⟩
  · clear hF
    obtain ⟨q237, hF⟩ := ck_s hG; clear hG
    obtain ⟨a238, e239, hG⟩ := rf_s hF; clear hF
    have qa238 : Q a238 := hm.1 _ _ _ q_p0 e239
    obtain ⟨q240, hF⟩ := ck_s hG; clear hG
    obtain ⟨a241, e242, hG⟩ := rf_s hF; clear hF
    have qa241 : Q a241 := hm.1 _ _ _ qa238 e242
    obtain ⟨q243, hF⟩ := ck_s hG; clear hG
    obtain ⟨x244, -, hG⟩ := bnd_g hF; clear hF
    have hr := Option.some.inj hG; subst hr
    exact hm
  clear hF
  rcases ite_s hG with ⟨q_23, hF⟩ | ⟨q_23, hF⟩
  · clear hG
    obtain ⟨q246, hG⟩ := ck_s hF; clear hF
    obtain ⟨a247, e248, hF⟩ := rf_s hG; clear hG
    have qa247 : Q a247 := hm.1 _ _ _ q_p0 e248
    obtain ⟨q249, hG⟩ := ck_s hF; clear hF
    obtain ⟨x250, -, hF⟩ := bnd_g hG; clear hG
    have hr := Option.some.inj hF; subst hr
    exact hm
  clear hG
  rcases ite_s hF with ⟨q_24, hG⟩ | ⟨q_24, hG⟩
  · clear hF
    obtain ⟨q252, hF⟩ := ck_s hG; clear hG
    obtain ⟨a253, e254, hG⟩ := rf_s hF; clear hF
    have qa253 : Q a253 := hm.1 _ _ _ q_p0 e254
    obtain ⟨q255, hF⟩ := ck_s hG; clear hG
    obtain ⟨a256, e257, hG⟩ := rf_s hF; clear hF
    have qa256 : Q a256 := hm.1 _ _ _ qa253 e257
    obtain ⟨q258, hF⟩ := ck_s hG; clear hG
    obtain ⟨v260, H261, z259, hG⟩ := bC_s hF; clear hF
    have gz_25 := (g_World_entityCount z259 hm.1 qa256)
    replace hm : Rg Q H H261 := hm.tr gz_25
    have s_26 : Sa H H261 := (m_World_entityCount z259)
    have hr := Option.some.inj hG; subst hr
    exact hm
  clear hF
  rcases ite_s hG with ⟨q_27, hF⟩ | ⟨q_27, hF⟩
  · clear hG
    obtain ⟨q263, hG⟩ := ck_s hF; clear hF
    obtain ⟨a264, e265, hF⟩ := rf_s hG; clear hG
    have qa264 : Q a264 := hm.1 _ _ _ q_p0 e265
    obtain ⟨q266, hG⟩ := ck_s hF; clear hF
    obtain ⟨a267, e268, hF⟩ := rf_s hG; clear hG
    have qa267 : Q a267 := hm.1 _ _ _ qa264 e268
    obtain ⟨q269, hG⟩ := ck_s hF; clear hF
    obtain ⟨x270, -, hF⟩ := bnd_g hG; clear hG
    have hr := Option.some.inj hF; subst hr
    exact hm
  clear hG
  rcases ite_s hF with ⟨q_28, hG⟩ | ⟨q_28, hG⟩
  · clear hF
    obtain ⟨q272, hF⟩ := ck_s hG; clear hG
    obtain ⟨a273, e274, hG⟩ := rf_s hF; clear hF
    have qa273 : Q a273 := hm.1 _ _ _ q_p0 e274
    obtain ⟨q275, hF⟩ := ck_s hG; clear hG
    obtain ⟨a276, e277, hG⟩ := rf_s hF; clear hF
    have qa276 : Q a276 := hm.1 _ _ _ qa273 e277
    obtain ⟨q278, hF⟩ := ck_s hG; clear hG
    obtain ⟨x279, -, hG⟩ := bnd_g hF; clear hF
    have hr := Option.some.inj hG; subst hr
    exact hm
  clear hF
  rcases ite_s hG with ⟨q_29, hF⟩ | ⟨q_29, hF⟩
  · clear hG
    obtain ⟨q281, hG⟩ := ck_s hF; clear hF
    obtain ⟨a282, e283, hF⟩ := rf_s hG; clear hG
    have qa282 : Q a282 := hm.1 _ _ _ q_p0 e283
    obtain ⟨q284, hG⟩ := ck_s hF; clear hF
    obtain ⟨a285, e286, hF⟩ := rf_s hG; clear hG
    have qa285 : Q a285 := hm.1 _ _ _ qa282 e286
    obtain ⟨q287, hG⟩ := ck_s hF; clear hF
    obtain ⟨x288, -, hF⟩ := bnd_g hG; clear hG
    have hr := Option.some.inj hF; subst hr
    exact hm
  clear hG
  rcases ite_s hF with ⟨q_30, hG⟩ | ⟨q_30, hG⟩
  · clear hF
    obtain ⟨q290, hF⟩ := ck_s hG; clear hG
    obtain ⟨a291, e292, hG⟩ := rf_s hF; clear hF
    have qa291 : Q a291 := hm.1 _ _ _ q_p0 e292
    obtain ⟨q293, hF⟩ := ck_s hG; clear hG
    obtain ⟨x294, -, hG⟩ := bnd_g hF; clear hF
    have hr := Option.some.inj hG; subst hr
    exact hm
  clear hF
  rcases ite_s hG with ⟨q_31, hF⟩ | ⟨q_31, hF⟩
  · clear hG
    obtain ⟨q296, hG⟩ := ck_s hF; clear hF
    obtain ⟨a297, e298, hF⟩ := rf_s hG; clear hG
    have qa297 : Q a297 := hm.1 _ _ _ q_p0 e298
    obtain ⟨q299, hG⟩ := ck_s hF; clear hF
    obtain ⟨x300, -, hF⟩ := bnd_g hG; clear hG
    have hr := Option.some.inj hF; subst hr
    exact hm
  clear hG
  rcases ite_s hF with ⟨q_32, hG⟩ | ⟨q_32, hG⟩
  · clear hF
    obtain ⟨q302, hF⟩ := ck_s hG; clear hG
    obtain ⟨a303, e304, hG⟩ := rf_s hF; clear hF
    have qa303 : Q a303 := hm.1 _ _ _ q_p0 e304
    obtain ⟨q305, hF⟩ := ck_s hG; clear hG
    obtain ⟨x306, -, hG⟩ := bnd_g hF; clear hF
    have hr := Option.some.inj hG; subst hr
    exact hm
  clear hF
  rcases ite_s hG with ⟨q_33, hF⟩ | ⟨q_33, hF⟩
  · clear hG
    obtain ⟨q308, hG⟩ := ck_s hF; clear hF
    obtain ⟨x309, -, hF⟩ := bnd_g hG; clear hG
    obtain ⟨v311, H312, z310, hG⟩ := bC_s hF; clear hF
    have gz_34 := (g_Integer_bitCount z310 hm.1)
    replace hm : Rg Q H H312 := hm.tr gz_34
    have s_35 : Sa H H312 := (m_Integer_bitCount z310)
    have hr := Option.some.inj hG; subst hr
    exact hm
  clear hG
  rcases ite_s hF with ⟨q_36, hG⟩ | ⟨q_36, hG⟩
  · clear hF
    obtain ⟨q314, hF⟩ := ck_s hG; clear hG
    obtain ⟨a315, e316, hG⟩ := rf_s hF; clear hF
    have qa315 : Q a315 := hm.1 _ _ _ q_p0 e316
    obtain ⟨q317, hF⟩ := ck_s hG; clear hG
    obtain ⟨x318, -, hG⟩ := bnd_g hF; clear hF
    have hr := Option.some.inj hG; subst hr
    exact hm
  clear hF
  rcases ite_s hG with ⟨q_37, hF⟩ | ⟨q_37, hF⟩
  · clear hG
    obtain ⟨q320, hG⟩ := ck_s hF; clear hF
    obtain ⟨a321, e322, hF⟩ := rf_s hG; clear hG
    have qa321 : Q a321 := hm.1 _ _ _ q_p0 e322
    obtain ⟨q323, hG⟩ := ck_s hF; clear hF
    obtain ⟨x324, -, hF⟩ := bnd_g hG; clear hG
    have hr := Option.some.inj hF; subst hr
    exact hm
  clear hG
  rcases ite_s hF with ⟨q_38, hG⟩ | ⟨q_38, hG⟩
  · clear hF
    obtain ⟨q326, hF⟩ := ck_s hG; clear hG
    obtain ⟨a327, e328, hG⟩ := rf_s hF; clear hF
    have qa327 : Q a327 := hm.1 _ _ _ q_p0 e328
    obtain ⟨q329, hF⟩ := ck_s hG; clear hG
    obtain ⟨x330, -, hG⟩ := bnd_g hF; clear hF
    have hr := Option.some.inj hG; subst hr
    exact hm
  clear hF
  have hr := Option.some.inj hG; subst hr
  exact hm
set_option maxRecDepth 20000 in
set_option maxHeartbeats 2000000 in
theorem g_Store_writeByte {N : Nat} {Q : Nat → Prop} {p0 : Nat} {p1 : Int32} {H : Hp} {r : Unit × Hp} (hF : F_Store_writeByte N p0 p1 H = some r) (hc0 : Cl Q H) (q_p0 : Q p0) : Rg Q H r.2 := by
  unfold F_Store_writeByte at hF
  have hm := Rg.rf hc0
  obtain ⟨q33, hG⟩ := ck_s hF; clear hF
  obtain ⟨x34, -, hF⟩ := bnd_g hG; clear hG
  obtain ⟨H35, eH35, hG⟩ := bnd_g hF; clear hF
  replace hm : Rg Q H H35 := hm.tr (by rw [eH35]; exact Rg.sD hm.1 q_p0)
  have s_9 : Sa H H35 := by rw [eH35]; exact Sa.rf _
  obtain ⟨x36, -, hF⟩ := bnd_g hG; clear hG
  rcases ite_s hF with ⟨q_10, hG⟩ | ⟨q_10, hG⟩
  · clear hF
    have hr := Option.some.inj hG; subst hr
    exact hm
  · clear hF
    obtain ⟨x38, -, hF⟩ := bnd_g hG; clear hG
    rcases ite_s hF with ⟨q_11, hG⟩ | ⟨q_11, hG⟩
    · clear hF
      have hr := Option.some.inj hG; subst hr
      exact hm
    · clear hF
      obtain ⟨a40, e41, hF⟩ := rf_s hG; clear hG
      have qa40 : Q a40 := hm.1 _ _ _ q_p0 e41
      obtain ⟨x42, -, hG⟩ := bnd_g hF; clear hF
      obtain ⟨n43, q44, hF⟩ := ar_s hG; clear hG
      rw [(s_9).1] at q44
      obtain ⟨q45, hG⟩ := ck_s hF; clear hF
      obtain ⟨H46, eH46, hF⟩ := bnd_g hG; clear hG
      replace hm : Rg Q H H46 := hm.tr (by rw [eH46]; exact Rg.sD hm.1 qa40)
      have s_12 : Sa H H46 := by rw [eH46]; exact s_9
      obtain ⟨x47, -, hG⟩ := bnd_g hF; clear hF
      obtain ⟨H48, eH48, hF⟩ := bnd_g hG; clear hG
      replace hm : Rg Q H H48 := hm.tr (by rw [eH48]; exact Rg.sD hm.1 q_p0)
      have s_13 : Sa H H48 := by rw [eH48]; exact s_12
      have hr := Option.some.inj hF; subst hr
      exact hm
set_option maxRecDepth 20000 in
set_option maxHeartbeats 2000000 in
theorem gB_Store_writeShapes_34 {N : Nat} {Q : Nat → Prop} {p0 : Nat} {p1 : Nat} {kq10 : Int32 → Hp → Option (Unit × Hp)} (q_p0 : Q p0) (q_p1 : Q p1) (hg10 : ∀ (l2 : Int32) (H : Hp) (r : Unit × Hp), kq10 l2 H = some r → Cl Q H → Rg Q H r.2) : ∀ (n : Nat) (l2 : Int32) (l3 : Int32) (H : Hp) (r : Unit × Hp), B_Store_writeShapes_34 N p0 p1 kq10 n l2 l3 H = some r → Cl Q H → Rg Q H r.2 := by
  intro n
  induction n with
  | zero => intro l2 l3 H r hF; rw [B_Store_writeShapes_34] at hF; cases hF
  | succ n ih =>
    intro l2 l3 H r hF hc0
    rw [B_Store_writeShapes_34] at hF
    have hm := Rg.rf hc0
    obtain ⟨q87, hG⟩ := ck_s hF; clear hF
    obtain ⟨a88, e89, hF⟩ := rf_s hG; clear hG
    have qa88 : Q a88 := hm.1 _ _ _ q_p1 e89
    obtain ⟨n90, q91, hG⟩ := ar_s hF; clear hF
    obtain ⟨q92, hF⟩ := ck_s hG; clear hG
    obtain ⟨x93, -, hG⟩ := bnd_g hF; clear hF
    rcases ite_s hG with ⟨q_11, hF⟩ | ⟨q_11, hF⟩
    · clear hG
      exact hm.tr (hg10 (l2 + 1) H r hF hm.1)
    · clear hG
      obtain ⟨a95, e96, hG⟩ := rf_s hF; clear hF
      have qa95 : Q a95 := hm.1 _ _ _ q_p1 e96
      obtain ⟨n97, q98, hF⟩ := ar_s hG; clear hG
      obtain ⟨q99, hG⟩ := ck_s hF; clear hF
      obtain ⟨a100, e101, hF⟩ := rf_s hG; clear hG
      have qa100 : Q a100 := hm.1 _ _ _ qa95 e101
      obtain ⟨q102, hG⟩ := ck_s hF; clear hF
      obtain ⟨x103, -, hF⟩ := bnd_g hG; clear hG
      obtain ⟨q104, hG⟩ := ck_s hF; clear hF
      obtain ⟨v106, H107, z105, hF⟩ := bC_s hG; clear hG
      have gz_12 := (g_Store_writeByte z105 hm.1 q_p0)
      replace hm : Rg Q H H107 := hm.tr gz_12
      have s_13 : Sa H H107 := (m_Store_writeByte z105)
      exact hm.tr (ih l2 (l3 + 1) H107 r hF hm.1)
set_option maxRecDepth 20000 in
set_option maxHeartbeats 2000000 in
theorem gB_Store_writeShapes_10 {N : Nat} {Q : Nat → Prop} {p0 : Nat} {p1 : Nat} (q_p0 : Q p0) (q_p1 : Q p1) : ∀ (n : Nat) (l2 : Int32) (H : Hp) (r : Unit × Hp), B_Store_writeShapes_10 N p0 p1 n l2 H = some r → Cl Q H → Rg Q H r.2 := by
  intro n
  induction n with
  | zero => intro l2 H r hF; rw [B_Store_writeShapes_10] at hF; cases hF
  | succ n ih =>
    intro l2 H r hF hc0
    rw [B_Store_writeShapes_10] at hF
    have hm := Rg.rf hc0
    obtain ⟨q108, hG⟩ := ck_s hF; clear hF
    obtain ⟨x109, -, hF⟩ := bnd_g hG; clear hG
    rcases ite_s hF with ⟨q_14, hG⟩ | ⟨q_14, hG⟩
    · clear hF
      have hr := Option.some.inj hG; subst hr
      exact hm
    · clear hF
      obtain ⟨v112, H113, z111, hF⟩ := bC_s hG; clear hG
      have gz_15 := (g_Shapes_sizeOf z111 hm.1 q_p1)
      replace hm : Rg Q H H113 := hm.tr gz_15
      have s_16 : Sa H H113 := (m_Shapes_sizeOf z111)
      obtain ⟨q114, hG⟩ := ck_s hF; clear hF
      rw [(s_16).1] at q114
      obtain ⟨v116, H117, z115, hF⟩ := bC_s hG; clear hG
      have gz_17 := (g_Store_writeByte z115 hm.1 q_p0)
      replace hm : Rg Q H H117 := hm.tr gz_17
      have s_18 : Sa H H117 := (s_16).tr (m_Store_writeByte z115)
      obtain ⟨a118, e119, hG⟩ := rf_s hF; clear hF
      have qa118 : Q a118 := hm.1 _ _ _ q_p1 e119
      obtain ⟨n120, q121, hF⟩ := ar_s hG; clear hG
      rw [(s_18).1] at q121
      obtain ⟨q122, hG⟩ := ck_s hF; clear hF
      obtain ⟨x123, -, hF⟩ := bnd_g hG; clear hG
      exact hm.tr (gB_Store_writeShapes_34 q_p0 q_p1 ih N l2 x123 H117 r hF hm.1)
set_option maxRecDepth 20000 in
set_option maxHeartbeats 2000000 in
theorem g_Store_writeShapes {N : Nat} {Q : Nat → Prop} {p0 : Nat} {p1 : Nat} {H : Hp} {r : Unit × Hp} (hF : F_Store_writeShapes N p0 p1 H = some r) (hc0 : Cl Q H) (q_p0 : Q p0) (q_p1 : Q p1) : Rg Q H r.2 := by
  unfold F_Store_writeShapes at hF
  have hm := Rg.rf hc0
  obtain ⟨q124, hG⟩ := ck_s hF; clear hF
  obtain ⟨x125, -, hF⟩ := bnd_g hG; clear hG
  obtain ⟨q126, hG⟩ := ck_s hF; clear hF
  obtain ⟨v128, H129, z127, hF⟩ := bC_s hG; clear hG
  have gz_19 := (g_Store_writeByte z127 hm.1 q_p0)
  replace hm : Rg Q H H129 := hm.tr gz_19
  have s_20 : Sa H H129 := (m_Store_writeByte z127)
  exact hm.tr (gB_Store_writeShapes_10 q_p0 q_p1 N 0 H129 r hF hm.1)
set_option maxRecDepth 20000 in
set_option maxHeartbeats 2000000 in
theorem gB_Store_writeInt_3 {N : Nat} {Q : Nat → Prop} {p0 : Nat} {p1 : Int32} (q_p0 : Q p0) : ∀ (n : Nat) (l2 : Int32) (H : Hp) (r : Unit × Hp), B_Store_writeInt_3 N p0 p1 n l2 H = some r → Cl Q H → Rg Q H r.2 := by
  intro n
  induction n with
  | zero => intro l2 H r hF; rw [B_Store_writeInt_3] at hF; cases hF
  | succ n ih =>
    intro l2 H r hF hc0
    rw [B_Store_writeInt_3] at hF
    have hm := Rg.rf hc0
    rcases ite_s hF with ⟨q_4, hG⟩ | ⟨q_4, hG⟩
    · clear hF
      have hr := Option.some.inj hG; subst hr
      exact hm
    · clear hF
      obtain ⟨q12, hF⟩ := ck_s hG; clear hG
      obtain ⟨v14, H15, z13, hG⟩ := bC_s hF; clear hF
      have gz_5 := (g_Store_writeByte z13 hm.1 q_p0)
      replace hm : Rg Q H H15 := hm.tr gz_5
      have s_6 : Sa H H15 := (m_Store_writeByte z13)
      exact hm.tr (ih (l2 + (-8)) H15 r hG hm.1)
set_option maxRecDepth 20000 in
set_option maxHeartbeats 2000000 in
theorem g_Store_writeInt {N : Nat} {Q : Nat → Prop} {p0 : Nat} {p1 : Int32} {H : Hp} {r : Unit × Hp} (hF : F_Store_writeInt N p0 p1 H = some r) (hc0 : Cl Q H) (q_p0 : Q p0) : Rg Q H r.2 := by
  unfold F_Store_writeInt at hF
  have hm := Rg.rf hc0
  exact hm.tr (gB_Store_writeInt_3 q_p0 N 24 H r hF hm.1)
set_option maxRecDepth 20000 in
set_option maxHeartbeats 2000000 in
theorem gB_Store_writeEntity_85 {N : Nat} {Q : Nat → Prop} {p0 : Nat} {p1 : Nat} {p2 : Nat} {p3 : Int32} {kq26 : Int32 → Hp → Option (Unit × Hp)} (q_p0 : Q p0) (q_p1 : Q p1) (q_p2 : Q p2) (hg26 : ∀ (l4 : Int32) (H : Hp) (r : Unit × Hp), kq26 l4 H = some r → Cl Q H → Rg Q H r.2) {l4 : Int32} {H : Hp} {r : Unit × Hp} (hF : B_Store_writeEntity_85 N p0 p1 p2 p3 kq26 l4 H = some r) (hc0 : Cl Q H) : Rg Q H r.2 := by
  unfold B_Store_writeEntity_85 at hF
  have hm := Rg.rf hc0
  exact hm.tr (hg26 (l4 + 1) H r hF hm.1)
set_option maxRecDepth 20000 in
set_option maxHeartbeats 2000000 in
theorem gB_Store_writeEntity_54 {N : Nat} {Q : Nat → Prop} {p0 : Nat} {p1 : Nat} {p2 : Nat} {p3 : Int32} {kq26 : Int32 → Hp → Option (Unit × Hp)} (q_p0 : Q p0) (q_p1 : Q p1) (q_p2 : Q p2) (hg26 : ∀ (l4 : Int32) (H : Hp) (r : Unit × Hp), kq26 l4 H = some r → Cl Q H → Rg Q H r.2) : ∀ (n : Nat) (l4 : Int32) (l5 : Int32) (H : Hp) (r : Unit × Hp), B_Store_writeEntity_54 N p0 p1 p2 p3 kq26 n l4 l5 H = some r → Cl Q H → Rg Q H r.2 := by
  intro n
  induction n with
  | zero => intro l4 l5 H r hF; rw [B_Store_writeEntity_54] at hF; cases hF
  | succ n ih =>
    intro l4 l5 H r hF hc0
    rw [B_Store_writeEntity_54] at hF
    have hm := Rg.rf hc0
    obtain ⟨q101, hG⟩ := ck_s hF; clear hF
    obtain ⟨a102, e103, hF⟩ := rf_s hG; clear hG
    have qa102 : Q a102 := hm.1 _ _ _ q_p1 e103
    obtain ⟨n104, q105, hG⟩ := ar_s hF; clear hF
    obtain ⟨q106, hF⟩ := ck_s hG; clear hG
    obtain ⟨x107, -, hG⟩ := bnd_g hF; clear hF
    rcases ite_s hG with ⟨q_14, hF⟩ | ⟨q_14, hF⟩
    · clear hG
      exact hm.tr (gB_Store_writeEntity_85 q_p0 q_p1 q_p2 hg26 hF hm.1)
    · clear hG
      obtain ⟨q109, hG⟩ := ck_s hF; clear hF
      obtain ⟨v111, H112, z110, hF⟩ := bC_s hG; clear hG
      have gz_15 := (g_World_read z110 hm.1 q_p2)
      replace hm : Rg Q H H112 := hm.tr gz_15
      have s_16 : Sa H H112 := (m_World_read z110)
      obtain ⟨q113, hG⟩ := ck_s hF; clear hF
      rw [(s_16).1] at q113
      obtain ⟨v115, H116, z114, hF⟩ := bC_s hG; clear hG
      have gz_17 := (g_Store_writeInt z114 hm.1 q_p0)
      replace hm : Rg Q H H116 := hm.tr gz_17
      have s_18 : Sa H H116 := (s_16).tr (m_Store_writeInt z114)
      exact hm.tr (ih l4 (l5 + 1) H116 r hF hm.1)
set_option maxRecDepth 20000 in
set_option maxHeartbeats 2000000 in
theorem gB_Store_writeEntity_26 {N : Nat} {Q : Nat → Prop} {p0 : Nat} {p1 : Nat} {p2 : Nat} {p3 : Int32} (q_p0 : Q p0) (q_p1 : Q p1) (q_p2 : Q p2) : ∀ (n : Nat) (l4 : Int32) (H : Hp) (r : Unit × Hp), B_Store_writeEntity_26 N p0 p1 p2 p3 n l4 H = some r → Cl Q H → Rg Q H r.2 := by
  intro n
  induction n with
  | zero => intro l4 H r hF; rw [B_Store_writeEntity_26] at hF; cases hF
  | succ n ih =>
    intro l4 H r hF hc0
    rw [B_Store_writeEntity_26] at hF
    have hm := Rg.rf hc0
    obtain ⟨q117, hG⟩ := ck_s hF; clear hF
    obtain ⟨x118, -, hF⟩ := bnd_g hG; clear hG
    rcases ite_s hF with ⟨q_19, hG⟩ | ⟨q_19, hG⟩
    · clear hF
      have hr := Option.some.inj hG; subst hr
      exact hm
    · clear hF
      obtain ⟨q120, hF⟩ := ck_s hG; clear hG
      obtain ⟨v122, H123, z121, hG⟩ := bC_s hF; clear hF
      have gz_20 := (g_World_owns z121 hm.1 q_p2)
      replace hm : Rg Q H H123 := hm.tr gz_20
      have s_21 : Sa H H123 := (m_World_owns z121)
      rcases ite_s hG with ⟨q_22, hF⟩ | ⟨q_22, hF⟩
      · clear hG
        exact hm.tr (gB_Store_writeEntity_85 q_p0 q_p1 q_p2 ih hF hm.1)
      · clear hG
        obtain ⟨a125, e126, hG⟩ := rf_s hF; clear hF
        have qa125 : Q a125 := hm.1 _ _ _ q_p1 e126
        obtain ⟨n127, q128, hF⟩ := ar_s hG; clear hG
        rw [(s_21).1] at q128
        obtain ⟨q129, hG⟩ := ck_s hF; clear hF
        obtain ⟨x130, -, hF⟩ := bnd_g hG; clear hG
        exact hm.tr (gB_Store_writeEntity_54 q_p0 q_p1 q_p2 ih N l4 x130 H123 r hF hm.1)
set_option maxRecDepth 20000 in
set_option maxHeartbeats 2000000 in
theorem g_Store_writeEntity {N : Nat} {Q : Nat → Prop} {p0 : Nat} {p1 : Nat} {p2 : Nat} {p3 : Int32} {H : Hp} {r : Unit × Hp} (hF : F_Store_writeEntity N p0 p1 p2 p3 H = some r) (hc0 : Cl Q H) (q_p0 : Q p0) (q_p1 : Q p1) (q_p2 : Q p2) : Rg Q H r.2 := by
  unfold F_Store_writeEntity at hF
  have hm := Rg.rf hc0
  obtain ⟨q131, hG⟩ := ck_s hF; clear hF
  obtain ⟨a132, e133, hF⟩ := rf_s hG; clear hG
  have qa132 : Q a132 := hm.1 _ _ _ q_p2 e133
  obtain ⟨n134, q135, hG⟩ := ar_s hF; clear hF
  obtain ⟨q136, hF⟩ := ck_s hG; clear hG
  obtain ⟨x137, -, hG⟩ := bnd_g hF; clear hF
  obtain ⟨q138, hF⟩ := ck_s hG; clear hG
  obtain ⟨v140, H141, z139, hG⟩ := bC_s hF; clear hF
  have gz_23 := (g_Store_writeByte z139 hm.1 q_p0)
  replace hm : Rg Q H H141 := hm.tr gz_23
  have s_24 : Sa H H141 := (m_Store_writeByte z139)
  obtain ⟨a142, e143, hF⟩ := rf_s hG; clear hG
  have qa142 : Q a142 := hm.1 _ _ _ q_p2 e143
  obtain ⟨n144, q145, hG⟩ := ar_s hF; clear hF
  rw [(s_24).1] at q145
  obtain ⟨q146, hF⟩ := ck_s hG; clear hG
  obtain ⟨x147, -, hG⟩ := bnd_g hF; clear hF
  obtain ⟨v149, H150, z148, hF⟩ := bC_s hG; clear hG
  have gz_25 := (g_Store_writeByte z148 hm.1 q_p0)
  replace hm : Rg Q H H150 := hm.tr gz_25
  have s_26 : Sa H H150 := (s_24).tr (m_Store_writeByte z148)
  exact hm.tr (gB_Store_writeEntity_26 q_p0 q_p1 q_p2 N 0 H150 r hF hm.1)
set_option maxRecDepth 20000 in
set_option maxHeartbeats 2000000 in
theorem gB_Store_writeEvents_64 {N : Nat} {Q : Nat → Prop} {p0 : Nat} {p1 : Nat} {p2 : Nat} {kq21 : Int32 → Hp → Option (Unit × Hp)} (q_p0 : Q p0) (q_p1 : Q p1) (q_p2 : Q p2) (hg21 : ∀ (l3 : Int32) (H : Hp) (r : Unit × Hp), kq21 l3 H = some r → Cl Q H → Rg Q H r.2) : ∀ (n : Nat) (l3 : Int32) (l4 : Int32) (l5 : Int32) (l6 : Int32) (H : Hp) (r : Unit × Hp), B_Store_writeEvents_64 N p0 p1 p2 kq21 n l3 l4 l5 l6 H = some r → Cl Q H → Rg Q H r.2 := by
  intro n
  induction n with
  | zero => intro l3 l4 l5 l6 H r hF; rw [B_Store_writeEvents_64] at hF; cases hF
  | succ n ih =>
    intro l3 l4 l5 l6 H r hF hc0
    rw [B_Store_writeEvents_64] at hF
    have hm := Rg.rf hc0
    rcases ite_s hF with ⟨q_13, hG⟩ | ⟨q_13, hG⟩
    · clear hF
      exact hm.tr (hg21 (l3 + 1) H r hG hm.1)
    · clear hF
      obtain ⟨q96, hF⟩ := ck_s hG; clear hG
      obtain ⟨a97, e98, hG⟩ := rf_s hF; clear hF
      have qa97 : Q a97 := hm.1 _ _ _ q_p2 e98
      obtain ⟨n99, q100, hF⟩ := ar_s hG; clear hG
      obtain ⟨q101, hG⟩ := ck_s hF; clear hF
      obtain ⟨x102, -, hF⟩ := bnd_g hG; clear hG
      obtain ⟨q103, hG⟩ := ck_s hF; clear hF
      obtain ⟨v105, H106, z104, hF⟩ := bC_s hG; clear hG
      have gz_14 := (g_Store_writeInt z104 hm.1 q_p0)
      replace hm : Rg Q H H106 := hm.tr gz_14
      have s_15 : Sa H H106 := (m_Store_writeInt z104)
      exact hm.tr (ih l3 l4 l5 (l6 + 1) H106 r hF hm.1)
set_option maxRecDepth 20000 in
set_option maxHeartbeats 2000000 in
theorem gB_Store_writeEvents_21 {N : Nat} {Q : Nat → Prop} {p0 : Nat} {p1 : Nat} {p2 : Nat} (q_p0 : Q p0) (q_p1 : Q p1) (q_p2 : Q p2) : ∀ (n : Nat) (l3 : Int32) (H : Hp) (r : Unit × Hp), B_Store_writeEvents_21 N p0 p1 p2 n l3 H = some r → Cl Q H → Rg Q H r.2 := by
  intro n
  induction n with
  | zero => intro l3 H r hF; rw [B_Store_writeEvents_21] at hF; cases hF
  | succ n ih =>
    intro l3 H r hF hc0
    rw [B_Store_writeEvents_21] at hF
    have hm := Rg.rf hc0
    obtain ⟨q107, hG⟩ := ck_s hF; clear hF
    obtain ⟨x108, -, hF⟩ := bnd_g hG; clear hG
    rcases ite_s hF with ⟨q_16, hG⟩ | ⟨q_16, hG⟩
    · clear hF
      have hr := Option.some.inj hG; subst hr
      exact hm
    · clear hF
      obtain ⟨x110, -, hF⟩ := bnd_g hG; clear hG
      obtain ⟨a111, e112, hG⟩ := rf_s hF; clear hF
      have qa111 : Q a111 := hm.1 _ _ _ q_p2 e112
      obtain ⟨n113, q114, hF⟩ := ar_s hG; clear hG
      obtain ⟨q115, hG⟩ := ck_s hF; clear hF
      obtain ⟨x116, -, hF⟩ := bnd_g hG; clear hG
      obtain ⟨q117, hG⟩ := ck_s hF; clear hF
      obtain ⟨v119, H120, z118, hF⟩ := bC_s hG; clear hG
      have gz_17 := (g_Store_writeByte z118 hm.1 q_p0)
      replace hm : Rg Q H H120 := hm.tr gz_17
      have s_18 : Sa H H120 := (m_Store_writeByte z118)
      obtain ⟨a121, e122, hG⟩ := rf_s hF; clear hF
      have qa121 : Q a121 := hm.1 _ _ _ q_p2 e122
      obtain ⟨n123, q124, hF⟩ := ar_s hG; clear hG
      rw [(s_18).1] at q124
      obtain ⟨q125, hG⟩ := ck_s hF; clear hF
      obtain ⟨x126, -, hF⟩ := bnd_g hG; clear hG
      obtain ⟨q127, hG⟩ := ck_s hF; clear hF
      rw [(s_18).1] at q127
      obtain ⟨v129, H130, z128, hF⟩ := bC_s hG; clear hG
      have gz_19 := (g_Shapes_sizeOf z128 hm.1 q_p1)
      replace hm : Rg Q H H130 := hm.tr gz_19
      have s_20 : Sa H H130 := (s_18).tr (m_Shapes_sizeOf z128)
      obtain ⟨x131, -, hG⟩ := bnd_g hF; clear hF
      exact hm.tr (gB_Store_writeEvents_64 q_p0 q_p1 q_p2 ih N l3 x110 x131 1 H130 r hG hm.1)
set_option maxRecDepth 20000 in
set_option maxHeartbeats 2000000 in
theorem g_Store_writeEvents {N : Nat} {Q : Nat → Prop} {p0 : Nat} {p1 : Nat} {p2 : Nat} {H : Hp} {r : Unit × Hp} (hF : F_Store_writeEvents N p0 p1 p2 H = some r) (hc0 : Cl Q H) (q_p0 : Q p0) (q_p1 : Q p1) (q_p2 : Q p2) : Rg Q H r.2 := by
  unfold F_Store_writeEvents at hF
  have hm := Rg.rf hc0
  obtain ⟨q132, hG⟩ := ck_s hF; clear hF
  obtain ⟨x133, -, hF⟩ := bnd_g hG; clear hG
  obtain ⟨q134, hG⟩ := ck_s hF; clear hF
  obtain ⟨v136, H137, z135, hF⟩ := bC_s hG; clear hG
  have gz_21 := (g_Store_writeByte z135 hm.1 q_p0)
  replace hm : Rg Q H H137 := hm.tr gz_21
  have s_22 : Sa H H137 := (m_Store_writeByte z135)
  obtain ⟨x138, -, hG⟩ := bnd_g hF; clear hF
  obtain ⟨v140, H141, z139, hF⟩ := bC_s hG; clear hG
  have gz_23 := (g_Store_writeByte z139 hm.1 q_p0)
  replace hm : Rg Q H H141 := hm.tr gz_23
  have s_24 : Sa H H141 := (s_22).tr (m_Store_writeByte z139)
  exact hm.tr (gB_Store_writeEvents_21 q_p0 q_p1 q_p2 N 0 H141 r hF hm.1)
set_option maxRecDepth 20000 in
set_option maxHeartbeats 2000000 in
theorem gB_Store_write_148 {N : Nat} {Q : Nat → Prop} {p0 : Nat} {p1 : Nat} {p2 : Nat} {p3 : Int32} {kq89 : Int32 → Hp → Option (Int32 × Hp)} (q_p0 : Q p0) (q_p1 : Q p1) (q_p2 : Q p2) (hg89 : ∀ (l4 : Int32) (H : Hp) (r : Int32 × Hp), kq89 l4 H = some r → Cl Q H → Rg Q H r.2) {l4 : Int32} {H : Hp} {r : Int32 × Hp} (hF : B_Store_write_148 N p0 p1 p2 p3 kq89 l4 H = some r) (hc0 : Cl Q H) : Rg Q H r.2 := by
  unfold B_Store_write_148 at hF
  have hm := Rg.rf hc0
  exact hm.tr (hg89 (l4 + 1) H r hF hm.1)
set_option maxRecDepth 20000 in
set_option maxHeartbeats 2000000 in
theorem gB_Store_write_124 {N : Nat} {Q : Nat → Prop} {p0 : Nat} {p1 : Nat} {p2 : Nat} {p3 : Int32} {kq89 : Int32 → Hp → Option (Int32 × Hp)} (q_p0 : Q p0) (q_p1 : Q p1) (q_p2 : Q p2) (hg89 : ∀ (l4 : Int32) (H : Hp) (r : Int32 × Hp), kq89 l4 H = some r → Cl Q H → Rg Q H r.2) {l4 : Int32} {w0 : Nat} {w1 : Int32} {H : Hp} {r : Int32 × Hp} (hF : B_Store_write_124 N p0 p1 p2 p3 kq89 l4 w0 w1 H = some r) (hc0 : Cl Q H) (q_w0 : Q w0) : Rg Q H r.2 := by
  unfold B_Store_write_124 at hF
  have hm := Rg.rf hc0
  obtain ⟨q179, hG⟩ := ck_s hF; clear hF
  obtain ⟨v181, H182, z180, hF⟩ := bC_s hG; clear hG
  have gz_35 := (g_Store_writeByte z180 hm.1 q_w0)
  replace hm : Rg Q H H182 := hm.tr gz_35
  have s_36 : Sa H H182 := (m_Store_writeByte z180)
  obtain ⟨q183, hG⟩ := ck_s hF; clear hF
  rw [(s_36).1] at q183
  obtain ⟨a184, e185, hF⟩ := rf_s hG; clear hG
  have qa184 : Q a184 := hm.1 _ _ _ q_p2 e185
  obtain ⟨n186, q187, hG⟩ := ar_s hF; clear hF
  rw [(s_36).1] at q187
  obtain ⟨q188, hF⟩ := ck_s hG; clear hG
  obtain ⟨x189, -, hG⟩ := bnd_g hF; clear hF
  rcases ite_s hG with ⟨q_37, hF⟩ | ⟨q_37, hF⟩
  · clear hG
    exact hm.tr (gB_Store_write_148 q_p0 q_p1 q_p2 hg89 hF hm.1)
  · clear hG
    obtain ⟨q191, hG⟩ := ck_s hF; clear hF
    rw [(s_36).1] at q191
    obtain ⟨a192, e193, hF⟩ := rf_s hG; clear hG
    have qa192 : Q a192 := hm.1 _ _ _ q_p1 e193
    obtain ⟨q194, hG⟩ := ck_s hF; clear hF
    rw [(s_36).1] at q194
    obtain ⟨v196, H197, z195, hF⟩ := bC_s hG; clear hG
    have gz_38 := (g_Store_writeEntity z195 hm.1 q_p0 qa192 q_p2)
    replace hm : Rg Q H H197 := hm.tr gz_38
    have s_39 : Sa H H197 := (s_36).tr (m_Store_writeEntity z195)
    exact hm.tr (gB_Store_write_148 q_p0 q_p1 q_p2 hg89 hF hm.1)
set_option maxRecDepth 20000 in
set_option maxHeartbeats 2000000 in
theorem gB_Store_write_89 {N : Nat} {Q : Nat → Prop} {p0 : Nat} {p1 : Nat} {p2 : Nat} {p3 : Int32} (q_p0 : Q p0) (q_p1 : Q p1) (q_p2 : Q p2) : ∀ (n : Nat) (l4 : Int32) (H : Hp) (r : Int32 × Hp), B_Store_write_89 N p0 p1 p2 p3 n l4 H = some r → Cl Q H → Rg Q H r.2 := by
  intro n
  induction n with
  | zero => intro l4 H r hF; rw [B_Store_write_89] at hF; cases hF
  | succ n ih =>
    intro l4 H r hF hc0
    rw [B_Store_write_89] at hF
    have hm := Rg.rf hc0
    rcases ite_s hF with ⟨q_40, hG⟩ | ⟨q_40, hG⟩
    · clear hF
      obtain ⟨q199, hF⟩ := ck_s hG; clear hG
      obtain ⟨a200, e201, hG⟩ := rf_s hF; clear hF
      have qa200 : Q a200 := hm.1 _ _ _ q_p1 e201
      obtain ⟨q202, hF⟩ := ck_s hG; clear hG
      obtain ⟨v204, H205, z203, hG⟩ := bC_s hF; clear hF
      have gz_41 := (g_Store_writeEvents z203 hm.1 q_p0 qa200 q_p2)
      replace hm : Rg Q H H205 := hm.tr gz_41
      have s_42 : Sa H H205 := (m_Store_writeEvents z203)
      obtain ⟨x206, -, hF⟩ := bnd_g hG; clear hG
      have hr := Option.some.inj hF; subst hr
      exact hm
    · clear hF
      obtain ⟨q207, hF⟩ := ck_s hG; clear hG
      obtain ⟨a208, e209, hG⟩ := rf_s hF; clear hF
      have qa208 : Q a208 := hm.1 _ _ _ q_p2 e209
      obtain ⟨n210, q211, hF⟩ := ar_s hG; clear hG
      obtain ⟨q212, hG⟩ := ck_s hF; clear hF
      obtain ⟨x213, -, hF⟩ := bnd_g hG; clear hG
      obtain ⟨q214, hG⟩ := ck_s hF; clear hF
      obtain ⟨v216, H217, z215, hF⟩ := bC_s hG; clear hG
      have gz_43 := (g_Store_writeInt z215 hm.1 q_p0)
      replace hm : Rg Q H H217 := hm.tr gz_43
      have s_44 : Sa H H217 := (m_Store_writeInt z215)
      obtain ⟨a218, e219, hG⟩ := rf_s hF; clear hF
      have qa218 : Q a218 := hm.1 _ _ _ q_p2 e219
      obtain ⟨n220, q221, hF⟩ := ar_s hG; clear hG
      rw [(s_44).1] at q221
      obtain ⟨q222, hG⟩ := ck_s hF; clear hF
      obtain ⟨x223, -, hF⟩ := bnd_g hG; clear hG
      rcases ite_s hF with ⟨q_45, hG⟩ | ⟨q_45, hG⟩
      · clear hF
        exact hm.tr (gB_Store_write_124 q_p0 q_p1 q_p2 ih hG hm.1 q_p0)
      · clear hF
        exact hm.tr (gB_Store_write_124 q_p0 q_p1 q_p2 ih hG hm.1 q_p0)
set_option maxRecDepth 20000 in
set_option maxHeartbeats 2000000 in
theorem gB_Store_write_23 {N : Nat} {Q : Nat → Prop} {p0 : Nat} {p1 : Nat} {p2 : Nat} {p3 : Int32} (q_p0 : Q p0) (q_p1 : Q p1) (q_p2 : Q p2) {w0 : Nat} {w1 : Int32} {H : Hp} {r : Int32 × Hp} (hF : B_Store_write_23 N p0 p1 p2 p3 w0 w1 H = some r) (hc0 : Cl Q H) (q_w0 : Q w0) : Rg Q H r.2 := by
  unfold B_Store_write_23 at hF
  have hm := Rg.rf hc0
  obtain ⟨q225, hG⟩ := ck_s hF; clear hF
  obtain ⟨H226, eH226, hF⟩ := bnd_g hG; clear hG
  replace hm : Rg Q H H226 := hm.tr (by rw [eH226]; exact Rg.sD hm.1 q_w0)
  have s_46 : Sa H H226 := by rw [eH226]; exact Sa.rf _
  obtain ⟨q227, hG⟩ := ck_s hF; clear hF
  rw [(s_46).1] at q227
  obtain ⟨v229, H230, z228, hF⟩ := bC_s hG; clear hG
  have gz_47 := (g_Store_writeByte z228 hm.1 q_p0)
  replace hm : Rg Q H H230 := hm.tr gz_47
  have s_48 : Sa H H230 := (s_46).tr (m_Store_writeByte z228)
  obtain ⟨v232, H233, z231, hG⟩ := bC_s hF; clear hF
  have gz_49 := (g_Store_writeByte z231 hm.1 q_p0)
  replace hm : Rg Q H H233 := hm.tr gz_49
  have s_50 : Sa H H233 := (s_48).tr (m_Store_writeByte z231)
  obtain ⟨q234, hF⟩ := ck_s hG; clear hG
  rw [(s_50).1] at q234
  obtain ⟨a235, e236, hG⟩ := rf_s hF; clear hF
  have qa235 : Q a235 := hm.1 _ _ _ q_p1 e236
  obtain ⟨v238, H239, z237, hF⟩ := bC_s hG; clear hG
  have gz_51 := (g_Store_writeShapes z237 hm.1 q_p0 qa235)
  replace hm : Rg Q H H239 := hm.tr gz_51
  have s_52 : Sa H H239 := (s_50).tr (m_Store_writeShapes z237)
  obtain ⟨a240, e241, hG⟩ := rf_s hF; clear hF
  have qa240 : Q a240 := hm.1 _ _ _ q_p1 e241
  obtain ⟨v243, H244, z242, hF⟩ := bC_s hG; clear hG
  have gz_53 := (g_Store_writeShapes z242 hm.1 q_p0 qa240)
  replace hm : Rg Q H H244 := hm.tr gz_53
  have s_54 : Sa H H244 := (s_52).tr (m_Store_writeShapes z242)
  obtain ⟨q245, hG⟩ := ck_s hF; clear hF
  rw [(s_54).1] at q245
  obtain ⟨x246, -, hF⟩ := bnd_g hG; clear hG
  obtain ⟨v248, H249, z247, hG⟩ := bC_s hF; clear hF
  have gz_55 := (g_Store_writeInt z247 hm.1 q_p0)
  replace hm : Rg Q H H249 := hm.tr gz_55
  have s_56 : Sa H H249 := (s_54).tr (m_Store_writeInt z247)
  obtain ⟨x250, -, hF⟩ := bnd_g hG; clear hG
  obtain ⟨v252, H253, z251, hG⟩ := bC_s hF; clear hF
  have gz_57 := (g_Store_writeInt z251 hm.1 q_p0)
  replace hm : Rg Q H H253 := hm.tr gz_57
  have s_58 : Sa H H253 := (s_56).tr (m_Store_writeInt z251)
  obtain ⟨x254, -, hF⟩ := bnd_g hG; clear hG
  obtain ⟨v256, H257, z255, hG⟩ := bC_s hF; clear hF
  have gz_59 := (g_Store_writeInt z255 hm.1 q_p0)
  replace hm : Rg Q H H257 := hm.tr gz_59
  have s_60 : Sa H H257 := (s_58).tr (m_Store_writeInt z255)
  obtain ⟨x258, -, hF⟩ := bnd_g hG; clear hG
  obtain ⟨v260, H261, z259, hG⟩ := bC_s hF; clear hF
  have gz_61 := (g_Store_writeInt z259 hm.1 q_p0)
  replace hm : Rg Q H H261 := hm.tr gz_61
  have s_62 : Sa H H261 := (s_60).tr (m_Store_writeInt z259)
  exact hm.tr (gB_Store_write_89 q_p0 q_p1 q_p2 N 0 H261 r hG hm.1)
set_option maxRecDepth 20000 in
set_option maxHeartbeats 2000000 in
theorem g_Store_write {N : Nat} {Q : Nat → Prop} {p0 : Nat} {p1 : Nat} {p2 : Nat} {p3 : Int32} {H : Hp} {r : Int32 × Hp} (hF : F_Store_write N p0 p1 p2 p3 H = some r) (hc0 : Cl Q H) (q_p0 : Q p0) (q_p1 : Q p1) (q_p2 : Q p2) : Rg Q H r.2 := by
  unfold F_Store_write at hF
  have hm := Rg.rf hc0
  obtain ⟨q262, hG⟩ := ck_s hF; clear hF
  obtain ⟨q263, hF⟩ := ck_s hG; clear hG
  obtain ⟨H264, eH264, hG⟩ := bnd_g hF; clear hF
  replace hm : Rg Q H H264 := hm.tr (by rw [eH264]; exact Rg.sD hm.1 q_p0)
  have s_63 : Sa H H264 := by rw [eH264]; exact Sa.rf _
  obtain ⟨H265, eH265, hF⟩ := bnd_g hG; clear hG
  replace hm : Rg Q H H265 := hm.tr (by rw [eH265]; exact Rg.sD hm.1 q_p0)
  have s_64 : Sa H H265 := by rw [eH265]; exact s_63
  rcases ite_s hF with ⟨q_65, hG⟩ | ⟨q_65, hG⟩
  · clear hF
    obtain ⟨x267, -, hF⟩ := bnd_g hG; clear hG
    exact hm.tr (gB_Store_write_23 q_p0 q_p1 q_p2 hF hm.1 q_p0)
  · clear hF
    exact hm.tr (gB_Store_write_23 q_p0 q_p1 q_p2 hG hm.1 q_p0)
set_option maxRecDepth 20000 in
set_option maxHeartbeats 2000000 in
theorem g_W_sum {N : Nat} {Q : Nat → Prop} {p0 : Nat} {H : Hp} {r : Int32 × Hp} (hF : F_W_sum N p0 H = some r) (hc0 : Cl Q H) (q_p0 : Q p0) : Rg Q H r.2 := by
  unfold F_W_sum at hF
  have hm := Rg.rf hc0
  obtain ⟨q29, hG⟩ := ck_s hF; clear hF
  obtain ⟨a30, e31, hF⟩ := rf_s hG; clear hG
  have qa30 : Q a30 := hm.1 _ _ _ q_p0 e31
  obtain ⟨a32, e33, hG⟩ := rf_s hF; clear hF
  have qa32 : Q a32 := hm.1 _ _ _ q_p0 e33
  obtain ⟨a34, e35, hF⟩ := rf_s hG; clear hG
  have qa34 : Q a34 := hm.1 _ _ _ q_p0 e35
  obtain ⟨q36, hG⟩ := ck_s hF; clear hF
  obtain ⟨a37, e38, hF⟩ := rf_s hG; clear hG
  have qa37 : Q a37 := hm.1 _ _ _ qa34 e38
  obtain ⟨q39, hG⟩ := ck_s hF; clear hF
  obtain ⟨v41, H42, z40, hF⟩ := bC_s hG; clear hG
  have gz_3 := (g_Store_write z40 hm.1 qa30 qa32 qa37)
  replace hm : Rg Q H H42 := hm.tr gz_3
  have s_4 : Sa H H42 := (m_Store_write z40)
  have hr := Option.some.inj hF; subst hr
  exact hm
set_option maxRecDepth 20000 in
set_option maxHeartbeats 2000000 in
theorem g_W_save {N : Nat} {Q : Nat → Prop} {p0 : Nat} {H : Hp} {r : Int32 × Hp} (hF : F_W_save N p0 H = some r) (hc0 : Cl Q H) (q_p0 : Q p0) : Rg Q H r.2 := by
  unfold F_W_save at hF
  have hm := Rg.rf hc0
  obtain ⟨q51, hG⟩ := ck_s hF; clear hF
  obtain ⟨a52, e53, hF⟩ := rf_s hG; clear hG
  have qa52 : Q a52 := hm.1 _ _ _ q_p0 e53
  obtain ⟨q54, hG⟩ := ck_s hF; clear hF
  obtain ⟨v56, H57, z55, hF⟩ := bC_s hG; clear hG
  have gz_6 := (g_Play_isQuiet z55 hm.1 qa52)
  replace hm : Rg Q H H57 := hm.tr gz_6
  have s_7 : Sa H H57 := (m_Play_isQuiet z55)
  rcases ite_s hF with ⟨q_8, hG⟩ | ⟨q_8, hG⟩
  · clear hF
    have hr := Option.some.inj hG; subst hr
    exact hm
  · clear hF
    obtain ⟨a59, e60, hF⟩ := rf_s hG; clear hG
    have qa59 : Q a59 := hm.1 _ _ _ q_p0 e60
    obtain ⟨a61, e62, hG⟩ := rf_s hF; clear hF
    have qa61 : Q a61 := hm.1 _ _ _ q_p0 e62
    obtain ⟨a63, e64, hF⟩ := rf_s hG; clear hG
    have qa63 : Q a63 := hm.1 _ _ _ q_p0 e64
    obtain ⟨q65, hG⟩ := ck_s hF; clear hF
    rw [(s_7).1] at q65
    obtain ⟨a66, e67, hF⟩ := rf_s hG; clear hG
    have qa66 : Q a66 := hm.1 _ _ _ qa63 e67
    obtain ⟨q68, hG⟩ := ck_s hF; clear hF
    rw [(s_7).1] at q68
    obtain ⟨v70, H71, z69, hF⟩ := bC_s hG; clear hG
    have gz_9 := (g_Store_write z69 hm.1 qa59 qa61 qa66)
    replace hm : Rg Q H H71 := hm.tr gz_9
    have s_10 : Sa H H71 := (s_7).tr (m_Store_write z69)
    obtain ⟨a72, e73, hG⟩ := rf_s hF; clear hF
    have qa72 : Q a72 := hm.1 _ _ _ q_p0 e73
    obtain ⟨q74, hF⟩ := ck_s hG; clear hG
    rw [(s_10).1] at q74
    obtain ⟨x75, -, hG⟩ := bnd_g hF; clear hF
    have hr := Option.some.inj hG; subst hr
    exact hm
set_option maxRecDepth 20000 in
set_option maxHeartbeats 2000000 in
theorem g_W_bend {N : Nat} {Q : Nat → Prop} {p0 : Nat} {p1 : Int32} {p2 : Int32} {H : Hp} {r : Int32 × Hp} (hF : F_W_bend N p0 p1 p2 H = some r) (hc0 : Cl Q H) (q_p0 : Q p0) : Rg Q H r.2 := by
  unfold F_W_bend at hF
  have hm := Rg.rf hc0
  rcases ite_s hF with ⟨q_5, hG⟩ | ⟨q_5, hG⟩
  · clear hF
    have hr := Option.some.inj hG; subst hr
    exact hm
  · clear hF
    obtain ⟨q38, hF⟩ := ck_s hG; clear hG
    obtain ⟨a39, e40, hG⟩ := rf_s hF; clear hF
    have qa39 : Q a39 := hm.1 _ _ _ q_p0 e40
    obtain ⟨q41, hF⟩ := ck_s hG; clear hG
    obtain ⟨x42, -, hG⟩ := bnd_g hF; clear hF
    rcases ite_s hG with ⟨q_6, hF⟩ | ⟨q_6, hF⟩
    · clear hG
      obtain ⟨a44, e45, hG⟩ := rf_s hF; clear hF
      have qa44 : Q a44 := hm.1 _ _ _ q_p0 e45
      obtain ⟨q46, hF⟩ := ck_s hG; clear hG
      obtain ⟨a47, e48, hG⟩ := rf_s hF; clear hF
      have qa47 : Q a47 := hm.1 _ _ _ qa44 e48
      obtain ⟨n49, q50, hF⟩ := ar_s hG; clear hG
      obtain ⟨q51, hG⟩ := ck_s hF; clear hF
      obtain ⟨x52, -, hF⟩ := bnd_g hG; clear hG
      obtain ⟨q53, hG⟩ := ck_s hF; clear hF
      obtain ⟨H54, eH54, hF⟩ := bnd_g hG; clear hG
      replace hm : Rg Q H H54 := hm.tr (by rw [eH54]; exact Rg.sD hm.1 qa47)
      have s_7 : Sa H H54 := by rw [eH54]; exact Sa.rf _
      have hr := Option.some.inj hF; subst hr
      exact hm
    · clear hG
      have hr := Option.some.inj hF; subst hr
      exact hm
set_option maxRecDepth 20000 in
set_option maxHeartbeats 2000000 in
theorem g_W_cut {N : Nat} {Q : Nat → Prop} {p0 : Nat} {p1 : Int32} {H : Hp} {r : Int32 × Hp} (hF : F_W_cut N p0 p1 H = some r) (hc0 : Cl Q H) (q_p0 : Q p0) : Rg Q H r.2 := by
  unfold F_W_cut at hF
  have hm := Rg.rf hc0
  rcases ite_s hF with ⟨q_5, hG⟩ | ⟨q_5, hG⟩
  · clear hF
    have hr := Option.some.inj hG; subst hr
    exact hm
  · clear hF
    obtain ⟨q24, hF⟩ := ck_s hG; clear hG
    obtain ⟨a25, e26, hG⟩ := rf_s hF; clear hF
    have qa25 : Q a25 := hm.1 _ _ _ q_p0 e26
    obtain ⟨q27, hF⟩ := ck_s hG; clear hG
    obtain ⟨x28, -, hG⟩ := bnd_g hF; clear hF
    rcases ite_s hG with ⟨q_6, hF⟩ | ⟨q_6, hF⟩
    · clear hG
      obtain ⟨a30, e31, hG⟩ := rf_s hF; clear hF
      have qa30 : Q a30 := hm.1 _ _ _ q_p0 e31
      obtain ⟨q32, hF⟩ := ck_s hG; clear hG
      obtain ⟨H33, eH33, hG⟩ := bnd_g hF; clear hF
      replace hm : Rg Q H H33 := hm.tr (by rw [eH33]; exact Rg.sD hm.1 qa30)
      have s_7 : Sa H H33 := by rw [eH33]; exact Sa.rf _
      have hr := Option.some.inj hG; subst hr
      exact hm
    · clear hG
      have hr := Option.some.inj hF; subst hr
      exact hm
set_option maxRecDepth 20000 in
set_option maxHeartbeats 2000000 in
theorem g_W_byteOut {N : Nat} {Q : Nat → Prop} {p0 : Nat} {p1 : Int32} {H : Hp} {r : Int32 × Hp} (hF : F_W_byteOut N p0 p1 H = some r) (hc0 : Cl Q H) (q_p0 : Q p0) : Rg Q H r.2 := by
  unfold F_W_byteOut at hF
  have hm := Rg.rf hc0
  rcases ite_s hF with ⟨q_3, hG⟩ | ⟨q_3, hG⟩
  · clear hF
    have hr := Option.some.inj hG; subst hr
    exact hm
  · clear hF
    obtain ⟨q34, hF⟩ := ck_s hG; clear hG
    obtain ⟨a35, e36, hG⟩ := rf_s hF; clear hF
    have qa35 : Q a35 := hm.1 _ _ _ q_p0 e36
    obtain ⟨q37, hF⟩ := ck_s hG; clear hG
    obtain ⟨x38, -, hG⟩ := bnd_g hF; clear hF
    rcases ite_s hG with ⟨q_4, hF⟩ | ⟨q_4, hF⟩
    · clear hG
      obtain ⟨a40, e41, hG⟩ := rf_s hF; clear hF
      have qa40 : Q a40 := hm.1 _ _ _ q_p0 e41
      obtain ⟨q42, hF⟩ := ck_s hG; clear hG
      obtain ⟨a43, e44, hG⟩ := rf_s hF; clear hF
      have qa43 : Q a43 := hm.1 _ _ _ qa40 e44
      obtain ⟨n45, q46, hF⟩ := ar_s hG; clear hG
      obtain ⟨q47, hG⟩ := ck_s hF; clear hF
      obtain ⟨x48, -, hF⟩ := bnd_g hG; clear hG
      have hr := Option.some.inj hF; subst hr
      exact hm
    · clear hG
      have hr := Option.some.inj hF; subst hr
      exact hm
set_option maxRecDepth 20000 in
set_option maxHeartbeats 2000000 in
theorem gB_Store_readNumber_85 {N : Nat} {Q : Nat → Prop} {p0 : Nat} {p1 : Int32} {p2 : Int32} {p3 : Int32} {B : Nat} (hn : ∀ a, B ≤ a → Q a) (q_p0 : Q p0)  {H : Hp} {r : (Ot Int32) × Hp} (hF : B_Store_readNumber_85 N p0 p1 p2 p3  H = some r) (hc0 : Cl Q H) (hB : B ≤ H.sh.length) : Rg Q H r.2 ∧ (∀ x, r.1 = .inr x → Q x) := by
  unfold B_Store_readNumber_85 at hF
  have hm := Rg.rf hc0
  obtain ⟨q53, hG⟩ := ck_s hF; clear hF
  obtain ⟨x54, -, hF⟩ := bnd_g hG; clear hG
  obtain ⟨H55, eH55, hG⟩ := bnd_g hF; clear hF
  replace hm : Rg Q H H55 := hm.tr (by rw [eH55]; exact Rg.sD hm.1 q_p0)
  have s_11 : Sa H H55 := by rw [eH55]; exact Sa.rf _
  replace hB : B ≤ H55.sh.length := by rw [eH55]; exact hB
  have hr := Option.some.inj hG; subst hr
  exact ⟨hm.tr (Rg.nx hm.1), (fun x e => by cases e; exact hn _ hB)⟩
set_option maxRecDepth 20000 in
set_option maxHeartbeats 2000000 in
theorem gB_Store_readNumber_37 {N : Nat} {Q : Nat → Prop} {p0 : Nat} {p1 : Int32} {p2 : Int32} {p3 : Int32} {B : Nat} (hn : ∀ a, B ≤ a → Q a) (q_p0 : Q p0) : ∀ (n : Nat) (l4 : Int32) (l5 : Int32) (H : Hp) (r : (Ot Int32) × Hp), B_Store_readNumber_37 N p0 p1 p2 p3 n l4 l5 H = some r → Cl Q H → B ≤ H.sh.length → Rg Q H r.2 ∧ (∀ x, r.1 = .inr x → Q x) := by
  intro n
  induction n with
  | zero => intro l4 l5 H r hF; rw [B_Store_readNumber_37] at hF; cases hF
  | succ n ih =>
    intro l4 l5 H r hF hc0 hB
    rw [B_Store_readNumber_37] at hF
    have hm := Rg.rf hc0
    rcases ite_s hF with ⟨q_12, hG⟩ | ⟨q_12, hG⟩
    · clear hF
      rcases ite_s hG with ⟨q_13, hF⟩ | ⟨q_13, hF⟩
      · clear hG
        have gz := gB_Store_readNumber_85 hn q_p0 hF hm.1 hB
        exact ⟨hm.tr gz.1, gz.2⟩
      · clear hG
        rcases ite_s hF with ⟨q_14, hG⟩ | ⟨q_14, hG⟩
        · clear hF
          obtain ⟨q60, hF⟩ := ck_s hG; clear hG
          obtain ⟨x61, -, hG⟩ := bnd_g hF; clear hF
          obtain ⟨H62, eH62, hF⟩ := bnd_g hG; clear hG
          replace hm : Rg Q H H62 := hm.tr (by rw [eH62]; exact Rg.sD hm.1 q_p0)
          have s_15 : Sa H H62 := by rw [eH62]; exact Sa.rf _
          replace hB : B ≤ H62.sh.length := by rw [eH62]; exact hB
          have hr := Option.some.inj hF; subst hr
          exact ⟨hm, (fun x e => by cases e)⟩
        · clear hF
          have gz := gB_Store_readNumber_85 hn q_p0 hG hm.1 hB
          exact ⟨hm.tr gz.1, gz.2⟩
    · clear hF
      obtain ⟨q63, hF⟩ := ck_s hG; clear hG
      obtain ⟨a64, e65, hG⟩ := rf_s hF; clear hF
      have qa64 : Q a64 := hm.1 _ _ _ q_p0 e65
      obtain ⟨x66, -, hF⟩ := bnd_g hG; clear hG
      obtain ⟨n67, q68, hG⟩ := ar_s hF; clear hF
      obtain ⟨q69, hF⟩ := ck_s hG; clear hG
      obtain ⟨x70, -, hG⟩ := bnd_g hF; clear hF
      obtain ⟨x71, -, hF⟩ := bnd_g hG; clear hG
      have gz := ih x71 (l5 + 1) H r hF hm.1 hB
      exact ⟨hm.tr gz.1, gz.2⟩
set_option maxRecDepth 20000 in
set_option maxHeartbeats 2000000 in
theorem g_Store_readNumber {N : Nat} {Q : Nat → Prop} {p0 : Nat} {p1 : Int32} {p2 : Int32} {p3 : Int32} {H : Hp} {r : (Ot Int32) × Hp} {B : Nat} (hn : ∀ a, B ≤ a → Q a) (hF : F_Store_readNumber N p0 p1 p2 p3 H = some r) (hc0 : Cl Q H) (hB : B ≤ H.sh.length) (q_p0 : Q p0) : Rg Q H r.2 ∧ (∀ x, r.1 = .inr x → Q x) := by
  unfold F_Store_readNumber at hF
  have hm := Rg.rf hc0
  obtain ⟨q72, hG⟩ := ck_s hF; clear hF
  obtain ⟨x73, -, hF⟩ := bnd_g hG; clear hG
  obtain ⟨x74, -, hG⟩ := bnd_g hF; clear hF
  rcases ite_s hG with ⟨q_16, hF⟩ | ⟨q_16, hF⟩
  · clear hG
    have gz := gB_Store_readNumber_37 hn q_p0 N 0 0 H r hF hm.1 hB
    exact ⟨hm.tr gz.1, gz.2⟩
  · clear hG
    obtain ⟨x76, -, hG⟩ := bnd_g hF; clear hF
    obtain ⟨H77, eH77, hF⟩ := bnd_g hG; clear hG
    replace hm : Rg Q H H77 := hm.tr (by rw [eH77]; exact Rg.sD hm.1 q_p0)
    have s_17 : Sa H H77 := by rw [eH77]; exact Sa.rf _
    replace hB : B ≤ H77.sh.length := by rw [eH77]; exact hB
    have hr := Option.some.inj hF; subst hr
    exact ⟨hm.tr (Rg.nx hm.1), (fun x e => by cases e; exact hn _ hB)⟩
set_option maxRecDepth 20000 in
set_option maxHeartbeats 2000000 in
theorem gB_Store_readShapes_41 {N : Nat} {Q : Nat → Prop} {p0 : Nat} {p1 : Nat} {kq16 : Int32 → Hp → Option ((Ot Unit) × Hp)} {B : Nat} (hn : ∀ a, B ≤ a → Q a) (q_p0 : Q p0) (q_p1 : Q p1) (hg16 : ∀ (l2 : Int32) (H : Hp) (r : (Ot Unit) × Hp), kq16 l2 H = some r → Cl Q H → B ≤ H.sh.length → Rg Q H r.2 ∧ (∀ x, r.1 = .inr x → Q x)) : ∀ (n : Nat) (l2 : Int32) (l3 : Int32) (l4 : Int32) (H : Hp) (r : (Ot Unit) × Hp), B_Store_readShapes_41 N p0 p1 kq16 n l2 l3 l4 H = some r → Cl Q H → B ≤ H.sh.length → Rg Q H r.2 ∧ (∀ x, r.1 = .inr x → Q x) := by
  intro n
  induction n with
  | zero => intro l2 l3 l4 H r hF; rw [B_Store_readShapes_41] at hF; cases hF
  | succ n ih =>
    intro l2 l3 l4 H r hF hc0 hB
    rw [B_Store_readShapes_41] at hF
    have hm := Rg.rf hc0
    rcases ite_s hF with ⟨q_32, hG⟩ | ⟨q_32, hG⟩
    · clear hF
      have gz := hg16 (l2 + 1) H r hG hm.1 hB
      exact ⟨hm.tr gz.1, gz.2⟩
    · clear hF
      obtain ⟨q18, hF⟩ := ck_s hG; clear hG
      obtain ⟨a19, e20, hG⟩ := rf_s hF; clear hF
      have qa19 : Q a19 := hm.1 _ _ _ q_p1 e20
      obtain ⟨a21, e22, hF⟩ := rf_s hG; clear hG
      have qa21 : Q a21 := hm.1 _ _ _ q_p1 e22
      obtain ⟨n23, q24, hG⟩ := ar_s hF; clear hF
      obtain ⟨q25, hF⟩ := ck_s hG; clear hG
      obtain ⟨x26, -, hG⟩ := bnd_g hF; clear hF
      obtain ⟨n27, q28, hF⟩ := ar_s hG; clear hG
      obtain ⟨q29, hG⟩ := ck_s hF; clear hF
      obtain ⟨a30, e31, hF⟩ := rf_s hG; clear hG
      have qa30 : Q a30 := hm.1 _ _ _ qa19 e31
      obtain ⟨q32, hG⟩ := ck_s hF; clear hF
      obtain ⟨x33, -, hF⟩ := bnd_g hG; clear hG
      obtain ⟨q34, hG⟩ := ck_s hF; clear hF
      refine bT_c hG (fun x38 H37 z35 er => ?_) (fun v36 H37 z35 hF => ?_)
      · subst er; have gz := (g_Store_readNumber hn z35 hm.1 hB q_p0); exact ⟨hm.tr gz.1, (fun x e => by cases e; exact gz.2 _ rfl)⟩
      clear hG
      have gz_33 := (g_Store_readNumber hn z35 hm.1 hB q_p0)
      replace hm : Rg Q H H37 := hm.tr gz_33.1
      replace hB : B ≤ H37.sh.length := Nat.le_trans hB ((m_Store_readNumber z35)).len
      have mz_34 : Mo H H37 := (m_Store_readNumber z35)
      have q_35 := (mz_34).get q18
      have q_36 := (mz_34).get q24
      have q_37 := (mz_34).get q28
      have q_38 := (mz_34).get q32
      have q_39 := (mz_34).get q34
      have gz := ih l2 l3 (l4 + 1) H37 r hF hm.1 hB
      exact ⟨hm.tr gz.1, gz.2⟩
set_option maxRecDepth 20000 in
set_option maxHeartbeats 2000000 in
theorem gB_Store_readShapes_16 {N : Nat} {Q : Nat → Prop} {p0 : Nat} {p1 : Nat} {B : Nat} (hn : ∀ a, B ≤ a → Q a) (q_p0 : Q p0) (q_p1 : Q p1) : ∀ (n : Nat) (l2 : Int32) (H : Hp) (r : (Ot Unit) × Hp), B_Store_readShapes_16 N p0 p1 n l2 H = some r → Cl Q H → B ≤ H.sh.length → Rg Q H r.2 ∧ (∀ x, r.1 = .inr x → Q x) := by
  intro n
  induction n with
  | zero => intro l2 H r hF; rw [B_Store_readShapes_16] at hF; cases hF
  | succ n ih =>
    intro l2 H r hF hc0 hB
    rw [B_Store_readShapes_16] at hF
    have hm := Rg.rf hc0
    obtain ⟨q39, hG⟩ := ck_s hF; clear hF
    obtain ⟨x40, -, hF⟩ := bnd_g hG; clear hG
    rcases ite_s hF with ⟨q_40, hG⟩ | ⟨q_40, hG⟩
    · clear hF
      have hr := Option.some.inj hG; subst hr
      exact ⟨hm, (fun x e => by cases e)⟩
    · clear hF
      obtain ⟨v43, H44, z42, hF⟩ := bC_s hG; clear hG
      have gz_41 := (g_Shapes_sizeOf z42 hm.1 q_p1)
      replace hm : Rg Q H H44 := hm.tr gz_41
      replace hB : B ≤ H44.sh.length := Nat.le_trans hB ((m_Shapes_sizeOf z42)).mo.len
      have s_42 : Sa H H44 := (m_Shapes_sizeOf z42)
      obtain ⟨q45, hG⟩ := ck_s hF; clear hF
      rw [(s_42).1] at q45
      refine bT_c hG (fun x49 H48 z46 er => ?_) (fun v47 H48 z46 hF => ?_)
      · subst er; have gz := (g_Store_readNumber hn z46 hm.1 hB q_p0); exact ⟨hm.tr gz.1, (fun x e => by cases e; exact gz.2 _ rfl)⟩
      clear hG
      have gz_43 := (g_Store_readNumber hn z46 hm.1 hB q_p0)
      replace hm : Rg Q H H48 := hm.tr gz_43.1
      replace hB : B ≤ H48.sh.length := Nat.le_trans hB ((m_Store_readNumber z46)).len
      have mz_44 : Mo H44 H48 := (m_Store_readNumber z46)
      have q_45 := (mz_44).get (by rw [(s_42).1]; exact q39)
      have q_46 := (mz_44).get (by rw [(s_42).1]; exact q45)
      have gz := gB_Store_readShapes_41 hn q_p0 q_p1 ih N l2 v43 0 H48 r hF hm.1 hB
      exact ⟨hm.tr gz.1, gz.2⟩
set_option maxRecDepth 20000 in
set_option maxHeartbeats 2000000 in
theorem g_Store_readShapes {N : Nat} {Q : Nat → Prop} {p0 : Nat} {p1 : Nat} {H : Hp} {r : (Ot Unit) × Hp} {B : Nat} (hn : ∀ a, B ≤ a → Q a) (hF : F_Store_readShapes N p0 p1 H = some r) (hc0 : Cl Q H) (hB : B ≤ H.sh.length) (q_p0 : Q p0) (q_p1 : Q p1) : Rg Q H r.2 ∧ (∀ x, r.1 = .inr x → Q x) := by
  unfold F_Store_readShapes at hF
  have hm := Rg.rf hc0
  obtain ⟨q50, hG⟩ := ck_s hF; clear hF
  obtain ⟨x51, -, hF⟩ := bnd_g hG; clear hG
  obtain ⟨x52, -, hG⟩ := bnd_g hF; clear hF
  obtain ⟨q53, hF⟩ := ck_s hG; clear hG
  refine bT_c hF (fun x57 H56 z54 er => ?_) (fun v55 H56 z54 hG => ?_)
  · subst er; have gz := (g_Store_readNumber hn z54 hm.1 hB q_p0); exact ⟨hm.tr gz.1, (fun x e => by cases e; exact gz.2 _ rfl)⟩
  clear hF
  have gz_47 := (g_Store_readNumber hn z54 hm.1 hB q_p0)
  replace hm : Rg Q H H56 := hm.tr gz_47.1
  replace hB : B ≤ H56.sh.length := Nat.le_trans hB ((m_Store_readNumber z54)).len
  have mz_48 : Mo H H56 := (m_Store_readNumber z54)
  have q_49 := (mz_48).get q50
  have q_50 := (mz_48).get q53
  have gz := gB_Store_readShapes_16 hn q_p0 q_p1 N 0 H56 r hG hm.1 hB
  exact ⟨hm.tr gz.1, gz.2⟩
set_option maxRecDepth 20000 in
set_option maxHeartbeats 2000000 in
theorem g_Store_readParts {N : Nat} {Q : Nat → Prop} {p0 : Nat} {p1 : Int32} {H : Hp} {r : (Ot Int32) × Hp} {B : Nat} (hn : ∀ a, B ≤ a → Q a) (hF : F_Store_readParts N p0 p1 H = some r) (hc0 : Cl Q H) (hB : B ≤ H.sh.length) (q_p0 : Q p0) : Rg Q H r.2 ∧ (∀ x, r.1 = .inr x → Q x) := by
  unfold F_Store_readParts at hF
  have hm := Rg.rf hc0
  obtain ⟨q11, hG⟩ := ck_s hF; clear hF
  refine bT_c hG (fun x15 H14 z12 er => ?_) (fun v13 H14 z12 hF => ?_)
  · subst er; have gz := (g_Store_readNumber hn z12 hm.1 hB q_p0); exact ⟨hm.tr gz.1, (fun x e => by cases e; exact gz.2 _ rfl)⟩
  clear hG
  have gz_6 := (g_Store_readNumber hn z12 hm.1 hB q_p0)
  replace hm : Rg Q H H14 := hm.tr gz_6.1
  replace hB : B ≤ H14.sh.length := Nat.le_trans hB ((m_Store_readNumber z12)).len
  have mz_7 : Mo H H14 := (m_Store_readNumber z12)
  have q_8 := (mz_7).get q11
  have hr := Option.some.inj hF; subst hr
  exact ⟨hm, (fun x e => by cases e)⟩
set_option maxRecDepth 20000 in
set_option maxHeartbeats 2000000 in
theorem g_Store_readMember {N : Nat} {Q : Nat → Prop} {p0 : Nat} {p1 : Int32} {H : Hp} {r : (Ot Int32) × Hp} {B : Nat} (hn : ∀ a, B ≤ a → Q a) (hF : F_Store_readMember N p0 p1 H = some r) (hc0 : Cl Q H) (hB : B ≤ H.sh.length) (q_p0 : Q p0) : Rg Q H r.2 ∧ (∀ x, r.1 = .inr x → Q x) := by
  unfold F_Store_readMember at hF
  have hm := Rg.rf hc0
  rcases ite_s hF with ⟨q_27, hG⟩ | ⟨q_27, hG⟩
  · clear hF
    obtain ⟨q49, hF⟩ := ck_s hG; clear hG
    refine bT_c hF (fun x53 H52 z50 er => ?_) (fun v51 H52 z50 hG => ?_)
    · subst er; have gz := (g_Store_readNumber hn z50 hm.1 hB q_p0); exact ⟨hm.tr gz.1, (fun x e => by cases e; exact gz.2 _ rfl)⟩
    clear hF
    have gz_28 := (g_Store_readNumber hn z50 hm.1 hB q_p0)
    replace hm : Rg Q H H52 := hm.tr gz_28.1
    replace hB : B ≤ H52.sh.length := Nat.le_trans hB ((m_Store_readNumber z50)).len
    have mz_29 : Mo H H52 := (m_Store_readNumber z50)
    have q_30 := (mz_29).get q49
    have hr := Option.some.inj hG; subst hr
    exact ⟨hm, (fun x e => by cases e)⟩
  clear hF
  rcases ite_s hG with ⟨q_31, hF⟩ | ⟨q_31, hF⟩
  · clear hG
    obtain ⟨q55, hG⟩ := ck_s hF; clear hF
    refine bT_c hG (fun x59 H58 z56 er => ?_) (fun v57 H58 z56 hF => ?_)
    · subst er; have gz := (g_Store_readNumber hn z56 hm.1 hB q_p0); exact ⟨hm.tr gz.1, (fun x e => by cases e; exact gz.2 _ rfl)⟩
    clear hG
    have gz_32 := (g_Store_readNumber hn z56 hm.1 hB q_p0)
    replace hm : Rg Q H H58 := hm.tr gz_32.1
    replace hB : B ≤ H58.sh.length := Nat.le_trans hB ((m_Store_readNumber z56)).len
    have mz_33 : Mo H H58 := (m_Store_readNumber z56)
    have q_34 := (mz_33).get q55
    have hr := Option.some.inj hF; subst hr
    exact ⟨hm, (fun x e => by cases e)⟩
  clear hG
  rcases ite_s hF with ⟨q_35, hG⟩ | ⟨q_35, hG⟩
  · clear hF
    obtain ⟨q61, hF⟩ := ck_s hG; clear hG
    refine bT_c hF (fun x65 H64 z62 er => ?_) (fun v63 H64 z62 hG => ?_)
    · subst er; have gz := (g_Store_readNumber hn z62 hm.1 hB q_p0); exact ⟨hm.tr gz.1, (fun x e => by cases e; exact gz.2 _ rfl)⟩
    clear hF
    have gz_36 := (g_Store_readNumber hn z62 hm.1 hB q_p0)
    replace hm : Rg Q H H64 := hm.tr gz_36.1
    replace hB : B ≤ H64.sh.length := Nat.le_trans hB ((m_Store_readNumber z62)).len
    have mz_37 : Mo H H64 := (m_Store_readNumber z62)
    have q_38 := (mz_37).get q61
    have hr := Option.some.inj hG; subst hr
    exact ⟨hm, (fun x e => by cases e)⟩
  clear hF
  obtain ⟨q66, hF⟩ := ck_s hG; clear hG
  refine bT_c hF (fun x70 H69 z67 er => ?_) (fun v68 H69 z67 hG => ?_)
  · subst er; have gz := (g_Store_readNumber hn z67 hm.1 hB q_p0); exact ⟨hm.tr gz.1, (fun x e => by cases e; exact gz.2 _ rfl)⟩
  clear hF
  have gz_39 := (g_Store_readNumber hn z67 hm.1 hB q_p0)
  replace hm : Rg Q H H69 := hm.tr gz_39.1
  replace hB : B ≤ H69.sh.length := Nat.le_trans hB ((m_Store_readNumber z67)).len
  have mz_40 : Mo H H69 := (m_Store_readNumber z67)
  have q_41 := (mz_40).get q66
  have hr := Option.some.inj hG; subst hr
  exact ⟨hm, (fun x e => by cases e)⟩
set_option maxRecDepth 20000 in
set_option maxHeartbeats 2000000 in
theorem gB_Store_readPlace_115 {N : Nat} {Q : Nat → Prop} {p0 : Nat} {p1 : Nat} {p2 : Nat} {p3 : Int32} {kq45 : Int32 → Int32 → Hp → Option ((Ot Unit) × Hp)} {B : Nat} (hn : ∀ a, B ≤ a → Q a) (q_p0 : Q p0) (q_p1 : Q p1) (q_p2 : Q p2) (hg45 : ∀ (l4 : Int32) (l5 : Int32) (H : Hp) (r : (Ot Unit) × Hp), kq45 l4 l5 H = some r → Cl Q H → B ≤ H.sh.length → Rg Q H r.2 ∧ (∀ x, r.1 = .inr x → Q x)) {l4 : Int32} {l5 : Int32} {H : Hp} {r : (Ot Unit) × Hp} (hF : B_Store_readPlace_115 N p0 p1 p2 p3 kq45 l4 l5 H = some r) (hc0 : Cl Q H) (hB : B ≤ H.sh.length) : Rg Q H r.2 ∧ (∀ x, r.1 = .inr x → Q x) := by
  unfold B_Store_readPlace_115 at hF
  have hm := Rg.rf hc0
  have gz := hg45 l4 (l5 + 1) H r hF hm.1 hB
  exact ⟨hm.tr gz.1, gz.2⟩
set_option maxRecDepth 20000 in
set_option maxHeartbeats 2000000 in
theorem gB_Store_readPlace_74 {N : Nat} {Q : Nat → Prop} {p0 : Nat} {p1 : Nat} {p2 : Nat} {p3 : Int32} {kq45 : Int32 → Int32 → Hp → Option ((Ot Unit) × Hp)} {B : Nat} (hn : ∀ a, B ≤ a → Q a) (q_p0 : Q p0) (q_p1 : Q p1) (q_p2 : Q p2) (hg45 : ∀ (l4 : Int32) (l5 : Int32) (H : Hp) (r : (Ot Unit) × Hp), kq45 l4 l5 H = some r → Cl Q H → B ≤ H.sh.length → Rg Q H r.2 ∧ (∀ x, r.1 = .inr x → Q x)) : ∀ (n : Nat) (l4 : Int32) (l5 : Int32) (l6 : Int32) (H : Hp) (r : (Ot Unit) × Hp), B_Store_readPlace_74 N p0 p1 p2 p3 kq45 n l4 l5 l6 H = some r → Cl Q H → B ≤ H.sh.length → Rg Q H r.2 ∧ (∀ x, r.1 = .inr x → Q x) := by
  intro n
  induction n with
  | zero => intro l4 l5 l6 H r hF; rw [B_Store_readPlace_74] at hF; cases hF
  | succ n ih =>
    intro l4 l5 l6 H r hF hc0 hB
    rw [B_Store_readPlace_74] at hF
    have hm := Rg.rf hc0
    obtain ⟨q53, hG⟩ := ck_s hF; clear hF
    obtain ⟨a54, e55, hF⟩ := rf_s hG; clear hG
    have qa54 : Q a54 := hm.1 _ _ _ q_p1 e55
    obtain ⟨n56, q57, hG⟩ := ar_s hF; clear hF
    obtain ⟨q58, hF⟩ := ck_s hG; clear hG
    obtain ⟨x59, -, hG⟩ := bnd_g hF; clear hF
    rcases ite_s hG with ⟨q_70, hF⟩ | ⟨q_70, hF⟩
    · clear hG
      have gz := gB_Store_readPlace_115 hn q_p0 q_p1 q_p2 hg45 hF hm.1 hB
      exact ⟨hm.tr gz.1, gz.2⟩
    · clear hG
      obtain ⟨a61, e62, hG⟩ := rf_s hF; clear hF
      have qa61 : Q a61 := hm.1 _ _ _ q_p1 e62
      obtain ⟨n63, q64, hF⟩ := ar_s hG; clear hG
      obtain ⟨q65, hG⟩ := ck_s hF; clear hF
      obtain ⟨a66, e67, hF⟩ := rf_s hG; clear hG
      have qa66 : Q a66 := hm.1 _ _ _ qa61 e67
      obtain ⟨q68, hG⟩ := ck_s hF; clear hF
      obtain ⟨x69, -, hF⟩ := bnd_g hG; clear hG
      obtain ⟨q70, hG⟩ := ck_s hF; clear hF
      refine bT_c hG (fun x74 H73 z71 er => ?_) (fun v72 H73 z71 hF => ?_)
      · subst er; have gz := (g_Store_readMember hn z71 hm.1 hB q_p0); exact ⟨hm.tr gz.1, (fun x e => by cases e; exact gz.2 _ rfl)⟩
      clear hG
      have gz_71 := (g_Store_readMember hn z71 hm.1 hB q_p0)
      replace hm : Rg Q H H73 := hm.tr gz_71.1
      replace hB : B ≤ H73.sh.length := Nat.le_trans hB ((m_Store_readMember z71)).len
      have mz_72 : Mo H H73 := (m_Store_readMember z71)
      have q_73 := (mz_72).get q53
      have q_74 := (mz_72).get q57
      have q_75 := (mz_72).get q64
      have q_76 := (mz_72).get q68
      have q_77 := (mz_72).get q70
      obtain ⟨q75, hG⟩ := ck_s hF; clear hF
      obtain ⟨v77, H78, z76, hF⟩ := bC_s hG; clear hG
      have gz_78 := (g_World_write z76 hm.1 q_p2)
      replace hm : Rg Q H H78 := hm.tr gz_78
      replace hB : B ≤ H78.sh.length := Nat.le_trans hB ((m_World_write z76)).mo.len
      have s_79 : Sa H73 H78 := (m_World_write z76)
      have gz := ih l4 l5 (l6 + 1) H78 r hF hm.1 hB
      exact ⟨hm.tr gz.1, gz.2⟩
set_option maxRecDepth 20000 in
set_option maxHeartbeats 2000000 in
theorem gB_Store_readPlace_45 {N : Nat} {Q : Nat → Prop} {p0 : Nat} {p1 : Nat} {p2 : Nat} {p3 : Int32} {B : Nat} (hn : ∀ a, B ≤ a → Q a) (q_p0 : Q p0) (q_p1 : Q p1) (q_p2 : Q p2) : ∀ (n : Nat) (l4 : Int32) (l5 : Int32) (H : Hp) (r : (Ot Unit) × Hp), B_Store_readPlace_45 N p0 p1 p2 p3 n l4 l5 H = some r → Cl Q H → B ≤ H.sh.length → Rg Q H r.2 ∧ (∀ x, r.1 = .inr x → Q x) := by
  intro n
  induction n with
  | zero => intro l4 l5 H r hF; rw [B_Store_readPlace_45] at hF; cases hF
  | succ n ih =>
    intro l4 l5 H r hF hc0 hB
    rw [B_Store_readPlace_45] at hF
    have hm := Rg.rf hc0
    obtain ⟨q79, hG⟩ := ck_s hF; clear hF
    obtain ⟨x80, -, hF⟩ := bnd_g hG; clear hG
    rcases ite_s hF with ⟨q_80, hG⟩ | ⟨q_80, hG⟩
    · clear hF
      have hr := Option.some.inj hG; subst hr
      exact ⟨hm, (fun x e => by cases e)⟩
    · clear hF
      rcases ite_s hG with ⟨q_81, hF⟩ | ⟨q_81, hF⟩
      · clear hG
        obtain ⟨a83, e84, hG⟩ := rf_s hF; clear hF
        have qa83 : Q a83 := hm.1 _ _ _ q_p1 e84
        obtain ⟨n85, q86, hF⟩ := ar_s hG; clear hG
        obtain ⟨q87, hG⟩ := ck_s hF; clear hF
        obtain ⟨x88, -, hF⟩ := bnd_g hG; clear hG
        have gz := gB_Store_readPlace_74 hn q_p0 q_p1 q_p2 ih N l4 l5 x88 H r hF hm.1 hB
        exact ⟨hm.tr gz.1, gz.2⟩
      · clear hG
        have gz := gB_Store_readPlace_115 hn q_p0 q_p1 q_p2 ih hF hm.1 hB
        exact ⟨hm.tr gz.1, gz.2⟩
set_option maxRecDepth 20000 in
set_option maxHeartbeats 2000000 in
theorem g_Store_readPlace {N : Nat} {Q : Nat → Prop} {p0 : Nat} {p1 : Nat} {p2 : Nat} {p3 : Int32} {H : Hp} {r : (Ot Unit) × Hp} {B : Nat} (hn : ∀ a, B ≤ a → Q a) (hF : F_Store_readPlace N p0 p1 p2 p3 H = some r) (hc0 : Cl Q H) (hB : B ≤ H.sh.length) (q_p0 : Q p0) (q_p1 : Q p1) (q_p2 : Q p2) : Rg Q H r.2 ∧ (∀ x, r.1 = .inr x → Q x) := by
  unfold F_Store_readPlace at hF
  have hm := Rg.rf hc0
  obtain ⟨q89, hG⟩ := ck_s hF; clear hF
  obtain ⟨a90, e91, hF⟩ := rf_s hG; clear hG
  have qa90 : Q a90 := hm.1 _ _ _ q_p2 e91
  obtain ⟨q92, hG⟩ := ck_s hF; clear hF
  refine bT_c hG (fun x96 H95 z93 er => ?_) (fun v94 H95 z93 hF => ?_)
  · subst er; have gz := (g_Store_readNumber hn z93 hm.1 hB q_p0); exact ⟨hm.tr gz.1, (fun x e => by cases e; exact gz.2 _ rfl)⟩
  clear hG
  have gz_82 := (g_Store_readNumber hn z93 hm.1 hB q_p0)
  replace hm : Rg Q H H95 := hm.tr gz_82.1
  replace hB : B ≤ H95.sh.length := Nat.le_trans hB ((m_Store_readNumber z93)).len
  have mz_83 : Mo H H95 := (m_Store_readNumber z93)
  have q_84 := (mz_83).get q89
  have q_85 := (mz_83).get q92
  obtain ⟨n97, q98, hG⟩ := ar_s hF; clear hF
  obtain ⟨q99, hF⟩ := ck_s hG; clear hG
  obtain ⟨H100, eH100, hG⟩ := bnd_g hF; clear hF
  replace hm : Rg Q H H100 := hm.tr (by rw [eH100]; exact Rg.sD hm.1 qa90)
  have s_86 : Sa H95 H100 := by rw [eH100]; exact Sa.rf _
  replace hB : B ≤ H100.sh.length := by rw [eH100]; exact hB
  refine bT_c hG (fun x104 H103 z101 er => ?_) (fun v102 H103 z101 hF => ?_)
  · subst er; have gz := (g_Store_readNumber hn z101 hm.1 hB q_p0); exact ⟨hm.tr gz.1, (fun x e => by cases e; exact gz.2 _ rfl)⟩
  clear hG
  have gz_87 := (g_Store_readNumber hn z101 hm.1 hB q_p0)
  replace hm : Rg Q H H103 := hm.tr gz_87.1
  replace hB : B ≤ H103.sh.length := Nat.le_trans hB ((m_Store_readNumber z101)).len
  have mz_88 : Mo H100 H103 := (m_Store_readNumber z101)
  have q_89 := (mz_88).get (by rw [(s_86).1]; exact q_84)
  have q_90 := (mz_88).get (by rw [(s_86).1]; exact q_85)
  have q_91 := (mz_88).get (by rw [(s_86).1]; exact q98)
  rcases ite_s hF with ⟨q_92, hG⟩ | ⟨q_92, hG⟩
  · clear hF
    have hr := Option.some.inj hG; subst hr
    exact ⟨hm, (fun x e => by cases e)⟩
  · clear hF
    obtain ⟨q106, hF⟩ := ck_s hG; clear hG
    obtain ⟨x107, -, hG⟩ := bnd_g hF; clear hF
    refine bT_c hG (fun x111 H110 z108 er => ?_) (fun v109 H110 z108 hF => ?_)
    · subst er; have gz := (g_Store_readParts hn z108 hm.1 hB q_p0); exact ⟨hm.tr gz.1, (fun x e => by cases e; exact gz.2 _ rfl)⟩
    clear hG
    have gz_93 := (g_Store_readParts hn z108 hm.1 hB q_p0)
    replace hm : Rg Q H H110 := hm.tr gz_93.1
    replace hB : B ≤ H110.sh.length := Nat.le_trans hB ((m_Store_readParts z108)).len
    have mz_94 : Mo H103 H110 := (m_Store_readParts z108)
    have q_95 := (mz_94).get q_89
    have q_96 := (mz_94).get q_90
    have q_97 := (mz_94).get q_91
    have q_98 := (mz_94).get q106
    obtain ⟨v113, H114, z112, hG⟩ := bC_s hF; clear hF
    have gz_99 := (g_World_occupy z112 hm.1 q_p2)
    replace hm : Rg Q H H114 := hm.tr gz_99
    replace hB : B ≤ H114.sh.length := Nat.le_trans hB ((m_World_occupy z112)).mo.len
    have s_100 : Sa H110 H114 := (m_World_occupy z112)
    have gz := gB_Store_readPlace_45 hn q_p0 q_p1 q_p2 N v109 0 H114 r hG hm.1 hB
    exact ⟨hm.tr gz.1, gz.2⟩
set_option maxRecDepth 20000 in
set_option maxHeartbeats 2000000 in
theorem gB_Store_readEvents_104 {N : Nat} {Q : Nat → Prop} {p0 : Nat} {p1 : Nat} {p2 : Nat} {kq13 : Int32 → Int32 → Hp → Option ((Ot Unit) × Hp)} {B : Nat} (hn : ∀ a, B ≤ a → Q a) (q_p0 : Q p0) (q_p1 : Q p1) (q_p2 : Q p2) (hg13 : ∀ (l3 : Int32) (l4 : Int32) (H : Hp) (r : (Ot Unit) × Hp), kq13 l3 l4 H = some r → Cl Q H → B ≤ H.sh.length → Rg Q H r.2 ∧ (∀ x, r.1 = .inr x → Q x)) : ∀ (n : Nat) (l3 : Int32) (l4 : Int32) (l5 : Int32) (l6 : Int32) (l7 : Int32) (l8 : Int32) (H : Hp) (r : (Ot Unit) × Hp), B_Store_readEvents_104 N p0 p1 p2 kq13 n l3 l4 l5 l6 l7 l8 H = some r → Cl Q H → B ≤ H.sh.length → Rg Q H r.2 ∧ (∀ x, r.1 = .inr x → Q x) := by
  intro n
  induction n with
  | zero => intro l3 l4 l5 l6 l7 l8 H r hF; rw [B_Store_readEvents_104] at hF; cases hF
  | succ n ih =>
    intro l3 l4 l5 l6 l7 l8 H r hF hc0 hB
    rw [B_Store_readEvents_104] at hF
    have hm := Rg.rf hc0
    rcases ite_s hF with ⟨q_91, hG⟩ | ⟨q_91, hG⟩
    · clear hF
      have gz := hg13 l3 (l4 + 1) H r hG hm.1 hB
      exact ⟨hm.tr gz.1, gz.2⟩
    · clear hF
      obtain ⟨q12, hF⟩ := ck_s hG; clear hG
      obtain ⟨a13, e14, hG⟩ := rf_s hF; clear hF
      have qa13 : Q a13 := hm.1 _ _ _ q_p2 e14
      obtain ⟨q15, hF⟩ := ck_s hG; clear hG
      obtain ⟨a16, e17, hG⟩ := rf_s hF; clear hF
      have qa16 : Q a16 := hm.1 _ _ _ q_p1 e17
      obtain ⟨a18, e19, hF⟩ := rf_s hG; clear hG
      have qa18 : Q a18 := hm.1 _ _ _ q_p1 e19
      obtain ⟨n20, q21, hG⟩ := ar_s hF; clear hF
      obtain ⟨q22, hF⟩ := ck_s hG; clear hG
      obtain ⟨x23, -, hG⟩ := bnd_g hF; clear hF
      obtain ⟨n24, q25, hF⟩ := ar_s hG; clear hG
      obtain ⟨q26, hG⟩ := ck_s hF; clear hF
      obtain ⟨a27, e28, hF⟩ := rf_s hG; clear hG
      have qa27 : Q a27 := hm.1 _ _ _ qa16 e28
      obtain ⟨q29, hG⟩ := ck_s hF; clear hF
      obtain ⟨x30, -, hF⟩ := bnd_g hG; clear hG
      obtain ⟨q31, hG⟩ := ck_s hF; clear hF
      refine bT_c hG (fun x35 H34 z32 er => ?_) (fun v33 H34 z32 hF => ?_)
      · subst er; have gz := (g_Store_readMember hn z32 hm.1 hB q_p0); exact ⟨hm.tr gz.1, (fun x e => by cases e; exact gz.2 _ rfl)⟩
      clear hG
      have gz_92 := (g_Store_readMember hn z32 hm.1 hB q_p0)
      replace hm : Rg Q H H34 := hm.tr gz_92.1
      replace hB : B ≤ H34.sh.length := Nat.le_trans hB ((m_Store_readMember z32)).len
      have mz_93 : Mo H H34 := (m_Store_readMember z32)
      have q_94 := (mz_93).get q12
      have q_95 := (mz_93).get q15
      have q_96 := (mz_93).get q21
      have q_97 := (mz_93).get q25
      have q_98 := (mz_93).get q29
      have q_99 := (mz_93).get q31
      obtain ⟨n36, q37, hG⟩ := ar_s hF; clear hF
      obtain ⟨q38, hF⟩ := ck_s hG; clear hG
      obtain ⟨H39, eH39, hG⟩ := bnd_g hF; clear hF
      replace hm : Rg Q H H39 := hm.tr (by rw [eH39]; exact Rg.sD hm.1 qa13)
      have s_100 : Sa H34 H39 := by rw [eH39]; exact Sa.rf _
      replace hB : B ≤ H39.sh.length := by rw [eH39]; exact hB
      have gz := ih l3 l4 l5 l6 l7 (l8 + 1) H39 r hG hm.1 hB
      exact ⟨hm.tr gz.1, gz.2⟩
set_option maxRecDepth 20000 in
set_option maxHeartbeats 2000000 in
theorem gB_Store_readEvents_13 {N : Nat} {Q : Nat → Prop} {p0 : Nat} {p1 : Nat} {p2 : Nat} {B : Nat} (hn : ∀ a, B ≤ a → Q a) (q_p0 : Q p0) (q_p1 : Q p1) (q_p2 : Q p2) : ∀ (n : Nat) (l3 : Int32) (l4 : Int32) (H : Hp) (r : (Ot Unit) × Hp), B_Store_readEvents_13 N p0 p1 p2 n l3 l4 H = some r → Cl Q H → B ≤ H.sh.length → Rg Q H r.2 ∧ (∀ x, r.1 = .inr x → Q x) := by
  intro n
  induction n with
  | zero => intro l3 l4 H r hF; rw [B_Store_readEvents_13] at hF; cases hF
  | succ n ih =>
    intro l3 l4 H r hF hc0 hB
    rw [B_Store_readEvents_13] at hF
    have hm := Rg.rf hc0
    rcases ite_s hF with ⟨q_101, hG⟩ | ⟨q_101, hG⟩
    · clear hF
      obtain ⟨q41, hF⟩ := ck_s hG; clear hG
      obtain ⟨H42, eH42, hG⟩ := bnd_g hF; clear hF
      replace hm : Rg Q H H42 := hm.tr (by rw [eH42]; exact Rg.sD hm.1 q_p2)
      have s_102 : Sa H H42 := by rw [eH42]; exact Sa.rf _
      replace hB : B ≤ H42.sh.length := by rw [eH42]; exact hB
      have hr := Option.some.inj hG; subst hr
      exact ⟨hm, (fun x e => by cases e)⟩
    · clear hF
      obtain ⟨x43, -, hF⟩ := bnd_g hG; clear hG
      obtain ⟨q44, hG⟩ := ck_s hF; clear hF
      obtain ⟨x45, -, hF⟩ := bnd_g hG; clear hG
      obtain ⟨q46, hG⟩ := ck_s hF; clear hF
      refine bT_c hG (fun x50 H49 z47 er => ?_) (fun v48 H49 z47 hF => ?_)
      · subst er; have gz := (g_Store_readNumber hn z47 hm.1 hB q_p0); exact ⟨hm.tr gz.1, (fun x e => by cases e; exact gz.2 _ rfl)⟩
      clear hG
      have gz_103 := (g_Store_readNumber hn z47 hm.1 hB q_p0)
      replace hm : Rg Q H H49 := hm.tr gz_103.1
      replace hB : B ≤ H49.sh.length := Nat.le_trans hB ((m_Store_readNumber z47)).len
      have mz_104 : Mo H H49 := (m_Store_readNumber z47)
      have q_105 := (mz_104).get q44
      have q_106 := (mz_104).get q46
      obtain ⟨q51, hG⟩ := ck_s hF; clear hF
      obtain ⟨a52, e53, hF⟩ := rf_s hG; clear hG
      have qa52 : Q a52 := hm.1 _ _ _ q_p2 e53
      obtain ⟨n54, q55, hG⟩ := ar_s hF; clear hF
      obtain ⟨q56, hF⟩ := ck_s hG; clear hG
      obtain ⟨H57, eH57, hG⟩ := bnd_g hF; clear hF
      replace hm : Rg Q H H57 := hm.tr (by rw [eH57]; exact Rg.sD hm.1 qa52)
      have s_107 : Sa H49 H57 := by rw [eH57]; exact Sa.rf _
      replace hB : B ≤ H57.sh.length := by rw [eH57]; exact hB
      obtain ⟨a58, e59, hF⟩ := rf_s hG; clear hG
      have qa58 : Q a58 := hm.1 _ _ _ q_p2 e59
      obtain ⟨x60, -, hG⟩ := bnd_g hF; clear hF
      obtain ⟨x61, -, hF⟩ := bnd_g hG; clear hG
      refine bT_c hF (fun x65 H64 z62 er => ?_) (fun v63 H64 z62 hG => ?_)
      · subst er; have gz := (g_Store_readNumber hn z62 hm.1 hB q_p0); exact ⟨hm.tr gz.1, (fun x e => by cases e; exact gz.2 _ rfl)⟩
      clear hF
      have gz_108 := (g_Store_readNumber hn z62 hm.1 hB q_p0)
      replace hm : Rg Q H H64 := hm.tr gz_108.1
      replace hB : B ≤ H64.sh.length := Nat.le_trans hB ((m_Store_readNumber z62)).len
      have mz_109 : Mo H57 H64 := (m_Store_readNumber z62)
      have q_110 := (mz_109).get (by rw [(s_107).1]; exact q_105)
      have q_111 := (mz_109).get (by rw [(s_107).1]; exact q_106)
      have q_112 := (mz_109).get (by rw [(s_107).1]; exact q51)
      have q_113 := (mz_109).get (by rw [(s_107).1]; exact q55)
      obtain ⟨n66, q67, hF⟩ := ar_s hG; clear hG
      obtain ⟨q68, hG⟩ := ck_s hF; clear hF
      obtain ⟨H69, eH69, hF⟩ := bnd_g hG; clear hG
      replace hm : Rg Q H H69 := hm.tr (by rw [eH69]; exact Rg.sD hm.1 qa58)
      have s_114 : Sa H64 H69 := by rw [eH69]; exact Sa.rf _
      replace hB : B ≤ H69.sh.length := by rw [eH69]; exact hB
      obtain ⟨a70, e71, hG⟩ := rf_s hF; clear hF
      have qa70 : Q a70 := hm.1 _ _ _ q_p2 e71
      refine bT_c hG (fun x75 H74 z72 er => ?_) (fun v73 H74 z72 hF => ?_)
      · subst er; have gz := (g_Store_readNumber hn z72 hm.1 hB q_p0); exact ⟨hm.tr gz.1, (fun x e => by cases e; exact gz.2 _ rfl)⟩
      clear hG
      have gz_115 := (g_Store_readNumber hn z72 hm.1 hB q_p0)
      replace hm : Rg Q H H74 := hm.tr gz_115.1
      replace hB : B ≤ H74.sh.length := Nat.le_trans hB ((m_Store_readNumber z72)).len
      have mz_116 : Mo H69 H74 := (m_Store_readNumber z72)
      have q_117 := (mz_116).get (by rw [(s_114).1]; exact q_110)
      have q_118 := (mz_116).get (by rw [(s_114).1]; exact q_111)
      have q_119 := (mz_116).get (by rw [(s_114).1]; exact q_112)
      have q_120 := (mz_116).get (by rw [(s_114).1]; exact q_113)
      have q_121 := (mz_116).get (by rw [(s_114).1]; exact q67)
      obtain ⟨n76, q77, hG⟩ := ar_s hF; clear hF
      obtain ⟨q78, hF⟩ := ck_s hG; clear hG
      obtain ⟨H79, eH79, hG⟩ := bnd_g hF; clear hF
      replace hm : Rg Q H H79 := hm.tr (by rw [eH79]; exact Rg.sD hm.1 qa70)
      have s_122 : Sa H74 H79 := by rw [eH79]; exact Sa.rf _
      replace hB : B ≤ H79.sh.length := by rw [eH79]; exact hB
      obtain ⟨v81, H82, z80, hF⟩ := bC_s hG; clear hG
      have gz_123 := (g_Shapes_sizeOf z80 hm.1 q_p1)
      replace hm : Rg Q H H82 := hm.tr gz_123
      replace hB : B ≤ H82.sh.length := Nat.le_trans hB ((m_Shapes_sizeOf z80)).mo.len
      have s_124 : Sa H74 H82 := (s_122).tr (m_Shapes_sizeOf z80)
      have gz := gB_Store_readEvents_104 hn q_p0 q_p1 q_p2 ih N l3 l4 x43 v48 v81 0 H82 r hF hm.1 hB
      exact ⟨hm.tr gz.1, gz.2⟩
set_option maxRecDepth 20000 in
set_option maxHeartbeats 2000000 in
theorem g_Store_readEvents {N : Nat} {Q : Nat → Prop} {p0 : Nat} {p1 : Nat} {p2 : Nat} {H : Hp} {r : (Ot Unit) × Hp} {B : Nat} (hn : ∀ a, B ≤ a → Q a) (hF : F_Store_readEvents N p0 p1 p2 H = some r) (hc0 : Cl Q H) (hB : B ≤ H.sh.length) (q_p0 : Q p0) (q_p1 : Q p1) (q_p2 : Q p2) : Rg Q H r.2 ∧ (∀ x, r.1 = .inr x → Q x) := by
  unfold F_Store_readEvents at hF
  have hm := Rg.rf hc0
  obtain ⟨q83, hG⟩ := ck_s hF; clear hF
  refine bT_c hG (fun x87 H86 z84 er => ?_) (fun v85 H86 z84 hF => ?_)
  · subst er; have gz := (g_Store_readNumber hn z84 hm.1 hB q_p0); exact ⟨hm.tr gz.1, (fun x e => by cases e; exact gz.2 _ rfl)⟩
  clear hG
  have gz_125 := (g_Store_readNumber hn z84 hm.1 hB q_p0)
  replace hm : Rg Q H H86 := hm.tr gz_125.1
  replace hB : B ≤ H86.sh.length := Nat.le_trans hB ((m_Store_readNumber z84)).len
  have mz_126 : Mo H H86 := (m_Store_readNumber z84)
  have q_127 := (mz_126).get q83
  have gz := gB_Store_readEvents_13 hn q_p0 q_p1 q_p2 N v85 0 H86 r hF hm.1 hB
  exact ⟨hm.tr gz.1, gz.2⟩
set_option maxRecDepth 20000 in
set_option maxHeartbeats 2000000 in
theorem g_Store_readEnd {N : Nat} {Q : Nat → Prop} {p0 : Nat} {H : Hp} {r : (Ot Unit) × Hp} {B : Nat} (hn : ∀ a, B ≤ a → Q a) (hF : F_Store_readEnd N p0 H = some r) (hc0 : Cl Q H) (hB : B ≤ H.sh.length) (q_p0 : Q p0) : Rg Q H r.2 ∧ (∀ x, r.1 = .inr x → Q x) := by
  unfold F_Store_readEnd at hF
  have hm := Rg.rf hc0
  obtain ⟨q15, hG⟩ := ck_s hF; clear hF
  obtain ⟨x16, -, hF⟩ := bnd_g hG; clear hG
  obtain ⟨x17, -, hG⟩ := bnd_g hF; clear hF
  rcases ite_s hG with ⟨q_4, hF⟩ | ⟨q_4, hF⟩
  · clear hG
    have hr := Option.some.inj hF; subst hr
    exact ⟨hm, (fun x e => by cases e)⟩
  · clear hG
    obtain ⟨x19, -, hG⟩ := bnd_g hF; clear hF
    obtain ⟨H20, eH20, hF⟩ := bnd_g hG; clear hG
    replace hm : Rg Q H H20 := hm.tr (by rw [eH20]; exact Rg.sD hm.1 q_p0)
    have s_5 : Sa H H20 := by rw [eH20]; exact Sa.rf _
    replace hB : B ≤ H20.sh.length := by rw [eH20]; exact hB
    have hr := Option.some.inj hF; subst hr
    exact ⟨hm.tr (Rg.nx hm.1), (fun x e => by cases e; exact hn _ hB)⟩
set_option maxRecDepth 20000 in
set_option maxHeartbeats 2000000 in
theorem gB_Store_restore_143 {N : Nat} {Q : Nat → Prop} {p0 : Nat} {p1 : Nat} {p2 : Nat} {B : Nat} (hn : ∀ a, B ≤ a → Q a) (q_p0 : Q p0) (q_p1 : Q p1) (q_p2 : Q p2) {w0 : Nat} {H : Hp} {r : Int32 × Hp} (hF : B_Store_restore_143 N p0 p1 p2 w0 H = some r) (hc0 : Cl Q H) (hB : B ≤ H.sh.length) (q_w0 : Q w0) : Rg Q H r.2 := by
  unfold B_Store_restore_143 at hF
  have hm := Rg.rf hc0
  have hr := Option.some.inj hF; subst hr
  exact hm
set_option maxRecDepth 20000 in
set_option maxHeartbeats 2000000 in
theorem gB_Store_restore_104 {N : Nat} {Q : Nat → Prop} {p0 : Nat} {p1 : Nat} {p2 : Nat} {B : Nat} (hn : ∀ a, B ≤ a → Q a) (q_p0 : Q p0) (q_p1 : Q p1) (q_p2 : Q p2) : ∀ (n : Nat) (l3 : Int32) (H : Hp) (r : Int32 × Hp), B_Store_restore_104 N p0 p1 p2 n l3 H = some r → Cl Q H → B ≤ H.sh.length → Rg Q H r.2 := by
  intro n
  induction n with
  | zero => intro l3 H r hF; rw [B_Store_restore_104] at hF; cases hF
  | succ n ih =>
    intro l3 H r hF hc0 hB
    rw [B_Store_restore_104] at hF
    have hm := Rg.rf hc0
    rcases ite_s hF with ⟨q_305, hG⟩ | ⟨q_305, hG⟩
    · clear hF
      obtain ⟨q124, hF⟩ := ck_s hG; clear hG
      obtain ⟨a125, e126, hG⟩ := rf_s hF; clear hF
      have qa125 : Q a125 := hm.1 _ _ _ q_p1 e126
      obtain ⟨q127, hF⟩ := ck_s hG; clear hG
      refine bH_c hF (fun x131 H130 z128 hG => ?_) (fun v129 H130 z128 hG => ?_)
      · clear hF
        have gz := (g_Store_readEvents hn z128 hm.1 hB q_p0 qa125 q_p2)
        replace hm : Rg Q H H130 := hm.tr gz.1
        replace hB : B ≤ H130.sh.length := Nat.le_trans hB ((m_Store_readEvents z128)).len
        have qx131 : Q x131 := gz.2 _ rfl
        obtain ⟨q132, hF⟩ := ck_s hG; clear hG
        exact hm.tr (gB_Store_restore_143 hn q_p0 q_p1 q_p2 hF hm.1 hB qx131)
      clear hF
      have gz_306 := (g_Store_readEvents hn z128 hm.1 hB q_p0 qa125 q_p2)
      replace hm : Rg Q H H130 := hm.tr gz_306.1
      replace hB : B ≤ H130.sh.length := Nat.le_trans hB ((m_Store_readEvents z128)).len
      have mz_307 : Mo H H130 := (m_Store_readEvents z128)
      have q_308 := (mz_307).get q124
      have q_309 := (mz_307).get q127
      refine bH_c hG (fun x136 H135 z133 hF => ?_) (fun v134 H135 z133 hF => ?_)
      · clear hG
        have gz := (g_Store_readEnd hn z133 hm.1 hB q_p0)
        replace hm : Rg Q H H135 := hm.tr gz.1
        replace hB : B ≤ H135.sh.length := Nat.le_trans hB ((m_Store_readEnd z133)).len
        have qx136 : Q x136 := gz.2 _ rfl
        obtain ⟨q137, hG⟩ := ck_s hF; clear hF
        exact hm.tr (gB_Store_restore_143 hn q_p0 q_p1 q_p2 hG hm.1 hB qx136)
      clear hG
      have gz_310 := (g_Store_readEnd hn z133 hm.1 hB q_p0)
      replace hm : Rg Q H H135 := hm.tr gz_310.1
      replace hB : B ≤ H135.sh.length := Nat.le_trans hB ((m_Store_readEnd z133)).len
      have mz_311 : Mo H130 H135 := (m_Store_readEnd z133)
      have q_312 := (mz_311).get q_308
      have q_313 := (mz_311).get q_309
      have hr := Option.some.inj hF; subst hr
      exact hm
    · clear hF
      obtain ⟨q138, hF⟩ := ck_s hG; clear hG
      obtain ⟨a139, e140, hG⟩ := rf_s hF; clear hF
      have qa139 : Q a139 := hm.1 _ _ _ q_p1 e140
      obtain ⟨q141, hF⟩ := ck_s hG; clear hG
      refine bH_c hF (fun x145 H144 z142 hG => ?_) (fun v143 H144 z142 hG => ?_)
      · clear hF
        have gz := (g_Store_readPlace hn z142 hm.1 hB q_p0 qa139 q_p2)
        replace hm : Rg Q H H144 := hm.tr gz.1
        replace hB : B ≤ H144.sh.length := Nat.le_trans hB ((m_Store_readPlace z142)).len
        have qx145 : Q x145 := gz.2 _ rfl
        obtain ⟨q146, hF⟩ := ck_s hG; clear hG
        exact hm.tr (gB_Store_restore_143 hn q_p0 q_p1 q_p2 hF hm.1 hB qx145)
      clear hF
      have gz_314 := (g_Store_readPlace hn z142 hm.1 hB q_p0 qa139 q_p2)
      replace hm : Rg Q H H144 := hm.tr gz_314.1
      replace hB : B ≤ H144.sh.length := Nat.le_trans hB ((m_Store_readPlace z142)).len
      have mz_315 : Mo H H144 := (m_Store_readPlace z142)
      have q_316 := (mz_315).get q138
      have q_317 := (mz_315).get q141
      exact hm.tr (ih (l3 + 1) H144 r hG hm.1 hB)
set_option maxRecDepth 20000 in
set_option maxHeartbeats 2000000 in
theorem g_Store_restore {N : Nat} {Q : Nat → Prop} {p0 : Nat} {p1 : Nat} {p2 : Nat} {H : Hp} {r : Int32 × Hp} {B : Nat} (hn : ∀ a, B ≤ a → Q a) (hF : F_Store_restore N p0 p1 p2 H = some r) (hc0 : Cl Q H) (hB : B ≤ H.sh.length) (q_p0 : Q p0) (q_p1 : Q p1) (q_p2 : Q p2) : Rg Q H r.2 := by
  unfold F_Store_restore at hF
  have hm := Rg.rf hc0
  obtain ⟨q147, hG⟩ := ck_s hF; clear hF
  obtain ⟨H148, eH148, hF⟩ := bnd_g hG; clear hG
  replace hm : Rg Q H H148 := hm.tr (by rw [eH148]; exact Rg.sD hm.1 q_p0)
  have s_318 : Sa H H148 := by rw [eH148]; exact Sa.rf _
  replace hB : B ≤ H148.sh.length := by rw [eH148]; exact hB
  obtain ⟨q149, hG⟩ := ck_s hF; clear hF
  rw [(s_318).1] at q149
  obtain ⟨a150, e151, hF⟩ := rf_s hG; clear hG
  have qa150 : Q a150 := hm.1 _ _ _ q_p1 e151
  obtain ⟨q152, hG⟩ := ck_s hF; clear hF
  rw [(s_318).1] at q152
  obtain ⟨v154, H155, z153, hF⟩ := bC_s hG; clear hG
  have gz_319 := (g_Shapes_total z153 hm.1 qa150)
  replace hm : Rg Q H H155 := hm.tr gz_319
  replace hB : B ≤ H155.sh.length := Nat.le_trans hB ((m_Shapes_total z153)).mo.len
  have s_320 : Sa H H155 := (s_318).tr (m_Shapes_total z153)
  obtain ⟨q156, hG⟩ := ck_s hF; clear hF
  rw [(s_320).1] at q156
  obtain ⟨v158, H159, z157, hF⟩ := bC_s hG; clear hG
  have gz_321 := (g_World_clear z157 hm.1 q_p2)
  replace hm : Rg Q H H159 := hm.tr gz_321
  replace hB : B ≤ H159.sh.length := Nat.le_trans hB ((m_World_clear z157)).mo.len
  have s_322 : Sa H H159 := (s_320).tr (m_World_clear z157)
  refine bH_c hF (fun x163 H162 z160 hG => ?_) (fun v161 H162 z160 hG => ?_)
  · clear hF
    have gz := (g_Store_readNumber hn z160 hm.1 hB q_p0)
    replace hm : Rg Q H H162 := hm.tr gz.1
    replace hB : B ≤ H162.sh.length := Nat.le_trans hB ((m_Store_readNumber z160)).len
    have qx163 : Q x163 := gz.2 _ rfl
    obtain ⟨q164, hF⟩ := ck_s hG; clear hG
    exact hm.tr (gB_Store_restore_143 hn q_p0 q_p1 q_p2 hF hm.1 hB qx163)
  clear hF
  have gz_323 := (g_Store_readNumber hn z160 hm.1 hB q_p0)
  replace hm : Rg Q H H162 := hm.tr gz_323.1
  replace hB : B ≤ H162.sh.length := Nat.le_trans hB ((m_Store_readNumber z160)).len
  have mz_324 : Mo H159 H162 := (m_Store_readNumber z160)
  have q_325 := (mz_324).get (by rw [(s_322).1]; exact q147)
  have q_326 := (mz_324).get (by rw [(s_322).1]; exact q149)
  have q_327 := (mz_324).get (by rw [(s_322).1]; exact q152)
  have q_328 := (mz_324).get (by rw [(s_322).1]; exact q156)
  refine bH_c hG (fun x168 H167 z165 hF => ?_) (fun v166 H167 z165 hF => ?_)
  · clear hG
    have gz := (g_Store_readNumber hn z165 hm.1 hB q_p0)
    replace hm : Rg Q H H167 := hm.tr gz.1
    replace hB : B ≤ H167.sh.length := Nat.le_trans hB ((m_Store_readNumber z165)).len
    have qx168 : Q x168 := gz.2 _ rfl
    obtain ⟨q169, hG⟩ := ck_s hF; clear hF
    exact hm.tr (gB_Store_restore_143 hn q_p0 q_p1 q_p2 hG hm.1 hB qx168)
  clear hG
  have gz_329 := (g_Store_readNumber hn z165 hm.1 hB q_p0)
  replace hm : Rg Q H H167 := hm.tr gz_329.1
  replace hB : B ≤ H167.sh.length := Nat.le_trans hB ((m_Store_readNumber z165)).len
  have mz_330 : Mo H162 H167 := (m_Store_readNumber z165)
  have q_331 := (mz_330).get q_325
  have q_332 := (mz_330).get q_326
  have q_333 := (mz_330).get q_327
  have q_334 := (mz_330).get q_328
  obtain ⟨a170, e171, hG⟩ := rf_s hF; clear hF
  have qa170 : Q a170 := hm.1 _ _ _ q_p1 e171
  refine bH_c hG (fun x175 H174 z172 hF => ?_) (fun v173 H174 z172 hF => ?_)
  · clear hG
    have gz := (g_Store_readShapes hn z172 hm.1 hB q_p0 qa170)
    replace hm : Rg Q H H174 := hm.tr gz.1
    replace hB : B ≤ H174.sh.length := Nat.le_trans hB ((m_Store_readShapes z172)).len
    have qx175 : Q x175 := gz.2 _ rfl
    obtain ⟨q176, hG⟩ := ck_s hF; clear hF
    exact hm.tr (gB_Store_restore_143 hn q_p0 q_p1 q_p2 hG hm.1 hB qx175)
  clear hG
  have gz_335 := (g_Store_readShapes hn z172 hm.1 hB q_p0 qa170)
  replace hm : Rg Q H H174 := hm.tr gz_335.1
  replace hB : B ≤ H174.sh.length := Nat.le_trans hB ((m_Store_readShapes z172)).len
  have mz_336 : Mo H167 H174 := (m_Store_readShapes z172)
  have q_337 := (mz_336).get q_331
  have q_338 := (mz_336).get q_332
  have q_339 := (mz_336).get q_333
  have q_340 := (mz_336).get q_334
  obtain ⟨a177, e178, hG⟩ := rf_s hF; clear hF
  have qa177 : Q a177 := hm.1 _ _ _ q_p1 e178
  refine bH_c hG (fun x182 H181 z179 hF => ?_) (fun v180 H181 z179 hF => ?_)
  · clear hG
    have gz := (g_Store_readShapes hn z179 hm.1 hB q_p0 qa177)
    replace hm : Rg Q H H181 := hm.tr gz.1
    replace hB : B ≤ H181.sh.length := Nat.le_trans hB ((m_Store_readShapes z179)).len
    have qx182 : Q x182 := gz.2 _ rfl
    obtain ⟨q183, hG⟩ := ck_s hF; clear hF
    exact hm.tr (gB_Store_restore_143 hn q_p0 q_p1 q_p2 hG hm.1 hB qx182)
  clear hG
  have gz_341 := (g_Store_readShapes hn z179 hm.1 hB q_p0 qa177)
  replace hm : Rg Q H H181 := hm.tr gz_341.1
  replace hB : B ≤ H181.sh.length := Nat.le_trans hB ((m_Store_readShapes z179)).len
  have mz_342 : Mo H174 H181 := (m_Store_readShapes z179)
  have q_343 := (mz_342).get q_337
  have q_344 := (mz_342).get q_338
  have q_345 := (mz_342).get q_339
  have q_346 := (mz_342).get q_340
  refine bH_c hF (fun x187 H186 z184 hG => ?_) (fun v185 H186 z184 hG => ?_)
  · clear hF
    have gz := (g_Store_readNumber hn z184 hm.1 hB q_p0)
    replace hm : Rg Q H H186 := hm.tr gz.1
    replace hB : B ≤ H186.sh.length := Nat.le_trans hB ((m_Store_readNumber z184)).len
    have qx187 : Q x187 := gz.2 _ rfl
    obtain ⟨q188, hF⟩ := ck_s hG; clear hG
    exact hm.tr (gB_Store_restore_143 hn q_p0 q_p1 q_p2 hF hm.1 hB qx187)
  clear hF
  have gz_347 := (g_Store_readNumber hn z184 hm.1 hB q_p0)
  replace hm : Rg Q H H186 := hm.tr gz_347.1
  replace hB : B ≤ H186.sh.length := Nat.le_trans hB ((m_Store_readNumber z184)).len
  have mz_348 : Mo H181 H186 := (m_Store_readNumber z184)
  have q_349 := (mz_348).get q_343
  have q_350 := (mz_348).get q_344
  have q_351 := (mz_348).get q_345
  have q_352 := (mz_348).get q_346
  obtain ⟨H189, eH189, hF⟩ := bnd_g hG; clear hG
  replace hm : Rg Q H H189 := hm.tr (by rw [eH189]; exact Rg.sD hm.1 q_p2)
  have s_353 : Sa H186 H189 := by rw [eH189]; exact Sa.rf _
  replace hB : B ≤ H189.sh.length := by rw [eH189]; exact hB
  refine bH_c hF (fun x193 H192 z190 hG => ?_) (fun v191 H192 z190 hG => ?_)
  · clear hF
    have gz := (g_Store_readNumber hn z190 hm.1 hB q_p0)
    replace hm : Rg Q H H192 := hm.tr gz.1
    replace hB : B ≤ H192.sh.length := Nat.le_trans hB ((m_Store_readNumber z190)).len
    have qx193 : Q x193 := gz.2 _ rfl
    obtain ⟨q194, hF⟩ := ck_s hG; clear hG
    exact hm.tr (gB_Store_restore_143 hn q_p0 q_p1 q_p2 hF hm.1 hB qx193)
  clear hF
  have gz_354 := (g_Store_readNumber hn z190 hm.1 hB q_p0)
  replace hm : Rg Q H H192 := hm.tr gz_354.1
  replace hB : B ≤ H192.sh.length := Nat.le_trans hB ((m_Store_readNumber z190)).len
  have mz_355 : Mo H189 H192 := (m_Store_readNumber z190)
  have q_356 := (mz_355).get (by rw [(s_353).1]; exact q_349)
  have q_357 := (mz_355).get (by rw [(s_353).1]; exact q_350)
  have q_358 := (mz_355).get (by rw [(s_353).1]; exact q_351)
  have q_359 := (mz_355).get (by rw [(s_353).1]; exact q_352)
  obtain ⟨H195, eH195, hF⟩ := bnd_g hG; clear hG
  replace hm : Rg Q H H195 := hm.tr (by rw [eH195]; exact Rg.sD hm.1 q_p2)
  have s_360 : Sa H192 H195 := by rw [eH195]; exact Sa.rf _
  replace hB : B ≤ H195.sh.length := by rw [eH195]; exact hB
  refine bH_c hF (fun x199 H198 z196 hG => ?_) (fun v197 H198 z196 hG => ?_)
  · clear hF
    have gz := (g_Store_readNumber hn z196 hm.1 hB q_p0)
    replace hm : Rg Q H H198 := hm.tr gz.1
    replace hB : B ≤ H198.sh.length := Nat.le_trans hB ((m_Store_readNumber z196)).len
    have qx199 : Q x199 := gz.2 _ rfl
    obtain ⟨q200, hF⟩ := ck_s hG; clear hG
    exact hm.tr (gB_Store_restore_143 hn q_p0 q_p1 q_p2 hF hm.1 hB qx199)
  clear hF
  have gz_361 := (g_Store_readNumber hn z196 hm.1 hB q_p0)
  replace hm : Rg Q H H198 := hm.tr gz_361.1
  replace hB : B ≤ H198.sh.length := Nat.le_trans hB ((m_Store_readNumber z196)).len
  have mz_362 : Mo H195 H198 := (m_Store_readNumber z196)
  have q_363 := (mz_362).get (by rw [(s_360).1]; exact q_356)
  have q_364 := (mz_362).get (by rw [(s_360).1]; exact q_357)
  have q_365 := (mz_362).get (by rw [(s_360).1]; exact q_358)
  have q_366 := (mz_362).get (by rw [(s_360).1]; exact q_359)
  obtain ⟨H201, eH201, hF⟩ := bnd_g hG; clear hG
  replace hm : Rg Q H H201 := hm.tr (by rw [eH201]; exact Rg.sD hm.1 q_p2)
  have s_367 : Sa H198 H201 := by rw [eH201]; exact Sa.rf _
  replace hB : B ≤ H201.sh.length := by rw [eH201]; exact hB
  refine bH_c hF (fun x205 H204 z202 hG => ?_) (fun v203 H204 z202 hG => ?_)
  · clear hF
    have gz := (g_Store_readNumber hn z202 hm.1 hB q_p0)
    replace hm : Rg Q H H204 := hm.tr gz.1
    replace hB : B ≤ H204.sh.length := Nat.le_trans hB ((m_Store_readNumber z202)).len
    have qx205 : Q x205 := gz.2 _ rfl
    obtain ⟨q206, hF⟩ := ck_s hG; clear hG
    exact hm.tr (gB_Store_restore_143 hn q_p0 q_p1 q_p2 hF hm.1 hB qx205)
  clear hF
  have gz_368 := (g_Store_readNumber hn z202 hm.1 hB q_p0)
  replace hm : Rg Q H H204 := hm.tr gz_368.1
  replace hB : B ≤ H204.sh.length := Nat.le_trans hB ((m_Store_readNumber z202)).len
  have mz_369 : Mo H201 H204 := (m_Store_readNumber z202)
  have q_370 := (mz_369).get (by rw [(s_367).1]; exact q_363)
  have q_371 := (mz_369).get (by rw [(s_367).1]; exact q_364)
  have q_372 := (mz_369).get (by rw [(s_367).1]; exact q_365)
  have q_373 := (mz_369).get (by rw [(s_367).1]; exact q_366)
  obtain ⟨H207, eH207, hF⟩ := bnd_g hG; clear hG
  replace hm : Rg Q H H207 := hm.tr (by rw [eH207]; exact Rg.sD hm.1 q_p2)
  have s_374 : Sa H204 H207 := by rw [eH207]; exact Sa.rf _
  replace hB : B ≤ H207.sh.length := by rw [eH207]; exact hB
  exact hm.tr (gB_Store_restore_104 hn q_p0 q_p1 q_p2 N 0 H207 r hF hm.1 hB)
set_option maxRecDepth 20000 in
set_option maxHeartbeats 2000000 in
theorem g_Play_adopt {N : Nat} {Q : Nat → Prop} {p0 : Nat} {p1 : Nat} {H : Hp} {r : Unit × Hp} (hF : F_Play_adopt N p0 p1 H = some r) (hc0 : Cl Q H) (q_p0 : Q p0) (q_p1 : Q p1) : Rg Q H r.2 := by
  unfold F_Play_adopt at hF
  have hm := Rg.rf hc0
  obtain ⟨q21, hG⟩ := ck_s hF; clear hF
  obtain ⟨a22, e23, hF⟩ := rf_s hG; clear hG
  have qa22 : Q a22 := hm.1 _ _ _ q_p0 e23
  obtain ⟨q24, hG⟩ := ck_s hF; clear hF
  obtain ⟨v26, H27, z25, hF⟩ := bC_s hG; clear hG
  have gz_5 := (g_World_copyFrom z25 hm.1 qa22 q_p1)
  replace hm : Rg Q H H27 := hm.tr gz_5
  have s_6 : Sa H H27 := (m_World_copyFrom z25)
  obtain ⟨v29, H30, z28, hG⟩ := bC_s hF; clear hF
  have gz_7 := (g_Play_forgetInputs z28 hm.1 q_p0)
  replace hm : Rg Q H H30 := hm.tr gz_7
  have s_8 : Sa H H30 := (s_6).tr (m_Play_forgetInputs z28)
  have hr := Option.some.inj hG; subst hr
  exact hm
set_option maxRecDepth 20000 in
set_option maxHeartbeats 2000000 in
theorem g_W_load {N : Nat} {Q : Nat → Prop} {p0 : Nat} {H : Hp} {r : Int32 × Hp} {B : Nat} (hn : ∀ a, B ≤ a → Q a) (hF : F_W_load N p0 H = some r) (hc0 : Cl Q H) (hB : B ≤ H.sh.length) (q_p0 : Q p0) : Rg Q H r.2 := by
  unfold F_W_load at hF
  have hm := Rg.rf hc0
  obtain ⟨q73, hG⟩ := ck_s hF; clear hF
  obtain ⟨a74, e75, hF⟩ := rf_s hG; clear hG
  have qa74 : Q a74 := hm.1 _ _ _ q_p0 e75
  obtain ⟨q76, hG⟩ := ck_s hF; clear hF
  obtain ⟨v78, H79, z77, hF⟩ := bC_s hG; clear hG
  have gz_22 := (g_Play_isQuiet z77 hm.1 qa74)
  replace hm : Rg Q H H79 := hm.tr gz_22
  replace hB : B ≤ H79.sh.length := Nat.le_trans hB ((m_Play_isQuiet z77)).mo.len
  have s_23 : Sa H H79 := (m_Play_isQuiet z77)
  rcases ite_s hF with ⟨q_24, hG⟩ | ⟨q_24, hG⟩
  · clear hF
    have hr := Option.some.inj hG; subst hr
    exact hm
  · clear hF
    obtain ⟨x81, -, hF⟩ := bnd_g hG; clear hG
    rcases ite_s hF with ⟨q_25, hG⟩ | ⟨q_25, hG⟩
    · clear hF
      have hr := Option.some.inj hG; subst hr
      exact hm
    · clear hF
      obtain ⟨a83, e84, hF⟩ := rf_s hG; clear hG
      have qa83 : Q a83 := hm.1 _ _ _ q_p0 e84
      obtain ⟨q85, hG⟩ := ck_s hF; clear hF
      rw [(s_23).1] at q85
      obtain ⟨v87, H88, z86, hF⟩ := bC_s hG; clear hG
      have gz_26 := (g_Play_scratch z86 hm.1 qa83)
      replace hm : Rg Q H H88 := hm.tr gz_26.1
      replace hB : B ≤ H88.sh.length := Nat.le_trans hB ((m_Play_scratch z86)).mo.len
      have s_27 : Sa H H88 := (s_23).tr (m_Play_scratch z86)
      obtain ⟨a89, ea89, hG⟩ := on_s hF; clear hF
      subst ea89
      have qa89 : Q a89 := gz_26.2 _ rfl
      obtain ⟨a90, e91, hF⟩ := rf_s hG; clear hG
      have qa90 : Q a90 := hm.1 _ _ _ q_p0 e91
      obtain ⟨a92, e93, hG⟩ := rf_s hF; clear hF
      have qa92 : Q a92 := hm.1 _ _ _ q_p0 e93
      obtain ⟨q94, hF⟩ := ck_s hG; clear hG
      rw [(s_27).1] at q94
      obtain ⟨v96, H97, z95, hG⟩ := bC_s hF; clear hF
      have gz_28 := (g_Store_restore hn z95 hm.1 hB qa90 qa92 qa89)
      replace hm : Rg Q H H97 := hm.tr gz_28
      replace hB : B ≤ H97.sh.length := Nat.le_trans hB ((m_Store_restore z95)).len
      have mz_29 : Mo H88 H97 := (m_Store_restore z95)
      have q_30 := (mz_29).get (by rw [(s_27).1]; exact q73)
      have q_31 := (mz_29).get (by rw [(s_27).1]; exact q76)
      have q_32 := (mz_29).get (by rw [(s_27).1]; exact q85)
      have q_33 := (mz_29).get (by rw [(s_27).1]; exact q94)
      rcases ite_s hG with ⟨q_34, hF⟩ | ⟨q_34, hF⟩
      · clear hG
        obtain ⟨a99, e100, hG⟩ := rf_s hF; clear hF
        have qa99 : Q a99 := hm.1 _ _ _ q_p0 e100
        obtain ⟨q101, hF⟩ := ck_s hG; clear hG
        obtain ⟨x102, -, hG⟩ := bnd_g hF; clear hF
        have hr := Option.some.inj hG; subst hr
        exact hm
      · clear hG
        obtain ⟨a103, e104, hG⟩ := rf_s hF; clear hF
        have qa103 : Q a103 := hm.1 _ _ _ q_p0 e104
        obtain ⟨q105, hF⟩ := ck_s hG; clear hG
        obtain ⟨v107, H108, z106, hG⟩ := bC_s hF; clear hF
        have gz_35 := (g_Play_adopt z106 hm.1 qa103 qa89)
        replace hm : Rg Q H H108 := hm.tr gz_35
        replace hB : B ≤ H108.sh.length := Nat.le_trans hB ((m_Play_adopt z106)).mo.len
        have s_36 : Sa H97 H108 := (m_Play_adopt z106)
        have hr := Option.some.inj hG; subst hr
        exact hm
set_option maxRecDepth 20000 in
set_option maxHeartbeats 2000000 in
theorem g_W_isWorker {N : Nat} {Q : Nat → Prop} {p0 : Nat} {p1 : Int32} {H : Hp} {r : Int32 × Hp} (hF : F_W_isWorker N p0 p1 H = some r) (hc0 : Cl Q H) (q_p0 : Q p0) : Rg Q H r.2 := by
  unfold F_W_isWorker at hF
  have hm := Rg.rf hc0
  rcases ite_s hF with ⟨q_3, hG⟩ | ⟨q_3, hG⟩
  · clear hF
    have hr := Option.some.inj hG; subst hr
    exact hm
  · clear hF
    rcases ite_s hG with ⟨q_4, hF⟩ | ⟨q_4, hF⟩
    · clear hG
      have hr := Option.some.inj hF; subst hr
      exact hm
    · clear hG
      have hr := Option.some.inj hF; subst hr
      exact hm
set_option maxRecDepth 20000 in
set_option maxHeartbeats 2000000 in
theorem g_W_fall {N : Nat} {Q : Nat → Prop} {p0 : Nat} {p1 : Int32} {H : Hp} {r : Int32 × Hp} (hF : F_W_fall N p0 p1 H = some r) (hc0 : Cl Q H) (q_p0 : Q p0) : Rg Q H r.2 := by
  unfold F_W_fall at hF
  have hm := Rg.rf hc0
  obtain ⟨q23, hG⟩ := ck_s hF; clear hF
  obtain ⟨v25, H26, z24, hF⟩ := bC_s hG; clear hG
  have gz_8 := (g_W_isWorker z24 hm.1 q_p0)
  replace hm : Rg Q H H26 := hm.tr gz_8
  have s_9 : Sa H H26 := (m_W_isWorker z24)
  rcases ite_s hF with ⟨q_10, hG⟩ | ⟨q_10, hG⟩
  · clear hF
    have hr := Option.some.inj hG; subst hr
    exact hm
  · clear hF
    obtain ⟨x28, -, hF⟩ := bnd_g hG; clear hG
    rcases ite_s hF with ⟨q_11, hG⟩ | ⟨q_11, hG⟩
    · clear hF
      have hr := Option.some.inj hG; subst hr
      exact hm
    · clear hF
      obtain ⟨x30, -, hF⟩ := bnd_g hG; clear hG
      rcases ite_s hF with ⟨q_12, hG⟩ | ⟨q_12, hG⟩
      · clear hF
        have hr := Option.some.inj hG; subst hr
        exact hm
      · clear hF
        obtain ⟨x32, -, hF⟩ := bnd_g hG; clear hG
        obtain ⟨H33, eH33, hG⟩ := bnd_g hF; clear hF
        replace hm : Rg Q H H33 := hm.tr (by rw [eH33]; exact Rg.sD hm.1 q_p0)
        have s_13 : Sa H H33 := by rw [eH33]; exact s_9
        have hr := Option.some.inj hG; subst hr
        exact hm
set_option maxRecDepth 20000 in
set_option maxHeartbeats 2000000 in
theorem g_W_stand {N : Nat} {Q : Nat → Prop} {p0 : Nat} {p1 : Int32} {H : Hp} {r : Int32 × Hp} (hF : F_W_stand N p0 p1 H = some r) (hc0 : Cl Q H) (q_p0 : Q p0) : Rg Q H r.2 := by
  unfold F_W_stand at hF
  have hm := Rg.rf hc0
  obtain ⟨q27, hG⟩ := ck_s hF; clear hF
  obtain ⟨v29, H30, z28, hF⟩ := bC_s hG; clear hG
  have gz_9 := (g_W_isWorker z28 hm.1 q_p0)
  replace hm : Rg Q H H30 := hm.tr gz_9
  have s_10 : Sa H H30 := (m_W_isWorker z28)
  rcases ite_s hF with ⟨q_11, hG⟩ | ⟨q_11, hG⟩
  · clear hF
    have hr := Option.some.inj hG; subst hr
    exact hm
  · clear hF
    obtain ⟨x32, -, hF⟩ := bnd_g hG; clear hG
    obtain ⟨x33, -, hG⟩ := bnd_g hF; clear hF
    obtain ⟨x34, -, hF⟩ := bnd_g hG; clear hG
    rcases ite_s hF with ⟨q_12, hG⟩ | ⟨q_12, hG⟩
    · clear hF
      have hr := Option.some.inj hG; subst hr
      exact hm
    · clear hF
      obtain ⟨x36, -, hF⟩ := bnd_g hG; clear hG
      obtain ⟨H37, eH37, hG⟩ := bnd_g hF; clear hF
      replace hm : Rg Q H H37 := hm.tr (by rw [eH37]; exact Rg.sD hm.1 q_p0)
      have s_13 : Sa H H37 := by rw [eH37]; exact s_10
      obtain ⟨x38, -, hF⟩ := bnd_g hG; clear hG
      obtain ⟨H39, eH39, hG⟩ := bnd_g hF; clear hF
      replace hm : Rg Q H H39 := hm.tr (by rw [eH39]; exact Rg.sD hm.1 q_p0)
      have s_14 : Sa H H39 := by rw [eH39]; exact s_13
      have hr := Option.some.inj hG; subst hr
      exact hm
set_option maxRecDepth 20000 in
set_option maxHeartbeats 2000000 in
theorem g_W_pace {N : Nat} {Q : Nat → Prop} {p0 : Nat} {p1 : Int32} {H : Hp} {r : Unit × Hp} (hF : F_W_pace N p0 p1 H = some r) (hc0 : Cl Q H) (q_p0 : Q p0) : Rg Q H r.2 := by
  unfold F_W_pace at hF
  have hm := Rg.rf hc0
  have hr := Option.some.inj hF; subst hr
  exact hm
set_option maxRecDepth 20000 in
set_option maxHeartbeats 2000000 in
theorem g_Law_cell {N : Nat} {Q : Nat → Prop} {p0 : Nat} {p1 : Int32} {H : Hp} {r : Int32 × Hp} (hF : F_Law_cell N p0 p1 H = some r) (hc0 : Cl Q H) (q_p0 : Q p0) : Rg Q H r.2 := by
  unfold F_Law_cell at hF
  have hm := Rg.rf hc0
  obtain ⟨n11, q12, hG⟩ := ar_s hF; clear hF
  rcases ite_s hG with ⟨q_2, hF⟩ | ⟨q_2, hF⟩
  · clear hG
    have hr := Option.some.inj hF; subst hr
    exact hm
  · clear hG
    obtain ⟨q14, hG⟩ := ck_s hF; clear hF
    obtain ⟨x15, -, hF⟩ := bnd_g hG; clear hG
    have hr := Option.some.inj hF; subst hr
    exact hm
set_option maxRecDepth 20000 in
set_option maxHeartbeats 2000000 in
theorem g_W_get {N : Nat} {Q : Nat → Prop} {p0 : Nat} {p1 : Int32} {p2 : Int32} {p3 : Int32} {H : Hp} {r : (Ot Int32) × Hp} {B : Nat} (hn : ∀ a, B ≤ a → Q a) (hF : F_W_get N p0 p1 p2 p3 H = some r) (hc0 : Cl Q H) (hB : B ≤ H.sh.length) (q_p0 : Q p0) : Rg Q H r.2 ∧ (∀ x, r.1 = .inr x → Q x) := by
  unfold F_W_get at hF
  have hm := Rg.rf hc0
  obtain ⟨q49, hG⟩ := ck_s hF; clear hF
  obtain ⟨v51, H52, z50, hF⟩ := bC_s hG; clear hG
  have gz_8 := (g_W_offsetOf z50 hm.1 q_p0)
  replace hm : Rg Q H H52 := hm.tr gz_8
  replace hB : B ≤ H52.sh.length := Nat.le_trans hB ((m_W_offsetOf z50)).mo.len
  have s_9 : Sa H H52 := (m_W_offsetOf z50)
  rcases ite_s hF with ⟨q_10, hG⟩ | ⟨q_10, hG⟩
  · clear hF
    obtain ⟨a54, e55, hF⟩ := rf_s hG; clear hG
    have qa54 : Q a54 := hm.1 _ _ _ q_p0 e55
    obtain ⟨q56, hG⟩ := ck_s hF; clear hF
    rw [(s_9).1] at q56
    obtain ⟨a57, e58, hF⟩ := rf_s hG; clear hG
    have qa57 : Q a57 := hm.1 _ _ _ qa54 e58
    obtain ⟨a59, e60, hG⟩ := rf_s hF; clear hF
    have qa59 : Q a59 := hm.1 _ _ _ q_p0 e60
    obtain ⟨q61, hF⟩ := ck_s hG; clear hG
    rw [(s_9).1] at q61
    obtain ⟨a62, e63, hG⟩ := rf_s hF; clear hF
    have qa62 : Q a62 := hm.1 _ _ _ qa59 e63
    obtain ⟨q64, hF⟩ := ck_s hG; clear hG
    rw [(s_9).1] at q64
    obtain ⟨v66, H67, z65, hG⟩ := bC_s hF; clear hF
    have gz_11 := (g_World_placeOf z65 hm.1 qa62)
    replace hm : Rg Q H H67 := hm.tr gz_11
    replace hB : B ≤ H67.sh.length := Nat.le_trans hB ((m_World_placeOf z65)).mo.len
    have s_12 : Sa H H67 := (s_9).tr (m_World_placeOf z65)
    obtain ⟨q68, hF⟩ := ck_s hG; clear hG
    rw [(s_12).1] at q68
    obtain ⟨v70, H71, z69, hG⟩ := bC_s hF; clear hF
    have gz_13 := (g_World_read z69 hm.1 qa57)
    replace hm : Rg Q H H71 := hm.tr gz_13
    replace hB : B ≤ H71.sh.length := Nat.le_trans hB ((m_World_read z69)).mo.len
    have s_14 : Sa H H71 := (s_12).tr (m_World_read z69)
    have hr := Option.some.inj hG; subst hr
    exact ⟨hm, (fun x e => by cases e)⟩
  · clear hF
    have hr := Option.some.inj hG; subst hr
    exact ⟨hm.tr (Rg.nx hm.1), (fun x e => by cases e; exact hn _ hB)⟩
set_option maxRecDepth 20000 in
set_option maxHeartbeats 2000000 in
theorem gB_Law_get_15 {N : Nat} {Q : Nat → Prop} {p0 : Nat} {p1 : Int32} {p2 : Int32} {p3 : Int32} {p4 : Nat} {B : Nat} (hn : ∀ a, B ≤ a → Q a) (q_p0 : Q p0) (q_p4 : Q p4) {w0 : Nat} {H : Hp} {r : Int32 × Hp} (hF : B_Law_get_15 N p0 p1 p2 p3 p4 w0 H = some r) (hc0 : Cl Q H) (hB : B ≤ H.sh.length) (q_w0 : Q w0) : Rg Q H r.2 := by
  unfold B_Law_get_15 at hF
  have hm := Rg.rf hc0
  have hr := Option.some.inj hF; subst hr
  exact hm
set_option maxRecDepth 20000 in
set_option maxHeartbeats 2000000 in
theorem g_Law_get {N : Nat} {Q : Nat → Prop} {p0 : Nat} {p1 : Int32} {p2 : Int32} {p3 : Int32} {p4 : Nat} {H : Hp} {r : Int32 × Hp} {B : Nat} (hn : ∀ a, B ≤ a → Q a) (hF : F_Law_get N p0 p1 p2 p3 p4 H = some r) (hc0 : Cl Q H) (hB : B ≤ H.sh.length) (q_p0 : Q p0) (q_p4 : Q p4) : Rg Q H r.2 := by
  unfold F_Law_get at hF
  have hm := Rg.rf hc0
  obtain ⟨q21, hG⟩ := ck_s hF; clear hF
  refine bH_c hG (fun x25 H24 z22 hF => ?_) (fun v23 H24 z22 hF => ?_)
  · clear hG
    have gz := (g_W_get hn z22 hm.1 hB q_p0)
    replace hm : Rg Q H H24 := hm.tr gz.1
    replace hB : B ≤ H24.sh.length := Nat.le_trans hB ((m_W_get z22)).len
    have qx25 : Q x25 := gz.2 _ rfl
    obtain ⟨q26, hG⟩ := ck_s hF; clear hF
    exact hm.tr (gB_Law_get_15 hn q_p0 q_p4 hG hm.1 hB qx25)
  clear hG
  have gz_10 := (g_W_get hn z22 hm.1 hB q_p0)
  replace hm : Rg Q H H24 := hm.tr gz_10.1
  replace hB : B ≤ H24.sh.length := Nat.le_trans hB ((m_W_get z22)).len
  have mz_11 : Mo H H24 := (m_W_get z22)
  have q_12 := (mz_11).get q21
  obtain ⟨n27, q28, hG⟩ := ar_s hF; clear hF
  obtain ⟨q29, hF⟩ := ck_s hG; clear hG
  obtain ⟨H30, eH30, hG⟩ := bnd_g hF; clear hF
  replace hm : Rg Q H H30 := hm.tr (by rw [eH30]; exact Rg.sL hm.1 q_p4)
  have s_13 : Sa H24 H30 := by rw [eH30]; exact Sa.rf _
  replace hB : B ≤ H30.sh.length := by rw [eH30]; exact hB
  have hr := Option.some.inj hG; subst hr
  exact hm
