set_option maxRecDepth 20000 in
set_option maxHeartbeats 2000000 in
theorem g_M_make {N : Nat} {Q : Nat → Prop} {p0 : Nat} {p1 : Int32} {H : Hp} {r : Int32 × Hp} (hF : F_M_make N p0 p1 H = some r) (hc0 : Cl Q H) (q_p0 : Q p0) : Rg Q H r.2 := by
  unfold F_M_make at hF
  have hm := Rg.rf hc0
  obtain ⟨q75, hG⟩ := ck_s hF; clear hF
  obtain ⟨H76, eH76, hF⟩ := bnd_g hG; clear hG
  replace hm : Rg Q H H76 := hm.tr (by rw [eH76]; exact Rg.sD hm.1 q_p0)
  have s_16 : Sa H H76 := by rw [eH76]; exact Sa.rf _
  obtain ⟨v78, H79, z77, hG⟩ := bC_s hF; clear hF
  have gz_17 := (g_M_isQuiet z77 hm.1 q_p0)
  replace hm : Rg Q H H79 := hm.tr gz_17
  have s_18 : Sa H H79 := (s_16).tr (m_M_isQuiet z77)
  rcases ite_s hG with ⟨q_19, hF⟩ | ⟨q_19, hF⟩
  · clear hG
    have hr := Option.some.inj hF; subst hr
    exact hm
  · clear hG
    obtain ⟨a81, e82, hG⟩ := rf_s hF; clear hF
    have qa81 : Q a81 := hm.1 _ _ _ q_p0 e82
    obtain ⟨q83, hF⟩ := ck_s hG; clear hG
    rw [(s_18).1] at q83
    obtain ⟨x84, -, hG⟩ := bnd_g hF; clear hF
    obtain ⟨v86, H87, z85, hF⟩ := bC_s hG; clear hG
    have gz_20 := (g_M_in z85 hm.1)
    replace hm : Rg Q H H87 := hm.tr gz_20
    have s_21 : Sa H H87 := (s_18).tr (m_M_in z85)
    rcases ite_s hF with ⟨q_22, hG⟩ | ⟨q_22, hG⟩
    · clear hF
      have hr := Option.some.inj hG; subst hr
      exact hm
    · clear hF
      obtain ⟨a89, e90, hF⟩ := rf_s hG; clear hG
      have qa89 : Q a89 := hm.1 _ _ _ q_p0 e90
      obtain ⟨a91, e92, hG⟩ := rf_s hF; clear hF
      have qa91 : Q a91 := hm.1 _ _ _ q_p0 e92
      obtain ⟨q93, hF⟩ := ck_s hG; clear hG
      rw [(s_21).1] at q93
      obtain ⟨v95, H96, z94, hG⟩ := bC_s hF; clear hF
      have gz_23 := (g_MWorld_spawns z94 hm.1 qa89 qa91)
      replace hm : Rg Q H H96 := hm.tr gz_23
      have s_24 : Sa H H96 := (s_21).tr (m_MWorld_spawns z94)
      obtain ⟨a97, e98, hF⟩ := rf_s hG; clear hG
      have qa97 : Q a97 := hm.1 _ _ _ q_p0 e98
      obtain ⟨a99, e100, hG⟩ := rf_s hF; clear hF
      have qa99 : Q a99 := hm.1 _ _ _ q_p0 e100
      obtain ⟨q101, hF⟩ := ck_s hG; clear hG
      rw [(s_24).1] at q101
      obtain ⟨v103, H104, z102, hG⟩ := bC_s hF; clear hF
      have gz_25 := (g_MWorld_copies z102 hm.1 qa97 qa99)
      replace hm : Rg Q H H104 := hm.tr gz_25
      have s_26 : Sa H H104 := (s_24).tr (m_MWorld_copies z102)
      rcases ite_s hG with ⟨q_27, hF⟩ | ⟨q_27, hF⟩
      · clear hG
        obtain ⟨a106, e107, hG⟩ := rf_s hF; clear hF
        have qa106 : Q a106 := hm.1 _ _ _ q_p0 e107
        obtain ⟨q108, hF⟩ := ck_s hG; clear hG
        rw [(s_26).1] at q108
        obtain ⟨v110, H111, z109, hG⟩ := bC_s hF; clear hF
        have gz_28 := (g_MWorld_number z109 hm.1 qa106)
        replace hm : Rg Q H H111 := hm.tr gz_28
        have s_29 : Sa H H111 := (s_26).tr (m_MWorld_number z109)
        have hr := Option.some.inj hG; subst hr
        exact hm
      · clear hG
        have hr := Option.some.inj hF; subst hr
        exact hm
set_option maxRecDepth 20000 in
set_option maxHeartbeats 2000000 in
theorem g_M_isComponent {N : Nat} {Q : Nat → Prop} {p0 : Nat} {p1 : Int32} {H : Hp} {r : Int32 × Hp} (hF : F_M_isComponent N p0 p1 H = some r) (hc0 : Cl Q H) (q_p0 : Q p0) : Rg Q H r.2 := by
  unfold F_M_isComponent at hF
  have hm := Rg.rf hc0
  obtain ⟨q19, hG⟩ := ck_s hF; clear hF
  obtain ⟨a20, e21, hF⟩ := rf_s hG; clear hG
  have qa20 : Q a20 := hm.1 _ _ _ q_p0 e21
  obtain ⟨q22, hG⟩ := ck_s hF; clear hF
  obtain ⟨x23, -, hF⟩ := bnd_g hG; clear hG
  obtain ⟨v25, H26, z24, hG⟩ := bC_s hF; clear hF
  have gz_3 := (g_M_in z24 hm.1)
  replace hm : Rg Q H H26 := hm.tr gz_3
  have s_4 : Sa H H26 := (m_M_in z24)
  obtain ⟨q27, hF⟩ := ck_s hG; clear hG
  have hr := Option.some.inj hF; subst hr
  exact hm
set_option maxRecDepth 20000 in
set_option maxHeartbeats 2000000 in
theorem gB_M_change_97 {N : Nat} {Q : Nat → Prop} {p0 : Nat} {p1 : Int32} {p2 : Int32} {p3 : Int32} (q_p0 : Q p0) {w0 : Int32} {H : Hp} {r : Int32 × Hp} (hF : B_M_change_97 N p0 p1 p2 p3 w0 H = some r) (hc0 : Cl Q H) : Rg Q H r.2 := by
  unfold B_M_change_97 at hF
  have hm := Rg.rf hc0
  obtain ⟨q115, hG⟩ := ck_s hF; clear hF
  obtain ⟨a116, e117, hF⟩ := rf_s hG; clear hG
  have qa116 : Q a116 := hm.1 _ _ _ q_p0 e117
  obtain ⟨a118, e119, hG⟩ := rf_s hF; clear hF
  have qa118 : Q a118 := hm.1 _ _ _ q_p0 e119
  obtain ⟨q120, hF⟩ := ck_s hG; clear hG
  obtain ⟨v122, H123, z121, hG⟩ := bC_s hF; clear hF
  have gz_27 := (g_MWorld_copies z121 hm.1 qa116 qa118)
  replace hm : Rg Q H H123 := hm.tr gz_27
  have s_28 : Sa H H123 := (m_MWorld_copies z121)
  rcases ite_s hG with ⟨q_29, hF⟩ | ⟨q_29, hF⟩
  · clear hG
    have hr := Option.some.inj hF; subst hr
    exact hm
  · clear hG
    have hr := Option.some.inj hF; subst hr
    exact hm
set_option maxRecDepth 20000 in
set_option maxHeartbeats 2000000 in
theorem gB_M_change_52 {N : Nat} {Q : Nat → Prop} {p0 : Nat} {p1 : Int32} {p2 : Int32} {p3 : Int32} (q_p0 : Q p0)  {H : Hp} {r : Int32 × Hp} (hF : B_M_change_52 N p0 p1 p2 p3  H = some r) (hc0 : Cl Q H) : Rg Q H r.2 := by
  unfold B_M_change_52 at hF
  have hm := Rg.rf hc0
  rcases ite_s hF with ⟨q_30, hG⟩ | ⟨q_30, hG⟩
  · clear hF
    obtain ⟨q126, hF⟩ := ck_s hG; clear hG
    obtain ⟨a127, e128, hG⟩ := rf_s hF; clear hF
    have qa127 : Q a127 := hm.1 _ _ _ q_p0 e128
    obtain ⟨q129, hF⟩ := ck_s hG; clear hG
    obtain ⟨v131, H132, z130, hG⟩ := bC_s hF; clear hF
    have gz_31 := (g_MWorld_drops z130 hm.1 qa127)
    replace hm : Rg Q H H132 := hm.tr gz_31
    have s_32 : Sa H H132 := (m_MWorld_drops z130)
    exact hm.tr (gB_M_change_97 q_p0 hG hm.1)
  · clear hF
    rcases ite_s hG with ⟨q_33, hF⟩ | ⟨q_33, hF⟩
    · clear hG
      obtain ⟨q134, hG⟩ := ck_s hF; clear hF
      obtain ⟨a135, e136, hF⟩ := rf_s hG; clear hG
      have qa135 : Q a135 := hm.1 _ _ _ q_p0 e136
      obtain ⟨a137, e138, hG⟩ := rf_s hF; clear hF
      have qa137 : Q a137 := hm.1 _ _ _ q_p0 e138
      obtain ⟨q139, hF⟩ := ck_s hG; clear hG
      obtain ⟨v141, H142, z140, hG⟩ := bC_s hF; clear hF
      have gz_34 := (g_MWorld_gives z140 hm.1 qa135 qa137)
      replace hm : Rg Q H H142 := hm.tr gz_34
      have s_35 : Sa H H142 := (m_MWorld_gives z140)
      exact hm.tr (gB_M_change_97 q_p0 hG hm.1)
    · clear hG
      obtain ⟨q143, hG⟩ := ck_s hF; clear hF
      obtain ⟨a144, e145, hF⟩ := rf_s hG; clear hG
      have qa144 : Q a144 := hm.1 _ _ _ q_p0 e145
      obtain ⟨q146, hG⟩ := ck_s hF; clear hF
      obtain ⟨v148, H149, z147, hF⟩ := bC_s hG; clear hG
      have gz_36 := (g_MWorld_takes z147 hm.1 qa144)
      replace hm : Rg Q H H149 := hm.tr gz_36
      have s_37 : Sa H H149 := (m_MWorld_takes z147)
      exact hm.tr (gB_M_change_97 q_p0 hF hm.1)
set_option maxRecDepth 20000 in
set_option maxHeartbeats 2000000 in
theorem g_M_change {N : Nat} {Q : Nat → Prop} {p0 : Nat} {p1 : Int32} {p2 : Int32} {p3 : Int32} {H : Hp} {r : Int32 × Hp} (hF : F_M_change N p0 p1 p2 p3 H = some r) (hc0 : Cl Q H) (q_p0 : Q p0) : Rg Q H r.2 := by
  unfold F_M_change at hF
  have hm := Rg.rf hc0
  obtain ⟨q150, hG⟩ := ck_s hF; clear hF
  obtain ⟨H151, eH151, hF⟩ := bnd_g hG; clear hG
  replace hm : Rg Q H H151 := hm.tr (by rw [eH151]; exact Rg.sD hm.1 q_p0)
  have s_38 : Sa H H151 := by rw [eH151]; exact Sa.rf _
  obtain ⟨v153, H154, z152, hG⟩ := bC_s hF; clear hF
  have gz_39 := (g_M_isQuiet z152 hm.1 q_p0)
  replace hm : Rg Q H H154 := hm.tr gz_39
  have s_40 : Sa H H154 := (s_38).tr (m_M_isQuiet z152)
  rcases ite_s hG with ⟨q_41, hF⟩ | ⟨q_41, hF⟩
  · clear hG
    have hr := Option.some.inj hF; subst hr
    exact hm
  · clear hG
    obtain ⟨v157, H158, z156, hG⟩ := bC_s hF; clear hF
    have gz_42 := (g_M_in z156 hm.1)
    replace hm : Rg Q H H158 := hm.tr gz_42
    have s_43 : Sa H H158 := (s_40).tr (m_M_in z156)
    rcases ite_s hG with ⟨q_44, hF⟩ | ⟨q_44, hF⟩
    · clear hG
      have hr := Option.some.inj hF; subst hr
      exact hm
    · clear hG
      obtain ⟨a160, e161, hG⟩ := rf_s hF; clear hF
      have qa160 : Q a160 := hm.1 _ _ _ q_p0 e161
      obtain ⟨q162, hF⟩ := ck_s hG; clear hG
      rw [(s_43).1] at q162
      obtain ⟨v164, H165, z163, hG⟩ := bC_s hF; clear hF
      have gz_45 := (g_MWorld_isAlive z163 hm.1 qa160)
      replace hm : Rg Q H H165 := hm.tr gz_45
      have s_46 : Sa H H165 := (s_43).tr (m_MWorld_isAlive z163)
      rcases ite_s hG with ⟨q_47, hF⟩ | ⟨q_47, hF⟩
      · clear hG
        have hr := Option.some.inj hF; subst hr
        exact hm
      · clear hG
        rcases ite_s hF with ⟨q_48, hG⟩ | ⟨q_48, hG⟩
        · clear hF
          exact hm.tr (gB_M_change_52 q_p0 hG hm.1)
        · clear hF
          obtain ⟨v169, H170, z168, hF⟩ := bC_s hG; clear hG
          have gz_49 := (g_M_isComponent z168 hm.1 q_p0)
          replace hm : Rg Q H H170 := hm.tr gz_49
          have s_50 : Sa H H170 := (s_46).tr (m_M_isComponent z168)
          rcases ite_s hF with ⟨q_51, hG⟩ | ⟨q_51, hG⟩
          · clear hF
            have hr := Option.some.inj hG; subst hr
            exact hm
          · clear hF
            exact hm.tr (gB_M_change_52 q_p0 hG hm.1)
set_option maxRecDepth 20000 in
set_option maxHeartbeats 2000000 in
theorem g_M_isMember {N : Nat} {Q : Nat → Prop} {p0 : Nat} {p1 : Int32} {p2 : Int32} {p3 : Int32} {H : Hp} {r : Int32 × Hp} (hF : F_M_isMember N p0 p1 p2 p3 H = some r) (hc0 : Cl Q H) (q_p0 : Q p0) : Rg Q H r.2 := by
  unfold F_M_isMember at hF
  have hm := Rg.rf hc0
  obtain ⟨q69, hG⟩ := ck_s hF; clear hF
  obtain ⟨v71, H72, z70, hF⟩ := bC_s hG; clear hG
  have gz_10 := (g_M_isComponent z70 hm.1 q_p0)
  replace hm : Rg Q H H72 := hm.tr gz_10
  have s_11 : Sa H H72 := (m_M_isComponent z70)
  rcases ite_s hF with ⟨q_12, hG⟩ | ⟨q_12, hG⟩
  · clear hF
    have hr := Option.some.inj hG; subst hr
    exact hm
  · clear hF
    obtain ⟨a74, e75, hF⟩ := rf_s hG; clear hG
    have qa74 : Q a74 := hm.1 _ _ _ q_p0 e75
    obtain ⟨q76, hG⟩ := ck_s hF; clear hF
    rw [(s_11).1] at q76
    obtain ⟨v78, H79, z77, hF⟩ := bC_s hG; clear hG
    have gz_13 := (g_MWorld_has z77 hm.1 qa74)
    replace hm : Rg Q H H79 := hm.tr gz_13
    have s_14 : Sa H H79 := (s_11).tr (m_MWorld_has z77)
    rcases ite_s hF with ⟨q_15, hG⟩ | ⟨q_15, hG⟩
    · clear hF
      have hr := Option.some.inj hG; subst hr
      exact hm
    · clear hF
      obtain ⟨a81, e82, hF⟩ := rf_s hG; clear hG
      have qa81 : Q a81 := hm.1 _ _ _ q_p0 e82
      obtain ⟨q83, hG⟩ := ck_s hF; clear hF
      rw [(s_14).1] at q83
      obtain ⟨a84, e85, hF⟩ := rf_s hG; clear hG
      have qa84 : Q a84 := hm.1 _ _ _ qa81 e85
      obtain ⟨n86, q87, hG⟩ := ar_s hF; clear hF
      rw [(s_14).1] at q87
      obtain ⟨q88, hF⟩ := ck_s hG; clear hG
      obtain ⟨x89, -, hG⟩ := bnd_g hF; clear hF
      obtain ⟨a90, e91, hF⟩ := rf_s hG; clear hG
      have qa90 : Q a90 := hm.1 _ _ _ q_p0 e91
      obtain ⟨q92, hG⟩ := ck_s hF; clear hF
      rw [(s_14).1] at q92
      obtain ⟨a93, e94, hF⟩ := rf_s hG; clear hG
      have qa93 : Q a93 := hm.1 _ _ _ qa90 e94
      obtain ⟨n95, q96, hG⟩ := ar_s hF; clear hF
      rw [(s_14).1] at q96
      obtain ⟨q97, hF⟩ := ck_s hG; clear hG
      obtain ⟨x98, -, hG⟩ := bnd_g hF; clear hF
      obtain ⟨v100, H101, z99, hF⟩ := bC_s hG; clear hG
      have gz_16 := (g_M_in z99 hm.1)
      replace hm : Rg Q H H101 := hm.tr gz_16
      have s_17 : Sa H H101 := (s_14).tr (m_M_in z99)
      rcases ite_s hF with ⟨q_18, hG⟩ | ⟨q_18, hG⟩
      · clear hF
        have hr := Option.some.inj hG; subst hr
        exact hm
      · clear hF
        have hr := Option.some.inj hG; subst hr
        exact hm
set_option maxRecDepth 20000 in
set_option maxHeartbeats 2000000 in
theorem gB_M_set_111 {N : Nat} {Q : Nat → Prop} {p0 : Nat} {p1 : Int32} {p2 : Int32} {p3 : Int32} {p4 : Int32} (q_p0 : Q p0) {w0 : Nat} {w1 : Int32} {w2 : Int32} {H : Hp} {r : Int32 × Hp} (hF : B_M_set_111 N p0 p1 p2 p3 p4 w0 w1 w2 H = some r) (hc0 : Cl Q H) (q_w0 : Q w0) : Rg Q H r.2 := by
  unfold B_M_set_111 at hF
  have hm := Rg.rf hc0
  obtain ⟨n105, q106, hG⟩ := ar_s hF; clear hF
  obtain ⟨q107, hF⟩ := ck_s hG; clear hG
  obtain ⟨H108, eH108, hG⟩ := bnd_g hF; clear hF
  replace hm : Rg Q H H108 := hm.tr (by rw [eH108]; exact Rg.sD hm.1 q_w0)
  have s_18 : Sa H H108 := by rw [eH108]; exact Sa.rf _
  obtain ⟨q109, hF⟩ := ck_s hG; clear hG
  rw [(s_18).1] at q109
  obtain ⟨a110, e111, hG⟩ := rf_s hF; clear hF
  have qa110 : Q a110 := hm.1 _ _ _ q_p0 e111
  obtain ⟨a112, e113, hF⟩ := rf_s hG; clear hG
  have qa112 : Q a112 := hm.1 _ _ _ q_p0 e113
  obtain ⟨q114, hG⟩ := ck_s hF; clear hF
  rw [(s_18).1] at q114
  obtain ⟨v116, H117, z115, hF⟩ := bC_s hG; clear hG
  have gz_19 := (g_MWorld_copies z115 hm.1 qa110 qa112)
  replace hm : Rg Q H H117 := hm.tr gz_19
  have s_20 : Sa H H117 := (s_18).tr (m_MWorld_copies z115)
  have hr := Option.some.inj hF; subst hr
  exact hm
set_option maxRecDepth 20000 in
set_option maxHeartbeats 2000000 in
theorem g_M_set {N : Nat} {Q : Nat → Prop} {p0 : Nat} {p1 : Int32} {p2 : Int32} {p3 : Int32} {p4 : Int32} {H : Hp} {r : Int32 × Hp} (hF : F_M_set N p0 p1 p2 p3 p4 H = some r) (hc0 : Cl Q H) (q_p0 : Q p0) : Rg Q H r.2 := by
  unfold F_M_set at hF
  have hm := Rg.rf hc0
  obtain ⟨q118, hG⟩ := ck_s hF; clear hF
  obtain ⟨H119, eH119, hF⟩ := bnd_g hG; clear hG
  replace hm : Rg Q H H119 := hm.tr (by rw [eH119]; exact Rg.sD hm.1 q_p0)
  have s_21 : Sa H H119 := by rw [eH119]; exact Sa.rf _
  obtain ⟨v121, H122, z120, hG⟩ := bC_s hF; clear hF
  have gz_22 := (g_M_isQuiet z120 hm.1 q_p0)
  replace hm : Rg Q H H122 := hm.tr gz_22
  have s_23 : Sa H H122 := (s_21).tr (m_M_isQuiet z120)
  rcases ite_s hG with ⟨q_24, hF⟩ | ⟨q_24, hF⟩
  · clear hG
    have hr := Option.some.inj hF; subst hr
    exact hm
  · clear hG
    obtain ⟨v125, H126, z124, hG⟩ := bC_s hF; clear hF
    have gz_25 := (g_M_isMember z124 hm.1 q_p0)
    replace hm : Rg Q H H126 := hm.tr gz_25
    have s_26 : Sa H H126 := (s_23).tr (m_M_isMember z124)
    rcases ite_s hG with ⟨q_27, hF⟩ | ⟨q_27, hF⟩
    · clear hG
      have hr := Option.some.inj hF; subst hr
      exact hm
    · clear hG
      obtain ⟨a128, e129, hG⟩ := rf_s hF; clear hF
      have qa128 : Q a128 := hm.1 _ _ _ q_p0 e129
      obtain ⟨q130, hF⟩ := ck_s hG; clear hG
      rw [(s_26).1] at q130
      obtain ⟨a131, e132, hG⟩ := rf_s hF; clear hF
      have qa131 : Q a131 := hm.1 _ _ _ qa128 e132
      obtain ⟨n133, q134, hF⟩ := ar_s hG; clear hG
      rw [(s_26).1] at q134
      obtain ⟨q135, hG⟩ := ck_s hF; clear hF
      obtain ⟨x136, -, hF⟩ := bnd_g hG; clear hG
      obtain ⟨a137, e138, hG⟩ := rf_s hF; clear hF
      have qa137 : Q a137 := hm.1 _ _ _ q_p0 e138
      obtain ⟨q139, hF⟩ := ck_s hG; clear hG
      rw [(s_26).1] at q139
      obtain ⟨a140, e141, hG⟩ := rf_s hF; clear hF
      have qa140 : Q a140 := hm.1 _ _ _ qa137 e141
      obtain ⟨n142, q143, hF⟩ := ar_s hG; clear hG
      rw [(s_26).1] at q143
      obtain ⟨q144, hG⟩ := ck_s hF; clear hF
      obtain ⟨x145, -, hF⟩ := bnd_g hG; clear hG
      obtain ⟨a146, e147, hG⟩ := rf_s hF; clear hF
      have qa146 : Q a146 := hm.1 _ _ _ q_p0 e147
      obtain ⟨q148, hF⟩ := ck_s hG; clear hG
      rw [(s_26).1] at q148
      obtain ⟨a149, e150, hG⟩ := rf_s hF; clear hF
      have qa149 : Q a149 := hm.1 _ _ _ qa146 e150
      rcases ite_s hG with ⟨q_28, hF⟩ | ⟨q_28, hF⟩
      · clear hG
        exact hm.tr (gB_M_set_111 q_p0 hF hm.1 qa149)
      · clear hG
        rcases ite_s hF with ⟨q_29, hG⟩ | ⟨q_29, hG⟩
        · clear hF
          rcases ite_s hG with ⟨q_30, hF⟩ | ⟨q_30, hF⟩
          · clear hG
            exact hm.tr (gB_M_set_111 q_p0 hF hm.1 qa149)
          · clear hG
            exact hm.tr (gB_M_set_111 q_p0 hF hm.1 qa149)
        · clear hF
          obtain ⟨v155, H156, z154, hF⟩ := bC_s hG; clear hG
          have gz_31 := (g_M_held z154 hm.1)
          replace hm : Rg Q H H156 := hm.tr gz_31
          have s_32 : Sa H H156 := (s_26).tr (m_M_held z154)
          exact hm.tr (gB_M_set_111 q_p0 hF hm.1 qa149)
set_option maxRecDepth 20000 in
set_option maxHeartbeats 2000000 in
theorem gB_M_get_16 {N : Nat} {Q : Nat → Prop} {p0 : Nat} {p1 : Int32} {p2 : Int32} {p3 : Int32} (q_p0 : Q p0) {w0 : Nat} {w1 : Int32} {H : Hp} {r : Int32 × Hp} (hF : B_M_get_16 N p0 p1 p2 p3 w0 w1 H = some r) (hc0 : Cl Q H) (q_w0 : Q w0) : Rg Q H r.2 := by
  unfold B_M_get_16 at hF
  have hm := Rg.rf hc0
  obtain ⟨q57, hG⟩ := ck_s hF; clear hF
  obtain ⟨H58, eH58, hF⟩ := bnd_g hG; clear hG
  replace hm : Rg Q H H58 := hm.tr (by rw [eH58]; exact Rg.sD hm.1 q_w0)
  have s_7 : Sa H H58 := by rw [eH58]; exact Sa.rf _
  obtain ⟨q59, hG⟩ := ck_s hF; clear hF
  rw [(s_7).1] at q59
  obtain ⟨x60, -, hF⟩ := bnd_g hG; clear hG
  rcases ite_s hF with ⟨q_8, hG⟩ | ⟨q_8, hG⟩
  · clear hF
    obtain ⟨a62, e63, hF⟩ := rf_s hG; clear hG
    have qa62 : Q a62 := hm.1 _ _ _ q_p0 e63
    obtain ⟨q64, hG⟩ := ck_s hF; clear hF
    rw [(s_7).1] at q64
    obtain ⟨a65, e66, hF⟩ := rf_s hG; clear hG
    have qa65 : Q a65 := hm.1 _ _ _ qa62 e66
    obtain ⟨a67, e68, hG⟩ := rf_s hF; clear hF
    have qa67 : Q a67 := hm.1 _ _ _ q_p0 e68
    obtain ⟨q69, hF⟩ := ck_s hG; clear hG
    rw [(s_7).1] at q69
    obtain ⟨a70, e71, hG⟩ := rf_s hF; clear hF
    have qa70 : Q a70 := hm.1 _ _ _ qa67 e71
    obtain ⟨n72, q73, hF⟩ := ar_s hG; clear hG
    rw [(s_7).1] at q73
    obtain ⟨q74, hG⟩ := ck_s hF; clear hF
    obtain ⟨x75, -, hF⟩ := bnd_g hG; clear hG
    obtain ⟨n76, q77, hG⟩ := ar_s hF; clear hF
    rw [(s_7).1] at q77
    obtain ⟨q78, hF⟩ := ck_s hG; clear hG
    obtain ⟨x79, -, hG⟩ := bnd_g hF; clear hF
    have hr := Option.some.inj hG; subst hr
    exact hm
  · clear hF
    have hr := Option.some.inj hG; subst hr
    exact hm
set_option maxRecDepth 20000 in
set_option maxHeartbeats 2000000 in
theorem g_M_get {N : Nat} {Q : Nat → Prop} {p0 : Nat} {p1 : Int32} {p2 : Int32} {p3 : Int32} {H : Hp} {r : Int32 × Hp} (hF : F_M_get N p0 p1 p2 p3 H = some r) (hc0 : Cl Q H) (q_p0 : Q p0) : Rg Q H r.2 := by
  unfold F_M_get at hF
  have hm := Rg.rf hc0
  obtain ⟨q80, hG⟩ := ck_s hF; clear hF
  obtain ⟨v82, H83, z81, hF⟩ := bC_s hG; clear hG
  have gz_9 := (g_M_isMember z81 hm.1 q_p0)
  replace hm : Rg Q H H83 := hm.tr gz_9
  have s_10 : Sa H H83 := (m_M_isMember z81)
  rcases ite_s hF with ⟨q_11, hG⟩ | ⟨q_11, hG⟩
  · clear hF
    exact hm.tr (gB_M_get_16 q_p0 hG hm.1 q_p0)
  · clear hF
    exact hm.tr (gB_M_get_16 q_p0 hG hm.1 q_p0)
set_option maxRecDepth 20000 in
set_option maxHeartbeats 2000000 in
theorem g_M_has {N : Nat} {Q : Nat → Prop} {p0 : Nat} {p1 : Int32} {p2 : Int32} {H : Hp} {r : Int32 × Hp} (hF : F_M_has N p0 p1 p2 H = some r) (hc0 : Cl Q H) (q_p0 : Q p0) : Rg Q H r.2 := by
  unfold F_M_has at hF
  have hm := Rg.rf hc0
  obtain ⟨q27, hG⟩ := ck_s hF; clear hF
  obtain ⟨H28, eH28, hF⟩ := bnd_g hG; clear hG
  replace hm : Rg Q H H28 := hm.tr (by rw [eH28]; exact Rg.sD hm.1 q_p0)
  have s_9 : Sa H H28 := by rw [eH28]; exact Sa.rf _
  obtain ⟨v30, H31, z29, hG⟩ := bC_s hF; clear hF
  have gz_10 := (g_M_isComponent z29 hm.1 q_p0)
  replace hm : Rg Q H H31 := hm.tr gz_10
  have s_11 : Sa H H31 := (s_9).tr (m_M_isComponent z29)
  rcases ite_s hG with ⟨q_12, hF⟩ | ⟨q_12, hF⟩
  · clear hG
    have hr := Option.some.inj hF; subst hr
    exact hm
  · clear hG
    obtain ⟨a33, e34, hG⟩ := rf_s hF; clear hF
    have qa33 : Q a33 := hm.1 _ _ _ q_p0 e34
    obtain ⟨q35, hF⟩ := ck_s hG; clear hG
    rw [(s_11).1] at q35
    obtain ⟨v37, H38, z36, hG⟩ := bC_s hF; clear hF
    have gz_13 := (g_MWorld_has z36 hm.1 qa33)
    replace hm : Rg Q H H38 := hm.tr gz_13
    have s_14 : Sa H H38 := (s_11).tr (m_MWorld_has z36)
    rcases ite_s hG with ⟨q_15, hF⟩ | ⟨q_15, hF⟩
    · clear hG
      have hr := Option.some.inj hF; subst hr
      exact hm
    · clear hG
      have hr := Option.some.inj hF; subst hr
      exact hm
set_option maxRecDepth 20000 in
set_option maxHeartbeats 2000000 in
theorem gB_M_entity_51 {N : Nat} {Q : Nat → Prop} {p0 : Nat} {p1 : Int32} {kq9 : Int32 → Int32 → Hp → Option (Int32 × Hp)} (q_p0 : Q p0) (hg9 : ∀ (l2 : Int32) (l3 : Int32) (H : Hp) (r : Int32 × Hp), kq9 l2 l3 H = some r → Cl Q H → Rg Q H r.2) {l2 : Int32} {l3 : Int32} {H : Hp} {r : Int32 × Hp} (hF : B_M_entity_51 N p0 p1 kq9 l2 l3 H = some r) (hc0 : Cl Q H) : Rg Q H r.2 := by
  unfold B_M_entity_51 at hF
  have hm := Rg.rf hc0
  exact hm.tr (hg9 l2 (l3 + 1) H r hF hm.1)
set_option maxRecDepth 20000 in
set_option maxHeartbeats 2000000 in
theorem gB_M_entity_9 {N : Nat} {Q : Nat → Prop} {p0 : Nat} {p1 : Int32} (q_p0 : Q p0) : ∀ (n : Nat) (l2 : Int32) (l3 : Int32) (H : Hp) (r : Int32 × Hp), B_M_entity_9 N p0 p1 n l2 l3 H = some r → Cl Q H → Rg Q H r.2 := by
  intro n
  induction n with
  | zero => intro l2 l3 H r hF; rw [B_M_entity_9] at hF; cases hF
  | succ n ih =>
    intro l2 l3 H r hF hc0
    rw [B_M_entity_9] at hF
    have hm := Rg.rf hc0
    rcases ite_s hF with ⟨q_9, hG⟩ | ⟨q_9, hG⟩
    · clear hF
      have hr := Option.some.inj hG; subst hr
      exact hm
    · clear hF
      rcases ite_s hG with ⟨q_10, hF⟩ | ⟨q_10, hF⟩
      · clear hG
        have hr := Option.some.inj hF; subst hr
        exact hm
      · clear hG
        obtain ⟨q47, hG⟩ := ck_s hF; clear hF
        obtain ⟨a48, e49, hF⟩ := rf_s hG; clear hG
        have qa48 : Q a48 := hm.1 _ _ _ q_p0 e49
        obtain ⟨q50, hG⟩ := ck_s hF; clear hF
        obtain ⟨a51, e52, hF⟩ := rf_s hG; clear hG
        have qa51 : Q a51 := hm.1 _ _ _ qa48 e52
        obtain ⟨n53, q54, hG⟩ := ar_s hF; clear hF
        obtain ⟨q55, hF⟩ := ck_s hG; clear hG
        obtain ⟨x56, -, hG⟩ := bnd_g hF; clear hF
        rcases ite_s hG with ⟨q_11, hF⟩ | ⟨q_11, hF⟩
        · clear hG
          exact hm.tr (gB_M_entity_51 q_p0 ih hF hm.1)
        · clear hG
          rcases ite_s hF with ⟨q_12, hG⟩ | ⟨q_12, hG⟩
          · clear hF
            obtain ⟨a59, e60, hF⟩ := rf_s hG; clear hG
            have qa59 : Q a59 := hm.1 _ _ _ q_p0 e60
            obtain ⟨q61, hG⟩ := ck_s hF; clear hF
            obtain ⟨v63, H64, z62, hF⟩ := bC_s hG; clear hG
            have gz_13 := (g_MWorld_number z62 hm.1 qa59)
            replace hm : Rg Q H H64 := hm.tr gz_13
            have s_14 : Sa H H64 := (m_MWorld_number z62)
            have hr := Option.some.inj hF; subst hr
            exact hm
          · clear hF
            exact hm.tr (gB_M_entity_51 q_p0 ih hG hm.1)
set_option maxRecDepth 20000 in
set_option maxHeartbeats 2000000 in
theorem g_M_entity {N : Nat} {Q : Nat → Prop} {p0 : Nat} {p1 : Int32} {H : Hp} {r : Int32 × Hp} (hF : F_M_entity N p0 p1 H = some r) (hc0 : Cl Q H) (q_p0 : Q p0) : Rg Q H r.2 := by
  unfold F_M_entity at hF
  have hm := Rg.rf hc0
  obtain ⟨q65, hG⟩ := ck_s hF; clear hF
  obtain ⟨H66, eH66, hF⟩ := bnd_g hG; clear hG
  replace hm : Rg Q H H66 := hm.tr (by rw [eH66]; exact Rg.sD hm.1 q_p0)
  have s_15 : Sa H H66 := by rw [eH66]; exact Sa.rf _
  exact hm.tr (gB_M_entity_9 q_p0 N p1 0 H66 r hF hm.1)
set_option maxRecDepth 20000 in
set_option maxHeartbeats 2000000 in
theorem gB_M_row_78 {N : Nat} {Q : Nat → Prop} {p0 : Nat} {p1 : Int32} {p2 : Int32} {kq10 : Int32 → Int32 → Hp → Option (Int32 × Hp)} (q_p0 : Q p0) (hg10 : ∀ (l3 : Int32) (l4 : Int32) (H : Hp) (r : Int32 × Hp), kq10 l3 l4 H = some r → Cl Q H → Rg Q H r.2) {l3 : Int32} {l4 : Int32} {H : Hp} {r : Int32 × Hp} (hF : B_M_row_78 N p0 p1 p2 kq10 l3 l4 H = some r) (hc0 : Cl Q H) : Rg Q H r.2 := by
  unfold B_M_row_78 at hF
  have hm := Rg.rf hc0
  exact hm.tr (hg10 l3 (l4 + 1) H r hF hm.1)
set_option maxRecDepth 20000 in
set_option maxHeartbeats 2000000 in
theorem gB_M_row_10 {N : Nat} {Q : Nat → Prop} {p0 : Nat} {p1 : Int32} {p2 : Int32} (q_p0 : Q p0) : ∀ (n : Nat) (l3 : Int32) (l4 : Int32) (H : Hp) (r : Int32 × Hp), B_M_row_10 N p0 p1 p2 n l3 l4 H = some r → Cl Q H → Rg Q H r.2 := by
  intro n
  induction n with
  | zero => intro l3 l4 H r hF; rw [B_M_row_10] at hF; cases hF
  | succ n ih =>
    intro l3 l4 H r hF hc0
    rw [B_M_row_10] at hF
    have hm := Rg.rf hc0
    rcases ite_s hF with ⟨q_14, hG⟩ | ⟨q_14, hG⟩
    · clear hF
      have hr := Option.some.inj hG; subst hr
      exact hm
    · clear hF
      rcases ite_s hG with ⟨q_15, hF⟩ | ⟨q_15, hF⟩
      · clear hG
        have hr := Option.some.inj hF; subst hr
        exact hm
      · clear hG
        obtain ⟨q61, hG⟩ := ck_s hF; clear hF
        obtain ⟨a62, e63, hF⟩ := rf_s hG; clear hG
        have qa62 : Q a62 := hm.1 _ _ _ q_p0 e63
        obtain ⟨q64, hG⟩ := ck_s hF; clear hF
        obtain ⟨x65, -, hF⟩ := bnd_g hG; clear hG
        obtain ⟨v67, H68, z66, hG⟩ := bC_s hF; clear hF
        have gz_16 := (g_M_in z66 hm.1)
        replace hm : Rg Q H H68 := hm.tr gz_16
        have s_17 : Sa H H68 := (m_M_in z66)
        rcases ite_s hG with ⟨q_18, hF⟩ | ⟨q_18, hF⟩
        · clear hG
          have hr := Option.some.inj hF; subst hr
          exact hm
        · clear hG
          obtain ⟨a70, e71, hG⟩ := rf_s hF; clear hF
          have qa70 : Q a70 := hm.1 _ _ _ q_p0 e71
          obtain ⟨a72, e73, hF⟩ := rf_s hG; clear hG
          have qa72 : Q a72 := hm.1 _ _ _ q_p0 e73
          obtain ⟨q74, hG⟩ := ck_s hF; clear hF
          rw [(s_17).1] at q74
          obtain ⟨v76, H77, z75, hF⟩ := bC_s hG; clear hG
          have gz_19 := (g_MText_isRow z75 hm.1 qa70 qa72)
          replace hm : Rg Q H H77 := hm.tr gz_19
          have s_20 : Sa H H77 := (s_17).tr (m_MText_isRow z75)
          rcases ite_s hF with ⟨q_21, hG⟩ | ⟨q_21, hG⟩
          · clear hF
            exact hm.tr (gB_M_row_78 q_p0 ih hG hm.1)
          · clear hF
            rcases ite_s hG with ⟨q_22, hF⟩ | ⟨q_22, hF⟩
            · clear hG
              obtain ⟨a80, e81, hG⟩ := rf_s hF; clear hF
              have qa80 : Q a80 := hm.1 _ _ _ q_p0 e81
              obtain ⟨q82, hF⟩ := ck_s hG; clear hG
              rw [(s_20).1] at q82
              obtain ⟨v84, H85, z83, hG⟩ := bC_s hF; clear hF
              have gz_23 := (g_MWorld_number z83 hm.1 qa80)
              replace hm : Rg Q H H85 := hm.tr gz_23
              have s_24 : Sa H H85 := (s_20).tr (m_MWorld_number z83)
              have hr := Option.some.inj hG; subst hr
              exact hm
            · clear hG
              exact hm.tr (gB_M_row_78 q_p0 ih hF hm.1)
set_option maxRecDepth 20000 in
set_option maxHeartbeats 2000000 in
theorem g_M_row {N : Nat} {Q : Nat → Prop} {p0 : Nat} {p1 : Int32} {p2 : Int32} {H : Hp} {r : Int32 × Hp} (hF : F_M_row N p0 p1 p2 H = some r) (hc0 : Cl Q H) (q_p0 : Q p0) : Rg Q H r.2 := by
  unfold F_M_row at hF
  have hm := Rg.rf hc0
  obtain ⟨q86, hG⟩ := ck_s hF; clear hF
  obtain ⟨H87, eH87, hF⟩ := bnd_g hG; clear hG
  replace hm : Rg Q H H87 := hm.tr (by rw [eH87]; exact Rg.sD hm.1 q_p0)
  have s_25 : Sa H H87 := by rw [eH87]; exact Sa.rf _
  exact hm.tr (gB_M_row_10 q_p0 N p2 0 H87 r hF hm.1)
set_option maxRecDepth 20000 in
set_option maxHeartbeats 2000000 in
theorem g_M_group {N : Nat} {Q : Nat → Prop} {p0 : Nat} {p1 : Int32} {H : Hp} {r : Int32 × Hp} (hF : F_M_group N p0 p1 H = some r) (hc0 : Cl Q H) (q_p0 : Q p0) : Rg Q H r.2 := by
  unfold F_M_group at hF
  have hm := Rg.rf hc0
  obtain ⟨q39, hG⟩ := ck_s hF; clear hF
  obtain ⟨H40, eH40, hF⟩ := bnd_g hG; clear hG
  replace hm : Rg Q H H40 := hm.tr (by rw [eH40]; exact Rg.sD hm.1 q_p0)
  have s_6 : Sa H H40 := by rw [eH40]; exact Sa.rf _
  obtain ⟨a41, e42, hG⟩ := rf_s hF; clear hF
  have qa41 : Q a41 := hm.1 _ _ _ q_p0 e42
  obtain ⟨q43, hF⟩ := ck_s hG; clear hG
  rw [(s_6).1] at q43
  obtain ⟨x44, -, hG⟩ := bnd_g hF; clear hF
  obtain ⟨v46, H47, z45, hF⟩ := bC_s hG; clear hG
  have gz_7 := (g_M_in z45 hm.1)
  replace hm : Rg Q H H47 := hm.tr gz_7
  have s_8 : Sa H H47 := (s_6).tr (m_M_in z45)
  rcases ite_s hF with ⟨q_9, hG⟩ | ⟨q_9, hG⟩
  · clear hF
    have hr := Option.some.inj hG; subst hr
    exact hm
  · clear hF
    obtain ⟨a49, e50, hF⟩ := rf_s hG; clear hG
    have qa49 : Q a49 := hm.1 _ _ _ q_p0 e50
    obtain ⟨q51, hG⟩ := ck_s hF; clear hF
    rw [(s_8).1] at q51
    obtain ⟨a52, e53, hF⟩ := rf_s hG; clear hG
    have qa52 : Q a52 := hm.1 _ _ _ qa49 e53
    obtain ⟨n54, q55, hG⟩ := ar_s hF; clear hF
    rw [(s_8).1] at q55
    obtain ⟨q56, hF⟩ := ck_s hG; clear hG
    obtain ⟨x57, -, hG⟩ := bnd_g hF; clear hF
    have hr := Option.some.inj hG; subst hr
    exact hm
set_option maxRecDepth 20000 in
set_option maxHeartbeats 2000000 in
theorem gB_M_shown_38 {N : Nat} {Q : Nat → Prop} {p0 : Nat} {p1 : Int32} (q_p0 : Q p0) {w0 : Nat} {w1 : Int32} {H : Hp} {r : Int32 × Hp} (hF : B_M_shown_38 N p0 p1 w0 w1 H = some r) (hc0 : Cl Q H) (q_w0 : Q w0) : Rg Q H r.2 := by
  unfold B_M_shown_38 at hF
  have hm := Rg.rf hc0
  obtain ⟨q41, hG⟩ := ck_s hF; clear hF
  obtain ⟨H42, eH42, hF⟩ := bnd_g hG; clear hG
  replace hm : Rg Q H H42 := hm.tr (by rw [eH42]; exact Rg.sD hm.1 q_w0)
  have s_8 : Sa H H42 := by rw [eH42]; exact Sa.rf _
  obtain ⟨q43, hG⟩ := ck_s hF; clear hF
  rw [(s_8).1] at q43
  obtain ⟨x44, -, hF⟩ := bnd_g hG; clear hG
  rcases ite_s hF with ⟨q_9, hG⟩ | ⟨q_9, hG⟩
  · clear hF
    obtain ⟨a46, e47, hF⟩ := rf_s hG; clear hG
    have qa46 : Q a46 := hm.1 _ _ _ q_p0 e47
    obtain ⟨x48, -, hG⟩ := bnd_g hF; clear hF
    obtain ⟨n49, q50, hF⟩ := ar_s hG; clear hG
    rw [(s_8).1] at q50
    obtain ⟨q51, hG⟩ := ck_s hF; clear hF
    obtain ⟨x52, -, hF⟩ := bnd_g hG; clear hG
    have hr := Option.some.inj hF; subst hr
    exact hm
  · clear hF
    have hr := Option.some.inj hG; subst hr
    exact hm
set_option maxRecDepth 20000 in
set_option maxHeartbeats 2000000 in
theorem gB_M_shown_24 {N : Nat} {Q : Nat → Prop} {p0 : Nat} {p1 : Int32} (q_p0 : Q p0) {w0 : Nat} {w1 : Int64} {w2 : Int64} {w3 : Int32} {H : Hp} {r : Int32 × Hp} (hF : B_M_shown_24 N p0 p1 w0 w1 w2 w3 H = some r) (hc0 : Cl Q H) (q_w0 : Q w0) : Rg Q H r.2 := by
  unfold B_M_shown_24 at hF
  have hm := Rg.rf hc0
  obtain ⟨v54, H55, z53, hG⟩ := bC_s hF; clear hF
  have gz_10 := (g_M_in z53 hm.1)
  replace hm : Rg Q H H55 := hm.tr gz_10
  have s_11 : Sa H H55 := (m_M_in z53)
  rcases ite_s hG with ⟨q_12, hF⟩ | ⟨q_12, hF⟩
  · clear hG
    exact hm.tr (gB_M_shown_38 q_p0 hF hm.1 q_w0)
  · clear hG
    exact hm.tr (gB_M_shown_38 q_p0 hF hm.1 q_w0)
set_option maxRecDepth 20000 in
set_option maxHeartbeats 2000000 in
theorem g_M_shown {N : Nat} {Q : Nat → Prop} {p0 : Nat} {p1 : Int32} {H : Hp} {r : Int32 × Hp} (hF : F_M_shown N p0 p1 H = some r) (hc0 : Cl Q H) (q_p0 : Q p0) : Rg Q H r.2 := by
  unfold F_M_shown at hF
  have hm := Rg.rf hc0
  obtain ⟨q57, hG⟩ := ck_s hF; clear hF
  obtain ⟨x58, -, hF⟩ := bnd_g hG; clear hG
  rcases ite_s hF with ⟨q_13, hG⟩ | ⟨q_13, hG⟩
  · clear hF
    exact hm.tr (gB_M_shown_24 q_p0 hG hm.1 q_p0)
  · clear hF
    obtain ⟨x60, -, hF⟩ := bnd_g hG; clear hG
    exact hm.tr (gB_M_shown_24 q_p0 hF hm.1 q_p0)
set_option maxRecDepth 20000 in
set_option maxHeartbeats 2000000 in
theorem g_M_failure {N : Nat} {Q : Nat → Prop} {p0 : Nat} {p1 : Int32} {H : Hp} {r : Int32 × Hp} (hF : F_M_failure N p0 p1 H = some r) (hc0 : Cl Q H) (q_p0 : Q p0) : Rg Q H r.2 := by
  unfold F_M_failure at hF
  have hm := Rg.rf hc0
  obtain ⟨q45, hG⟩ := ck_s hF; clear hF
  obtain ⟨H46, eH46, hF⟩ := bnd_g hG; clear hG
  replace hm : Rg Q H H46 := hm.tr (by rw [eH46]; exact Rg.sD hm.1 q_p0)
  have s_7 : Sa H H46 := by rw [eH46]; exact Sa.rf _
  obtain ⟨a47, e48, hG⟩ := rf_s hF; clear hF
  have qa47 : Q a47 := hm.1 _ _ _ q_p0 e48
  obtain ⟨q49, hF⟩ := ck_s hG; clear hG
  rw [(s_7).1] at q49
  obtain ⟨x50, -, hG⟩ := bnd_g hF; clear hF
  rcases ite_s hG with ⟨q_8, hF⟩ | ⟨q_8, hF⟩
  · clear hG
    rcases ite_s hF with ⟨q_9, hG⟩ | ⟨q_9, hG⟩
    · clear hF
      obtain ⟨a53, e54, hF⟩ := rf_s hG; clear hG
      have qa53 : Q a53 := hm.1 _ _ _ q_p0 e54
      obtain ⟨q55, hG⟩ := ck_s hF; clear hF
      rw [(s_7).1] at q55
      obtain ⟨x56, -, hF⟩ := bnd_g hG; clear hG
      have hr := Option.some.inj hF; subst hr
      exact hm
    · clear hF
      rcases ite_s hG with ⟨q_10, hF⟩ | ⟨q_10, hF⟩
      · clear hG
        obtain ⟨a58, e59, hG⟩ := rf_s hF; clear hF
        have qa58 : Q a58 := hm.1 _ _ _ q_p0 e59
        obtain ⟨q60, hF⟩ := ck_s hG; clear hG
        rw [(s_7).1] at q60
        obtain ⟨x61, -, hG⟩ := bnd_g hF; clear hF
        have hr := Option.some.inj hG; subst hr
        exact hm
      · clear hG
        rcases ite_s hF with ⟨q_11, hG⟩ | ⟨q_11, hG⟩
        · clear hF
          obtain ⟨a63, e64, hF⟩ := rf_s hG; clear hG
          have qa63 : Q a63 := hm.1 _ _ _ q_p0 e64
          obtain ⟨q65, hG⟩ := ck_s hF; clear hF
          rw [(s_7).1] at q65
          obtain ⟨x66, -, hF⟩ := bnd_g hG; clear hG
          have hr := Option.some.inj hF; subst hr
          exact hm
        · clear hF
          have hr := Option.some.inj hG; subst hr
          exact hm
  · clear hG
    have hr := Option.some.inj hF; subst hr
    exact hm
set_option maxRecDepth 20000 in
set_option maxHeartbeats 2000000 in
theorem g_M_pending {N : Nat} {Q : Nat → Prop} {p0 : Nat} {p1 : Int32} {p2 : Int32} {H : Hp} {r : Int32 × Hp} (hF : F_M_pending N p0 p1 p2 H = some r) (hc0 : Cl Q H) (q_p0 : Q p0) : Rg Q H r.2 := by
  unfold F_M_pending at hF
  have hm := Rg.rf hc0
  obtain ⟨q139, hG⟩ := ck_s hF; clear hF
  obtain ⟨H140, eH140, hF⟩ := bnd_g hG; clear hG
  replace hm : Rg Q H H140 := hm.tr (by rw [eH140]; exact Rg.sD hm.1 q_p0)
  have s_11 : Sa H H140 := by rw [eH140]; exact Sa.rf _
  obtain ⟨a141, e142, hG⟩ := rf_s hF; clear hF
  have qa141 : Q a141 := hm.1 _ _ _ q_p0 e142
  obtain ⟨q143, hF⟩ := ck_s hG; clear hG
  rw [(s_11).1] at q143
  obtain ⟨x144, -, hG⟩ := bnd_g hF; clear hF
  obtain ⟨v146, H147, z145, hF⟩ := bC_s hG; clear hG
  have gz_12 := (g_M_in z145 hm.1)
  replace hm : Rg Q H H147 := hm.tr gz_12
  have s_13 : Sa H H147 := (s_11).tr (m_M_in z145)
  rcases ite_s hF with ⟨q_14, hG⟩ | ⟨q_14, hG⟩
  · clear hF
    have hr := Option.some.inj hG; subst hr
    exact hm
  · clear hF
    rcases ite_s hG with ⟨q_15, hF⟩ | ⟨q_15, hF⟩
    · clear hG
      rcases ite_s hF with ⟨q_16, hG⟩ | ⟨q_16, hG⟩
      · clear hF
        obtain ⟨a151, e152, hF⟩ := rf_s hG; clear hG
        have qa151 : Q a151 := hm.1 _ _ _ q_p0 e152
        obtain ⟨q153, hG⟩ := ck_s hF; clear hF
        rw [(s_13).1] at q153
        obtain ⟨a154, e155, hF⟩ := rf_s hG; clear hG
        have qa154 : Q a154 := hm.1 _ _ _ qa151 e155
        obtain ⟨a156, e157, hG⟩ := rf_s hF; clear hF
        have qa156 : Q a156 := hm.1 _ _ _ q_p0 e157
        obtain ⟨q158, hF⟩ := ck_s hG; clear hG
        rw [(s_13).1] at q158
        obtain ⟨a159, e160, hG⟩ := rf_s hF; clear hF
        have qa159 : Q a159 := hm.1 _ _ _ qa156 e160
        obtain ⟨n161, q162, hF⟩ := ar_s hG; clear hG
        rw [(s_13).1] at q162
        obtain ⟨q163, hG⟩ := ck_s hF; clear hF
        obtain ⟨x164, -, hF⟩ := bnd_g hG; clear hG
        obtain ⟨n165, q166, hG⟩ := ar_s hF; clear hF
        rw [(s_13).1] at q166
        obtain ⟨q167, hF⟩ := ck_s hG; clear hG
        obtain ⟨x168, -, hG⟩ := bnd_g hF; clear hF
        rcases ite_s hG with ⟨q_17, hF⟩ | ⟨q_17, hF⟩
        · clear hG
          have hr := Option.some.inj hF; subst hr
          exact hm
        · clear hG
          obtain ⟨a170, e171, hG⟩ := rf_s hF; clear hF
          have qa170 : Q a170 := hm.1 _ _ _ q_p0 e171
          obtain ⟨q172, hF⟩ := ck_s hG; clear hG
          rw [(s_13).1] at q172
          obtain ⟨a173, e174, hG⟩ := rf_s hF; clear hF
          have qa173 : Q a173 := hm.1 _ _ _ qa170 e174
          obtain ⟨n175, q176, hF⟩ := ar_s hG; clear hG
          rw [(s_13).1] at q176
          obtain ⟨q177, hG⟩ := ck_s hF; clear hF
          obtain ⟨x178, -, hF⟩ := bnd_g hG; clear hG
          have hr := Option.some.inj hF; subst hr
          exact hm
      · clear hF
        rcases ite_s hG with ⟨q_18, hF⟩ | ⟨q_18, hF⟩
        · clear hG
          obtain ⟨a180, e181, hG⟩ := rf_s hF; clear hF
          have qa180 : Q a180 := hm.1 _ _ _ q_p0 e181
          obtain ⟨q182, hF⟩ := ck_s hG; clear hG
          rw [(s_13).1] at q182
          obtain ⟨a183, e184, hG⟩ := rf_s hF; clear hF
          have qa183 : Q a183 := hm.1 _ _ _ qa180 e184
          obtain ⟨n185, q186, hF⟩ := ar_s hG; clear hG
          rw [(s_13).1] at q186
          obtain ⟨q187, hG⟩ := ck_s hF; clear hF
          obtain ⟨x188, -, hF⟩ := bnd_g hG; clear hG
          have hr := Option.some.inj hF; subst hr
          exact hm
        · clear hG
          rcases ite_s hF with ⟨q_19, hG⟩ | ⟨q_19, hG⟩
          · clear hF
            obtain ⟨a190, e191, hF⟩ := rf_s hG; clear hG
            have qa190 : Q a190 := hm.1 _ _ _ q_p0 e191
            obtain ⟨q192, hG⟩ := ck_s hF; clear hF
            rw [(s_13).1] at q192
            obtain ⟨a193, e194, hF⟩ := rf_s hG; clear hG
            have qa193 : Q a193 := hm.1 _ _ _ qa190 e194
            obtain ⟨n195, q196, hG⟩ := ar_s hF; clear hF
            rw [(s_13).1] at q196
            obtain ⟨q197, hF⟩ := ck_s hG; clear hG
            obtain ⟨x198, -, hG⟩ := bnd_g hF; clear hF
            have hr := Option.some.inj hG; subst hr
            exact hm
          · clear hF
            obtain ⟨a199, e200, hF⟩ := rf_s hG; clear hG
            have qa199 : Q a199 := hm.1 _ _ _ q_p0 e200
            obtain ⟨q201, hG⟩ := ck_s hF; clear hF
            rw [(s_13).1] at q201
            obtain ⟨a202, e203, hF⟩ := rf_s hG; clear hG
            have qa202 : Q a202 := hm.1 _ _ _ qa199 e203
            obtain ⟨n204, q205, hG⟩ := ar_s hF; clear hF
            rw [(s_13).1] at q205
            obtain ⟨q206, hF⟩ := ck_s hG; clear hG
            obtain ⟨x207, -, hG⟩ := bnd_g hF; clear hF
            have hr := Option.some.inj hG; subst hr
            exact hm
    · clear hG
      have hr := Option.some.inj hF; subst hr
      exact hm
set_option maxRecDepth 20000 in
set_option maxHeartbeats 2000000 in
theorem gB_MWorld_entities_26 {N : Nat} {Q : Nat → Prop} {p0 : Nat} {kq4 : Int32 → Int32 → Hp → Option (Int32 × Hp)} (q_p0 : Q p0) (hg4 : ∀ (l1 : Int32) (l2 : Int32) (H : Hp) (r : Int32 × Hp), kq4 l1 l2 H = some r → Cl Q H → Rg Q H r.2) {l2 : Int32} {w0 : Int32} {w1 : Int32} {H : Hp} {r : Int32 × Hp} (hF : B_MWorld_entities_26 N p0 kq4 l2 w0 w1 H = some r) (hc0 : Cl Q H) : Rg Q H r.2 := by
  unfold B_MWorld_entities_26 at hF
  have hm := Rg.rf hc0
  exact hm.tr (hg4 (w0 + w1) (l2 + 1) H r hF hm.1)
set_option maxRecDepth 20000 in
set_option maxHeartbeats 2000000 in
theorem gB_MWorld_entities_4 {N : Nat} {Q : Nat → Prop} {p0 : Nat} (q_p0 : Q p0) : ∀ (n : Nat) (l1 : Int32) (l2 : Int32) (H : Hp) (r : Int32 × Hp), B_MWorld_entities_4 N p0 n l1 l2 H = some r → Cl Q H → Rg Q H r.2 := by
  intro n
  induction n with
  | zero => intro l1 l2 H r hF; rw [B_MWorld_entities_4] at hF; cases hF
  | succ n ih =>
    intro l1 l2 H r hF hc0
    rw [B_MWorld_entities_4] at hF
    have hm := Rg.rf hc0
    rcases ite_s hF with ⟨q_3, hG⟩ | ⟨q_3, hG⟩
    · clear hF
      have hr := Option.some.inj hG; subst hr
      exact hm
    · clear hF
      obtain ⟨q20, hF⟩ := ck_s hG; clear hG
      obtain ⟨a21, e22, hG⟩ := rf_s hF; clear hF
      have qa21 : Q a21 := hm.1 _ _ _ q_p0 e22
      obtain ⟨n23, q24, hF⟩ := ar_s hG; clear hG
      obtain ⟨q25, hG⟩ := ck_s hF; clear hF
      obtain ⟨x26, -, hF⟩ := bnd_g hG; clear hG
      rcases ite_s hF with ⟨q_4, hG⟩ | ⟨q_4, hG⟩
      · clear hF
        exact hm.tr (gB_MWorld_entities_26 q_p0 ih hG hm.1)
      · clear hF
        exact hm.tr (gB_MWorld_entities_26 q_p0 ih hG hm.1)
set_option maxRecDepth 20000 in
set_option maxHeartbeats 2000000 in
theorem g_MWorld_entities {N : Nat} {Q : Nat → Prop} {p0 : Nat} {H : Hp} {r : Int32 × Hp} (hF : F_MWorld_entities N p0 H = some r) (hc0 : Cl Q H) (q_p0 : Q p0) : Rg Q H r.2 := by
  unfold F_MWorld_entities at hF
  have hm := Rg.rf hc0
  exact hm.tr (gB_MWorld_entities_4 q_p0 N 0 0 H r hF hm.1)
set_option maxRecDepth 20000 in
set_option maxHeartbeats 2000000 in
theorem g_MText_groups {N : Nat} {Q : Nat → Prop} {p0 : Nat} {H : Hp} {r : Int32 × Hp} (hF : F_MText_groups N p0 H = some r) (hc0 : Cl Q H) (q_p0 : Q p0) : Rg Q H r.2 := by
  unfold F_MText_groups at hF
  have hm := Rg.rf hc0
  obtain ⟨q21, hG⟩ := ck_s hF; clear hF
  obtain ⟨x22, -, hF⟩ := bnd_g hG; clear hG
  rcases ite_s hF with ⟨q_2, hG⟩ | ⟨q_2, hG⟩
  · clear hF
    have hr := Option.some.inj hG; subst hr
    exact hm
  · clear hF
    obtain ⟨a24, e25, hF⟩ := rf_s hG; clear hG
    have qa24 : Q a24 := hm.1 _ _ _ q_p0 e25
    obtain ⟨x26, -, hG⟩ := bnd_g hF; clear hF
    obtain ⟨n27, q28, hF⟩ := ar_s hG; clear hG
    obtain ⟨q29, hG⟩ := ck_s hF; clear hF
    obtain ⟨x30, -, hF⟩ := bnd_g hG; clear hG
    have hr := Option.some.inj hF; subst hr
    exact hm
set_option maxRecDepth 20000 in
set_option maxHeartbeats 2000000 in
theorem g_M_look {N : Nat} {Q : Nat → Prop} {p0 : Nat} {p1 : Int32} {H : Hp} {r : Int32 × Hp} (hF : F_M_look N p0 p1 H = some r) (hc0 : Cl Q H) (q_p0 : Q p0) : Rg Q H r.2 := by
  unfold F_M_look at hF
  have hm := Rg.rf hc0
  obtain ⟨q131, hG⟩ := ck_s hF; clear hF
  obtain ⟨H132, eH132, hF⟩ := bnd_g hG; clear hG
  replace hm : Rg Q H H132 := hm.tr (by rw [eH132]; exact Rg.sD hm.1 q_p0)
  have s_24 : Sa H H132 := by rw [eH132]; exact Sa.rf _
  rcases ite_s hF with ⟨q_25, hG⟩ | ⟨q_25, hG⟩
  · clear hF
    obtain ⟨a134, e135, hF⟩ := rf_s hG; clear hG
    have qa134 : Q a134 := hm.1 _ _ _ q_p0 e135
    obtain ⟨q136, hG⟩ := ck_s hF; clear hF
    rw [(s_24).1] at q136
    obtain ⟨x137, -, hF⟩ := bnd_g hG; clear hG
    have hr := Option.some.inj hF; subst hr
    exact hm
  clear hF
  rcases ite_s hG with ⟨q_26, hF⟩ | ⟨q_26, hF⟩
  · clear hG
    obtain ⟨a139, e140, hG⟩ := rf_s hF; clear hF
    have qa139 : Q a139 := hm.1 _ _ _ q_p0 e140
    obtain ⟨q141, hF⟩ := ck_s hG; clear hG
    rw [(s_24).1] at q141
    obtain ⟨x142, -, hG⟩ := bnd_g hF; clear hF
    have hr := Option.some.inj hG; subst hr
    exact hm
  clear hG
  rcases ite_s hF with ⟨q_27, hG⟩ | ⟨q_27, hG⟩
  · clear hF
    obtain ⟨a144, e145, hF⟩ := rf_s hG; clear hG
    have qa144 : Q a144 := hm.1 _ _ _ q_p0 e145
    obtain ⟨q146, hG⟩ := ck_s hF; clear hF
    rw [(s_24).1] at q146
    obtain ⟨x147, -, hF⟩ := bnd_g hG; clear hG
    have hr := Option.some.inj hF; subst hr
    exact hm
  clear hF
  rcases ite_s hG with ⟨q_28, hF⟩ | ⟨q_28, hF⟩
  · clear hG
    obtain ⟨a149, e150, hG⟩ := rf_s hF; clear hF
    have qa149 : Q a149 := hm.1 _ _ _ q_p0 e150
    obtain ⟨q151, hF⟩ := ck_s hG; clear hG
    rw [(s_24).1] at q151
    obtain ⟨x152, -, hG⟩ := bnd_g hF; clear hF
    have hr := Option.some.inj hG; subst hr
    exact hm
  clear hG
  rcases ite_s hF with ⟨q_29, hG⟩ | ⟨q_29, hG⟩
  · clear hF
    obtain ⟨a154, e155, hF⟩ := rf_s hG; clear hG
    have qa154 : Q a154 := hm.1 _ _ _ q_p0 e155
    obtain ⟨q156, hG⟩ := ck_s hF; clear hF
    rw [(s_24).1] at q156
    obtain ⟨v158, H159, z157, hF⟩ := bC_s hG; clear hG
    have gz_30 := (g_MWorld_entities z157 hm.1 qa154)
    replace hm : Rg Q H H159 := hm.tr gz_30
    have s_31 : Sa H H159 := (s_24).tr (m_MWorld_entities z157)
    have hr := Option.some.inj hF; subst hr
    exact hm
  clear hF
  rcases ite_s hG with ⟨q_32, hF⟩ | ⟨q_32, hF⟩
  · clear hG
    obtain ⟨a161, e162, hG⟩ := rf_s hF; clear hF
    have qa161 : Q a161 := hm.1 _ _ _ q_p0 e162
    obtain ⟨q163, hF⟩ := ck_s hG; clear hG
    rw [(s_24).1] at q163
    obtain ⟨x164, -, hG⟩ := bnd_g hF; clear hF
    have hr := Option.some.inj hG; subst hr
    exact hm
  clear hG
  rcases ite_s hF with ⟨q_33, hG⟩ | ⟨q_33, hG⟩
  · clear hF
    obtain ⟨a166, e167, hF⟩ := rf_s hG; clear hG
    have qa166 : Q a166 := hm.1 _ _ _ q_p0 e167
    obtain ⟨q168, hG⟩ := ck_s hF; clear hF
    rw [(s_24).1] at q168
    obtain ⟨x169, -, hF⟩ := bnd_g hG; clear hG
    have hr := Option.some.inj hF; subst hr
    exact hm
  clear hF
  rcases ite_s hG with ⟨q_34, hF⟩ | ⟨q_34, hF⟩
  · clear hG
    obtain ⟨a171, e172, hG⟩ := rf_s hF; clear hF
    have qa171 : Q a171 := hm.1 _ _ _ q_p0 e172
    obtain ⟨q173, hF⟩ := ck_s hG; clear hG
    rw [(s_24).1] at q173
    obtain ⟨x174, -, hG⟩ := bnd_g hF; clear hF
    have hr := Option.some.inj hG; subst hr
    exact hm
  clear hG
  rcases ite_s hF with ⟨q_35, hG⟩ | ⟨q_35, hG⟩
  · clear hF
    obtain ⟨x176, -, hF⟩ := bnd_g hG; clear hG
    have hr := Option.some.inj hF; subst hr
    exact hm
  clear hF
  rcases ite_s hG with ⟨q_36, hF⟩ | ⟨q_36, hF⟩
  · clear hG
    obtain ⟨x178, -, hG⟩ := bnd_g hF; clear hF
    have hr := Option.some.inj hG; subst hr
    exact hm
  clear hG
  rcases ite_s hF with ⟨q_37, hG⟩ | ⟨q_37, hG⟩
  · clear hF
    obtain ⟨a180, e181, hF⟩ := rf_s hG; clear hG
    have qa180 : Q a180 := hm.1 _ _ _ q_p0 e181
    obtain ⟨q182, hG⟩ := ck_s hF; clear hF
    rw [(s_24).1] at q182
    obtain ⟨v184, H185, z183, hF⟩ := bC_s hG; clear hG
    have gz_38 := (g_MText_groups z183 hm.1 qa180)
    replace hm : Rg Q H H185 := hm.tr gz_38
    have s_39 : Sa H H185 := (s_24).tr (m_MText_groups z183)
    have hr := Option.some.inj hF; subst hr
    exact hm
  clear hF
  rcases ite_s hG with ⟨q_40, hF⟩ | ⟨q_40, hF⟩
  · clear hG
    obtain ⟨v188, H189, z187, hG⟩ := bC_s hF; clear hF
    have gz_41 := (g_M_workers z187 hm.1 q_p0)
    replace hm : Rg Q H H189 := hm.tr gz_41
    have s_42 : Sa H H189 := (s_24).tr (m_M_workers z187)
    have hr := Option.some.inj hG; subst hr
    exact hm
  clear hG
  rcases ite_s hF with ⟨q_43, hG⟩ | ⟨q_43, hG⟩
  · clear hF
    obtain ⟨x191, -, hF⟩ := bnd_g hG; clear hG
    have hr := Option.some.inj hF; subst hr
    exact hm
  clear hF
  rcases ite_s hG with ⟨q_44, hF⟩ | ⟨q_44, hF⟩
  · clear hG
    obtain ⟨x193, -, hG⟩ := bnd_g hF; clear hF
    have hr := Option.some.inj hG; subst hr
    exact hm
  clear hG
  rcases ite_s hF with ⟨q_45, hG⟩ | ⟨q_45, hG⟩
  · clear hF
    obtain ⟨x195, -, hF⟩ := bnd_g hG; clear hG
    have hr := Option.some.inj hF; subst hr
    exact hm
  clear hF
  have hr := Option.some.inj hG; subst hr
  exact hm
set_option maxRecDepth 20000 in
set_option maxHeartbeats 2000000 in
theorem g_M_fall {N : Nat} {Q : Nat → Prop} {p0 : Nat} {p1 : Int32} {H : Hp} {r : Int32 × Hp} (hF : F_M_fall N p0 p1 H = some r) (hc0 : Cl Q H) (q_p0 : Q p0) : Rg Q H r.2 := by
  unfold F_M_fall at hF
  have hm := Rg.rf hc0
  obtain ⟨q53, hG⟩ := ck_s hF; clear hF
  obtain ⟨H54, eH54, hF⟩ := bnd_g hG; clear hG
  replace hm : Rg Q H H54 := hm.tr (by rw [eH54]; exact Rg.sD hm.1 q_p0)
  have s_10 : Sa H H54 := by rw [eH54]; exact Sa.rf _
  obtain ⟨v56, H57, z55, hG⟩ := bC_s hF; clear hF
  have gz_11 := (g_M_in z55 hm.1)
  replace hm : Rg Q H H57 := hm.tr gz_11
  have s_12 : Sa H H57 := (s_10).tr (m_M_in z55)
  rcases ite_s hG with ⟨q_13, hF⟩ | ⟨q_13, hF⟩
  · clear hG
    have hr := Option.some.inj hF; subst hr
    exact hm
  · clear hG
    obtain ⟨a59, e60, hG⟩ := rf_s hF; clear hF
    have qa59 : Q a59 := hm.1 _ _ _ q_p0 e60
    obtain ⟨n61, q62, hF⟩ := ar_s hG; clear hG
    rw [(s_12).1] at q62
    obtain ⟨q63, hG⟩ := ck_s hF; clear hF
    obtain ⟨x64, -, hF⟩ := bnd_g hG; clear hG
    rcases ite_s hF with ⟨q_14, hG⟩ | ⟨q_14, hG⟩
    · clear hF
      have hr := Option.some.inj hG; subst hr
      exact hm
    · clear hF
      obtain ⟨a66, e67, hF⟩ := rf_s hG; clear hG
      have qa66 : Q a66 := hm.1 _ _ _ q_p0 e67
      obtain ⟨n68, q69, hG⟩ := ar_s hF; clear hF
      rw [(s_12).1] at q69
      obtain ⟨q70, hF⟩ := ck_s hG; clear hG
      obtain ⟨x71, -, hG⟩ := bnd_g hF; clear hF
      rcases ite_s hG with ⟨q_15, hF⟩ | ⟨q_15, hF⟩
      · clear hG
        obtain ⟨a73, e74, hG⟩ := rf_s hF; clear hF
        have qa73 : Q a73 := hm.1 _ _ _ q_p0 e74
        obtain ⟨n75, q76, hF⟩ := ar_s hG; clear hG
        rw [(s_12).1] at q76
        obtain ⟨q77, hG⟩ := ck_s hF; clear hF
        obtain ⟨H78, eH78, hF⟩ := bnd_g hG; clear hG
        replace hm : Rg Q H H78 := hm.tr (by rw [eH78]; exact Rg.sD hm.1 qa73)
        have s_16 : Sa H H78 := by rw [eH78]; exact s_12
        have hr := Option.some.inj hF; subst hr
        exact hm
      · clear hG
        have hr := Option.some.inj hF; subst hr
        exact hm
set_option maxRecDepth 20000 in
set_option maxHeartbeats 2000000 in
theorem gB_M_stand_37 {N : Nat} {Q : Nat → Prop} {p0 : Nat} {p1 : Int32} (q_p0 : Q p0)  {H : Hp} {r : Int32 × Hp} (hF : B_M_stand_37 N p0 p1  H = some r) (hc0 : Cl Q H) : Rg Q H r.2 := by
  unfold B_M_stand_37 at hF
  have hm := Rg.rf hc0
  obtain ⟨q67, hG⟩ := ck_s hF; clear hF
  obtain ⟨a68, e69, hF⟩ := rf_s hG; clear hG
  have qa68 : Q a68 := hm.1 _ _ _ q_p0 e69
  obtain ⟨n70, q71, hG⟩ := ar_s hF; clear hF
  obtain ⟨q72, hF⟩ := ck_s hG; clear hG
  obtain ⟨H73, eH73, hG⟩ := bnd_g hF; clear hF
  replace hm : Rg Q H H73 := hm.tr (by rw [eH73]; exact Rg.sD hm.1 qa68)
  have s_12 : Sa H H73 := by rw [eH73]; exact Sa.rf _
  obtain ⟨a74, e75, hF⟩ := rf_s hG; clear hG
  have qa74 : Q a74 := hm.1 _ _ _ q_p0 e75
  obtain ⟨n76, q77, hG⟩ := ar_s hF; clear hF
  rw [(s_12).1] at q77
  obtain ⟨q78, hF⟩ := ck_s hG; clear hG
  obtain ⟨H79, eH79, hG⟩ := bnd_g hF; clear hF
  replace hm : Rg Q H H79 := hm.tr (by rw [eH79]; exact Rg.sD hm.1 qa74)
  have s_13 : Sa H H79 := by rw [eH79]; exact s_12
  have hr := Option.some.inj hG; subst hr
  exact hm
set_option maxRecDepth 20000 in
set_option maxHeartbeats 2000000 in
theorem g_M_stand {N : Nat} {Q : Nat → Prop} {p0 : Nat} {p1 : Int32} {H : Hp} {r : Int32 × Hp} (hF : F_M_stand N p0 p1 H = some r) (hc0 : Cl Q H) (q_p0 : Q p0) : Rg Q H r.2 := by
  unfold F_M_stand at hF
  have hm := Rg.rf hc0
  obtain ⟨q80, hG⟩ := ck_s hF; clear hF
  obtain ⟨H81, eH81, hF⟩ := bnd_g hG; clear hG
  replace hm : Rg Q H H81 := hm.tr (by rw [eH81]; exact Rg.sD hm.1 q_p0)
  have s_14 : Sa H H81 := by rw [eH81]; exact Sa.rf _
  obtain ⟨v83, H84, z82, hG⟩ := bC_s hF; clear hF
  have gz_15 := (g_M_in z82 hm.1)
  replace hm : Rg Q H H84 := hm.tr gz_15
  have s_16 : Sa H H84 := (s_14).tr (m_M_in z82)
  rcases ite_s hG with ⟨q_17, hF⟩ | ⟨q_17, hF⟩
  · clear hG
    have hr := Option.some.inj hF; subst hr
    exact hm
  · clear hG
    obtain ⟨a86, e87, hG⟩ := rf_s hF; clear hF
    have qa86 : Q a86 := hm.1 _ _ _ q_p0 e87
    obtain ⟨n88, q89, hF⟩ := ar_s hG; clear hG
    rw [(s_16).1] at q89
    obtain ⟨q90, hG⟩ := ck_s hF; clear hF
    obtain ⟨x91, -, hF⟩ := bnd_g hG; clear hG
    rcases ite_s hF with ⟨q_18, hG⟩ | ⟨q_18, hG⟩
    · clear hF
      exact hm.tr (gB_M_stand_37 q_p0 hG hm.1)
    · clear hF
      obtain ⟨a93, e94, hF⟩ := rf_s hG; clear hG
      have qa93 : Q a93 := hm.1 _ _ _ q_p0 e94
      obtain ⟨n95, q96, hG⟩ := ar_s hF; clear hF
      rw [(s_16).1] at q96
      obtain ⟨q97, hF⟩ := ck_s hG; clear hG
      obtain ⟨x98, -, hG⟩ := bnd_g hF; clear hF
      rcases ite_s hG with ⟨q_19, hF⟩ | ⟨q_19, hF⟩
      · clear hG
        have hr := Option.some.inj hF; subst hr
        exact hm
      · clear hG
        exact hm.tr (gB_M_stand_37 q_p0 hF hm.1)
set_option maxRecDepth 20000 in
set_option maxHeartbeats 2000000 in
theorem g_M_pace {N : Nat} {Q : Nat → Prop} {p0 : Nat} {p1 : Int32} {H : Hp} {r : Unit × Hp} (hF : F_M_pace N p0 p1 H = some r) (hc0 : Cl Q H) (q_p0 : Q p0) : Rg Q H r.2 := by
  unfold F_M_pace at hF
  have hm := Rg.rf hc0
  obtain ⟨q5, hG⟩ := ck_s hF; clear hF
  obtain ⟨H6, eH6, hF⟩ := bnd_g hG; clear hG
  replace hm : Rg Q H H6 := hm.tr (by rw [eH6]; exact Rg.sD hm.1 q_p0)
  have s_3 : Sa H H6 := by rw [eH6]; exact Sa.rf _
  have hr := Option.some.inj hF; subst hr
  exact hm
set_option maxRecDepth 20000 in
set_option maxHeartbeats 2000000 in
theorem gB_M_puts_66 {N : Nat} {Q : Nat → Prop} {p0 : Nat} {p1 : Int32} {p2 : Int32} {kq4 : Int32 → Hp → Option (Unit × Hp)} (q_p0 : Q p0) (hg4 : ∀ (l3 : Int32) (H : Hp) (r : Unit × Hp), kq4 l3 H = some r → Cl Q H → Rg Q H r.2) {l3 : Int32} {H : Hp} {r : Unit × Hp} (hF : B_M_puts_66 N p0 p1 p2 kq4 l3 H = some r) (hc0 : Cl Q H) : Rg Q H r.2 := by
  unfold B_M_puts_66 at hF
  have hm := Rg.rf hc0
  exact hm.tr (hg4 (l3 + (-1)) H r hF hm.1)
set_option maxRecDepth 20000 in
set_option maxHeartbeats 2000000 in
theorem gB_M_puts_4 {N : Nat} {Q : Nat → Prop} {p0 : Nat} {p1 : Int32} {p2 : Int32} (q_p0 : Q p0) : ∀ (n : Nat) (l3 : Int32) (H : Hp) (r : Unit × Hp), B_M_puts_4 N p0 p1 p2 n l3 H = some r → Cl Q H → Rg Q H r.2 := by
  intro n
  induction n with
  | zero => intro l3 H r hF; rw [B_M_puts_4] at hF; cases hF
  | succ n ih =>
    intro l3 H r hF hc0
    rw [B_M_puts_4] at hF
    have hm := Rg.rf hc0
    rcases ite_s hF with ⟨q_9, hG⟩ | ⟨q_9, hG⟩
    · clear hF
      have hr := Option.some.inj hG; subst hr
      exact hm
    · clear hF
      obtain ⟨x36, -, hF⟩ := bnd_g hG; clear hG
      obtain ⟨q37, hG⟩ := ck_s hF; clear hF
      obtain ⟨x38, -, hF⟩ := bnd_g hG; clear hG
      rcases ite_s hF with ⟨q_10, hG⟩ | ⟨q_10, hG⟩
      · clear hF
        obtain ⟨a40, e41, hF⟩ := rf_s hG; clear hG
        have qa40 : Q a40 := hm.1 _ _ _ q_p0 e41
        obtain ⟨x42, -, hG⟩ := bnd_g hF; clear hF
        obtain ⟨n43, q44, hF⟩ := ar_s hG; clear hG
        obtain ⟨q45, hG⟩ := ck_s hF; clear hF
        obtain ⟨H46, eH46, hF⟩ := bnd_g hG; clear hG
        replace hm : Rg Q H H46 := hm.tr (by rw [eH46]; exact Rg.sD hm.1 qa40)
        have s_11 : Sa H H46 := by rw [eH46]; exact Sa.rf _
        obtain ⟨x47, -, hG⟩ := bnd_g hF; clear hF
        obtain ⟨H48, eH48, hF⟩ := bnd_g hG; clear hG
        replace hm : Rg Q H H48 := hm.tr (by rw [eH48]; exact Rg.sD hm.1 q_p0)
        have s_12 : Sa H H48 := by rw [eH48]; exact s_11
        exact hm.tr (gB_M_puts_66 q_p0 ih hF hm.1)
      · clear hF
        obtain ⟨x49, -, hF⟩ := bnd_g hG; clear hG
        obtain ⟨H50, eH50, hG⟩ := bnd_g hF; clear hF
        replace hm : Rg Q H H50 := hm.tr (by rw [eH50]; exact Rg.sD hm.1 q_p0)
        have s_13 : Sa H H50 := by rw [eH50]; exact Sa.rf _
        exact hm.tr (gB_M_puts_66 q_p0 ih hG hm.1)
set_option maxRecDepth 20000 in
set_option maxHeartbeats 2000000 in
theorem g_M_puts {N : Nat} {Q : Nat → Prop} {p0 : Nat} {p1 : Int32} {p2 : Int32} {H : Hp} {r : Unit × Hp} (hF : F_M_puts N p0 p1 p2 H = some r) (hc0 : Cl Q H) (q_p0 : Q p0) : Rg Q H r.2 := by
  unfold F_M_puts at hF
  have hm := Rg.rf hc0
  obtain ⟨x51, -, hG⟩ := bnd_g hF; clear hF
  exact hm.tr (gB_M_puts_4 q_p0 N x51 H r hG hm.1)
set_option maxRecDepth 20000 in
set_option maxHeartbeats 2000000 in
theorem gB_M_putsWorld_483 {N : Nat} {Q : Nat → Prop} {p0 : Nat} {kq428 : Int32 → Hp → Option (Unit × Hp)} (q_p0 : Q p0) (hg428 : ∀ (l1 : Int32) (H : Hp) (r : Unit × Hp), kq428 l1 H = some r → Cl Q H → Rg Q H r.2) : ∀ (n : Nat) (l1 : Int32) (l2 : Int32) (H : Hp) (r : Unit × Hp), B_M_putsWorld_483 N p0 kq428 n l1 l2 H = some r → Cl Q H → Rg Q H r.2 := by
  intro n
  induction n with
  | zero => intro l1 l2 H r hF; rw [B_M_putsWorld_483] at hF; cases hF
  | succ n ih =>
    intro l1 l2 H r hF hc0
    rw [B_M_putsWorld_483] at hF
    have hm := Rg.rf hc0
    obtain ⟨q661, hG⟩ := ck_s hF; clear hF
    obtain ⟨a662, e663, hF⟩ := rf_s hG; clear hG
    have qa662 : Q a662 := hm.1 _ _ _ q_p0 e663
    obtain ⟨q664, hG⟩ := ck_s hF; clear hF
    obtain ⟨a665, e666, hF⟩ := rf_s hG; clear hG
    have qa665 : Q a665 := hm.1 _ _ _ qa662 e666
    obtain ⟨a667, e668, hG⟩ := rf_s hF; clear hF
    have qa667 : Q a667 := hm.1 _ _ _ q_p0 e668
    obtain ⟨q669, hF⟩ := ck_s hG; clear hG
    obtain ⟨a670, e671, hG⟩ := rf_s hF; clear hF
    have qa670 : Q a670 := hm.1 _ _ _ qa667 e671
    obtain ⟨n672, q673, hF⟩ := ar_s hG; clear hG
    obtain ⟨q674, hG⟩ := ck_s hF; clear hF
    obtain ⟨x675, -, hF⟩ := bnd_g hG; clear hG
    obtain ⟨n676, q677, hG⟩ := ar_s hF; clear hF
    obtain ⟨q678, hF⟩ := ck_s hG; clear hG
    obtain ⟨x679, -, hG⟩ := bnd_g hF; clear hF
    rcases ite_s hG with ⟨q_55, hF⟩ | ⟨q_55, hF⟩
    · clear hG
      exact hm.tr (hg428 (l1 + 1) H r hF hm.1)
    · clear hG
      obtain ⟨a681, e682, hG⟩ := rf_s hF; clear hF
      have qa681 : Q a681 := hm.1 _ _ _ q_p0 e682
      obtain ⟨q683, hF⟩ := ck_s hG; clear hG
      obtain ⟨a684, e685, hG⟩ := rf_s hF; clear hF
      have qa684 : Q a684 := hm.1 _ _ _ qa681 e685
      obtain ⟨n686, q687, hF⟩ := ar_s hG; clear hG
      obtain ⟨q688, hG⟩ := ck_s hF; clear hF
      obtain ⟨x689, -, hF⟩ := bnd_g hG; clear hG
      obtain ⟨v691, H692, z690, hG⟩ := bC_s hF; clear hF
      have gz_56 := (g_M_puts z690 hm.1 q_p0)
      replace hm : Rg Q H H692 := hm.tr gz_56
      have s_57 : Sa H H692 := (m_M_puts z690)
      exact hm.tr (ih l1 (l2 + 1) H692 r hG hm.1)
set_option maxRecDepth 20000 in
set_option maxHeartbeats 2000000 in
theorem gB_M_putsWorld_428 {N : Nat} {Q : Nat → Prop} {p0 : Nat} (q_p0 : Q p0) : ∀ (n : Nat) (l1 : Int32) (H : Hp) (r : Unit × Hp), B_M_putsWorld_428 N p0 n l1 H = some r → Cl Q H → Rg Q H r.2 := by
  intro n
  induction n with
  | zero => intro l1 H r hF; rw [B_M_putsWorld_428] at hF; cases hF
  | succ n ih =>
    intro l1 H r hF hc0
    rw [B_M_putsWorld_428] at hF
    have hm := Rg.rf hc0
    obtain ⟨q693, hG⟩ := ck_s hF; clear hF
    obtain ⟨a694, e695, hF⟩ := rf_s hG; clear hG
    have qa694 : Q a694 := hm.1 _ _ _ q_p0 e695
    obtain ⟨q696, hG⟩ := ck_s hF; clear hF
    obtain ⟨x697, -, hF⟩ := bnd_g hG; clear hG
    rcases ite_s hF with ⟨q_58, hG⟩ | ⟨q_58, hG⟩
    · clear hF
      have hr := Option.some.inj hG; subst hr
      exact hm
    · clear hF
      obtain ⟨a699, e700, hF⟩ := rf_s hG; clear hG
      have qa699 : Q a699 := hm.1 _ _ _ q_p0 e700
      obtain ⟨q701, hG⟩ := ck_s hF; clear hF
      obtain ⟨a702, e703, hF⟩ := rf_s hG; clear hG
      have qa702 : Q a702 := hm.1 _ _ _ qa699 e703
      obtain ⟨n704, q705, hG⟩ := ar_s hF; clear hF
      obtain ⟨q706, hF⟩ := ck_s hG; clear hG
      obtain ⟨x707, -, hG⟩ := bnd_g hF; clear hF
      obtain ⟨v709, H710, z708, hF⟩ := bC_s hG; clear hG
      have gz_59 := (g_M_puts z708 hm.1 q_p0)
      replace hm : Rg Q H H710 := hm.tr gz_59
      have s_60 : Sa H H710 := (m_M_puts z708)
      obtain ⟨a711, e712, hG⟩ := rf_s hF; clear hF
      have qa711 : Q a711 := hm.1 _ _ _ q_p0 e712
      obtain ⟨q713, hF⟩ := ck_s hG; clear hG
      rw [(s_60).1] at q713
      obtain ⟨a714, e715, hG⟩ := rf_s hF; clear hF
      have qa714 : Q a714 := hm.1 _ _ _ qa711 e715
      obtain ⟨n716, q717, hF⟩ := ar_s hG; clear hG
      rw [(s_60).1] at q717
      obtain ⟨q718, hG⟩ := ck_s hF; clear hF
      obtain ⟨x719, -, hF⟩ := bnd_g hG; clear hG
      obtain ⟨v721, H722, z720, hG⟩ := bC_s hF; clear hF
      have gz_61 := (g_M_puts z720 hm.1 q_p0)
      replace hm : Rg Q H H722 := hm.tr gz_61
      have s_62 : Sa H H722 := (s_60).tr (m_M_puts z720)
      obtain ⟨a723, e724, hF⟩ := rf_s hG; clear hG
      have qa723 : Q a723 := hm.1 _ _ _ q_p0 e724
      obtain ⟨q725, hG⟩ := ck_s hF; clear hF
      rw [(s_62).1] at q725
      obtain ⟨a726, e727, hF⟩ := rf_s hG; clear hG
      have qa726 : Q a726 := hm.1 _ _ _ qa723 e727
      obtain ⟨n728, q729, hG⟩ := ar_s hF; clear hF
      rw [(s_62).1] at q729
      obtain ⟨q730, hF⟩ := ck_s hG; clear hG
      obtain ⟨x731, -, hG⟩ := bnd_g hF; clear hF
      obtain ⟨v733, H734, z732, hF⟩ := bC_s hG; clear hG
      have gz_63 := (g_M_puts z732 hm.1 q_p0)
      replace hm : Rg Q H H734 := hm.tr gz_63
      have s_64 : Sa H H734 := (s_62).tr (m_M_puts z732)
      exact hm.tr (gB_M_putsWorld_483 q_p0 ih N l1 0 H734 r hF hm.1)
set_option maxRecDepth 20000 in
set_option maxHeartbeats 2000000 in
theorem gB_M_putsWorld_408 {N : Nat} {Q : Nat → Prop} {p0 : Nat} {kq250 : Int32 → Hp → Option (Unit × Hp)} (q_p0 : Q p0) (hg250 : ∀ (l1 : Int32) (H : Hp) (r : Unit × Hp), kq250 l1 H = some r → Cl Q H → Rg Q H r.2) {l1 : Int32} {H : Hp} {r : Unit × Hp} (hF : B_M_putsWorld_408 N p0 kq250 l1 H = some r) (hc0 : Cl Q H) : Rg Q H r.2 := by
  unfold B_M_putsWorld_408 at hF
  have hm := Rg.rf hc0
  exact hm.tr (hg250 (l1 + 1) H r hF hm.1)
set_option maxRecDepth 20000 in
set_option maxHeartbeats 2000000 in
theorem gB_M_putsWorld_402 {N : Nat} {Q : Nat → Prop} {p0 : Nat} {kq250 : Int32 → Hp → Option (Unit × Hp)} {kq324 : Int32 → Int32 → Hp → Option (Unit × Hp)} (q_p0 : Q p0) (hg250 : ∀ (l1 : Int32) (H : Hp) (r : Unit × Hp), kq250 l1 H = some r → Cl Q H → Rg Q H r.2) (hg324 : ∀ (l1 : Int32) (l2 : Int32) (H : Hp) (r : Unit × Hp), kq324 l1 l2 H = some r → Cl Q H → Rg Q H r.2) {l1 : Int32} {l2 : Int32} {H : Hp} {r : Unit × Hp} (hF : B_M_putsWorld_402 N p0 kq250 kq324 l1 l2 H = some r) (hc0 : Cl Q H) : Rg Q H r.2 := by
  unfold B_M_putsWorld_402 at hF
  have hm := Rg.rf hc0
  exact hm.tr (hg324 l1 (l2 + 1) H r hF hm.1)
set_option maxRecDepth 20000 in
set_option maxHeartbeats 2000000 in
theorem gB_M_putsWorld_345 {N : Nat} {Q : Nat → Prop} {p0 : Nat} {kq250 : Int32 → Hp → Option (Unit × Hp)} {kq324 : Int32 → Int32 → Hp → Option (Unit × Hp)} (q_p0 : Q p0) (hg250 : ∀ (l1 : Int32) (H : Hp) (r : Unit × Hp), kq250 l1 H = some r → Cl Q H → Rg Q H r.2) (hg324 : ∀ (l1 : Int32) (l2 : Int32) (H : Hp) (r : Unit × Hp), kq324 l1 l2 H = some r → Cl Q H → Rg Q H r.2) : ∀ (n : Nat) (l1 : Int32) (l2 : Int32) (l3 : Int32) (H : Hp) (r : Unit × Hp), B_M_putsWorld_345 N p0 kq250 kq324 n l1 l2 l3 H = some r → Cl Q H → Rg Q H r.2 := by
  intro n
  induction n with
  | zero => intro l1 l2 l3 H r hF; rw [B_M_putsWorld_345] at hF; cases hF
  | succ n ih =>
    intro l1 l2 l3 H r hF hc0
    rw [B_M_putsWorld_345] at hF
    have hm := Rg.rf hc0
    obtain ⟨q735, hG⟩ := ck_s hF; clear hF
    obtain ⟨a736, e737, hF⟩ := rf_s hG; clear hG
    have qa736 : Q a736 := hm.1 _ _ _ q_p0 e737
    obtain ⟨q738, hG⟩ := ck_s hF; clear hF
    obtain ⟨a739, e740, hF⟩ := rf_s hG; clear hG
    have qa739 : Q a739 := hm.1 _ _ _ qa736 e740
    obtain ⟨n741, q742, hG⟩ := ar_s hF; clear hF
    obtain ⟨q743, hF⟩ := ck_s hG; clear hG
    obtain ⟨x744, -, hG⟩ := bnd_g hF; clear hF
    rcases ite_s hG with ⟨q_65, hF⟩ | ⟨q_65, hF⟩
    · clear hG
      exact hm.tr (gB_M_putsWorld_402 q_p0 hg250 hg324 hF hm.1)
    · clear hG
      obtain ⟨a746, e747, hG⟩ := rf_s hF; clear hF
      have qa746 : Q a746 := hm.1 _ _ _ q_p0 e747
      obtain ⟨q748, hF⟩ := ck_s hG; clear hG
      obtain ⟨a749, e750, hG⟩ := rf_s hF; clear hF
      have qa749 : Q a749 := hm.1 _ _ _ qa746 e750
      obtain ⟨n751, q752, hF⟩ := ar_s hG; clear hG
      obtain ⟨q753, hG⟩ := ck_s hF; clear hF
      obtain ⟨x754, -, hF⟩ := bnd_g hG; clear hG
      rcases ite_s hF with ⟨q_66, hG⟩ | ⟨q_66, hG⟩
      · clear hF
        obtain ⟨a756, e757, hF⟩ := rf_s hG; clear hG
        have qa756 : Q a756 := hm.1 _ _ _ q_p0 e757
        obtain ⟨q758, hG⟩ := ck_s hF; clear hF
        obtain ⟨a759, e760, hF⟩ := rf_s hG; clear hG
        have qa759 : Q a759 := hm.1 _ _ _ qa756 e760
        obtain ⟨n761, q762, hG⟩ := ar_s hF; clear hF
        obtain ⟨q763, hF⟩ := ck_s hG; clear hG
        obtain ⟨x764, -, hG⟩ := bnd_g hF; clear hF
        obtain ⟨v766, H767, z765, hF⟩ := bC_s hG; clear hG
        have gz_67 := (g_M_puts z765 hm.1 q_p0)
        replace hm : Rg Q H H767 := hm.tr gz_67
        have s_68 : Sa H H767 := (m_M_puts z765)
        exact hm.tr (ih l1 l2 (l3 + 1) H767 r hF hm.1)
      · clear hF
        exact hm.tr (gB_M_putsWorld_402 q_p0 hg250 hg324 hG hm.1)
set_option maxRecDepth 20000 in
set_option maxHeartbeats 2000000 in
theorem gB_M_putsWorld_324 {N : Nat} {Q : Nat → Prop} {p0 : Nat} {kq250 : Int32 → Hp → Option (Unit × Hp)} (q_p0 : Q p0) (hg250 : ∀ (l1 : Int32) (H : Hp) (r : Unit × Hp), kq250 l1 H = some r → Cl Q H → Rg Q H r.2) : ∀ (n : Nat) (l1 : Int32) (l2 : Int32) (H : Hp) (r : Unit × Hp), B_M_putsWorld_324 N p0 kq250 n l1 l2 H = some r → Cl Q H → Rg Q H r.2 := by
  intro n
  induction n with
  | zero => intro l1 l2 H r hF; rw [B_M_putsWorld_324] at hF; cases hF
  | succ n ih =>
    intro l1 l2 H r hF hc0
    rw [B_M_putsWorld_324] at hF
    have hm := Rg.rf hc0
    obtain ⟨q768, hG⟩ := ck_s hF; clear hF
    obtain ⟨a769, e770, hF⟩ := rf_s hG; clear hG
    have qa769 : Q a769 := hm.1 _ _ _ q_p0 e770
    obtain ⟨q771, hG⟩ := ck_s hF; clear hF
    obtain ⟨x772, -, hF⟩ := bnd_g hG; clear hG
    rcases ite_s hF with ⟨q_69, hG⟩ | ⟨q_69, hG⟩
    · clear hF
      exact hm.tr (gB_M_putsWorld_408 q_p0 hg250 hG hm.1)
    · clear hF
      obtain ⟨a774, e775, hF⟩ := rf_s hG; clear hG
      have qa774 : Q a774 := hm.1 _ _ _ q_p0 e775
      obtain ⟨q776, hG⟩ := ck_s hF; clear hF
      obtain ⟨a777, e778, hF⟩ := rf_s hG; clear hG
      have qa777 : Q a777 := hm.1 _ _ _ qa774 e778
      obtain ⟨n779, q780, hG⟩ := ar_s hF; clear hF
      obtain ⟨q781, hF⟩ := ck_s hG; clear hG
      obtain ⟨x782, -, hG⟩ := bnd_g hF; clear hF
      exact hm.tr (gB_M_putsWorld_345 q_p0 hg250 ih N l1 l2 x782 H r hG hm.1)
set_option maxRecDepth 20000 in
set_option maxHeartbeats 2000000 in
theorem gB_M_putsWorld_289 {N : Nat} {Q : Nat → Prop} {p0 : Nat} {kq250 : Int32 → Hp → Option (Unit × Hp)} (q_p0 : Q p0) (hg250 : ∀ (l1 : Int32) (H : Hp) (r : Unit × Hp), kq250 l1 H = some r → Cl Q H → Rg Q H r.2) {l1 : Int32} {w0 : Nat} {w1 : Int32} {H : Hp} {r : Unit × Hp} (hF : B_M_putsWorld_289 N p0 kq250 l1 w0 w1 H = some r) (hc0 : Cl Q H) (q_w0 : Q w0) : Rg Q H r.2 := by
  unfold B_M_putsWorld_289 at hF
  have hm := Rg.rf hc0
  obtain ⟨q783, hG⟩ := ck_s hF; clear hF
  obtain ⟨v785, H786, z784, hF⟩ := bC_s hG; clear hG
  have gz_70 := (g_M_puts z784 hm.1 q_w0)
  replace hm : Rg Q H H786 := hm.tr gz_70
  have s_71 : Sa H H786 := (m_M_puts z784)
  obtain ⟨q787, hG⟩ := ck_s hF; clear hF
  rw [(s_71).1] at q787
  obtain ⟨a788, e789, hF⟩ := rf_s hG; clear hG
  have qa788 : Q a788 := hm.1 _ _ _ q_p0 e789
  obtain ⟨q790, hG⟩ := ck_s hF; clear hF
  rw [(s_71).1] at q790
  obtain ⟨a791, e792, hF⟩ := rf_s hG; clear hG
  have qa791 : Q a791 := hm.1 _ _ _ qa788 e792
  obtain ⟨n793, q794, hG⟩ := ar_s hF; clear hF
  rw [(s_71).1] at q794
  obtain ⟨q795, hF⟩ := ck_s hG; clear hG
  obtain ⟨x796, -, hG⟩ := bnd_g hF; clear hF
  rcases ite_s hG with ⟨q_72, hF⟩ | ⟨q_72, hF⟩
  · clear hG
    exact hm.tr (gB_M_putsWorld_408 q_p0 hg250 hF hm.1)
  · clear hG
    obtain ⟨a798, e799, hG⟩ := rf_s hF; clear hF
    have qa798 : Q a798 := hm.1 _ _ _ q_p0 e799
    obtain ⟨q800, hF⟩ := ck_s hG; clear hG
    rw [(s_71).1] at q800
    obtain ⟨a801, e802, hG⟩ := rf_s hF; clear hF
    have qa801 : Q a801 := hm.1 _ _ _ qa798 e802
    obtain ⟨n803, q804, hF⟩ := ar_s hG; clear hG
    rw [(s_71).1] at q804
    obtain ⟨q805, hG⟩ := ck_s hF; clear hF
    obtain ⟨x806, -, hF⟩ := bnd_g hG; clear hG
    obtain ⟨v808, H809, z807, hG⟩ := bC_s hF; clear hF
    have gz_73 := (g_M_puts z807 hm.1 q_p0)
    replace hm : Rg Q H H809 := hm.tr gz_73
    have s_74 : Sa H H809 := (s_71).tr (m_M_puts z807)
    exact hm.tr (gB_M_putsWorld_324 q_p0 hg250 N l1 0 H809 r hG hm.1)
set_option maxRecDepth 20000 in
set_option maxHeartbeats 2000000 in
theorem gB_M_putsWorld_250 {N : Nat} {Q : Nat → Prop} {p0 : Nat} (q_p0 : Q p0) : ∀ (n : Nat) (l1 : Int32) (H : Hp) (r : Unit × Hp), B_M_putsWorld_250 N p0 n l1 H = some r → Cl Q H → Rg Q H r.2 := by
  intro n
  induction n with
  | zero => intro l1 H r hF; rw [B_M_putsWorld_250] at hF; cases hF
  | succ n ih =>
    intro l1 H r hF hc0
    rw [B_M_putsWorld_250] at hF
    have hm := Rg.rf hc0
    rcases ite_s hF with ⟨q_75, hG⟩ | ⟨q_75, hG⟩
    · clear hF
      obtain ⟨q811, hF⟩ := ck_s hG; clear hG
      obtain ⟨a812, e813, hG⟩ := rf_s hF; clear hF
      have qa812 : Q a812 := hm.1 _ _ _ q_p0 e813
      obtain ⟨q814, hF⟩ := ck_s hG; clear hG
      obtain ⟨x815, -, hG⟩ := bnd_g hF; clear hF
      obtain ⟨v817, H818, z816, hF⟩ := bC_s hG; clear hG
      have gz_76 := (g_M_puts z816 hm.1 q_p0)
      replace hm : Rg Q H H818 := hm.tr gz_76
      have s_77 : Sa H H818 := (m_M_puts z816)
      exact hm.tr (gB_M_putsWorld_428 q_p0 N 0 H818 r hF hm.1)
    · clear hF
      obtain ⟨q819, hF⟩ := ck_s hG; clear hG
      obtain ⟨a820, e821, hG⟩ := rf_s hF; clear hF
      have qa820 : Q a820 := hm.1 _ _ _ q_p0 e821
      obtain ⟨q822, hF⟩ := ck_s hG; clear hG
      obtain ⟨a823, e824, hG⟩ := rf_s hF; clear hF
      have qa823 : Q a823 := hm.1 _ _ _ qa820 e824
      obtain ⟨n825, q826, hF⟩ := ar_s hG; clear hG
      obtain ⟨q827, hG⟩ := ck_s hF; clear hF
      obtain ⟨x828, -, hF⟩ := bnd_g hG; clear hG
      obtain ⟨v830, H831, z829, hG⟩ := bC_s hF; clear hF
      have gz_78 := (g_M_puts z829 hm.1 q_p0)
      replace hm : Rg Q H H831 := hm.tr gz_78
      have s_79 : Sa H H831 := (m_M_puts z829)
      obtain ⟨a832, e833, hF⟩ := rf_s hG; clear hG
      have qa832 : Q a832 := hm.1 _ _ _ q_p0 e833
      obtain ⟨q834, hG⟩ := ck_s hF; clear hF
      rw [(s_79).1] at q834
      obtain ⟨a835, e836, hF⟩ := rf_s hG; clear hG
      have qa835 : Q a835 := hm.1 _ _ _ qa832 e836
      obtain ⟨n837, q838, hG⟩ := ar_s hF; clear hF
      rw [(s_79).1] at q838
      obtain ⟨q839, hF⟩ := ck_s hG; clear hG
      obtain ⟨x840, -, hG⟩ := bnd_g hF; clear hF
      rcases ite_s hG with ⟨q_80, hF⟩ | ⟨q_80, hF⟩
      · clear hG
        exact hm.tr (gB_M_putsWorld_289 q_p0 ih hF hm.1 q_p0)
      · clear hG
        exact hm.tr (gB_M_putsWorld_289 q_p0 ih hF hm.1 q_p0)
set_option maxRecDepth 20000 in
set_option maxHeartbeats 2000000 in
theorem gB_M_putsWorld_157 {N : Nat} {Q : Nat → Prop} {p0 : Nat} {kq130 : Int32 → Hp → Option (Unit × Hp)} (q_p0 : Q p0) (hg130 : ∀ (l1 : Int32) (H : Hp) (r : Unit × Hp), kq130 l1 H = some r → Cl Q H → Rg Q H r.2) : ∀ (n : Nat) (l1 : Int32) (l2 : Int32) (H : Hp) (r : Unit × Hp), B_M_putsWorld_157 N p0 kq130 n l1 l2 H = some r → Cl Q H → Rg Q H r.2 := by
  intro n
  induction n with
  | zero => intro l1 l2 H r hF; rw [B_M_putsWorld_157] at hF; cases hF
  | succ n ih =>
    intro l1 l2 H r hF hc0
    rw [B_M_putsWorld_157] at hF
    have hm := Rg.rf hc0
    obtain ⟨q842, hG⟩ := ck_s hF; clear hF
    obtain ⟨a843, e844, hF⟩ := rf_s hG; clear hG
    have qa843 : Q a843 := hm.1 _ _ _ q_p0 e844
    obtain ⟨q845, hG⟩ := ck_s hF; clear hF
    obtain ⟨a846, e847, hF⟩ := rf_s hG; clear hG
    have qa846 : Q a846 := hm.1 _ _ _ qa843 e847
    obtain ⟨n848, q849, hG⟩ := ar_s hF; clear hF
    obtain ⟨q850, hF⟩ := ck_s hG; clear hG
    obtain ⟨x851, -, hG⟩ := bnd_g hF; clear hF
    rcases ite_s hG with ⟨q_81, hF⟩ | ⟨q_81, hF⟩
    · clear hG
      exact hm.tr (hg130 (l1 + 1) H r hF hm.1)
    · clear hG
      obtain ⟨a853, e854, hG⟩ := rf_s hF; clear hF
      have qa853 : Q a853 := hm.1 _ _ _ q_p0 e854
      obtain ⟨q855, hF⟩ := ck_s hG; clear hG
      obtain ⟨a856, e857, hG⟩ := rf_s hF; clear hF
      have qa856 : Q a856 := hm.1 _ _ _ qa853 e857
      obtain ⟨n858, q859, hF⟩ := ar_s hG; clear hG
      obtain ⟨q860, hG⟩ := ck_s hF; clear hF
      obtain ⟨x861, -, hF⟩ := bnd_g hG; clear hG
      obtain ⟨v863, H864, z862, hG⟩ := bC_s hF; clear hF
      have gz_82 := (g_M_puts z862 hm.1 q_p0)
      replace hm : Rg Q H H864 := hm.tr gz_82
      have s_83 : Sa H H864 := (m_M_puts z862)
      exact hm.tr (ih l1 (l2 + 1) H864 r hG hm.1)
set_option maxRecDepth 20000 in
set_option maxHeartbeats 2000000 in
theorem gB_M_putsWorld_130 {N : Nat} {Q : Nat → Prop} {p0 : Nat} (q_p0 : Q p0) : ∀ (n : Nat) (l1 : Int32) (H : Hp) (r : Unit × Hp), B_M_putsWorld_130 N p0 n l1 H = some r → Cl Q H → Rg Q H r.2 := by
  intro n
  induction n with
  | zero => intro l1 H r hF; rw [B_M_putsWorld_130] at hF; cases hF
  | succ n ih =>
    intro l1 H r hF hc0
    rw [B_M_putsWorld_130] at hF
    have hm := Rg.rf hc0
    obtain ⟨q865, hG⟩ := ck_s hF; clear hF
    obtain ⟨a866, e867, hF⟩ := rf_s hG; clear hG
    have qa866 : Q a866 := hm.1 _ _ _ q_p0 e867
    obtain ⟨q868, hG⟩ := ck_s hF; clear hF
    obtain ⟨x869, -, hF⟩ := bnd_g hG; clear hG
    rcases ite_s hF with ⟨q_84, hG⟩ | ⟨q_84, hG⟩
    · clear hF
      obtain ⟨a871, e872, hF⟩ := rf_s hG; clear hG
      have qa871 : Q a871 := hm.1 _ _ _ q_p0 e872
      obtain ⟨q873, hG⟩ := ck_s hF; clear hF
      obtain ⟨x874, -, hF⟩ := bnd_g hG; clear hG
      obtain ⟨v876, H877, z875, hG⟩ := bC_s hF; clear hF
      have gz_85 := (g_M_puts z875 hm.1 q_p0)
      replace hm : Rg Q H H877 := hm.tr gz_85
      have s_86 : Sa H H877 := (m_M_puts z875)
      obtain ⟨a878, e879, hF⟩ := rf_s hG; clear hG
      have qa878 : Q a878 := hm.1 _ _ _ q_p0 e879
      obtain ⟨q880, hG⟩ := ck_s hF; clear hF
      rw [(s_86).1] at q880
      obtain ⟨x881, -, hF⟩ := bnd_g hG; clear hG
      obtain ⟨v883, H884, z882, hG⟩ := bC_s hF; clear hF
      have gz_87 := (g_M_puts z882 hm.1 q_p0)
      replace hm : Rg Q H H884 := hm.tr gz_87
      have s_88 : Sa H H884 := (s_86).tr (m_M_puts z882)
      obtain ⟨a885, e886, hF⟩ := rf_s hG; clear hG
      have qa885 : Q a885 := hm.1 _ _ _ q_p0 e886
      obtain ⟨q887, hG⟩ := ck_s hF; clear hF
      rw [(s_88).1] at q887
      obtain ⟨x888, -, hF⟩ := bnd_g hG; clear hG
      obtain ⟨v890, H891, z889, hG⟩ := bC_s hF; clear hF
      have gz_89 := (g_M_puts z889 hm.1 q_p0)
      replace hm : Rg Q H H891 := hm.tr gz_89
      have s_90 : Sa H H891 := (s_88).tr (m_M_puts z889)
      obtain ⟨a892, e893, hF⟩ := rf_s hG; clear hG
      have qa892 : Q a892 := hm.1 _ _ _ q_p0 e893
      obtain ⟨q894, hG⟩ := ck_s hF; clear hF
      rw [(s_90).1] at q894
      obtain ⟨x895, -, hF⟩ := bnd_g hG; clear hG
      obtain ⟨v897, H898, z896, hG⟩ := bC_s hF; clear hF
      have gz_91 := (g_M_puts z896 hm.1 q_p0)
      replace hm : Rg Q H H898 := hm.tr gz_91
      have s_92 : Sa H H898 := (s_90).tr (m_M_puts z896)
      exact hm.tr (gB_M_putsWorld_250 q_p0 N 0 H898 r hG hm.1)
    · clear hF
      obtain ⟨a899, e900, hF⟩ := rf_s hG; clear hG
      have qa899 : Q a899 := hm.1 _ _ _ q_p0 e900
      obtain ⟨q901, hG⟩ := ck_s hF; clear hF
      obtain ⟨a902, e903, hF⟩ := rf_s hG; clear hG
      have qa902 : Q a902 := hm.1 _ _ _ qa899 e903
      obtain ⟨n904, q905, hG⟩ := ar_s hF; clear hF
      obtain ⟨q906, hF⟩ := ck_s hG; clear hG
      obtain ⟨x907, -, hG⟩ := bnd_g hF; clear hF
      obtain ⟨v909, H910, z908, hF⟩ := bC_s hG; clear hG
      have gz_93 := (g_M_puts z908 hm.1 q_p0)
      replace hm : Rg Q H H910 := hm.tr gz_93
      have s_94 : Sa H H910 := (m_M_puts z908)
      exact hm.tr (gB_M_putsWorld_157 q_p0 ih N l1 0 H910 r hF hm.1)
set_option maxRecDepth 20000 in
set_option maxHeartbeats 2000000 in
theorem gB_M_putsWorld_75 {N : Nat} {Q : Nat → Prop} {p0 : Nat} {kq28 : Int32 → Hp → Option (Unit × Hp)} (q_p0 : Q p0) (hg28 : ∀ (l1 : Int32) (H : Hp) (r : Unit × Hp), kq28 l1 H = some r → Cl Q H → Rg Q H r.2) : ∀ (n : Nat) (l1 : Int32) (l2 : Int32) (H : Hp) (r : Unit × Hp), B_M_putsWorld_75 N p0 kq28 n l1 l2 H = some r → Cl Q H → Rg Q H r.2 := by
  intro n
  induction n with
  | zero => intro l1 l2 H r hF; rw [B_M_putsWorld_75] at hF; cases hF
  | succ n ih =>
    intro l1 l2 H r hF hc0
    rw [B_M_putsWorld_75] at hF
    have hm := Rg.rf hc0
    obtain ⟨q911, hG⟩ := ck_s hF; clear hF
    obtain ⟨a912, e913, hF⟩ := rf_s hG; clear hG
    have qa912 : Q a912 := hm.1 _ _ _ q_p0 e913
    obtain ⟨q914, hG⟩ := ck_s hF; clear hF
    obtain ⟨a915, e916, hF⟩ := rf_s hG; clear hG
    have qa915 : Q a915 := hm.1 _ _ _ qa912 e916
    obtain ⟨n917, q918, hG⟩ := ar_s hF; clear hF
    obtain ⟨q919, hF⟩ := ck_s hG; clear hG
    obtain ⟨x920, -, hG⟩ := bnd_g hF; clear hF
    rcases ite_s hG with ⟨q_95, hF⟩ | ⟨q_95, hF⟩
    · clear hG
      exact hm.tr (hg28 (l1 + 1) H r hF hm.1)
    · clear hG
      obtain ⟨a922, e923, hG⟩ := rf_s hF; clear hF
      have qa922 : Q a922 := hm.1 _ _ _ q_p0 e923
      obtain ⟨q924, hF⟩ := ck_s hG; clear hG
      obtain ⟨a925, e926, hG⟩ := rf_s hF; clear hF
      have qa925 : Q a925 := hm.1 _ _ _ qa922 e926
      obtain ⟨n927, q928, hF⟩ := ar_s hG; clear hG
      obtain ⟨q929, hG⟩ := ck_s hF; clear hF
      obtain ⟨x930, -, hF⟩ := bnd_g hG; clear hG
      obtain ⟨v932, H933, z931, hG⟩ := bC_s hF; clear hF
      have gz_96 := (g_M_puts z931 hm.1 q_p0)
      replace hm : Rg Q H H933 := hm.tr gz_96
      have s_97 : Sa H H933 := (m_M_puts z931)
      exact hm.tr (ih l1 (l2 + 1) H933 r hG hm.1)
set_option maxRecDepth 20000 in
set_option maxHeartbeats 2000000 in
theorem gB_M_putsWorld_28 {N : Nat} {Q : Nat → Prop} {p0 : Nat} (q_p0 : Q p0) : ∀ (n : Nat) (l1 : Int32) (H : Hp) (r : Unit × Hp), B_M_putsWorld_28 N p0 n l1 H = some r → Cl Q H → Rg Q H r.2 := by
  intro n
  induction n with
  | zero => intro l1 H r hF; rw [B_M_putsWorld_28] at hF; cases hF
  | succ n ih =>
    intro l1 H r hF hc0
    rw [B_M_putsWorld_28] at hF
    have hm := Rg.rf hc0
    obtain ⟨q934, hG⟩ := ck_s hF; clear hF
    obtain ⟨a935, e936, hF⟩ := rf_s hG; clear hG
    have qa935 : Q a935 := hm.1 _ _ _ q_p0 e936
    obtain ⟨q937, hG⟩ := ck_s hF; clear hF
    obtain ⟨x938, -, hF⟩ := bnd_g hG; clear hG
    rcases ite_s hF with ⟨q_98, hG⟩ | ⟨q_98, hG⟩
    · clear hF
      obtain ⟨a940, e941, hF⟩ := rf_s hG; clear hG
      have qa940 : Q a940 := hm.1 _ _ _ q_p0 e941
      obtain ⟨q942, hG⟩ := ck_s hF; clear hF
      obtain ⟨x943, -, hF⟩ := bnd_g hG; clear hG
      obtain ⟨v945, H946, z944, hG⟩ := bC_s hF; clear hF
      have gz_99 := (g_M_puts z944 hm.1 q_p0)
      replace hm : Rg Q H H946 := hm.tr gz_99
      have s_100 : Sa H H946 := (m_M_puts z944)
      exact hm.tr (gB_M_putsWorld_130 q_p0 N 0 H946 r hG hm.1)
    · clear hF
      obtain ⟨a947, e948, hF⟩ := rf_s hG; clear hG
      have qa947 : Q a947 := hm.1 _ _ _ q_p0 e948
      obtain ⟨q949, hG⟩ := ck_s hF; clear hF
      obtain ⟨a950, e951, hF⟩ := rf_s hG; clear hG
      have qa950 : Q a950 := hm.1 _ _ _ qa947 e951
      obtain ⟨n952, q953, hG⟩ := ar_s hF; clear hF
      obtain ⟨q954, hF⟩ := ck_s hG; clear hG
      obtain ⟨x955, -, hG⟩ := bnd_g hF; clear hF
      obtain ⟨a956, e957, hF⟩ := rf_s hG; clear hG
      have qa956 : Q a956 := hm.1 _ _ _ q_p0 e957
      obtain ⟨q958, hG⟩ := ck_s hF; clear hF
      obtain ⟨a959, e960, hF⟩ := rf_s hG; clear hG
      have qa959 : Q a959 := hm.1 _ _ _ qa956 e960
      obtain ⟨n961, q962, hG⟩ := ar_s hF; clear hF
      obtain ⟨q963, hF⟩ := ck_s hG; clear hG
      obtain ⟨x964, -, hG⟩ := bnd_g hF; clear hF
      obtain ⟨v966, H967, z965, hF⟩ := bC_s hG; clear hG
      have gz_101 := (g_M_puts z965 hm.1 q_p0)
      replace hm : Rg Q H H967 := hm.tr gz_101
      have s_102 : Sa H H967 := (m_M_puts z965)
      obtain ⟨a968, e969, hG⟩ := rf_s hF; clear hF
      have qa968 : Q a968 := hm.1 _ _ _ q_p0 e969
      obtain ⟨q970, hF⟩ := ck_s hG; clear hG
      rw [(s_102).1] at q970
      obtain ⟨a971, e972, hG⟩ := rf_s hF; clear hF
      have qa971 : Q a971 := hm.1 _ _ _ qa968 e972
      obtain ⟨n973, q974, hF⟩ := ar_s hG; clear hG
      rw [(s_102).1] at q974
      obtain ⟨q975, hG⟩ := ck_s hF; clear hF
      obtain ⟨x976, -, hF⟩ := bnd_g hG; clear hG
      exact hm.tr (gB_M_putsWorld_75 q_p0 ih N l1 x976 H967 r hF hm.1)
set_option maxRecDepth 20000 in
set_option maxHeartbeats 2000000 in
theorem g_M_putsWorld {N : Nat} {Q : Nat → Prop} {p0 : Nat} {H : Hp} {r : Unit × Hp} (hF : F_M_putsWorld N p0 H = some r) (hc0 : Cl Q H) (q_p0 : Q p0) : Rg Q H r.2 := by
  unfold F_M_putsWorld at hF
  have hm := Rg.rf hc0
  obtain ⟨q977, hG⟩ := ck_s hF; clear hF
  obtain ⟨v979, H980, z978, hF⟩ := bC_s hG; clear hG
  have gz_103 := (g_M_puts z978 hm.1 q_p0)
  replace hm : Rg Q H H980 := hm.tr gz_103
  have s_104 : Sa H H980 := (m_M_puts z978)
  obtain ⟨v982, H983, z981, hG⟩ := bC_s hF; clear hF
  have gz_105 := (g_M_puts z981 hm.1 q_p0)
  replace hm : Rg Q H H983 := hm.tr gz_105
  have s_106 : Sa H H983 := (s_104).tr (m_M_puts z981)
  obtain ⟨a984, e985, hF⟩ := rf_s hG; clear hG
  have qa984 : Q a984 := hm.1 _ _ _ q_p0 e985
  obtain ⟨q986, hG⟩ := ck_s hF; clear hF
  rw [(s_106).1] at q986
  obtain ⟨x987, -, hF⟩ := bnd_g hG; clear hG
  obtain ⟨v989, H990, z988, hG⟩ := bC_s hF; clear hF
  have gz_107 := (g_M_puts z988 hm.1 q_p0)
  replace hm : Rg Q H H990 := hm.tr gz_107
  have s_108 : Sa H H990 := (s_106).tr (m_M_puts z988)
  exact hm.tr (gB_M_putsWorld_28 q_p0 N 0 H990 r hG hm.1)
set_option maxRecDepth 20000 in
set_option maxHeartbeats 2000000 in
theorem g_M_sum {N : Nat} {Q : Nat → Prop} {p0 : Nat} {H : Hp} {r : Int32 × Hp} (hF : F_M_sum N p0 H = some r) (hc0 : Cl Q H) (q_p0 : Q p0) : Rg Q H r.2 := by
  unfold F_M_sum at hF
  have hm := Rg.rf hc0
  obtain ⟨q19, hG⟩ := ck_s hF; clear hF
  obtain ⟨H20, eH20, hF⟩ := bnd_g hG; clear hG
  replace hm : Rg Q H H20 := hm.tr (by rw [eH20]; exact Rg.sD hm.1 q_p0)
  have s_11 : Sa H H20 := by rw [eH20]; exact Sa.rf _
  obtain ⟨H21, eH21, hG⟩ := bnd_g hF; clear hF
  replace hm : Rg Q H H21 := hm.tr (by rw [eH21]; exact Rg.sD hm.1 q_p0)
  have s_12 : Sa H H21 := by rw [eH21]; exact s_11
  obtain ⟨H22, eH22, hF⟩ := bnd_g hG; clear hG
  replace hm : Rg Q H H22 := hm.tr (by rw [eH22]; exact Rg.sD hm.1 q_p0)
  have s_13 : Sa H H22 := by rw [eH22]; exact s_12
  obtain ⟨v24, H25, z23, hG⟩ := bC_s hF; clear hF
  have gz_14 := (g_M_putsWorld z23 hm.1 q_p0)
  replace hm : Rg Q H H25 := hm.tr gz_14
  have s_15 : Sa H H25 := (s_13).tr (m_M_putsWorld z23)
  obtain ⟨H26, eH26, hF⟩ := bnd_g hG; clear hG
  replace hm : Rg Q H H26 := hm.tr (by rw [eH26]; exact Rg.sD hm.1 q_p0)
  have s_16 : Sa H H26 := by rw [eH26]; exact s_15
  obtain ⟨x27, -, hG⟩ := bnd_g hF; clear hF
  have hr := Option.some.inj hG; subst hr
  exact hm
set_option maxRecDepth 20000 in
set_option maxHeartbeats 2000000 in
theorem g_M_save {N : Nat} {Q : Nat → Prop} {p0 : Nat} {H : Hp} {r : Int32 × Hp} (hF : F_M_save N p0 H = some r) (hc0 : Cl Q H) (q_p0 : Q p0) : Rg Q H r.2 := by
  unfold F_M_save at hF
  have hm := Rg.rf hc0
  obtain ⟨q23, hG⟩ := ck_s hF; clear hF
  obtain ⟨H24, eH24, hF⟩ := bnd_g hG; clear hG
  replace hm : Rg Q H H24 := hm.tr (by rw [eH24]; exact Rg.sD hm.1 q_p0)
  have s_10 : Sa H H24 := by rw [eH24]; exact Sa.rf _
  obtain ⟨v26, H27, z25, hG⟩ := bC_s hF; clear hF
  have gz_11 := (g_M_isQuiet z25 hm.1 q_p0)
  replace hm : Rg Q H H27 := hm.tr gz_11
  have s_12 : Sa H H27 := (s_10).tr (m_M_isQuiet z25)
  rcases ite_s hG with ⟨q_13, hF⟩ | ⟨q_13, hF⟩
  · clear hG
    have hr := Option.some.inj hF; subst hr
    exact hm
  · clear hG
    obtain ⟨H29, eH29, hG⟩ := bnd_g hF; clear hF
    replace hm : Rg Q H H29 := hm.tr (by rw [eH29]; exact Rg.sD hm.1 q_p0)
    have s_14 : Sa H H29 := by rw [eH29]; exact s_12
    obtain ⟨v31, H32, z30, hF⟩ := bC_s hG; clear hG
    have gz_15 := (g_M_putsWorld z30 hm.1 q_p0)
    replace hm : Rg Q H H32 := hm.tr gz_15
    have s_16 : Sa H H32 := (s_14).tr (m_M_putsWorld z30)
    obtain ⟨x33, -, hG⟩ := bnd_g hF; clear hF
    have hr := Option.some.inj hG; subst hr
    exact hm
set_option maxRecDepth 20000 in
set_option maxHeartbeats 2000000 in
theorem g_M_bend {N : Nat} {Q : Nat → Prop} {p0 : Nat} {p1 : Int32} {p2 : Int32} {H : Hp} {r : Int32 × Hp} (hF : F_M_bend N p0 p1 p2 H = some r) (hc0 : Cl Q H) (q_p0 : Q p0) : Rg Q H r.2 := by
  unfold F_M_bend at hF
  have hm := Rg.rf hc0
  obtain ⟨q31, hG⟩ := ck_s hF; clear hF
  obtain ⟨H32, eH32, hF⟩ := bnd_g hG; clear hG
  replace hm : Rg Q H H32 := hm.tr (by rw [eH32]; exact Rg.sD hm.1 q_p0)
  have s_8 : Sa H H32 := by rw [eH32]; exact Sa.rf _
  obtain ⟨x33, -, hG⟩ := bnd_g hF; clear hF
  obtain ⟨v35, H36, z34, hF⟩ := bC_s hG; clear hG
  have gz_9 := (g_M_in z34 hm.1)
  replace hm : Rg Q H H36 := hm.tr gz_9
  have s_10 : Sa H H36 := (s_8).tr (m_M_in z34)
  rcases ite_s hF with ⟨q_11, hG⟩ | ⟨q_11, hG⟩
  · clear hF
    have hr := Option.some.inj hG; subst hr
    exact hm
  · clear hF
    obtain ⟨a38, e39, hF⟩ := rf_s hG; clear hG
    have qa38 : Q a38 := hm.1 _ _ _ q_p0 e39
    obtain ⟨n40, q41, hG⟩ := ar_s hF; clear hF
    rw [(s_10).1] at q41
    obtain ⟨q42, hF⟩ := ck_s hG; clear hG
    obtain ⟨x43, -, hG⟩ := bnd_g hF; clear hF
    obtain ⟨q44, hF⟩ := ck_s hG; clear hG
    obtain ⟨H45, eH45, hG⟩ := bnd_g hF; clear hF
    replace hm : Rg Q H H45 := hm.tr (by rw [eH45]; exact Rg.sD hm.1 qa38)
    have s_12 : Sa H H45 := by rw [eH45]; exact s_10
    have hr := Option.some.inj hG; subst hr
    exact hm
set_option maxRecDepth 20000 in
set_option maxHeartbeats 2000000 in
theorem g_M_cut {N : Nat} {Q : Nat → Prop} {p0 : Nat} {p1 : Int32} {H : Hp} {r : Int32 × Hp} (hF : F_M_cut N p0 p1 H = some r) (hc0 : Cl Q H) (q_p0 : Q p0) : Rg Q H r.2 := by
  unfold F_M_cut at hF
  have hm := Rg.rf hc0
  obtain ⟨q17, hG⟩ := ck_s hF; clear hF
  obtain ⟨H18, eH18, hF⟩ := bnd_g hG; clear hG
  replace hm : Rg Q H H18 := hm.tr (by rw [eH18]; exact Rg.sD hm.1 q_p0)
  have s_8 : Sa H H18 := by rw [eH18]; exact Sa.rf _
  obtain ⟨x19, -, hG⟩ := bnd_g hF; clear hF
  obtain ⟨v21, H22, z20, hF⟩ := bC_s hG; clear hG
  have gz_9 := (g_M_in z20 hm.1)
  replace hm : Rg Q H H22 := hm.tr gz_9
  have s_10 : Sa H H22 := (s_8).tr (m_M_in z20)
  rcases ite_s hF with ⟨q_11, hG⟩ | ⟨q_11, hG⟩
  · clear hF
    have hr := Option.some.inj hG; subst hr
    exact hm
  · clear hF
    obtain ⟨H24, eH24, hF⟩ := bnd_g hG; clear hG
    replace hm : Rg Q H H24 := hm.tr (by rw [eH24]; exact Rg.sD hm.1 q_p0)
    have s_12 : Sa H H24 := by rw [eH24]; exact s_10
    have hr := Option.some.inj hF; subst hr
    exact hm
set_option maxRecDepth 20000 in
set_option maxHeartbeats 2000000 in
theorem g_M_byteOut {N : Nat} {Q : Nat → Prop} {p0 : Nat} {p1 : Int32} {H : Hp} {r : Int32 × Hp} (hF : F_M_byteOut N p0 p1 H = some r) (hc0 : Cl Q H) (q_p0 : Q p0) : Rg Q H r.2 := by
  unfold F_M_byteOut at hF
  have hm := Rg.rf hc0
  obtain ⟨q27, hG⟩ := ck_s hF; clear hF
  obtain ⟨H28, eH28, hF⟩ := bnd_g hG; clear hG
  replace hm : Rg Q H H28 := hm.tr (by rw [eH28]; exact Rg.sD hm.1 q_p0)
  have s_6 : Sa H H28 := by rw [eH28]; exact Sa.rf _
  obtain ⟨x29, -, hG⟩ := bnd_g hF; clear hF
  obtain ⟨v31, H32, z30, hF⟩ := bC_s hG; clear hG
  have gz_7 := (g_M_in z30 hm.1)
  replace hm : Rg Q H H32 := hm.tr gz_7
  have s_8 : Sa H H32 := (s_6).tr (m_M_in z30)
  rcases ite_s hF with ⟨q_9, hG⟩ | ⟨q_9, hG⟩
  · clear hF
    have hr := Option.some.inj hG; subst hr
    exact hm
  · clear hF
    obtain ⟨a34, e35, hF⟩ := rf_s hG; clear hG
    have qa34 : Q a34 := hm.1 _ _ _ q_p0 e35
    obtain ⟨n36, q37, hG⟩ := ar_s hF; clear hF
    rw [(s_8).1] at q37
    obtain ⟨q38, hF⟩ := ck_s hG; clear hG
    obtain ⟨x39, -, hG⟩ := bnd_g hF; clear hF
    have hr := Option.some.inj hG; subst hr
    exact hm
set_option maxRecDepth 20000 in
set_option maxHeartbeats 2000000 in
theorem gB_M_gets_100 {N : Nat} {Q : Nat → Prop} {p0 : Nat} {p1 : Int32} {p2 : Int32} {p3 : Int32} (q_p0 : Q p0) {l4 : Int32} {H : Hp} {r : Int32 × Hp} (hF : B_M_gets_100 N p0 p1 p2 p3 l4 H = some r) (hc0 : Cl Q H) : Rg Q H r.2 := by
  unfold B_M_gets_100 at hF
  have hm := Rg.rf hc0
  obtain ⟨q67, hG⟩ := ck_s hF; clear hF
  obtain ⟨x68, -, hF⟩ := bnd_g hG; clear hG
  obtain ⟨H69, eH69, hG⟩ := bnd_g hF; clear hF
  replace hm : Rg Q H H69 := hm.tr (by rw [eH69]; exact Rg.sD hm.1 q_p0)
  have s_15 : Sa H H69 := by rw [eH69]; exact Sa.rf _
  obtain ⟨x70, -, hF⟩ := bnd_g hG; clear hG
  rcases ite_s hF with ⟨q_16, hG⟩ | ⟨q_16, hG⟩
  · clear hF
    have hr := Option.some.inj hG; subst hr
    exact hm
  · clear hF
    have hr := Option.some.inj hG; subst hr
    exact hm
set_option maxRecDepth 20000 in
set_option maxHeartbeats 2000000 in
theorem gB_M_gets_43 {N : Nat} {Q : Nat → Prop} {p0 : Nat} {p1 : Int32} {p2 : Int32} {p3 : Int32} (q_p0 : Q p0) : ∀ (n : Nat) (l4 : Int32) (l5 : Int32) (H : Hp) (r : Int32 × Hp), B_M_gets_43 N p0 p1 p2 p3 n l4 l5 H = some r → Cl Q H → Rg Q H r.2 := by
  intro n
  induction n with
  | zero => intro l4 l5 H r hF; rw [B_M_gets_43] at hF; cases hF
  | succ n ih =>
    intro l4 l5 H r hF hc0
    rw [B_M_gets_43] at hF
    have hm := Rg.rf hc0
    rcases ite_s hF with ⟨q_17, hG⟩ | ⟨q_17, hG⟩
    · clear hF
      obtain ⟨v74, H75, z73, hF⟩ := bC_s hG; clear hG
      have gz_18 := (g_M_in z73 hm.1)
      replace hm : Rg Q H H75 := hm.tr gz_18
      have s_19 : Sa H H75 := (m_M_in z73)
      rcases ite_s hF with ⟨q_20, hG⟩ | ⟨q_20, hG⟩
      · clear hF
        obtain ⟨q77, hF⟩ := ck_s hG; clear hG
        rw [(s_19).1] at q77
        obtain ⟨x78, -, hG⟩ := bnd_g hF; clear hF
        obtain ⟨H79, eH79, hF⟩ := bnd_g hG; clear hG
        replace hm : Rg Q H H79 := hm.tr (by rw [eH79]; exact Rg.sD hm.1 q_p0)
        have s_21 : Sa H H79 := by rw [eH79]; exact s_19
        exact hm.tr (gB_M_gets_100 q_p0 hF hm.1)
      · clear hF
        exact hm.tr (gB_M_gets_100 q_p0 hG hm.1)
    · clear hF
      obtain ⟨q80, hF⟩ := ck_s hG; clear hG
      obtain ⟨a81, e82, hG⟩ := rf_s hF; clear hF
      have qa81 : Q a81 := hm.1 _ _ _ q_p0 e82
      obtain ⟨x83, -, hF⟩ := bnd_g hG; clear hG
      obtain ⟨n84, q85, hG⟩ := ar_s hF; clear hF
      obtain ⟨q86, hF⟩ := ck_s hG; clear hG
      obtain ⟨x87, -, hG⟩ := bnd_g hF; clear hF
      obtain ⟨x88, -, hF⟩ := bnd_g hG; clear hG
      exact hm.tr (ih x88 (l5 + 1) H r hF hm.1)
set_option maxRecDepth 20000 in
set_option maxHeartbeats 2000000 in
theorem gB_M_gets_31 {N : Nat} {Q : Nat → Prop} {p0 : Nat} {p1 : Int32} {p2 : Int32} {p3 : Int32} (q_p0 : Q p0) {l4 : Int32} {H : Hp} {r : Int32 × Hp} (hF : B_M_gets_31 N p0 p1 p2 p3 l4 H = some r) (hc0 : Cl Q H) : Rg Q H r.2 := by
  unfold B_M_gets_31 at hF
  have hm := Rg.rf hc0
  obtain ⟨q89, hG⟩ := ck_s hF; clear hF
  obtain ⟨x90, -, hF⟩ := bnd_g hG; clear hG
  rcases ite_s hF with ⟨q_22, hG⟩ | ⟨q_22, hG⟩
  · clear hF
    exact hm.tr (gB_M_gets_43 q_p0 N l4 0 H r hG hm.1)
  · clear hF
    have hr := Option.some.inj hG; subst hr
    exact hm
set_option maxRecDepth 20000 in
set_option maxHeartbeats 2000000 in
theorem g_M_gets {N : Nat} {Q : Nat → Prop} {p0 : Nat} {p1 : Int32} {p2 : Int32} {p3 : Int32} {H : Hp} {r : Int32 × Hp} (hF : F_M_gets N p0 p1 p2 p3 H = some r) (hc0 : Cl Q H) (q_p0 : Q p0) : Rg Q H r.2 := by
  unfold F_M_gets at hF
  have hm := Rg.rf hc0
  obtain ⟨q92, hG⟩ := ck_s hF; clear hF
  obtain ⟨x93, -, hF⟩ := bnd_g hG; clear hG
  rcases ite_s hF with ⟨q_23, hG⟩ | ⟨q_23, hG⟩
  · clear hF
    exact hm.tr (gB_M_gets_31 q_p0 hG hm.1)
  · clear hF
    obtain ⟨x95, -, hF⟩ := bnd_g hG; clear hG
    obtain ⟨x96, -, hG⟩ := bnd_g hF; clear hF
    rcases ite_s hG with ⟨q_24, hF⟩ | ⟨q_24, hF⟩
    · clear hG
      exact hm.tr (gB_M_gets_31 q_p0 hF hm.1)
    · clear hG
      obtain ⟨x98, -, hG⟩ := bnd_g hF; clear hF
      obtain ⟨H99, eH99, hF⟩ := bnd_g hG; clear hG
      replace hm : Rg Q H H99 := hm.tr (by rw [eH99]; exact Rg.sD hm.1 q_p0)
      have s_25 : Sa H H99 := by rw [eH99]; exact Sa.rf _
      exact hm.tr (gB_M_gets_31 q_p0 hF hm.1)
set_option maxRecDepth 20000 in
set_option maxHeartbeats 2000000 in
theorem g_M_getsExactly {N : Nat} {Q : Nat → Prop} {p0 : Nat} {p1 : Int32} {H : Hp} {r : Unit × Hp} (hF : F_M_getsExactly N p0 p1 H = some r) (hc0 : Cl Q H) (q_p0 : Q p0) : Rg Q H r.2 := by
  unfold F_M_getsExactly at hF
  have hm := Rg.rf hc0
  obtain ⟨q9, hG⟩ := ck_s hF; clear hF
  obtain ⟨v11, H12, z10, hF⟩ := bC_s hG; clear hG
  have gz_3 := (g_M_gets z10 hm.1 q_p0)
  replace hm : Rg Q H H12 := hm.tr gz_3
  have s_4 : Sa H H12 := (m_M_gets z10)
  have hr := Option.some.inj hF; subst hr
  exact hm
set_option maxRecDepth 20000 in
set_option maxHeartbeats 2000000 in
theorem gB_M_getsTables_150 {N : Nat} {Q : Nat → Prop} {p0 : Nat} {kq124 : Int32 → Hp → Option (Unit × Hp)} (q_p0 : Q p0) (hg124 : ∀ (l1 : Int32) (H : Hp) (r : Unit × Hp), kq124 l1 H = some r → Cl Q H → Rg Q H r.2) : ∀ (n : Nat) (l1 : Int32) (l2 : Int32) (H : Hp) (r : Unit × Hp), B_M_getsTables_150 N p0 kq124 n l1 l2 H = some r → Cl Q H → Rg Q H r.2 := by
  intro n
  induction n with
  | zero => intro l1 l2 H r hF; rw [B_M_getsTables_150] at hF; cases hF
  | succ n ih =>
    intro l1 l2 H r hF hc0
    rw [B_M_getsTables_150] at hF
    have hm := Rg.rf hc0
    obtain ⟨q243, hG⟩ := ck_s hF; clear hF
    obtain ⟨a244, e245, hF⟩ := rf_s hG; clear hG
    have qa244 : Q a244 := hm.1 _ _ _ q_p0 e245
    obtain ⟨q246, hG⟩ := ck_s hF; clear hF
    obtain ⟨a247, e248, hF⟩ := rf_s hG; clear hG
    have qa247 : Q a247 := hm.1 _ _ _ qa244 e248
    obtain ⟨n249, q250, hG⟩ := ar_s hF; clear hF
    obtain ⟨q251, hF⟩ := ck_s hG; clear hG
    obtain ⟨x252, -, hG⟩ := bnd_g hF; clear hF
    rcases ite_s hG with ⟨q_21, hF⟩ | ⟨q_21, hF⟩
    · clear hG
      exact hm.tr (hg124 (l1 + 1) H r hF hm.1)
    · clear hG
      obtain ⟨a254, e255, hG⟩ := rf_s hF; clear hF
      have qa254 : Q a254 := hm.1 _ _ _ q_p0 e255
      obtain ⟨q256, hF⟩ := ck_s hG; clear hG
      obtain ⟨a257, e258, hG⟩ := rf_s hF; clear hF
      have qa257 : Q a257 := hm.1 _ _ _ qa254 e258
      obtain ⟨n259, q260, hF⟩ := ar_s hG; clear hG
      obtain ⟨q261, hG⟩ := ck_s hF; clear hF
      obtain ⟨x262, -, hF⟩ := bnd_g hG; clear hG
      obtain ⟨v264, H265, z263, hG⟩ := bC_s hF; clear hF
      have gz_22 := (g_M_getsExactly z263 hm.1 q_p0)
      replace hm : Rg Q H H265 := hm.tr gz_22
      have s_23 : Sa H H265 := (m_M_getsExactly z263)
      exact hm.tr (ih l1 (l2 + 1) H265 r hG hm.1)
set_option maxRecDepth 20000 in
set_option maxHeartbeats 2000000 in
theorem gB_M_getsTables_124 {N : Nat} {Q : Nat → Prop} {p0 : Nat} (q_p0 : Q p0) : ∀ (n : Nat) (l1 : Int32) (H : Hp) (r : Unit × Hp), B_M_getsTables_124 N p0 n l1 H = some r → Cl Q H → Rg Q H r.2 := by
  intro n
  induction n with
  | zero => intro l1 H r hF; rw [B_M_getsTables_124] at hF; cases hF
  | succ n ih =>
    intro l1 H r hF hc0
    rw [B_M_getsTables_124] at hF
    have hm := Rg.rf hc0
    obtain ⟨q266, hG⟩ := ck_s hF; clear hF
    obtain ⟨a267, e268, hF⟩ := rf_s hG; clear hG
    have qa267 : Q a267 := hm.1 _ _ _ q_p0 e268
    obtain ⟨q269, hG⟩ := ck_s hF; clear hF
    obtain ⟨x270, -, hF⟩ := bnd_g hG; clear hG
    rcases ite_s hF with ⟨q_24, hG⟩ | ⟨q_24, hG⟩
    · clear hF
      have hr := Option.some.inj hG; subst hr
      exact hm
    · clear hF
      obtain ⟨a272, e273, hF⟩ := rf_s hG; clear hG
      have qa272 : Q a272 := hm.1 _ _ _ q_p0 e273
      obtain ⟨q274, hG⟩ := ck_s hF; clear hF
      obtain ⟨a275, e276, hF⟩ := rf_s hG; clear hG
      have qa275 : Q a275 := hm.1 _ _ _ qa272 e276
      obtain ⟨n277, q278, hG⟩ := ar_s hF; clear hF
      obtain ⟨q279, hF⟩ := ck_s hG; clear hG
      obtain ⟨x280, -, hG⟩ := bnd_g hF; clear hF
      obtain ⟨v282, H283, z281, hF⟩ := bC_s hG; clear hG
      have gz_25 := (g_M_getsExactly z281 hm.1 q_p0)
      replace hm : Rg Q H H283 := hm.tr gz_25
      have s_26 : Sa H H283 := (m_M_getsExactly z281)
      exact hm.tr (gB_M_getsTables_150 q_p0 ih N l1 0 H283 r hF hm.1)
set_option maxRecDepth 20000 in
set_option maxHeartbeats 2000000 in
theorem gB_M_getsTables_71 {N : Nat} {Q : Nat → Prop} {p0 : Nat} {kq25 : Int32 → Hp → Option (Unit × Hp)} (q_p0 : Q p0) (hg25 : ∀ (l1 : Int32) (H : Hp) (r : Unit × Hp), kq25 l1 H = some r → Cl Q H → Rg Q H r.2) : ∀ (n : Nat) (l1 : Int32) (l2 : Int32) (H : Hp) (r : Unit × Hp), B_M_getsTables_71 N p0 kq25 n l1 l2 H = some r → Cl Q H → Rg Q H r.2 := by
  intro n
  induction n with
  | zero => intro l1 l2 H r hF; rw [B_M_getsTables_71] at hF; cases hF
  | succ n ih =>
    intro l1 l2 H r hF hc0
    rw [B_M_getsTables_71] at hF
    have hm := Rg.rf hc0
    obtain ⟨q284, hG⟩ := ck_s hF; clear hF
    obtain ⟨a285, e286, hF⟩ := rf_s hG; clear hG
    have qa285 : Q a285 := hm.1 _ _ _ q_p0 e286
    obtain ⟨q287, hG⟩ := ck_s hF; clear hF
    obtain ⟨a288, e289, hF⟩ := rf_s hG; clear hG
    have qa288 : Q a288 := hm.1 _ _ _ qa285 e289
    obtain ⟨n290, q291, hG⟩ := ar_s hF; clear hF
    obtain ⟨q292, hF⟩ := ck_s hG; clear hG
    obtain ⟨x293, -, hG⟩ := bnd_g hF; clear hF
    rcases ite_s hG with ⟨q_27, hF⟩ | ⟨q_27, hF⟩
    · clear hG
      exact hm.tr (hg25 (l1 + 1) H r hF hm.1)
    · clear hG
      obtain ⟨a295, e296, hG⟩ := rf_s hF; clear hF
      have qa295 : Q a295 := hm.1 _ _ _ q_p0 e296
      obtain ⟨q297, hF⟩ := ck_s hG; clear hG
      obtain ⟨a298, e299, hG⟩ := rf_s hF; clear hF
      have qa298 : Q a298 := hm.1 _ _ _ qa295 e299
      obtain ⟨n300, q301, hF⟩ := ar_s hG; clear hG
      obtain ⟨q302, hG⟩ := ck_s hF; clear hF
      obtain ⟨x303, -, hF⟩ := bnd_g hG; clear hG
      obtain ⟨v305, H306, z304, hG⟩ := bC_s hF; clear hF
      have gz_28 := (g_M_getsExactly z304 hm.1 q_p0)
      replace hm : Rg Q H H306 := hm.tr gz_28
      have s_29 : Sa H H306 := (m_M_getsExactly z304)
      exact hm.tr (ih l1 (l2 + 1) H306 r hG hm.1)
set_option maxRecDepth 20000 in
set_option maxHeartbeats 2000000 in
theorem gB_M_getsTables_25 {N : Nat} {Q : Nat → Prop} {p0 : Nat} (q_p0 : Q p0) : ∀ (n : Nat) (l1 : Int32) (H : Hp) (r : Unit × Hp), B_M_getsTables_25 N p0 n l1 H = some r → Cl Q H → Rg Q H r.2 := by
  intro n
  induction n with
  | zero => intro l1 H r hF; rw [B_M_getsTables_25] at hF; cases hF
  | succ n ih =>
    intro l1 H r hF hc0
    rw [B_M_getsTables_25] at hF
    have hm := Rg.rf hc0
    obtain ⟨q307, hG⟩ := ck_s hF; clear hF
    obtain ⟨a308, e309, hF⟩ := rf_s hG; clear hG
    have qa308 : Q a308 := hm.1 _ _ _ q_p0 e309
    obtain ⟨q310, hG⟩ := ck_s hF; clear hF
    obtain ⟨x311, -, hF⟩ := bnd_g hG; clear hG
    rcases ite_s hF with ⟨q_30, hG⟩ | ⟨q_30, hG⟩
    · clear hF
      obtain ⟨a313, e314, hF⟩ := rf_s hG; clear hG
      have qa313 : Q a313 := hm.1 _ _ _ q_p0 e314
      obtain ⟨q315, hG⟩ := ck_s hF; clear hF
      obtain ⟨x316, -, hF⟩ := bnd_g hG; clear hG
      obtain ⟨v318, H319, z317, hG⟩ := bC_s hF; clear hF
      have gz_31 := (g_M_getsExactly z317 hm.1 q_p0)
      replace hm : Rg Q H H319 := hm.tr gz_31
      have s_32 : Sa H H319 := (m_M_getsExactly z317)
      exact hm.tr (gB_M_getsTables_124 q_p0 N 0 H319 r hG hm.1)
    · clear hF
      obtain ⟨a320, e321, hF⟩ := rf_s hG; clear hG
      have qa320 : Q a320 := hm.1 _ _ _ q_p0 e321
      obtain ⟨q322, hG⟩ := ck_s hF; clear hF
      obtain ⟨a323, e324, hF⟩ := rf_s hG; clear hG
      have qa323 : Q a323 := hm.1 _ _ _ qa320 e324
      obtain ⟨n325, q326, hG⟩ := ar_s hF; clear hF
      obtain ⟨q327, hF⟩ := ck_s hG; clear hG
      obtain ⟨x328, -, hG⟩ := bnd_g hF; clear hF
      obtain ⟨a329, e330, hF⟩ := rf_s hG; clear hG
      have qa329 : Q a329 := hm.1 _ _ _ q_p0 e330
      obtain ⟨q331, hG⟩ := ck_s hF; clear hF
      obtain ⟨a332, e333, hF⟩ := rf_s hG; clear hG
      have qa332 : Q a332 := hm.1 _ _ _ qa329 e333
      obtain ⟨n334, q335, hG⟩ := ar_s hF; clear hF
      obtain ⟨q336, hF⟩ := ck_s hG; clear hG
      obtain ⟨x337, -, hG⟩ := bnd_g hF; clear hF
      obtain ⟨v339, H340, z338, hF⟩ := bC_s hG; clear hG
      have gz_33 := (g_M_getsExactly z338 hm.1 q_p0)
      replace hm : Rg Q H H340 := hm.tr gz_33
      have s_34 : Sa H H340 := (m_M_getsExactly z338)
      obtain ⟨a341, e342, hG⟩ := rf_s hF; clear hF
      have qa341 : Q a341 := hm.1 _ _ _ q_p0 e342
      obtain ⟨q343, hF⟩ := ck_s hG; clear hG
      rw [(s_34).1] at q343
      obtain ⟨a344, e345, hG⟩ := rf_s hF; clear hF
      have qa344 : Q a344 := hm.1 _ _ _ qa341 e345
      obtain ⟨n346, q347, hF⟩ := ar_s hG; clear hG
      rw [(s_34).1] at q347
      obtain ⟨q348, hG⟩ := ck_s hF; clear hF
      obtain ⟨x349, -, hF⟩ := bnd_g hG; clear hG
      exact hm.tr (gB_M_getsTables_71 q_p0 ih N l1 x349 H340 r hF hm.1)
set_option maxRecDepth 20000 in
set_option maxHeartbeats 2000000 in
theorem g_M_getsTables {N : Nat} {Q : Nat → Prop} {p0 : Nat} {H : Hp} {r : Unit × Hp} (hF : F_M_getsTables N p0 H = some r) (hc0 : Cl Q H) (q_p0 : Q p0) : Rg Q H r.2 := by
  unfold F_M_getsTables at hF
  have hm := Rg.rf hc0
  obtain ⟨q350, hG⟩ := ck_s hF; clear hF
  obtain ⟨v352, H353, z351, hF⟩ := bC_s hG; clear hG
  have gz_35 := (g_M_getsExactly z351 hm.1 q_p0)
  replace hm : Rg Q H H353 := hm.tr gz_35
  have s_36 : Sa H H353 := (m_M_getsExactly z351)
  obtain ⟨v355, H356, z354, hG⟩ := bC_s hF; clear hF
  have gz_37 := (g_M_getsExactly z354 hm.1 q_p0)
  replace hm : Rg Q H H356 := hm.tr gz_37
  have s_38 : Sa H H356 := (s_36).tr (m_M_getsExactly z354)
  obtain ⟨a357, e358, hF⟩ := rf_s hG; clear hG
  have qa357 : Q a357 := hm.1 _ _ _ q_p0 e358
  obtain ⟨q359, hG⟩ := ck_s hF; clear hF
  rw [(s_38).1] at q359
  obtain ⟨x360, -, hF⟩ := bnd_g hG; clear hG
  obtain ⟨v362, H363, z361, hG⟩ := bC_s hF; clear hF
  have gz_39 := (g_M_getsExactly z361 hm.1 q_p0)
  replace hm : Rg Q H H363 := hm.tr gz_39
  have s_40 : Sa H H363 := (s_38).tr (m_M_getsExactly z361)
  exact hm.tr (gB_M_getsTables_25 q_p0 N 0 H363 r hG hm.1)
set_option maxRecDepth 20000 in
set_option maxHeartbeats 2000000 in
theorem gB_M_getsOf_42 {N : Nat} {Q : Nat → Prop} {p0 : Nat} {p1 : Int32} (q_p0 : Q p0) {w0 : Nat} {w1 : Int32} {w2 : Int32} {H : Hp} {r : Int32 × Hp} (hF : B_M_getsOf_42 N p0 p1 w0 w1 w2 H = some r) (hc0 : Cl Q H) (q_w0 : Q w0) : Rg Q H r.2 := by
  unfold B_M_getsOf_42 at hF
  have hm := Rg.rf hc0
  obtain ⟨q31, hG⟩ := ck_s hF; clear hF
  obtain ⟨v33, H34, z32, hF⟩ := bC_s hG; clear hG
  have gz_10 := (g_M_gets z32 hm.1 q_w0)
  replace hm : Rg Q H H34 := hm.tr gz_10
  have s_11 : Sa H H34 := (m_M_gets z32)
  have hr := Option.some.inj hF; subst hr
  exact hm
set_option maxRecDepth 20000 in
set_option maxHeartbeats 2000000 in
theorem g_M_getsOf {N : Nat} {Q : Nat → Prop} {p0 : Nat} {p1 : Int32} {H : Hp} {r : Int32 × Hp} (hF : F_M_getsOf N p0 p1 H = some r) (hc0 : Cl Q H) (q_p0 : Q p0) : Rg Q H r.2 := by
  unfold F_M_getsOf at hF
  have hm := Rg.rf hc0
  rcases ite_s hF with ⟨q_12, hG⟩ | ⟨q_12, hG⟩
  · clear hF
    obtain ⟨q36, hF⟩ := ck_s hG; clear hG
    obtain ⟨v38, H39, z37, hG⟩ := bC_s hF; clear hF
    have gz_13 := (g_M_gets z37 hm.1 q_p0)
    replace hm : Rg Q H H39 := hm.tr gz_13
    have s_14 : Sa H H39 := (m_M_gets z37)
    have hr := Option.some.inj hG; subst hr
    exact hm
  · clear hF
    rcases ite_s hG with ⟨q_15, hF⟩ | ⟨q_15, hF⟩
    · clear hG
      obtain ⟨q41, hG⟩ := ck_s hF; clear hF
      obtain ⟨v43, H44, z42, hF⟩ := bC_s hG; clear hG
      have gz_16 := (g_M_gets z42 hm.1 q_p0)
      replace hm : Rg Q H H44 := hm.tr gz_16
      have s_17 : Sa H H44 := (m_M_gets z42)
      have hr := Option.some.inj hF; subst hr
      exact hm
    · clear hG
      rcases ite_s hF with ⟨q_18, hG⟩ | ⟨q_18, hG⟩
      · clear hF
        exact hm.tr (gB_M_getsOf_42 q_p0 hG hm.1 q_p0)
      · clear hF
        exact hm.tr (gB_M_getsOf_42 q_p0 hG hm.1 q_p0)
set_option maxRecDepth 20000 in
set_option maxHeartbeats 2000000 in
theorem gB_M_getsPlaces_168 {N : Nat} {Q : Nat → Prop} {p0 : Nat} {p1 : Nat} {kq2 : Int32 → Hp → Option (Unit × Hp)} {kq84 : Int32 → Int32 → Hp → Option (Unit × Hp)} (q_p0 : Q p0) (q_p1 : Q p1) (hg2 : ∀ (l2 : Int32) (H : Hp) (r : Unit × Hp), kq2 l2 H = some r → Cl Q H → Rg Q H r.2) (hg84 : ∀ (l2 : Int32) (l3 : Int32) (H : Hp) (r : Unit × Hp), kq84 l2 l3 H = some r → Cl Q H → Rg Q H r.2) {l2 : Int32} {l3 : Int32} {H : Hp} {r : Unit × Hp} (hF : B_M_getsPlaces_168 N p0 p1 kq2 kq84 l2 l3 H = some r) (hc0 : Cl Q H) : Rg Q H r.2 := by
  unfold B_M_getsPlaces_168 at hF
  have hm := Rg.rf hc0
  exact hm.tr (hg84 l2 (l3 + 1) H r hF hm.1)
set_option maxRecDepth 20000 in
set_option maxHeartbeats 2000000 in
theorem gB_M_getsPlaces_106 {N : Nat} {Q : Nat → Prop} {p0 : Nat} {p1 : Nat} {kq2 : Int32 → Hp → Option (Unit × Hp)} {kq84 : Int32 → Int32 → Hp → Option (Unit × Hp)} (q_p0 : Q p0) (q_p1 : Q p1) (hg2 : ∀ (l2 : Int32) (H : Hp) (r : Unit × Hp), kq2 l2 H = some r → Cl Q H → Rg Q H r.2) (hg84 : ∀ (l2 : Int32) (l3 : Int32) (H : Hp) (r : Unit × Hp), kq84 l2 l3 H = some r → Cl Q H → Rg Q H r.2) : ∀ (n : Nat) (l2 : Int32) (l3 : Int32) (l4 : Int32) (H : Hp) (r : Unit × Hp), B_M_getsPlaces_106 N p0 p1 kq2 kq84 n l2 l3 l4 H = some r → Cl Q H → Rg Q H r.2 := by
  intro n
  induction n with
  | zero => intro l2 l3 l4 H r hF; rw [B_M_getsPlaces_106] at hF; cases hF
  | succ n ih =>
    intro l2 l3 l4 H r hF hc0
    rw [B_M_getsPlaces_106] at hF
    have hm := Rg.rf hc0
    obtain ⟨q193, hG⟩ := ck_s hF; clear hF
    obtain ⟨a194, e195, hF⟩ := rf_s hG; clear hG
    have qa194 : Q a194 := hm.1 _ _ _ q_p0 e195
    obtain ⟨q196, hG⟩ := ck_s hF; clear hF
    obtain ⟨a197, e198, hF⟩ := rf_s hG; clear hG
    have qa197 : Q a197 := hm.1 _ _ _ qa194 e198
    obtain ⟨n199, q200, hG⟩ := ar_s hF; clear hF
    obtain ⟨q201, hF⟩ := ck_s hG; clear hG
    obtain ⟨x202, -, hG⟩ := bnd_g hF; clear hF
    rcases ite_s hG with ⟨q_23, hF⟩ | ⟨q_23, hF⟩
    · clear hG
      exact hm.tr (gB_M_getsPlaces_168 q_p0 q_p1 hg2 hg84 hF hm.1)
    · clear hG
      obtain ⟨q204, hG⟩ := ck_s hF; clear hF
      obtain ⟨a205, e206, hF⟩ := rf_s hG; clear hG
      have qa205 : Q a205 := hm.1 _ _ _ q_p1 e206
      obtain ⟨n207, q208, hG⟩ := ar_s hF; clear hF
      obtain ⟨q209, hF⟩ := ck_s hG; clear hG
      obtain ⟨x210, -, hG⟩ := bnd_g hF; clear hF
      rcases ite_s hG with ⟨q_24, hF⟩ | ⟨q_24, hF⟩
      · clear hG
        obtain ⟨a212, e213, hG⟩ := rf_s hF; clear hF
        have qa212 : Q a212 := hm.1 _ _ _ q_p1 e213
        obtain ⟨a214, e215, hF⟩ := rf_s hG; clear hG
        have qa214 : Q a214 := hm.1 _ _ _ q_p0 e215
        obtain ⟨q216, hG⟩ := ck_s hF; clear hF
        obtain ⟨a217, e218, hF⟩ := rf_s hG; clear hG
        have qa217 : Q a217 := hm.1 _ _ _ qa214 e218
        obtain ⟨n219, q220, hG⟩ := ar_s hF; clear hF
        obtain ⟨q221, hF⟩ := ck_s hG; clear hG
        obtain ⟨x222, -, hG⟩ := bnd_g hF; clear hF
        obtain ⟨v224, H225, z223, hF⟩ := bC_s hG; clear hG
        have gz_25 := (g_M_getsOf z223 hm.1 q_p0)
        replace hm : Rg Q H H225 := hm.tr gz_25
        have s_26 : Sa H H225 := (m_M_getsOf z223)
        obtain ⟨n226, q227, hG⟩ := ar_s hF; clear hF
        rw [(s_26).1] at q227
        obtain ⟨q228, hF⟩ := ck_s hG; clear hG
        obtain ⟨H229, eH229, hG⟩ := bnd_g hF; clear hF
        replace hm : Rg Q H H229 := hm.tr (by rw [eH229]; exact Rg.sD hm.1 qa212)
        have s_27 : Sa H H229 := by rw [eH229]; exact s_26
        exact hm.tr (ih l2 l3 (l4 + 1) H229 r hG hm.1)
      · clear hG
        exact hm.tr (gB_M_getsPlaces_168 q_p0 q_p1 hg2 hg84 hF hm.1)
set_option maxRecDepth 20000 in
set_option maxHeartbeats 2000000 in
theorem gB_M_getsPlaces_84 {N : Nat} {Q : Nat → Prop} {p0 : Nat} {p1 : Nat} {kq2 : Int32 → Hp → Option (Unit × Hp)} (q_p0 : Q p0) (q_p1 : Q p1) (hg2 : ∀ (l2 : Int32) (H : Hp) (r : Unit × Hp), kq2 l2 H = some r → Cl Q H → Rg Q H r.2) : ∀ (n : Nat) (l2 : Int32) (l3 : Int32) (H : Hp) (r : Unit × Hp), B_M_getsPlaces_84 N p0 p1 kq2 n l2 l3 H = some r → Cl Q H → Rg Q H r.2 := by
  intro n
  induction n with
  | zero => intro l2 l3 H r hF; rw [B_M_getsPlaces_84] at hF; cases hF
  | succ n ih =>
    intro l2 l3 H r hF hc0
    rw [B_M_getsPlaces_84] at hF
    have hm := Rg.rf hc0
    obtain ⟨q230, hG⟩ := ck_s hF; clear hF
    obtain ⟨a231, e232, hF⟩ := rf_s hG; clear hG
    have qa231 : Q a231 := hm.1 _ _ _ q_p0 e232
    obtain ⟨q233, hG⟩ := ck_s hF; clear hF
    obtain ⟨x234, -, hF⟩ := bnd_g hG; clear hG
    rcases ite_s hF with ⟨q_28, hG⟩ | ⟨q_28, hG⟩
    · clear hF
      exact hm.tr (hg2 (l2 + 1) H r hG hm.1)
    · clear hF
      obtain ⟨a236, e237, hF⟩ := rf_s hG; clear hG
      have qa236 : Q a236 := hm.1 _ _ _ q_p0 e237
      obtain ⟨q238, hG⟩ := ck_s hF; clear hF
      obtain ⟨a239, e240, hF⟩ := rf_s hG; clear hG
      have qa239 : Q a239 := hm.1 _ _ _ qa236 e240
      obtain ⟨n241, q242, hG⟩ := ar_s hF; clear hF
      obtain ⟨q243, hF⟩ := ck_s hG; clear hG
      obtain ⟨x244, -, hG⟩ := bnd_g hF; clear hF
      exact hm.tr (gB_M_getsPlaces_106 q_p0 q_p1 hg2 ih N l2 l3 x244 H r hG hm.1)
set_option maxRecDepth 20000 in
set_option maxHeartbeats 2000000 in
theorem gB_M_getsPlaces_81 {N : Nat} {Q : Nat → Prop} {p0 : Nat} {p1 : Nat} {kq2 : Int32 → Hp → Option (Unit × Hp)} (q_p0 : Q p0) (q_p1 : Q p1) (hg2 : ∀ (l2 : Int32) (H : Hp) (r : Unit × Hp), kq2 l2 H = some r → Cl Q H → Rg Q H r.2) {l2 : Int32} {w0 : Nat} {w1 : Int32} {w2 : Int32} {H : Hp} {r : Unit × Hp} (hF : B_M_getsPlaces_81 N p0 p1 kq2 l2 w0 w1 w2 H = some r) (hc0 : Cl Q H) (q_w0 : Q w0) : Rg Q H r.2 := by
  unfold B_M_getsPlaces_81 at hF
  have hm := Rg.rf hc0
  obtain ⟨n245, q246, hG⟩ := ar_s hF; clear hF
  obtain ⟨q247, hF⟩ := ck_s hG; clear hG
  obtain ⟨H248, eH248, hG⟩ := bnd_g hF; clear hF
  replace hm : Rg Q H H248 := hm.tr (by rw [eH248]; exact Rg.sD hm.1 q_w0)
  have s_29 : Sa H H248 := by rw [eH248]; exact Sa.rf _
  exact hm.tr (gB_M_getsPlaces_84 q_p0 q_p1 hg2 N l2 0 H248 r hG hm.1)
set_option maxRecDepth 20000 in
set_option maxHeartbeats 2000000 in
theorem gB_M_getsPlaces_45 {N : Nat} {Q : Nat → Prop} {p0 : Nat} {p1 : Nat} {kq2 : Int32 → Hp → Option (Unit × Hp)} (q_p0 : Q p0) (q_p1 : Q p1) (hg2 : ∀ (l2 : Int32) (H : Hp) (r : Unit × Hp), kq2 l2 H = some r → Cl Q H → Rg Q H r.2) {l2 : Int32} {w0 : Nat} {w1 : Int32} {w2 : Int32} {H : Hp} {r : Unit × Hp} (hF : B_M_getsPlaces_45 N p0 p1 kq2 l2 w0 w1 w2 H = some r) (hc0 : Cl Q H) (q_w0 : Q w0) : Rg Q H r.2 := by
  unfold B_M_getsPlaces_45 at hF
  have hm := Rg.rf hc0
  obtain ⟨n249, q250, hG⟩ := ar_s hF; clear hF
  obtain ⟨q251, hF⟩ := ck_s hG; clear hG
  obtain ⟨H252, eH252, hG⟩ := bnd_g hF; clear hF
  replace hm : Rg Q H H252 := hm.tr (by rw [eH252]; exact Rg.sD hm.1 q_w0)
  have s_30 : Sa H H252 := by rw [eH252]; exact Sa.rf _
  obtain ⟨q253, hF⟩ := ck_s hG; clear hG
  rw [(s_30).1] at q253
  obtain ⟨a254, e255, hG⟩ := rf_s hF; clear hF
  have qa254 : Q a254 := hm.1 _ _ _ q_p1 e255
  obtain ⟨a256, e257, hF⟩ := rf_s hG; clear hG
  have qa256 : Q a256 := hm.1 _ _ _ q_p1 e257
  obtain ⟨n258, q259, hG⟩ := ar_s hF; clear hF
  rw [(s_30).1] at q259
  obtain ⟨q260, hF⟩ := ck_s hG; clear hG
  obtain ⟨x261, -, hG⟩ := bnd_g hF; clear hF
  rcases ite_s hG with ⟨q_31, hF⟩ | ⟨q_31, hF⟩
  · clear hG
    exact hm.tr (gB_M_getsPlaces_81 q_p0 q_p1 hg2 hF hm.1 qa254)
  · clear hG
    obtain ⟨q263, hG⟩ := ck_s hF; clear hF
    rw [(s_30).1] at q263
    obtain ⟨a264, e265, hF⟩ := rf_s hG; clear hG
    have qa264 : Q a264 := hm.1 _ _ _ q_p0 e265
    obtain ⟨q266, hG⟩ := ck_s hF; clear hF
    rw [(s_30).1] at q266
    obtain ⟨x267, -, hF⟩ := bnd_g hG; clear hG
    obtain ⟨v269, H270, z268, hG⟩ := bC_s hF; clear hF
    have gz_32 := (g_M_gets z268 hm.1 q_p0)
    replace hm : Rg Q H H270 := hm.tr gz_32
    have s_33 : Sa H H270 := (s_30).tr (m_M_gets z268)
    exact hm.tr (gB_M_getsPlaces_81 q_p0 q_p1 hg2 hG hm.1 qa254)
set_option maxRecDepth 20000 in
set_option maxHeartbeats 2000000 in
theorem gB_M_getsPlaces_2 {N : Nat} {Q : Nat → Prop} {p0 : Nat} {p1 : Nat} (q_p0 : Q p0) (q_p1 : Q p1) : ∀ (n : Nat) (l2 : Int32) (H : Hp) (r : Unit × Hp), B_M_getsPlaces_2 N p0 p1 n l2 H = some r → Cl Q H → Rg Q H r.2 := by
  intro n
  induction n with
  | zero => intro l2 H r hF; rw [B_M_getsPlaces_2] at hF; cases hF
  | succ n ih =>
    intro l2 H r hF hc0
    rw [B_M_getsPlaces_2] at hF
    have hm := Rg.rf hc0
    rcases ite_s hF with ⟨q_34, hG⟩ | ⟨q_34, hG⟩
    · clear hF
      have hr := Option.some.inj hG; subst hr
      exact hm
    · clear hF
      obtain ⟨q272, hF⟩ := ck_s hG; clear hG
      obtain ⟨a273, e274, hG⟩ := rf_s hF; clear hF
      have qa273 : Q a273 := hm.1 _ _ _ q_p1 e274
      obtain ⟨q275, hF⟩ := ck_s hG; clear hG
      obtain ⟨v277, H278, z276, hG⟩ := bC_s hF; clear hF
      have gz_35 := (g_M_gets z276 hm.1 q_p0)
      replace hm : Rg Q H H278 := hm.tr gz_35
      have s_36 : Sa H H278 := (m_M_gets z276)
      obtain ⟨n279, q280, hF⟩ := ar_s hG; clear hG
      rw [(s_36).1] at q280
      obtain ⟨q281, hG⟩ := ck_s hF; clear hF
      obtain ⟨H282, eH282, hF⟩ := bnd_g hG; clear hG
      replace hm : Rg Q H H282 := hm.tr (by rw [eH282]; exact Rg.sD hm.1 qa273)
      have s_37 : Sa H H282 := by rw [eH282]; exact s_36
      obtain ⟨a283, e284, hG⟩ := rf_s hF; clear hF
      have qa283 : Q a283 := hm.1 _ _ _ q_p1 e284
      obtain ⟨v286, H287, z285, hF⟩ := bC_s hG; clear hG
      have gz_38 := (g_M_gets z285 hm.1 q_p0)
      replace hm : Rg Q H H287 := hm.tr gz_38
      have s_39 : Sa H H287 := (s_37).tr (m_M_gets z285)
      rcases ite_s hF with ⟨q_40, hG⟩ | ⟨q_40, hG⟩
      · clear hF
        exact hm.tr (gB_M_getsPlaces_45 q_p0 q_p1 ih hG hm.1 qa283)
      · clear hF
        exact hm.tr (gB_M_getsPlaces_45 q_p0 q_p1 ih hG hm.1 qa283)
set_option maxRecDepth 20000 in
set_option maxHeartbeats 2000000 in
theorem g_M_getsPlaces {N : Nat} {Q : Nat → Prop} {p0 : Nat} {p1 : Nat} {H : Hp} {r : Unit × Hp} (hF : F_M_getsPlaces N p0 p1 H = some r) (hc0 : Cl Q H) (q_p0 : Q p0) (q_p1 : Q p1) : Rg Q H r.2 := by
  unfold F_M_getsPlaces at hF
  have hm := Rg.rf hc0
  exact hm.tr (gB_M_getsPlaces_2 q_p0 q_p1 N 0 H r hF hm.1)
set_option maxRecDepth 20000 in
set_option maxHeartbeats 2000000 in
theorem gB_M_getsPending_92 {N : Nat} {Q : Nat → Prop} {p0 : Nat} {p1 : Nat} {kq15 : Int32 → Hp → Option (Unit × Hp)} (q_p0 : Q p0) (q_p1 : Q p1) (hg15 : ∀ (l2 : Int32) (H : Hp) (r : Unit × Hp), kq15 l2 H = some r → Cl Q H → Rg Q H r.2) : ∀ (n : Nat) (l2 : Int32) (l3 : Int32) (H : Hp) (r : Unit × Hp), B_M_getsPending_92 N p0 p1 kq15 n l2 l3 H = some r → Cl Q H → Rg Q H r.2 := by
  intro n
  induction n with
  | zero => intro l2 l3 H r hF; rw [B_M_getsPending_92] at hF; cases hF
  | succ n ih =>
    intro l2 l3 H r hF hc0
    rw [B_M_getsPending_92] at hF
    have hm := Rg.rf hc0
    obtain ⟨q175, hG⟩ := ck_s hF; clear hF
    obtain ⟨a176, e177, hF⟩ := rf_s hG; clear hG
    have qa176 : Q a176 := hm.1 _ _ _ q_p0 e177
    obtain ⟨q178, hG⟩ := ck_s hF; clear hF
    obtain ⟨a179, e180, hF⟩ := rf_s hG; clear hG
    have qa179 : Q a179 := hm.1 _ _ _ qa176 e180
    obtain ⟨q181, hG⟩ := ck_s hF; clear hF
    obtain ⟨a182, e183, hF⟩ := rf_s hG; clear hG
    have qa182 : Q a182 := hm.1 _ _ _ q_p1 e183
    obtain ⟨n184, q185, hG⟩ := ar_s hF; clear hF
    obtain ⟨q186, hF⟩ := ck_s hG; clear hG
    obtain ⟨x187, -, hG⟩ := bnd_g hF; clear hF
    obtain ⟨n188, q189, hF⟩ := ar_s hG; clear hG
    obtain ⟨q190, hG⟩ := ck_s hF; clear hF
    obtain ⟨x191, -, hF⟩ := bnd_g hG; clear hG
    rcases ite_s hF with ⟨q_24, hG⟩ | ⟨q_24, hG⟩
    · clear hF
      exact hm.tr (hg15 (l2 + 1) H r hG hm.1)
    · clear hF
      obtain ⟨a193, e194, hF⟩ := rf_s hG; clear hG
      have qa193 : Q a193 := hm.1 _ _ _ q_p1 e194
      obtain ⟨a195, e196, hG⟩ := rf_s hF; clear hF
      have qa195 : Q a195 := hm.1 _ _ _ q_p0 e196
      obtain ⟨q197, hF⟩ := ck_s hG; clear hG
      obtain ⟨a198, e199, hG⟩ := rf_s hF; clear hF
      have qa198 : Q a198 := hm.1 _ _ _ qa195 e199
      obtain ⟨a200, e201, hF⟩ := rf_s hG; clear hG
      have qa200 : Q a200 := hm.1 _ _ _ q_p1 e201
      obtain ⟨n202, q203, hG⟩ := ar_s hF; clear hF
      obtain ⟨q204, hF⟩ := ck_s hG; clear hG
      obtain ⟨x205, -, hG⟩ := bnd_g hF; clear hF
      obtain ⟨n206, q207, hF⟩ := ar_s hG; clear hG
      obtain ⟨q208, hG⟩ := ck_s hF; clear hF
      obtain ⟨x209, -, hF⟩ := bnd_g hG; clear hG
      obtain ⟨v211, H212, z210, hG⟩ := bC_s hF; clear hF
      have gz_25 := (g_M_getsOf z210 hm.1 q_p0)
      replace hm : Rg Q H H212 := hm.tr gz_25
      have s_26 : Sa H H212 := (m_M_getsOf z210)
      obtain ⟨n213, q214, hF⟩ := ar_s hG; clear hG
      rw [(s_26).1] at q214
      obtain ⟨q215, hG⟩ := ck_s hF; clear hF
      obtain ⟨H216, eH216, hF⟩ := bnd_g hG; clear hG
      replace hm : Rg Q H H216 := hm.tr (by rw [eH216]; exact Rg.sD hm.1 qa193)
      have s_27 : Sa H H216 := by rw [eH216]; exact s_26
      exact hm.tr (ih l2 (l3 + 1) H216 r hF hm.1)
set_option maxRecDepth 20000 in
set_option maxHeartbeats 2000000 in
theorem gB_M_getsPending_15 {N : Nat} {Q : Nat → Prop} {p0 : Nat} {p1 : Nat} (q_p0 : Q p0) (q_p1 : Q p1) : ∀ (n : Nat) (l2 : Int32) (H : Hp) (r : Unit × Hp), B_M_getsPending_15 N p0 p1 n l2 H = some r → Cl Q H → Rg Q H r.2 := by
  intro n
  induction n with
  | zero => intro l2 H r hF; rw [B_M_getsPending_15] at hF; cases hF
  | succ n ih =>
    intro l2 H r hF hc0
    rw [B_M_getsPending_15] at hF
    have hm := Rg.rf hc0
    obtain ⟨q217, hG⟩ := ck_s hF; clear hF
    obtain ⟨x218, -, hF⟩ := bnd_g hG; clear hG
    rcases ite_s hF with ⟨q_28, hG⟩ | ⟨q_28, hG⟩
    · clear hF
      have hr := Option.some.inj hG; subst hr
      exact hm
    · clear hF
      obtain ⟨q220, hF⟩ := ck_s hG; clear hG
      obtain ⟨x221, -, hG⟩ := bnd_g hF; clear hF
      rcases ite_s hG with ⟨q_29, hF⟩ | ⟨q_29, hF⟩
      · clear hG
        have hr := Option.some.inj hF; subst hr
        exact hm
      · clear hG
        obtain ⟨a223, e224, hG⟩ := rf_s hF; clear hF
        have qa223 : Q a223 := hm.1 _ _ _ q_p1 e224
        obtain ⟨a225, e226, hF⟩ := rf_s hG; clear hG
        have qa225 : Q a225 := hm.1 _ _ _ q_p0 e226
        obtain ⟨q227, hG⟩ := ck_s hF; clear hF
        obtain ⟨x228, -, hF⟩ := bnd_g hG; clear hG
        obtain ⟨v230, H231, z229, hG⟩ := bC_s hF; clear hF
        have gz_30 := (g_M_gets z229 hm.1 q_p0)
        replace hm : Rg Q H H231 := hm.tr gz_30
        have s_31 : Sa H H231 := (m_M_gets z229)
        obtain ⟨n232, q233, hF⟩ := ar_s hG; clear hG
        rw [(s_31).1] at q233
        obtain ⟨q234, hG⟩ := ck_s hF; clear hF
        obtain ⟨H235, eH235, hF⟩ := bnd_g hG; clear hG
        replace hm : Rg Q H H235 := hm.tr (by rw [eH235]; exact Rg.sD hm.1 qa223)
        have s_32 : Sa H H235 := by rw [eH235]; exact s_31
        obtain ⟨a236, e237, hG⟩ := rf_s hF; clear hF
        have qa236 : Q a236 := hm.1 _ _ _ q_p1 e237
        obtain ⟨x238, -, hF⟩ := bnd_g hG; clear hG
        obtain ⟨x239, -, hG⟩ := bnd_g hF; clear hF
        obtain ⟨v241, H242, z240, hF⟩ := bC_s hG; clear hG
        have gz_33 := (g_M_gets z240 hm.1 q_p0)
        replace hm : Rg Q H H242 := hm.tr gz_33
        have s_34 : Sa H H242 := (s_32).tr (m_M_gets z240)
        obtain ⟨n243, q244, hG⟩ := ar_s hF; clear hF
        rw [(s_34).1] at q244
        obtain ⟨q245, hF⟩ := ck_s hG; clear hG
        obtain ⟨H246, eH246, hG⟩ := bnd_g hF; clear hF
        replace hm : Rg Q H H246 := hm.tr (by rw [eH246]; exact Rg.sD hm.1 qa236)
        have s_35 : Sa H H246 := by rw [eH246]; exact s_34
        obtain ⟨a247, e248, hF⟩ := rf_s hG; clear hG
        have qa247 : Q a247 := hm.1 _ _ _ q_p1 e248
        obtain ⟨v250, H251, z249, hG⟩ := bC_s hF; clear hF
        have gz_36 := (g_M_gets z249 hm.1 q_p0)
        replace hm : Rg Q H H251 := hm.tr gz_36
        have s_37 : Sa H H251 := (s_35).tr (m_M_gets z249)
        obtain ⟨n252, q253, hF⟩ := ar_s hG; clear hG
        rw [(s_37).1] at q253
        obtain ⟨q254, hG⟩ := ck_s hF; clear hF
        obtain ⟨H255, eH255, hF⟩ := bnd_g hG; clear hG
        replace hm : Rg Q H H255 := hm.tr (by rw [eH255]; exact Rg.sD hm.1 qa247)
        have s_38 : Sa H H255 := by rw [eH255]; exact s_37
        exact hm.tr (gB_M_getsPending_92 q_p0 q_p1 ih N l2 0 H255 r hF hm.1)
set_option maxRecDepth 20000 in
set_option maxHeartbeats 2000000 in
theorem g_M_getsPending {N : Nat} {Q : Nat → Prop} {p0 : Nat} {p1 : Nat} {H : Hp} {r : Unit × Hp} (hF : F_M_getsPending N p0 p1 H = some r) (hc0 : Cl Q H) (q_p0 : Q p0) (q_p1 : Q p1) : Rg Q H r.2 := by
  unfold F_M_getsPending at hF
  have hm := Rg.rf hc0
  obtain ⟨q256, hG⟩ := ck_s hF; clear hF
  obtain ⟨v258, H259, z257, hF⟩ := bC_s hG; clear hG
  have gz_39 := (g_M_gets z257 hm.1 q_p0)
  replace hm : Rg Q H H259 := hm.tr gz_39
  have s_40 : Sa H H259 := (m_M_gets z257)
  obtain ⟨q260, hG⟩ := ck_s hF; clear hF
  rw [(s_40).1] at q260
  obtain ⟨H261, eH261, hF⟩ := bnd_g hG; clear hG
  replace hm : Rg Q H H261 := hm.tr (by rw [eH261]; exact Rg.sD hm.1 q_p1)
  have s_41 : Sa H H261 := by rw [eH261]; exact s_40
  exact hm.tr (gB_M_getsPending_15 q_p0 q_p1 N 0 H261 r hF hm.1)
set_option maxRecDepth 20000 in
set_option maxHeartbeats 2000000 in
theorem gB_M_load_137 {N : Nat} {Q : Nat → Prop} {p0 : Nat} (q_p0 : Q p0) {l1 : Nat} {H : Hp} {r : Int32 × Hp} (hF : B_M_load_137 N p0 l1 H = some r) (hc0 : Cl Q H) (q_l1 : Q l1) : Rg Q H r.2 := by
  unfold B_M_load_137 at hF
  have hm := Rg.rf hc0
  obtain ⟨q135, hG⟩ := ck_s hF; clear hF
  obtain ⟨x136, -, hF⟩ := bnd_g hG; clear hG
  rcases ite_s hF with ⟨q_48, hG⟩ | ⟨q_48, hG⟩
  · clear hF
    obtain ⟨a138, e139, hF⟩ := rf_s hG; clear hG
    have qa138 : Q a138 := hm.1 _ _ _ q_p0 e139
    obtain ⟨H140, eH140, hG⟩ := bnd_g hF; clear hF
    replace hm : Rg Q H H140 := hm.tr (by rw [eH140]; exact Rg.sP hm.1 q_p0 (is_rf qa138) q135 rfl)
    have s_49 : Sa H H140 := by rw [eH140]; exact Sa.rf _
    obtain ⟨H141, eH141, hF⟩ := bnd_g hG; clear hG
    replace hm : Rg Q H H141 := hm.tr (by rw [eH141]; exact Rg.sP hm.1 q_p0 (is_rf q_l1) (by rw [(s_49).1]; exact q135) rfl)
    have s_50 : Sa H H141 := by rw [eH141]; exact s_49
    obtain ⟨a142, e143, hG⟩ := rf_s hF; clear hF
    have qa142 : Q a142 := hm.1 _ _ _ q_p0 e143
    obtain ⟨a144, e145, hF⟩ := rf_s hG; clear hG
    have qa144 : Q a144 := hm.1 _ _ _ q_p0 e145
    obtain ⟨q146, hG⟩ := ck_s hF; clear hF
    rw [(s_50).1] at q146
    obtain ⟨v148, H149, z147, hF⟩ := bC_s hG; clear hG
    have gz_51 := (g_MWorld_copies z147 hm.1 qa142 qa144)
    replace hm : Rg Q H H149 := hm.tr gz_51
    have s_52 : Sa H H149 := (s_50).tr (m_MWorld_copies z147)
    obtain ⟨v151, H152, z150, hG⟩ := bC_s hF; clear hF
    have gz_53 := (g_M_forgets z150 hm.1 q_p0)
    replace hm : Rg Q H H152 := hm.tr gz_53
    have s_54 : Sa H H152 := (s_52).tr (m_M_forgets z150)
    have hr := Option.some.inj hG; subst hr
    exact hm
  · clear hF
    obtain ⟨x153, -, hF⟩ := bnd_g hG; clear hG
    have hr := Option.some.inj hF; subst hr
    exact hm
set_option maxRecDepth 20000 in
set_option maxHeartbeats 2000000 in
theorem g_M_load {N : Nat} {Q : Nat → Prop} {p0 : Nat} {H : Hp} {r : Int32 × Hp} (hF : F_M_load N p0 H = some r) (hc0 : Cl Q H) (q_p0 : Q p0) : Rg Q H r.2 := by
  unfold F_M_load at hF
  have hm := Rg.rf hc0
  obtain ⟨q154, hG⟩ := ck_s hF; clear hF
  obtain ⟨H155, eH155, hF⟩ := bnd_g hG; clear hG
  replace hm : Rg Q H H155 := hm.tr (by rw [eH155]; exact Rg.sD hm.1 q_p0)
  have s_55 : Sa H H155 := by rw [eH155]; exact Sa.rf _
  obtain ⟨v157, H158, z156, hG⟩ := bC_s hF; clear hF
  have gz_56 := (g_M_isQuiet z156 hm.1 q_p0)
  replace hm : Rg Q H H158 := hm.tr gz_56
  have s_57 : Sa H H158 := (s_55).tr (m_M_isQuiet z156)
  rcases ite_s hG with ⟨q_58, hF⟩ | ⟨q_58, hF⟩
  · clear hG
    have hr := Option.some.inj hF; subst hr
    exact hm
  · clear hG
    obtain ⟨x160, -, hG⟩ := bnd_g hF; clear hF
    rcases ite_s hG with ⟨q_59, hF⟩ | ⟨q_59, hF⟩
    · clear hG
      have hr := Option.some.inj hF; subst hr
      exact hm
    · clear hG
      obtain ⟨H162, eH162, hG⟩ := bnd_g hF; clear hF
      replace hm : Rg Q H H162 := hm.tr (by rw [eH162]; exact Rg.sD hm.1 q_p0)
      have s_60 : Sa H H162 := by rw [eH162]; exact s_57
      obtain ⟨H163, eH163, hF⟩ := bnd_g hG; clear hG
      replace hm : Rg Q H H163 := hm.tr (by rw [eH163]; exact Rg.sD hm.1 q_p0)
      have s_61 : Sa H H163 := by rw [eH163]; exact s_60
      obtain ⟨a164, e165, hG⟩ := rf_s hF; clear hF
      have qa164 : Q a164 := hm.1 _ _ _ q_p0 e165
      obtain ⟨q166, hF⟩ := ck_s hG; clear hG
      rw [(s_61).1] at q166
      obtain ⟨v168, H169, z167, hG⟩ := bC_s hF; clear hF
      have gz_62 := (g_MWorld_begin z167 hm.1 qa164)
      replace hm : Rg Q H H169 := hm.tr gz_62
      have s_63 : Sa H H169 := (s_61).tr (m_MWorld_begin z167)
      obtain ⟨v171, H172, z170, hF⟩ := bC_s hG; clear hG
      have gz_64 := (g_M_getsTables z170 hm.1 q_p0)
      replace hm : Rg Q H H172 := hm.tr gz_64
      have s_65 : Sa H H172 := (s_63).tr (m_M_getsTables z170)
      obtain ⟨v174, H175, z173, hG⟩ := bC_s hF; clear hF
      have gz_66 := (g_M_gets z173 hm.1 q_p0)
      replace hm : Rg Q H H175 := hm.tr gz_66
      have s_67 : Sa H H175 := (s_65).tr (m_M_gets z173)
      obtain ⟨H176, eH176, hF⟩ := bnd_g hG; clear hG
      replace hm : Rg Q H H176 := hm.tr (by rw [eH176]; exact Rg.sD hm.1 qa164)
      have s_68 : Sa H H176 := by rw [eH176]; exact s_67
      obtain ⟨v178, H179, z177, hG⟩ := bC_s hF; clear hF
      have gz_69 := (g_M_gets z177 hm.1 q_p0)
      replace hm : Rg Q H H179 := hm.tr gz_69
      have s_70 : Sa H H179 := (s_68).tr (m_M_gets z177)
      obtain ⟨H180, eH180, hF⟩ := bnd_g hG; clear hG
      replace hm : Rg Q H H180 := hm.tr (by rw [eH180]; exact Rg.sD hm.1 qa164)
      have s_71 : Sa H H180 := by rw [eH180]; exact s_70
      obtain ⟨v182, H183, z181, hG⟩ := bC_s hF; clear hF
      have gz_72 := (g_M_gets z181 hm.1 q_p0)
      replace hm : Rg Q H H183 := hm.tr gz_72
      have s_73 : Sa H H183 := (s_71).tr (m_M_gets z181)
      obtain ⟨H184, eH184, hF⟩ := bnd_g hG; clear hG
      replace hm : Rg Q H H184 := hm.tr (by rw [eH184]; exact Rg.sD hm.1 qa164)
      have s_74 : Sa H H184 := by rw [eH184]; exact s_73
      obtain ⟨v186, H187, z185, hG⟩ := bC_s hF; clear hF
      have gz_75 := (g_M_gets z185 hm.1 q_p0)
      replace hm : Rg Q H H187 := hm.tr gz_75
      have s_76 : Sa H H187 := (s_74).tr (m_M_gets z185)
      obtain ⟨H188, eH188, hF⟩ := bnd_g hG; clear hG
      replace hm : Rg Q H H188 := hm.tr (by rw [eH188]; exact Rg.sD hm.1 qa164)
      have s_77 : Sa H H188 := by rw [eH188]; exact s_76
      obtain ⟨v190, H191, z189, hG⟩ := bC_s hF; clear hF
      have gz_78 := (g_M_getsPlaces z189 hm.1 q_p0 qa164)
      replace hm : Rg Q H H191 := hm.tr gz_78
      have s_79 : Sa H H191 := (s_77).tr (m_M_getsPlaces z189)
      obtain ⟨v193, H194, z192, hF⟩ := bC_s hG; clear hG
      have gz_80 := (g_M_getsPending z192 hm.1 q_p0 qa164)
      replace hm : Rg Q H H194 := hm.tr gz_80
      have s_81 : Sa H H194 := (s_79).tr (m_M_getsPending z192)
      obtain ⟨x195, -, hG⟩ := bnd_g hF; clear hF
      rcases ite_s hG with ⟨q_82, hF⟩ | ⟨q_82, hF⟩
      · clear hG
        exact hm.tr (gB_M_load_137 q_p0 hF hm.1 qa164)
      · clear hG
        obtain ⟨x197, -, hG⟩ := bnd_g hF; clear hF
        obtain ⟨x198, -, hF⟩ := bnd_g hG; clear hG
        rcases ite_s hF with ⟨q_83, hG⟩ | ⟨q_83, hG⟩
        · clear hF
          exact hm.tr (gB_M_load_137 q_p0 hG hm.1 qa164)
        · clear hF
          obtain ⟨x200, -, hF⟩ := bnd_g hG; clear hG
          obtain ⟨H201, eH201, hG⟩ := bnd_g hF; clear hF
          replace hm : Rg Q H H201 := hm.tr (by rw [eH201]; exact Rg.sD hm.1 q_p0)
          have s_84 : Sa H H201 := by rw [eH201]; exact s_81
          exact hm.tr (gB_M_load_137 q_p0 hG hm.1 qa164)
