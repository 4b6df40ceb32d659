set_option maxRecDepth 20000 in
set_option maxHeartbeats 2000000 in
theorem gB_MText_constant_301 {N : Nat} {Q : Nat → Prop} {p0 : Nat} {p1 : Int32} (q_p0 : Q p0) {w0 : Int32} {w1 : Int64} {H : Hp} {r : Int32 × Hp} (hF : B_MText_constant_301 N p0 p1 w0 w1 H = some r) (hc0 : Cl Q H) : Rg Q H r.2 := by
  unfold B_MText_constant_301 at hF
  have hm := Rg.rf hc0
  obtain ⟨v202, H203, z201, hG⟩ := bC_s hF; clear hF
  have gz_53 := (g_M_held z201 hm.1)
  replace hm : Rg Q H H203 := hm.tr gz_53
  have s_54 : Sa H H203 := (m_M_held z201)
  have hr := Option.some.inj hG; subst hr
  exact hm
set_option maxRecDepth 20000 in
set_option maxHeartbeats 2000000 in
theorem gB_MText_constant_284 {N : Nat} {Q : Nat → Prop} {p0 : Nat} {p1 : Int32} (q_p0 : Q p0) {l3 : Int32} {w0 : Int32} {H : Hp} {r : Int32 × Hp} (hF : B_MText_constant_284 N p0 p1 l3 w0 H = some r) (hc0 : Cl Q H) : Rg Q H r.2 := by
  unfold B_MText_constant_284 at hF
  have hm := Rg.rf hc0
  rcases ite_s hF with ⟨q_55, hG⟩ | ⟨q_55, hG⟩
  · clear hF
    exact hm.tr (gB_MText_constant_301 q_p0 hG hm.1)
  · clear hF
    exact hm.tr (gB_MText_constant_301 q_p0 hG hm.1)
set_option maxRecDepth 20000 in
set_option maxHeartbeats 2000000 in
theorem gB_MText_constant_215 {N : Nat} {Q : Nat → Prop} {p0 : Nat} {p1 : Int32} (q_p0 : Q p0) {l3 : Int32} {l4 : Int32} {l5 : Int32} {H : Hp} {r : Int32 × Hp} (hF : B_MText_constant_215 N p0 p1 l3 l4 l5 H = some r) (hc0 : Cl Q H) : Rg Q H r.2 := by
  unfold B_MText_constant_215 at hF
  have hm := Rg.rf hc0
  obtain ⟨q205, hG⟩ := ck_s hF; clear hF
  obtain ⟨x206, -, hF⟩ := bnd_g hG; clear hG
  rcases ite_s hF with ⟨q_56, hG⟩ | ⟨q_56, hG⟩
  · clear hF
    obtain ⟨x208, -, hF⟩ := bnd_g hG; clear hG
    obtain ⟨H209, eH209, hG⟩ := bnd_g hF; clear hF
    replace hm : Rg Q H H209 := hm.tr (by rw [eH209]; exact Rg.sD hm.1 q_p0)
    have s_57 : Sa H H209 := by rw [eH209]; exact Sa.rf _
    rcases ite_s hG with ⟨q_58, hF⟩ | ⟨q_58, hF⟩
    · clear hG
      obtain ⟨a211, e212, hG⟩ := rf_s hF; clear hF
      have qa211 : Q a211 := hm.1 _ _ _ q_p0 e212
      obtain ⟨n213, q214, hF⟩ := ar_s hG; clear hG
      rw [(s_57).1] at q214
      obtain ⟨q215, hG⟩ := ck_s hF; clear hF
      obtain ⟨x216, -, hF⟩ := bnd_g hG; clear hG
      rcases ite_s hF with ⟨q_59, hG⟩ | ⟨q_59, hG⟩
      · clear hF
        exact hm.tr (gB_MText_constant_284 q_p0 hG hm.1)
      · clear hF
        obtain ⟨a218, e219, hF⟩ := rf_s hG; clear hG
        have qa218 : Q a218 := hm.1 _ _ _ q_p0 e219
        obtain ⟨n220, q221, hG⟩ := ar_s hF; clear hF
        rw [(s_57).1] at q221
        obtain ⟨q222, hF⟩ := ck_s hG; clear hG
        obtain ⟨x223, -, hG⟩ := bnd_g hF; clear hF
        rcases ite_s hG with ⟨q_60, hF⟩ | ⟨q_60, hF⟩
        · clear hG
          exact hm.tr (gB_MText_constant_284 q_p0 hF hm.1)
        · clear hG
          exact hm.tr (gB_MText_constant_284 q_p0 hF hm.1)
    · clear hG
      obtain ⟨a225, e226, hG⟩ := rf_s hF; clear hF
      have qa225 : Q a225 := hm.1 _ _ _ q_p0 e226
      obtain ⟨n227, q228, hF⟩ := ar_s hG; clear hG
      rw [(s_57).1] at q228
      obtain ⟨q229, hG⟩ := ck_s hF; clear hF
      obtain ⟨x230, -, hF⟩ := bnd_g hG; clear hG
      exact hm.tr (gB_MText_constant_284 q_p0 hF hm.1)
  · clear hF
    have hr := Option.some.inj hG; subst hr
    exact hm
set_option maxRecDepth 20000 in
set_option maxHeartbeats 2000000 in
theorem gB_MText_constant_202 {N : Nat} {Q : Nat → Prop} {p0 : Nat} {p1 : Int32} (q_p0 : Q p0) {l2 : Int32} {l3 : Int32} {l4 : Int32} {l5 : Int32} {w0 : Int32} {H : Hp} {r : Int32 × Hp} (hF : B_MText_constant_202 N p0 p1 l2 l3 l4 l5 w0 H = some r) (hc0 : Cl Q H) : Rg Q H r.2 := by
  unfold B_MText_constant_202 at hF
  have hm := Rg.rf hc0
  rcases ite_s hF with ⟨q_61, hG⟩ | ⟨q_61, hG⟩
  · clear hF
    obtain ⟨q232, hF⟩ := ck_s hG; clear hG
    obtain ⟨v234, H235, z233, hG⟩ := bC_s hF; clear hF
    have gz_62 := (g_MText_fails z233 hm.1 q_p0)
    replace hm : Rg Q H H235 := hm.tr gz_62
    have s_63 : Sa H H235 := (m_MText_fails z233)
    exact hm.tr (gB_MText_constant_215 q_p0 hG hm.1)
  · clear hF
    exact hm.tr (gB_MText_constant_215 q_p0 hG hm.1)
set_option maxRecDepth 20000 in
set_option maxHeartbeats 2000000 in
theorem gB_MText_constant_140 {N : Nat} {Q : Nat → Prop} {p0 : Nat} {p1 : Int32} (q_p0 : Q p0) {l2 : Int32} {l3 : Int32} {l4 : Int32} {l5 : Int32} {H : Hp} {r : Int32 × Hp} (hF : B_MText_constant_140 N p0 p1 l2 l3 l4 l5 H = some r) (hc0 : Cl Q H) : Rg Q H r.2 := by
  unfold B_MText_constant_140 at hF
  have hm := Rg.rf hc0
  exact hm.tr (gB_MText_constant_202 q_p0 hF hm.1)
set_option maxRecDepth 20000 in
set_option maxHeartbeats 2000000 in
theorem gB_MText_constant_123 {N : Nat} {Q : Nat → Prop} {p0 : Nat} {p1 : Int32} (q_p0 : Q p0) {l2 : Int32} {l3 : Int32} {l4 : Int32} {l5 : Int32} {H : Hp} {r : Int32 × Hp} (hF : B_MText_constant_123 N p0 p1 l2 l3 l4 l5 H = some r) (hc0 : Cl Q H) : Rg Q H r.2 := by
  unfold B_MText_constant_123 at hF
  have hm := Rg.rf hc0
  obtain ⟨q236, hG⟩ := ck_s hF; clear hF
  obtain ⟨v238, H239, z237, hF⟩ := bC_s hG; clear hG
  have gz_64 := (g_MText_is z237 hm.1 q_p0)
  replace hm : Rg Q H H239 := hm.tr gz_64
  have s_65 : Sa H H239 := (m_MText_is z237)
  rcases ite_s hF with ⟨q_66, hG⟩ | ⟨q_66, hG⟩
  · clear hF
    obtain ⟨v242, H243, z241, hF⟩ := bC_s hG; clear hG
    have gz_67 := (g_MText_is z241 hm.1 q_p0)
    replace hm : Rg Q H H243 := hm.tr gz_67
    have s_68 : Sa H H243 := (s_65).tr (m_MText_is z241)
    rcases ite_s hF with ⟨q_69, hG⟩ | ⟨q_69, hG⟩
    · clear hF
      obtain ⟨v246, H247, z245, hF⟩ := bC_s hG; clear hG
      have gz_70 := (g_MText_is z245 hm.1 q_p0)
      replace hm : Rg Q H H247 := hm.tr gz_70
      have s_71 : Sa H H247 := (s_68).tr (m_MText_is z245)
      rcases ite_s hF with ⟨q_72, hG⟩ | ⟨q_72, hG⟩
      · clear hF
        rcases ite_s hG with ⟨q_73, hF⟩ | ⟨q_73, hF⟩
        · clear hG
          exact hm.tr (gB_MText_constant_202 q_p0 hF hm.1)
        · clear hG
          exact hm.tr (gB_MText_constant_202 q_p0 hF hm.1)
      · clear hF
        rcases ite_s hG with ⟨q_74, hF⟩ | ⟨q_74, hF⟩
        · clear hG
          exact hm.tr (gB_MText_constant_202 q_p0 hF hm.1)
        · clear hG
          exact hm.tr (gB_MText_constant_202 q_p0 hF hm.1)
    · clear hF
      rcases ite_s hG with ⟨q_75, hF⟩ | ⟨q_75, hF⟩
      · clear hG
        exact hm.tr (gB_MText_constant_202 q_p0 hF hm.1)
      · clear hG
        exact hm.tr (gB_MText_constant_202 q_p0 hF hm.1)
  · clear hF
    rcases ite_s hG with ⟨q_76, hF⟩ | ⟨q_76, hF⟩
    · clear hG
      exact hm.tr (gB_MText_constant_140 q_p0 hF hm.1)
    · clear hG
      rcases ite_s hF with ⟨q_77, hG⟩ | ⟨q_77, hG⟩
      · clear hF
        exact hm.tr (gB_MText_constant_140 q_p0 hG hm.1)
      · clear hF
        exact hm.tr (gB_MText_constant_202 q_p0 hG hm.1)
set_option maxRecDepth 20000 in
set_option maxHeartbeats 2000000 in
theorem gB_MText_constant_101 {N : Nat} {Q : Nat → Prop} {p0 : Nat} {p1 : Int32} (q_p0 : Q p0) {l2 : Int32} {l3 : Int32} {l4 : Int32} {l5 : Int32} {H : Hp} {r : Int32 × Hp} (hF : B_MText_constant_101 N p0 p1 l2 l3 l4 l5 H = some r) (hc0 : Cl Q H) : Rg Q H r.2 := by
  unfold B_MText_constant_101 at hF
  have hm := Rg.rf hc0
  rcases ite_s hF with ⟨q_78, hG⟩ | ⟨q_78, hG⟩
  · clear hF
    exact hm.tr (gB_MText_constant_123 q_p0 hG hm.1)
  · clear hF
    obtain ⟨q255, hF⟩ := ck_s hG; clear hG
    obtain ⟨a256, e257, hG⟩ := rf_s hF; clear hF
    have qa256 : Q a256 := hm.1 _ _ _ q_p0 e257
    obtain ⟨n258, q259, hF⟩ := ar_s hG; clear hG
    obtain ⟨q260, hG⟩ := ck_s hF; clear hF
    obtain ⟨x261, -, hF⟩ := bnd_g hG; clear hG
    rcases ite_s hF with ⟨q_79, hG⟩ | ⟨q_79, hG⟩
    · clear hF
      exact hm.tr (gB_MText_constant_123 q_p0 hG hm.1)
    · clear hF
      obtain ⟨v264, H265, z263, hF⟩ := bC_s hG; clear hG
      have gz_80 := (g_MText_fails z263 hm.1 q_p0)
      replace hm : Rg Q H H265 := hm.tr gz_80
      have s_81 : Sa H H265 := (m_MText_fails z263)
      exact hm.tr (gB_MText_constant_123 q_p0 hF hm.1)
set_option maxRecDepth 20000 in
set_option maxHeartbeats 2000000 in
theorem gB_MText_constant_80 {N : Nat} {Q : Nat → Prop} {p0 : Nat} {p1 : Int32} (q_p0 : Q p0) {l2 : Int32} {l3 : Int32} {l4 : Int32} {l5 : Int32} {w0 : Int32} {H : Hp} {r : Int32 × Hp} (hF : B_MText_constant_80 N p0 p1 l2 l3 l4 l5 w0 H = some r) (hc0 : Cl Q H) : Rg Q H r.2 := by
  unfold B_MText_constant_80 at hF
  have hm := Rg.rf hc0
  rcases ite_s hF with ⟨q_82, hG⟩ | ⟨q_82, hG⟩
  · clear hF
    rcases ite_s hG with ⟨q_83, hF⟩ | ⟨q_83, hF⟩
    · clear hG
      obtain ⟨q268, hG⟩ := ck_s hF; clear hF
      obtain ⟨x269, -, hF⟩ := bnd_g hG; clear hG
      obtain ⟨v271, H272, z270, hG⟩ := bC_s hF; clear hF
      have gz_84 := (g_MText_fails z270 hm.1 q_p0)
      replace hm : Rg Q H H272 := hm.tr gz_84
      have s_85 : Sa H H272 := (m_MText_fails z270)
      exact hm.tr (gB_MText_constant_101 q_p0 hG hm.1)
    · clear hG
      exact hm.tr (gB_MText_constant_101 q_p0 hF hm.1)
  · clear hF
    exact hm.tr (gB_MText_constant_101 q_p0 hG hm.1)
set_option maxRecDepth 20000 in
set_option maxHeartbeats 2000000 in
theorem gB_MText_constant_79 {N : Nat} {Q : Nat → Prop} {p0 : Nat} {p1 : Int32} (q_p0 : Q p0) {l2 : Int32} {l3 : Int32} {l4 : Int32} {l5 : Int32} {H : Hp} {r : Int32 × Hp} (hF : B_MText_constant_79 N p0 p1 l2 l3 l4 l5 H = some r) (hc0 : Cl Q H) : Rg Q H r.2 := by
  unfold B_MText_constant_79 at hF
  have hm := Rg.rf hc0
  exact hm.tr (gB_MText_constant_80 q_p0 hF hm.1)
set_option maxRecDepth 20000 in
set_option maxHeartbeats 2000000 in
theorem gB_MText_constant_75 {N : Nat} {Q : Nat → Prop} {p0 : Nat} {p1 : Int32} (q_p0 : Q p0) {l2 : Int32} {l3 : Int32} {l4 : Int32} {l5 : Int32} {H : Hp} {r : Int32 × Hp} (hF : B_MText_constant_75 N p0 p1 l2 l3 l4 l5 H = some r) (hc0 : Cl Q H) : Rg Q H r.2 := by
  unfold B_MText_constant_75 at hF
  have hm := Rg.rf hc0
  exact hm.tr (gB_MText_constant_80 q_p0 hF hm.1)
set_option maxRecDepth 20000 in
set_option maxHeartbeats 2000000 in
theorem gB_MText_constant_39 {N : Nat} {Q : Nat → Prop} {p0 : Nat} {p1 : Int32} (q_p0 : Q p0) {l2 : Int32} {l3 : Int32} {l4 : Int32} {w0 : Int32} {H : Hp} {r : Int32 × Hp} (hF : B_MText_constant_39 N p0 p1 l2 l3 l4 w0 H = some r) (hc0 : Cl Q H) : Rg Q H r.2 := by
  unfold B_MText_constant_39 at hF
  have hm := Rg.rf hc0
  rcases ite_s hF with ⟨q_86, hG⟩ | ⟨q_86, hG⟩
  · clear hF
    obtain ⟨q274, hF⟩ := ck_s hG; clear hG
    obtain ⟨v276, H277, z275, hG⟩ := bC_s hF; clear hF
    have gz_87 := (g_MText_is z275 hm.1 q_p0)
    replace hm : Rg Q H H277 := hm.tr gz_87
    have s_88 : Sa H H277 := (m_MText_is z275)
    rcases ite_s hG with ⟨q_89, hF⟩ | ⟨q_89, hF⟩
    · clear hG
      obtain ⟨v280, H281, z279, hG⟩ := bC_s hF; clear hF
      have gz_90 := (g_MText_is z279 hm.1 q_p0)
      replace hm : Rg Q H H281 := hm.tr gz_90
      have s_91 : Sa H H281 := (s_88).tr (m_MText_is z279)
      rcases ite_s hG with ⟨q_92, hF⟩ | ⟨q_92, hF⟩
      · clear hG
        obtain ⟨v284, H285, z283, hG⟩ := bC_s hF; clear hF
        have gz_93 := (g_MText_is z283 hm.1 q_p0)
        replace hm : Rg Q H H285 := hm.tr gz_93
        have s_94 : Sa H H285 := (s_91).tr (m_MText_is z283)
        rcases ite_s hG with ⟨q_95, hF⟩ | ⟨q_95, hF⟩
        · clear hG
          exact hm.tr (gB_MText_constant_79 q_p0 hF hm.1)
        · clear hG
          exact hm.tr (gB_MText_constant_75 q_p0 hF hm.1)
      · clear hG
        exact hm.tr (gB_MText_constant_75 q_p0 hF hm.1)
    · clear hG
      exact hm.tr (gB_MText_constant_75 q_p0 hF hm.1)
  · clear hF
    exact hm.tr (gB_MText_constant_79 q_p0 hG hm.1)
set_option maxRecDepth 20000 in
set_option maxHeartbeats 2000000 in
theorem gB_MText_constant_34 {N : Nat} {Q : Nat → Prop} {p0 : Nat} {p1 : Int32} (q_p0 : Q p0) {l2 : Int32} {l3 : Int32} {l4 : Int32} {H : Hp} {r : Int32 × Hp} (hF : B_MText_constant_34 N p0 p1 l2 l3 l4 H = some r) (hc0 : Cl Q H) : Rg Q H r.2 := by
  unfold B_MText_constant_34 at hF
  have hm := Rg.rf hc0
  exact hm.tr (gB_MText_constant_39 q_p0 hF hm.1)
set_option maxRecDepth 20000 in
set_option maxHeartbeats 2000000 in
theorem g_MText_constant {N : Nat} {Q : Nat → Prop} {p0 : Nat} {p1 : Int32} {H : Hp} {r : Int32 × Hp} (hF : F_MText_constant N p0 p1 H = some r) (hc0 : Cl Q H) (q_p0 : Q p0) : Rg Q H r.2 := by
  unfold F_MText_constant at hF
  have hm := Rg.rf hc0
  obtain ⟨q287, hG⟩ := ck_s hF; clear hF
  obtain ⟨x288, -, hF⟩ := bnd_g hG; clear hG
  obtain ⟨v290, H291, z289, hG⟩ := bC_s hF; clear hF
  have gz_96 := (g_MText_accepts z289 hm.1 q_p0)
  replace hm : Rg Q H H291 := hm.tr gz_96
  have s_97 : Sa H H291 := (m_MText_accepts z289)
  obtain ⟨x292, -, hF⟩ := bnd_g hG; clear hG
  obtain ⟨v294, H295, z293, hG⟩ := bC_s hF; clear hF
  have gz_98 := (g_MText_is z293 hm.1 q_p0)
  replace hm : Rg Q H H295 := hm.tr gz_98
  have s_99 : Sa H H295 := (s_97).tr (m_MText_is z293)
  rcases ite_s hG with ⟨q_100, hF⟩ | ⟨q_100, hF⟩
  · clear hG
    obtain ⟨v298, H299, z297, hG⟩ := bC_s hF; clear hF
    have gz_101 := (g_MText_is z297 hm.1 q_p0)
    replace hm : Rg Q H H299 := hm.tr gz_101
    have s_102 : Sa H H299 := (s_99).tr (m_MText_is z297)
    rcases ite_s hG with ⟨q_103, hF⟩ | ⟨q_103, hF⟩
    · clear hG
      exact hm.tr (gB_MText_constant_39 q_p0 hF hm.1)
    · clear hG
      exact hm.tr (gB_MText_constant_34 q_p0 hF hm.1)
  · clear hG
    exact hm.tr (gB_MText_constant_34 q_p0 hF hm.1)
set_option maxRecDepth 20000 in
set_option maxHeartbeats 2000000 in
theorem gB_MText_values_147 {N : Nat} {Q : Nat → Prop} {p0 : Nat} {p1 : Int32} {p2 : Int32} (q_p0 : Q p0)  {H : Hp} {r : Unit × Hp} (hF : B_MText_values_147 N p0 p1 p2  H = some r) (hc0 : Cl Q H) : Rg Q H r.2 := by
  unfold B_MText_values_147 at hF
  have hm := Rg.rf hc0
  obtain ⟨q129, hG⟩ := ck_s hF; clear hF
  obtain ⟨v131, H132, z130, hF⟩ := bC_s hG; clear hG
  have gz_26 := (g_MText_takes z130 hm.1 q_p0)
  replace hm : Rg Q H H132 := hm.tr gz_26
  have s_27 : Sa H H132 := (m_MText_takes z130)
  have hr := Option.some.inj hF; subst hr
  exact hm
set_option maxRecDepth 20000 in
set_option maxHeartbeats 2000000 in
theorem gB_MText_values_85 {N : Nat} {Q : Nat → Prop} {p0 : Nat} {p1 : Int32} {p2 : Int32} {kq5 : Int32 → Int32 → Hp → Option (Unit × Hp)} (q_p0 : Q p0) (hg5 : ∀ (l3 : Int32) (l4 : Int32) (H : Hp) (r : Unit × Hp), kq5 l3 l4 H = some r → Cl Q H → Rg Q H r.2) {l3 : Int32} {l6 : Int32} {H : Hp} {r : Unit × Hp} (hF : B_MText_values_85 N p0 p1 p2 kq5 l3 l6 H = some r) (hc0 : Cl Q H) : Rg Q H r.2 := by
  unfold B_MText_values_85 at hF
  have hm := Rg.rf hc0
  obtain ⟨q133, hG⟩ := ck_s hF; clear hF
  obtain ⟨v135, H136, z134, hF⟩ := bC_s hG; clear hG
  have gz_28 := (g_MText_takes z134 hm.1 q_p0)
  replace hm : Rg Q H H136 := hm.tr gz_28
  have s_29 : Sa H H136 := (m_MText_takes z134)
  obtain ⟨x137, -, hG⟩ := bnd_g hF; clear hF
  rcases ite_s hG with ⟨q_30, hF⟩ | ⟨q_30, hF⟩
  · clear hG
    obtain ⟨a139, e140, hG⟩ := rf_s hF; clear hF
    have qa139 : Q a139 := hm.1 _ _ _ q_p0 e140
    obtain ⟨n141, q142, hF⟩ := ar_s hG; clear hG
    rw [(s_29).1] at q142
    obtain ⟨q143, hG⟩ := ck_s hF; clear hF
    obtain ⟨x144, -, hF⟩ := bnd_g hG; clear hG
    obtain ⟨x145, -, hG⟩ := bnd_g hF; clear hF
    obtain ⟨a146, e147, hF⟩ := rf_s hG; clear hG
    have qa146 : Q a146 := hm.1 _ _ _ q_p0 e147
    obtain ⟨a148, e149, hG⟩ := rf_s hF; clear hF
    have qa148 : Q a148 := hm.1 _ _ _ q_p0 e149
    obtain ⟨n150, q151, hF⟩ := ar_s hG; clear hG
    rw [(s_29).1] at q151
    obtain ⟨q152, hG⟩ := ck_s hF; clear hF
    obtain ⟨x153, -, hF⟩ := bnd_g hG; clear hG
    obtain ⟨v155, H156, z154, hG⟩ := bC_s hF; clear hF
    have gz_31 := (g_MText_constant z154 hm.1 q_p0)
    replace hm : Rg Q H H156 := hm.tr gz_31
    have s_32 : Sa H H156 := (s_29).tr (m_MText_constant z154)
    obtain ⟨n157, q158, hF⟩ := ar_s hG; clear hG
    rw [(s_32).1] at q158
    obtain ⟨q159, hG⟩ := ck_s hF; clear hF
    obtain ⟨H160, eH160, hF⟩ := bnd_g hG; clear hG
    replace hm : Rg Q H H160 := hm.tr (by rw [eH160]; exact Rg.sD hm.1 qa146)
    have s_33 : Sa H H160 := by rw [eH160]; exact s_32
    obtain ⟨v162, H163, z161, hG⟩ := bC_s hF; clear hF
    have gz_34 := (g_MText_accepts z161 hm.1 q_p0)
    replace hm : Rg Q H H163 := hm.tr gz_34
    have s_35 : Sa H H163 := (s_33).tr (m_MText_accepts z161)
    exact hm.tr (hg5 x145 v162 H163 r hG hm.1)
  · clear hG
    have hr := Option.some.inj hF; subst hr
    exact hm
set_option maxRecDepth 20000 in
set_option maxHeartbeats 2000000 in
theorem gB_MText_values_73 {N : Nat} {Q : Nat → Prop} {p0 : Nat} {p1 : Int32} {p2 : Int32} {kq5 : Int32 → Int32 → Hp → Option (Unit × Hp)} (q_p0 : Q p0) (hg5 : ∀ (l3 : Int32) (l4 : Int32) (H : Hp) (r : Unit × Hp), kq5 l3 l4 H = some r → Cl Q H → Rg Q H r.2) {l3 : Int32} {l5 : Int32} {l6 : Int32} {H : Hp} {r : Unit × Hp} (hF : B_MText_values_73 N p0 p1 p2 kq5 l3 l5 l6 H = some r) (hc0 : Cl Q H) : Rg Q H r.2 := by
  unfold B_MText_values_73 at hF
  have hm := Rg.rf hc0
  rcases ite_s hF with ⟨q_36, hG⟩ | ⟨q_36, hG⟩
  · clear hF
    exact hm.tr (gB_MText_values_85 q_p0 hg5 hG hm.1)
  · clear hF
    obtain ⟨q165, hF⟩ := ck_s hG; clear hG
    obtain ⟨v167, H168, z166, hG⟩ := bC_s hF; clear hF
    have gz_37 := (g_MText_fails z166 hm.1 q_p0)
    replace hm : Rg Q H H168 := hm.tr gz_37
    have s_38 : Sa H H168 := (m_MText_fails z166)
    exact hm.tr (gB_MText_values_85 q_p0 hg5 hG hm.1)
set_option maxRecDepth 20000 in
set_option maxHeartbeats 2000000 in
theorem gB_MText_values_42 {N : Nat} {Q : Nat → Prop} {p0 : Nat} {p1 : Int32} {p2 : Int32} {kq5 : Int32 → Int32 → Hp → Option (Unit × Hp)} (q_p0 : Q p0) (hg5 : ∀ (l3 : Int32) (l4 : Int32) (H : Hp) (r : Unit × Hp), kq5 l3 l4 H = some r → Cl Q H → Rg Q H r.2) {l3 : Int32} {l5 : Int32} {w0 : Int32} {H : Hp} {r : Unit × Hp} (hF : B_MText_values_42 N p0 p1 p2 kq5 l3 l5 w0 H = some r) (hc0 : Cl Q H) : Rg Q H r.2 := by
  unfold B_MText_values_42 at hF
  have hm := Rg.rf hc0
  rcases ite_s hF with ⟨q_39, hG⟩ | ⟨q_39, hG⟩
  · clear hF
    exact hm.tr (gB_MText_values_73 q_p0 hg5 hG hm.1)
  · clear hF
    obtain ⟨q170, hF⟩ := ck_s hG; clear hG
    obtain ⟨a171, e172, hG⟩ := rf_s hF; clear hF
    have qa171 : Q a171 := hm.1 _ _ _ q_p0 e172
    obtain ⟨n173, q174, hF⟩ := ar_s hG; clear hG
    obtain ⟨q175, hG⟩ := ck_s hF; clear hF
    obtain ⟨x176, -, hF⟩ := bnd_g hG; clear hG
    rcases ite_s hF with ⟨q_40, hG⟩ | ⟨q_40, hG⟩
    · clear hF
      obtain ⟨v179, H180, z178, hF⟩ := bC_s hG; clear hG
      have gz_41 := (g_MText_fails z178 hm.1 q_p0)
      replace hm : Rg Q H H180 := hm.tr gz_41
      have s_42 : Sa H H180 := (m_MText_fails z178)
      exact hm.tr (gB_MText_values_73 q_p0 hg5 hF hm.1)
    · clear hF
      exact hm.tr (gB_MText_values_73 q_p0 hg5 hG hm.1)
set_option maxRecDepth 20000 in
set_option maxHeartbeats 2000000 in
theorem gB_MText_values_5 {N : Nat} {Q : Nat → Prop} {p0 : Nat} {p1 : Int32} {p2 : Int32} (q_p0 : Q p0) : ∀ (n : Nat) (l3 : Int32) (l4 : Int32) (H : Hp) (r : Unit × Hp), B_MText_values_5 N p0 p1 p2 n l3 l4 H = some r → Cl Q H → Rg Q H r.2 := by
  intro n
  induction n with
  | zero => intro l3 l4 H r hF; rw [B_MText_values_5] at hF; cases hF
  | succ n ih =>
    intro l3 l4 H r hF hc0
    rw [B_MText_values_5] at hF
    have hm := Rg.rf hc0
    obtain ⟨q181, hG⟩ := ck_s hF; clear hF
    obtain ⟨x182, -, hF⟩ := bnd_g hG; clear hG
    rcases ite_s hF with ⟨q_43, hG⟩ | ⟨q_43, hG⟩
    · clear hF
      rcases ite_s hG with ⟨q_44, hF⟩ | ⟨q_44, hF⟩
      · clear hG
        exact hm.tr (gB_MText_values_147 q_p0 hF hm.1)
      · clear hG
        obtain ⟨v186, H187, z185, hG⟩ := bC_s hF; clear hF
        have gz_45 := (g_MText_name z185 hm.1 q_p0)
        replace hm : Rg Q H H187 := hm.tr gz_45
        have s_46 : Sa H H187 := (m_MText_name z185)
        obtain ⟨x188, -, hF⟩ := bnd_g hG; clear hG
        rcases ite_s hF with ⟨q_47, hG⟩ | ⟨q_47, hG⟩
        · clear hF
          obtain ⟨v191, H192, z190, hF⟩ := bC_s hG; clear hG
          have gz_48 := (g_MText_member z190 hm.1 q_p0 q_p0)
          replace hm : Rg Q H H192 := hm.tr gz_48
          have s_49 : Sa H H192 := (s_46).tr (m_MText_member z190)
          exact hm.tr (gB_MText_values_42 q_p0 ih hF hm.1)
        · clear hF
          exact hm.tr (gB_MText_values_42 q_p0 ih hG hm.1)
    · clear hF
      exact hm.tr (gB_MText_values_147 q_p0 hG hm.1)
set_option maxRecDepth 20000 in
set_option maxHeartbeats 2000000 in
theorem g_MText_values {N : Nat} {Q : Nat → Prop} {p0 : Nat} {p1 : Int32} {p2 : Int32} {H : Hp} {r : Unit × Hp} (hF : F_MText_values N p0 p1 p2 H = some r) (hc0 : Cl Q H) (q_p0 : Q p0) : Rg Q H r.2 := by
  unfold F_MText_values at hF
  have hm := Rg.rf hc0
  exact hm.tr (gB_MText_values_5 q_p0 N 0 1 H r hF hm.1)
set_option maxRecDepth 20000 in
set_option maxHeartbeats 2000000 in
theorem gB_MText_prefab_206 {N : Nat} {Q : Nat → Prop} {p0 : Nat} {kq55 : Int32 → Int32 → Hp → Option (Unit × Hp)} (q_p0 : Q p0) (hg55 : ∀ (l1 : Int32) (l3 : Int32) (H : Hp) (r : Unit × Hp), kq55 l1 l3 H = some r → Cl Q H → Rg Q H r.2) {l1 : Int32} {l3 : Int32} {H : Hp} {r : Unit × Hp} (hF : B_MText_prefab_206 N p0 kq55 l1 l3 H = some r) (hc0 : Cl Q H) : Rg Q H r.2 := by
  unfold B_MText_prefab_206 at hF
  have hm := Rg.rf hc0
  obtain ⟨q197, hG⟩ := ck_s hF; clear hF
  obtain ⟨v199, H200, z198, hF⟩ := bC_s hG; clear hG
  have gz_39 := (g_MText_takes z198 hm.1 q_p0)
  replace hm : Rg Q H H200 := hm.tr gz_39
  have s_40 : Sa H H200 := (m_MText_takes z198)
  exact hm.tr (hg55 l1 l3 H200 r hF hm.1)
set_option maxRecDepth 20000 in
set_option maxHeartbeats 2000000 in
theorem gB_MText_prefab_148 {N : Nat} {Q : Nat → Prop} {p0 : Nat} {kq55 : Int32 → Int32 → Hp → Option (Unit × Hp)} (q_p0 : Q p0) (hg55 : ∀ (l1 : Int32) (l3 : Int32) (H : Hp) (r : Unit × Hp), kq55 l1 l3 H = some r → Cl Q H → Rg Q H r.2) : ∀ (n : Nat) (l1 : Int32) (l3 : Int32) (l5 : Int32) (l6 : Int32) (H : Hp) (r : Unit × Hp), B_MText_prefab_148 N p0 kq55 n l1 l3 l5 l6 H = some r → Cl Q H → Rg Q H r.2 := by
  intro n
  induction n with
  | zero => intro l1 l3 l5 l6 H r hF; rw [B_MText_prefab_148] at hF; cases hF
  | succ n ih =>
    intro l1 l3 l5 l6 H r hF hc0
    rw [B_MText_prefab_148] at hF
    have hm := Rg.rf hc0
    obtain ⟨q201, hG⟩ := ck_s hF; clear hF
    obtain ⟨a202, e203, hF⟩ := rf_s hG; clear hG
    have qa202 : Q a202 := hm.1 _ _ _ q_p0 e203
    obtain ⟨n204, q205, hG⟩ := ar_s hF; clear hF
    obtain ⟨q206, hF⟩ := ck_s hG; clear hG
    obtain ⟨x207, -, hG⟩ := bnd_g hF; clear hF
    rcases ite_s hG with ⟨q_41, hF⟩ | ⟨q_41, hF⟩
    · clear hG
      obtain ⟨v210, H211, z209, hG⟩ := bC_s hF; clear hF
      have gz_42 := (g_MText_accepts z209 hm.1 q_p0)
      replace hm : Rg Q H H211 := hm.tr gz_42
      have s_43 : Sa H H211 := (m_MText_accepts z209)
      rcases ite_s hG with ⟨q_44, hF⟩ | ⟨q_44, hF⟩
      · clear hG
        exact hm.tr (gB_MText_prefab_206 q_p0 hg55 hF hm.1)
      · clear hG
        obtain ⟨v214, H215, z213, hG⟩ := bC_s hF; clear hF
        have gz_45 := (g_MText_values z213 hm.1 q_p0)
        replace hm : Rg Q H H215 := hm.tr gz_45
        have s_46 : Sa H H215 := (s_43).tr (m_MText_values z213)
        exact hm.tr (gB_MText_prefab_206 q_p0 hg55 hG hm.1)
    · clear hG
      obtain ⟨a216, e217, hG⟩ := rf_s hF; clear hF
      have qa216 : Q a216 := hm.1 _ _ _ q_p0 e217
      obtain ⟨a218, e219, hF⟩ := rf_s hG; clear hG
      have qa218 : Q a218 := hm.1 _ _ _ q_p0 e219
      obtain ⟨n220, q221, hG⟩ := ar_s hF; clear hF
      obtain ⟨q222, hF⟩ := ck_s hG; clear hG
      obtain ⟨x223, -, hG⟩ := bnd_g hF; clear hF
      obtain ⟨v225, H226, z224, hF⟩ := bC_s hG; clear hG
      have gz_47 := (g_M_first z224 hm.1)
      replace hm : Rg Q H H226 := hm.tr gz_47
      have s_48 : Sa H H226 := (m_M_first z224)
      obtain ⟨n227, q228, hG⟩ := ar_s hF; clear hF
      rw [(s_48).1] at q228
      obtain ⟨q229, hF⟩ := ck_s hG; clear hG
      obtain ⟨H230, eH230, hG⟩ := bnd_g hF; clear hF
      replace hm : Rg Q H H230 := hm.tr (by rw [eH230]; exact Rg.sD hm.1 qa216)
      have s_49 : Sa H H230 := by rw [eH230]; exact s_48
      exact hm.tr (ih l1 l3 l5 (l6 + 1) H230 r hG hm.1)
set_option maxRecDepth 20000 in
set_option maxHeartbeats 2000000 in
theorem gB_MText_prefab_97 {N : Nat} {Q : Nat → Prop} {p0 : Nat} {kq55 : Int32 → Int32 → Hp → Option (Unit × Hp)} (q_p0 : Q p0) (hg55 : ∀ (l1 : Int32) (l3 : Int32) (H : Hp) (r : Unit × Hp), kq55 l1 l3 H = some r → Cl Q H → Rg Q H r.2) {l1 : Int32} {l3 : Int32} {l4 : Int32} {H : Hp} {r : Unit × Hp} (hF : B_MText_prefab_97 N p0 kq55 l1 l3 l4 H = some r) (hc0 : Cl Q H) : Rg Q H r.2 := by
  unfold B_MText_prefab_97 at hF
  have hm := Rg.rf hc0
  obtain ⟨q231, hG⟩ := ck_s hF; clear hF
  obtain ⟨a232, e233, hF⟩ := rf_s hG; clear hG
  have qa232 : Q a232 := hm.1 _ _ _ q_p0 e233
  obtain ⟨n234, q235, hG⟩ := ar_s hF; clear hF
  obtain ⟨q236, hF⟩ := ck_s hG; clear hG
  obtain ⟨x237, -, hG⟩ := bnd_g hF; clear hF
  obtain ⟨v239, H240, z238, hF⟩ := bC_s hG; clear hG
  have gz_50 := (g_MText_componentOf z238 hm.1 q_p0)
  replace hm : Rg Q H H240 := hm.tr gz_50
  have s_51 : Sa H H240 := (m_MText_componentOf z238)
  obtain ⟨x241, -, hG⟩ := bnd_g hF; clear hF
  rcases ite_s hG with ⟨q_52, hF⟩ | ⟨q_52, hF⟩
  · clear hG
    obtain ⟨a243, e244, hG⟩ := rf_s hF; clear hF
    have qa243 : Q a243 := hm.1 _ _ _ q_p0 e244
    obtain ⟨n245, q246, hF⟩ := ar_s hG; clear hG
    rw [(s_51).1] at q246
    obtain ⟨q247, hG⟩ := ck_s hF; clear hF
    obtain ⟨x248, -, hF⟩ := bnd_g hG; clear hG
    obtain ⟨q249, hG⟩ := ck_s hF; clear hF
    obtain ⟨H250, eH250, hF⟩ := bnd_g hG; clear hG
    replace hm : Rg Q H H250 := hm.tr (by rw [eH250]; exact Rg.sD hm.1 qa243)
    have s_53 : Sa H H250 := by rw [eH250]; exact s_51
    obtain ⟨a251, e252, hG⟩ := rf_s hF; clear hF
    have qa251 : Q a251 := hm.1 _ _ _ q_p0 e252
    obtain ⟨n253, q254, hF⟩ := ar_s hG; clear hG
    rw [(s_53).1] at q254
    obtain ⟨q255, hG⟩ := ck_s hF; clear hF
    obtain ⟨x256, -, hF⟩ := bnd_g hG; clear hG
    exact hm.tr (gB_MText_prefab_148 q_p0 hg55 N l1 (l3 + 1) v239 x256 H250 r hF hm.1)
  · clear hG
    have hr := Option.some.inj hF; subst hr
    exact hm
set_option maxRecDepth 20000 in
set_option maxHeartbeats 2000000 in
theorem gB_MText_prefab_55 {N : Nat} {Q : Nat → Prop} {p0 : Nat} (q_p0 : Q p0) : ∀ (n : Nat) (l1 : Int32) (l3 : Int32) (H : Hp) (r : Unit × Hp), B_MText_prefab_55 N p0 n l1 l3 H = some r → Cl Q H → Rg Q H r.2 := by
  intro n
  induction n with
  | zero => intro l1 l3 H r hF; rw [B_MText_prefab_55] at hF; cases hF
  | succ n ih =>
    intro l1 l3 H r hF hc0
    rw [B_MText_prefab_55] at hF
    have hm := Rg.rf hc0
    obtain ⟨q257, hG⟩ := ck_s hF; clear hF
    obtain ⟨x258, -, hF⟩ := bnd_g hG; clear hG
    rcases ite_s hF with ⟨q_54, hG⟩ | ⟨q_54, hG⟩
    · clear hF
      obtain ⟨v261, H262, z260, hF⟩ := bC_s hG; clear hG
      have gz_55 := (g_MText_accepts z260 hm.1 q_p0)
      replace hm : Rg Q H H262 := hm.tr gz_55
      have s_56 : Sa H H262 := (m_MText_accepts z260)
      rcases ite_s hF with ⟨q_57, hG⟩ | ⟨q_57, hG⟩
      · clear hF
        obtain ⟨v265, H266, z264, hF⟩ := bC_s hG; clear hG
        have gz_58 := (g_MText_name z264 hm.1 q_p0)
        replace hm : Rg Q H H266 := hm.tr gz_58
        have s_59 : Sa H H266 := (s_56).tr (m_MText_name z264)
        obtain ⟨x267, -, hG⟩ := bnd_g hF; clear hF
        rcases ite_s hG with ⟨q_60, hF⟩ | ⟨q_60, hF⟩
        · clear hG
          rcases ite_s hF with ⟨q_61, hG⟩ | ⟨q_61, hG⟩
          · clear hF
            obtain ⟨v271, H272, z270, hF⟩ := bC_s hG; clear hG
            have gz_62 := (g_MText_fails z270 hm.1 q_p0)
            replace hm : Rg Q H H272 := hm.tr gz_62
            have s_63 : Sa H H272 := (s_59).tr (m_MText_fails z270)
            exact hm.tr (gB_MText_prefab_97 q_p0 ih hF hm.1)
          · clear hF
            exact hm.tr (gB_MText_prefab_97 q_p0 ih hG hm.1)
        · clear hG
          exact hm.tr (gB_MText_prefab_97 q_p0 ih hF hm.1)
      · clear hF
        have hr := Option.some.inj hG; subst hr
        exact hm
    · clear hF
      have hr := Option.some.inj hG; subst hr
      exact hm
set_option maxRecDepth 20000 in
set_option maxHeartbeats 2000000 in
theorem g_MText_prefab {N : Nat} {Q : Nat → Prop} {p0 : Nat} {H : Hp} {r : Unit × Hp} (hF : F_MText_prefab N p0 H = some r) (hc0 : Cl Q H) (q_p0 : Q p0) : Rg Q H r.2 := by
  unfold F_MText_prefab at hF
  have hm := Rg.rf hc0
  obtain ⟨q273, hG⟩ := ck_s hF; clear hF
  obtain ⟨x274, -, hF⟩ := bnd_g hG; clear hG
  obtain ⟨v276, H277, z275, hG⟩ := bC_s hF; clear hF
  have gz_64 := (g_MText_begins z275 hm.1 q_p0)
  replace hm : Rg Q H H277 := hm.tr gz_64
  have s_65 : Sa H H277 := (m_MText_begins z275)
  obtain ⟨x278, -, hF⟩ := bnd_g hG; clear hG
  obtain ⟨v280, H281, z279, hG⟩ := bC_s hF; clear hF
  have gz_66 := (g_MText_told z279 hm.1 q_p0)
  replace hm : Rg Q H H281 := hm.tr gz_66
  have s_67 : Sa H H281 := (s_65).tr (m_MText_told z279)
  obtain ⟨x282, -, hF⟩ := bnd_g hG; clear hG
  rcases ite_s hF with ⟨q_68, hG⟩ | ⟨q_68, hG⟩
  · clear hF
    obtain ⟨x284, -, hF⟩ := bnd_g hG; clear hG
    obtain ⟨H285, eH285, hG⟩ := bnd_g hF; clear hF
    replace hm : Rg Q H H285 := hm.tr (by rw [eH285]; exact Rg.sD hm.1 q_p0)
    have s_69 : Sa H H285 := by rw [eH285]; exact s_67
    obtain ⟨a286, e287, hF⟩ := rf_s hG; clear hG
    have qa286 : Q a286 := hm.1 _ _ _ q_p0 e287
    obtain ⟨n288, q289, hG⟩ := ar_s hF; clear hF
    rw [(s_69).1] at q289
    obtain ⟨q290, hF⟩ := ck_s hG; clear hG
    obtain ⟨H291, eH291, hG⟩ := bnd_g hF; clear hF
    replace hm : Rg Q H H291 := hm.tr (by rw [eH291]; exact Rg.sD hm.1 qa286)
    have s_70 : Sa H H291 := by rw [eH291]; exact s_69
    obtain ⟨v293, H294, z292, hF⟩ := bC_s hG; clear hG
    have gz_71 := (g_MText_takes z292 hm.1 q_p0)
    replace hm : Rg Q H H294 := hm.tr gz_71
    have s_72 : Sa H H294 := (s_70).tr (m_MText_takes z292)
    exact hm.tr (gB_MText_prefab_55 q_p0 N x278 0 H294 r hF hm.1)
  · clear hF
    have hr := Option.some.inj hG; subst hr
    exact hm
set_option maxRecDepth 20000 in
set_option maxHeartbeats 2000000 in
theorem gB_MText_systemNames_99 {N : Nat} {Q : Nat → Prop} {p0 : Nat} {kq4 : Int32 → Int32 → Hp → Option (Int32 × Hp)} (q_p0 : Q p0) (hg4 : ∀ (l1 : Int32) (l2 : Int32) (H : Hp) (r : Int32 × Hp), kq4 l1 l2 H = some r → Cl Q H → Rg Q H r.2) {w0 : Int32} {w1 : Int32} {H : Hp} {r : Int32 × Hp} (hF : B_MText_systemNames_99 N p0 kq4 w0 w1 H = some r) (hc0 : Cl Q H) : Rg Q H r.2 := by
  unfold B_MText_systemNames_99 at hF
  have hm := Rg.rf hc0
  obtain ⟨q83, hG⟩ := ck_s hF; clear hF
  obtain ⟨v85, H86, z84, hF⟩ := bC_s hG; clear hG
  have gz_18 := (g_MText_accepts z84 hm.1 q_p0)
  replace hm : Rg Q H H86 := hm.tr gz_18
  have s_19 : Sa H H86 := (m_MText_accepts z84)
  exact hm.tr (hg4 (w0 ||| w1) v85 H86 r hF hm.1)
set_option maxRecDepth 20000 in
set_option maxHeartbeats 2000000 in
theorem gB_MText_systemNames_75 {N : Nat} {Q : Nat → Prop} {p0 : Nat} {kq4 : Int32 → Int32 → Hp → Option (Int32 × Hp)} (q_p0 : Q p0) (hg4 : ∀ (l1 : Int32) (l2 : Int32) (H : Hp) (r : Int32 × Hp), kq4 l1 l2 H = some r → Cl Q H → Rg Q H r.2) {l1 : Int32} {l3 : Int32} {H : Hp} {r : Int32 × Hp} (hF : B_MText_systemNames_75 N p0 kq4 l1 l3 H = some r) (hc0 : Cl Q H) : Rg Q H r.2 := by
  unfold B_MText_systemNames_75 at hF
  have hm := Rg.rf hc0
  obtain ⟨q87, hG⟩ := ck_s hF; clear hF
  obtain ⟨v89, H90, z88, hF⟩ := bC_s hG; clear hG
  have gz_20 := (g_MText_numberOf z88 hm.1 q_p0)
  replace hm : Rg Q H H90 := hm.tr gz_20
  have s_21 : Sa H H90 := (m_MText_numberOf z88)
  obtain ⟨x91, -, hG⟩ := bnd_g hF; clear hF
  rcases ite_s hG with ⟨q_22, hF⟩ | ⟨q_22, hF⟩
  · clear hG
    exact hm.tr (gB_MText_systemNames_99 q_p0 hg4 hF hm.1)
  · clear hG
    exact hm.tr (gB_MText_systemNames_99 q_p0 hg4 hF hm.1)
set_option maxRecDepth 20000 in
set_option maxHeartbeats 2000000 in
theorem gB_MText_systemNames_36 {N : Nat} {Q : Nat → Prop} {p0 : Nat} {kq4 : Int32 → Int32 → Hp → Option (Int32 × Hp)} (q_p0 : Q p0) (hg4 : ∀ (l1 : Int32) (l2 : Int32) (H : Hp) (r : Int32 × Hp), kq4 l1 l2 H = some r → Cl Q H → Rg Q H r.2) {l1 : Int32} {l3 : Int32} {w0 : Int32} {H : Hp} {r : Int32 × Hp} (hF : B_MText_systemNames_36 N p0 kq4 l1 l3 w0 H = some r) (hc0 : Cl Q H) : Rg Q H r.2 := by
  unfold B_MText_systemNames_36 at hF
  have hm := Rg.rf hc0
  rcases ite_s hF with ⟨q_23, hG⟩ | ⟨q_23, hG⟩
  · clear hF
    exact hm.tr (gB_MText_systemNames_75 q_p0 hg4 hG hm.1)
  · clear hF
    obtain ⟨q94, hF⟩ := ck_s hG; clear hG
    obtain ⟨a95, e96, hG⟩ := rf_s hF; clear hF
    have qa95 : Q a95 := hm.1 _ _ _ q_p0 e96
    obtain ⟨n97, q98, hF⟩ := ar_s hG; clear hG
    obtain ⟨q99, hG⟩ := ck_s hF; clear hF
    obtain ⟨x100, -, hF⟩ := bnd_g hG; clear hG
    rcases ite_s hF with ⟨q_24, hG⟩ | ⟨q_24, hG⟩
    · clear hF
      obtain ⟨a102, e103, hF⟩ := rf_s hG; clear hG
      have qa102 : Q a102 := hm.1 _ _ _ q_p0 e103
      obtain ⟨n104, q105, hG⟩ := ar_s hF; clear hF
      obtain ⟨q106, hF⟩ := ck_s hG; clear hG
      obtain ⟨x107, -, hG⟩ := bnd_g hF; clear hF
      rcases ite_s hG with ⟨q_25, hF⟩ | ⟨q_25, hF⟩
      · clear hG
        obtain ⟨v110, H111, z109, hG⟩ := bC_s hF; clear hF
        have gz_26 := (g_MText_fails z109 hm.1 q_p0)
        replace hm : Rg Q H H111 := hm.tr gz_26
        have s_27 : Sa H H111 := (m_MText_fails z109)
        exact hm.tr (gB_MText_systemNames_75 q_p0 hg4 hG hm.1)
      · clear hG
        exact hm.tr (gB_MText_systemNames_75 q_p0 hg4 hF hm.1)
    · clear hF
      exact hm.tr (gB_MText_systemNames_75 q_p0 hg4 hG hm.1)
set_option maxRecDepth 20000 in
set_option maxHeartbeats 2000000 in
theorem gB_MText_systemNames_4 {N : Nat} {Q : Nat → Prop} {p0 : Nat} (q_p0 : Q p0) : ∀ (n : Nat) (l1 : Int32) (l2 : Int32) (H : Hp) (r : Int32 × Hp), B_MText_systemNames_4 N p0 n l1 l2 H = some r → Cl Q H → Rg Q H r.2 := by
  intro n
  induction n with
  | zero => intro l1 l2 H r hF; rw [B_MText_systemNames_4] at hF; cases hF
  | succ n ih =>
    intro l1 l2 H r hF hc0
    rw [B_MText_systemNames_4] at hF
    have hm := Rg.rf hc0
    obtain ⟨q112, hG⟩ := ck_s hF; clear hF
    obtain ⟨x113, -, hF⟩ := bnd_g hG; clear hG
    rcases ite_s hF with ⟨q_28, hG⟩ | ⟨q_28, hG⟩
    · clear hF
      rcases ite_s hG with ⟨q_29, hF⟩ | ⟨q_29, hF⟩
      · clear hG
        have hr := Option.some.inj hF; subst hr
        exact hm
      · clear hG
        obtain ⟨v117, H118, z116, hG⟩ := bC_s hF; clear hF
        have gz_30 := (g_MText_name z116 hm.1 q_p0)
        replace hm : Rg Q H H118 := hm.tr gz_30
        have s_31 : Sa H H118 := (m_MText_name z116)
        obtain ⟨x119, -, hF⟩ := bnd_g hG; clear hG
        rcases ite_s hF with ⟨q_32, hG⟩ | ⟨q_32, hG⟩
        · clear hF
          obtain ⟨v122, H123, z121, hF⟩ := bC_s hG; clear hG
          have gz_33 := (g_MText_index z121 hm.1 q_p0)
          replace hm : Rg Q H H123 := hm.tr gz_33
          have s_34 : Sa H H123 := (s_31).tr (m_MText_index z121)
          exact hm.tr (gB_MText_systemNames_36 q_p0 ih hF hm.1)
        · clear hF
          exact hm.tr (gB_MText_systemNames_36 q_p0 ih hG hm.1)
    · clear hF
      have hr := Option.some.inj hG; subst hr
      exact hm
set_option maxRecDepth 20000 in
set_option maxHeartbeats 2000000 in
theorem g_MText_systemNames {N : Nat} {Q : Nat → Prop} {p0 : Nat} {H : Hp} {r : Int32 × Hp} (hF : F_MText_systemNames N p0 H = some r) (hc0 : Cl Q H) (q_p0 : Q p0) : Rg Q H r.2 := by
  unfold F_MText_systemNames at hF
  have hm := Rg.rf hc0
  exact hm.tr (gB_MText_systemNames_4 q_p0 N 0 1 H r hF hm.1)
set_option maxRecDepth 20000 in
set_option maxHeartbeats 2000000 in
theorem gB_MText_names_46 {N : Nat} {Q : Nat → Prop} {p0 : Nat} {p1 : Int32} {p2 : Int32} {kq5 : Int32 → Int32 → Hp → Option (Int32 × Hp)} (q_p0 : Q p0) (hg5 : ∀ (l3 : Int32) (l4 : Int32) (H : Hp) (r : Int32 × Hp), kq5 l3 l4 H = some r → Cl Q H → Rg Q H r.2) {w0 : Int32} {w1 : Int32} {H : Hp} {r : Int32 × Hp} (hF : B_MText_names_46 N p0 p1 p2 kq5 w0 w1 H = some r) (hc0 : Cl Q H) : Rg Q H r.2 := by
  unfold B_MText_names_46 at hF
  have hm := Rg.rf hc0
  obtain ⟨q33, hG⟩ := ck_s hF; clear hF
  obtain ⟨v35, H36, z34, hF⟩ := bC_s hG; clear hG
  have gz_10 := (g_MText_accepts z34 hm.1 q_p0)
  replace hm : Rg Q H H36 := hm.tr gz_10
  have s_11 : Sa H H36 := (m_MText_accepts z34)
  exact hm.tr (hg5 (w0 ||| w1) v35 H36 r hF hm.1)
set_option maxRecDepth 20000 in
set_option maxHeartbeats 2000000 in
theorem gB_MText_names_5 {N : Nat} {Q : Nat → Prop} {p0 : Nat} {p1 : Int32} {p2 : Int32} (q_p0 : Q p0) : ∀ (n : Nat) (l3 : Int32) (l4 : Int32) (H : Hp) (r : Int32 × Hp), B_MText_names_5 N p0 p1 p2 n l3 l4 H = some r → Cl Q H → Rg Q H r.2 := by
  intro n
  induction n with
  | zero => intro l3 l4 H r hF; rw [B_MText_names_5] at hF; cases hF
  | succ n ih =>
    intro l3 l4 H r hF hc0
    rw [B_MText_names_5] at hF
    have hm := Rg.rf hc0
    obtain ⟨q37, hG⟩ := ck_s hF; clear hF
    obtain ⟨x38, -, hF⟩ := bnd_g hG; clear hG
    rcases ite_s hF with ⟨q_12, hG⟩ | ⟨q_12, hG⟩
    · clear hF
      rcases ite_s hG with ⟨q_13, hF⟩ | ⟨q_13, hF⟩
      · clear hG
        have hr := Option.some.inj hF; subst hr
        exact hm
      · clear hG
        obtain ⟨v42, H43, z41, hG⟩ := bC_s hF; clear hF
        have gz_14 := (g_MText_name z41 hm.1 q_p0)
        replace hm : Rg Q H H43 := hm.tr gz_14
        have s_15 : Sa H H43 := (m_MText_name z41)
        obtain ⟨v45, H46, z44, hF⟩ := bC_s hG; clear hG
        have gz_16 := (g_MText_componentOf z44 hm.1 q_p0)
        replace hm : Rg Q H H46 := hm.tr gz_16
        have s_17 : Sa H H46 := (s_15).tr (m_MText_componentOf z44)
        obtain ⟨x47, -, hG⟩ := bnd_g hF; clear hF
        rcases ite_s hG with ⟨q_18, hF⟩ | ⟨q_18, hF⟩
        · clear hG
          exact hm.tr (gB_MText_names_46 q_p0 ih hF hm.1)
        · clear hG
          exact hm.tr (gB_MText_names_46 q_p0 ih hF hm.1)
    · clear hF
      have hr := Option.some.inj hG; subst hr
      exact hm
set_option maxRecDepth 20000 in
set_option maxHeartbeats 2000000 in
theorem g_MText_names {N : Nat} {Q : Nat → Prop} {p0 : Nat} {p1 : Int32} {p2 : Int32} {H : Hp} {r : Int32 × Hp} (hF : F_MText_names N p0 p1 p2 H = some r) (hc0 : Cl Q H) (q_p0 : Q p0) : Rg Q H r.2 := by
  unfold F_MText_names at hF
  have hm := Rg.rf hc0
  exact hm.tr (gB_MText_names_5 q_p0 N 0 1 H r hF hm.1)
set_option maxRecDepth 20000 in
set_option maxHeartbeats 2000000 in
theorem g_MText_plain {N : Nat} {Q : Nat → Prop} {p0 : Int32} {H : Hp} {r : Int32 × Hp} (hF : F_MText_plain N p0 H = some r) (hc0 : Cl Q H) : Rg Q H r.2 := by
  unfold F_MText_plain at hF
  have hm := Rg.rf hc0
  rcases ite_s hF with ⟨q_2, hG⟩ | ⟨q_2, hG⟩
  · clear hF
    have hr := Option.some.inj hG; subst hr
    exact hm
  · clear hF
    have hr := Option.some.inj hG; subst hr
    exact hm
set_option maxRecDepth 20000 in
set_option maxHeartbeats 2000000 in
theorem gB_MText_memberName_34 {N : Nat} {Q : Nat → Prop} {p0 : Nat} {p1 : Int32} (q_p0 : Q p0) {l2 : Int32} {l3 : Int32} {H : Hp} {r : Int32 × Hp} (hF : B_MText_memberName_34 N p0 p1 l2 l3 H = some r) (hc0 : Cl Q H) : Rg Q H r.2 := by
  unfold B_MText_memberName_34 at hF
  have hm := Rg.rf hc0
  obtain ⟨q45, hG⟩ := ck_s hF; clear hF
  obtain ⟨a46, e47, hF⟩ := rf_s hG; clear hG
  have qa46 : Q a46 := hm.1 _ _ _ q_p0 e47
  obtain ⟨n48, q49, hG⟩ := ar_s hF; clear hF
  obtain ⟨q50, hF⟩ := ck_s hG; clear hG
  obtain ⟨H51, eH51, hG⟩ := bnd_g hF; clear hF
  replace hm : Rg Q H H51 := hm.tr (by rw [eH51]; exact Rg.sD hm.1 qa46)
  have s_12 : Sa H H51 := by rw [eH51]; exact Sa.rf _
  rcases ite_s hG with ⟨q_13, hF⟩ | ⟨q_13, hF⟩
  · clear hG
    have hr := Option.some.inj hF; subst hr
    exact hm
  · clear hG
    have hr := Option.some.inj hF; subst hr
    exact hm
set_option maxRecDepth 20000 in
set_option maxHeartbeats 2000000 in
theorem gB_MText_memberName_23 {N : Nat} {Q : Nat → Prop} {p0 : Nat} {p1 : Int32} (q_p0 : Q p0) {l2 : Int32} {w0 : Int32} {H : Hp} {r : Int32 × Hp} (hF : B_MText_memberName_23 N p0 p1 l2 w0 H = some r) (hc0 : Cl Q H) : Rg Q H r.2 := by
  unfold B_MText_memberName_23 at hF
  have hm := Rg.rf hc0
  rcases ite_s hF with ⟨q_14, hG⟩ | ⟨q_14, hG⟩
  · clear hF
    exact hm.tr (gB_MText_memberName_34 q_p0 hG hm.1)
  · clear hF
    obtain ⟨q54, hF⟩ := ck_s hG; clear hG
    obtain ⟨v56, H57, z55, hG⟩ := bC_s hF; clear hF
    have gz_15 := (g_MText_fails z55 hm.1 q_p0)
    replace hm : Rg Q H H57 := hm.tr gz_15
    have s_16 : Sa H H57 := (m_MText_fails z55)
    exact hm.tr (gB_MText_memberName_34 q_p0 hG hm.1)
set_option maxRecDepth 20000 in
set_option maxHeartbeats 2000000 in
theorem g_MText_memberName {N : Nat} {Q : Nat → Prop} {p0 : Nat} {p1 : Int32} {H : Hp} {r : Int32 × Hp} (hF : F_MText_memberName N p0 p1 H = some r) (hc0 : Cl Q H) (q_p0 : Q p0) : Rg Q H r.2 := by
  unfold F_MText_memberName at hF
  have hm := Rg.rf hc0
  obtain ⟨q58, hG⟩ := ck_s hF; clear hF
  obtain ⟨v60, H61, z59, hF⟩ := bC_s hG; clear hG
  have gz_17 := (g_MText_name z59 hm.1 q_p0)
  replace hm : Rg Q H H61 := hm.tr gz_17
  have s_18 : Sa H H61 := (m_MText_name z59)
  obtain ⟨x62, -, hG⟩ := bnd_g hF; clear hF
  rcases ite_s hG with ⟨q_19, hF⟩ | ⟨q_19, hF⟩
  · clear hG
    obtain ⟨v65, H66, z64, hG⟩ := bC_s hF; clear hF
    have gz_20 := (g_MText_member z64 hm.1 q_p0 q_p0)
    replace hm : Rg Q H H66 := hm.tr gz_20
    have s_21 : Sa H H66 := (s_18).tr (m_MText_member z64)
    exact hm.tr (gB_MText_memberName_23 q_p0 hG hm.1)
  · clear hG
    exact hm.tr (gB_MText_memberName_23 q_p0 hF hm.1)
set_option maxRecDepth 20000 in
set_option maxHeartbeats 2000000 in
theorem gB_MText_named_330 {N : Nat} {Q : Nat → Prop} {p0 : Nat} (q_p0 : Q p0) {l5 : Int32} {H : Hp} {r : Int32 × Hp} (hF : B_MText_named_330 N p0 l5 H = some r) (hc0 : Cl Q H) : Rg Q H r.2 := by
  unfold B_MText_named_330 at hF
  have hm := Rg.rf hc0
  obtain ⟨q303, hG⟩ := ck_s hF; clear hF
  obtain ⟨v305, H306, z304, hF⟩ := bC_s hG; clear hG
  have gz_62 := (g_MText_memberName z304 hm.1 q_p0)
  replace hm : Rg Q H H306 := hm.tr gz_62
  have s_63 : Sa H H306 := (m_MText_memberName z304)
  obtain ⟨x307, -, hG⟩ := bnd_g hF; clear hF
  rcases ite_s hG with ⟨q_64, hF⟩ | ⟨q_64, hF⟩
  · clear hG
    obtain ⟨a309, e310, hG⟩ := rf_s hF; clear hF
    have qa309 : Q a309 := hm.1 _ _ _ q_p0 e310
    obtain ⟨n311, q312, hF⟩ := ar_s hG; clear hG
    rw [(s_63).1] at q312
    obtain ⟨q313, hG⟩ := ck_s hF; clear hF
    obtain ⟨x314, -, hF⟩ := bnd_g hG; clear hG
    obtain ⟨v316, H317, z315, hG⟩ := bC_s hF; clear hF
    have gz_65 := (g_MText_plain z315 hm.1)
    replace hm : Rg Q H H317 := hm.tr gz_65
    have s_66 : Sa H H317 := (s_63).tr (m_MText_plain z315)
    have hr := Option.some.inj hG; subst hr
    exact hm
  · clear hG
    have hr := Option.some.inj hF; subst hr
    exact hm
set_option maxRecDepth 20000 in
set_option maxHeartbeats 2000000 in
theorem gB_MText_named_324 {N : Nat} {Q : Nat → Prop} {p0 : Nat} (q_p0 : Q p0) {l5 : Int32} {H : Hp} {r : Int32 × Hp} (hF : B_MText_named_324 N p0 l5 H = some r) (hc0 : Cl Q H) : Rg Q H r.2 := by
  unfold B_MText_named_324 at hF
  have hm := Rg.rf hc0
  obtain ⟨q318, hG⟩ := ck_s hF; clear hF
  obtain ⟨v320, H321, z319, hF⟩ := bC_s hG; clear hG
  have gz_67 := (g_MText_takes z319 hm.1 q_p0)
  replace hm : Rg Q H H321 := hm.tr gz_67
  have s_68 : Sa H H321 := (m_MText_takes z319)
  exact hm.tr (gB_MText_named_330 q_p0 hF hm.1)
set_option maxRecDepth 20000 in
set_option maxHeartbeats 2000000 in
theorem gB_MText_named_235 {N : Nat} {Q : Nat → Prop} {p0 : Nat} (q_p0 : Q p0) {l5 : Int32} {l7 : Int32} {l8 : Int32} {H : Hp} {r : Int32 × Hp} (hF : B_MText_named_235 N p0 l5 l7 l8 H = some r) (hc0 : Cl Q H) : Rg Q H r.2 := by
  unfold B_MText_named_235 at hF
  have hm := Rg.rf hc0
  obtain ⟨q322, hG⟩ := ck_s hF; clear hF
  obtain ⟨a323, e324, hF⟩ := rf_s hG; clear hG
  have qa323 : Q a323 := hm.1 _ _ _ q_p0 e324
  obtain ⟨n325, q326, hG⟩ := ar_s hF; clear hF
  obtain ⟨q327, hF⟩ := ck_s hG; clear hG
  obtain ⟨H328, eH328, hG⟩ := bnd_g hF; clear hF
  replace hm : Rg Q H H328 := hm.tr (by rw [eH328]; exact Rg.sD hm.1 qa323)
  have s_69 : Sa H H328 := by rw [eH328]; exact Sa.rf _
  obtain ⟨x329, -, hF⟩ := bnd_g hG; clear hG
  rcases ite_s hF with ⟨q_70, hG⟩ | ⟨q_70, hG⟩
  · clear hF
    obtain ⟨a331, e332, hF⟩ := rf_s hG; clear hG
    have qa331 : Q a331 := hm.1 _ _ _ q_p0 e332
    obtain ⟨n333, q334, hG⟩ := ar_s hF; clear hF
    rw [(s_69).1] at q334
    obtain ⟨q335, hF⟩ := ck_s hG; clear hG
    obtain ⟨x336, -, hG⟩ := bnd_g hF; clear hF
    obtain ⟨v338, H339, z337, hF⟩ := bC_s hG; clear hG
    have gz_71 := (g_MText_plain z337 hm.1)
    replace hm : Rg Q H H339 := hm.tr gz_71
    have s_72 : Sa H H339 := (s_69).tr (m_MText_plain z337)
    have hr := Option.some.inj hF; subst hr
    exact hm
  · clear hF
    have hr := Option.some.inj hG; subst hr
    exact hm
set_option maxRecDepth 20000 in
set_option maxHeartbeats 2000000 in
theorem gB_MText_named_221 {N : Nat} {Q : Nat → Prop} {p0 : Nat} (q_p0 : Q p0) {l5 : Int32} {l7 : Int32} {w0 : Int32} {H : Hp} {r : Int32 × Hp} (hF : B_MText_named_221 N p0 l5 l7 w0 H = some r) (hc0 : Cl Q H) : Rg Q H r.2 := by
  unfold B_MText_named_221 at hF
  have hm := Rg.rf hc0
  rcases ite_s hF with ⟨q_73, hG⟩ | ⟨q_73, hG⟩
  · clear hF
    exact hm.tr (gB_MText_named_235 q_p0 hG hm.1)
  · clear hF
    obtain ⟨q341, hF⟩ := ck_s hG; clear hG
    obtain ⟨v343, H344, z342, hG⟩ := bC_s hF; clear hF
    have gz_74 := (g_MText_fails z342 hm.1 q_p0)
    replace hm : Rg Q H H344 := hm.tr gz_74
    have s_75 : Sa H H344 := (m_MText_fails z342)
    exact hm.tr (gB_MText_named_235 q_p0 hG hm.1)
set_option maxRecDepth 20000 in
set_option maxHeartbeats 2000000 in
theorem gB_MText_named_149 {N : Nat} {Q : Nat → Prop} {p0 : Nat} (q_p0 : Q p0) {l1 : Int32} {l2 : Int32} {l3 : Int32} {l4 : Int32} {l5 : Int32} {H : Hp} {r : Int32 × Hp} (hF : B_MText_named_149 N p0 l1 l2 l3 l4 l5 H = some r) (hc0 : Cl Q H) : Rg Q H r.2 := by
  unfold B_MText_named_149 at hF
  have hm := Rg.rf hc0
  obtain ⟨q345, hG⟩ := ck_s hF; clear hF
  obtain ⟨x346, -, hF⟩ := bnd_g hG; clear hG
  rcases ite_s hF with ⟨q_76, hG⟩ | ⟨q_76, hG⟩
  · clear hF
    obtain ⟨a348, e349, hF⟩ := rf_s hG; clear hG
    have qa348 : Q a348 := hm.1 _ _ _ q_p0 e349
    obtain ⟨n350, q351, hG⟩ := ar_s hF; clear hF
    obtain ⟨q352, hF⟩ := ck_s hG; clear hG
    obtain ⟨H353, eH353, hG⟩ := bnd_g hF; clear hF
    replace hm : Rg Q H H353 := hm.tr (by rw [eH353]; exact Rg.sD hm.1 qa348)
    have s_77 : Sa H H353 := by rw [eH353]; exact Sa.rf _
    obtain ⟨a354, e355, hF⟩ := rf_s hG; clear hG
    have qa354 : Q a354 := hm.1 _ _ _ q_p0 e355
    obtain ⟨n356, q357, hG⟩ := ar_s hF; clear hF
    rw [(s_77).1] at q357
    obtain ⟨q358, hF⟩ := ck_s hG; clear hG
    obtain ⟨H359, eH359, hG⟩ := bnd_g hF; clear hF
    replace hm : Rg Q H H359 := hm.tr (by rw [eH359]; exact Rg.sD hm.1 qa354)
    have s_78 : Sa H H359 := by rw [eH359]; exact s_77
    rcases ite_s hG with ⟨q_79, hF⟩ | ⟨q_79, hF⟩
    · clear hG
      obtain ⟨a361, e362, hG⟩ := rf_s hF; clear hF
      have qa361 : Q a361 := hm.1 _ _ _ q_p0 e362
      obtain ⟨n363, q364, hF⟩ := ar_s hG; clear hG
      rw [(s_78).1] at q364
      obtain ⟨q365, hG⟩ := ck_s hF; clear hF
      obtain ⟨x366, -, hF⟩ := bnd_g hG; clear hG
      have hr := Option.some.inj hF; subst hr
      exact hm
    · clear hG
      obtain ⟨v368, H369, z367, hG⟩ := bC_s hF; clear hF
      have gz_80 := (g_MText_takes z367 hm.1 q_p0)
      replace hm : Rg Q H H369 := hm.tr gz_80
      have s_81 : Sa H H369 := (s_78).tr (m_MText_takes z367)
      rcases ite_s hG with ⟨q_82, hF⟩ | ⟨q_82, hF⟩
      · clear hG
        obtain ⟨v372, H373, z371, hG⟩ := bC_s hF; clear hF
        have gz_83 := (g_MText_name z371 hm.1 q_p0)
        replace hm : Rg Q H H373 := hm.tr gz_83
        have s_84 : Sa H H373 := (s_81).tr (m_MText_name z371)
        obtain ⟨x374, -, hF⟩ := bnd_g hG; clear hG
        rcases ite_s hF with ⟨q_85, hG⟩ | ⟨q_85, hG⟩
        · clear hF
          obtain ⟨v377, H378, z376, hF⟩ := bC_s hG; clear hG
          have gz_86 := (g_MText_eventMemberOf z376 hm.1 q_p0)
          replace hm : Rg Q H H378 := hm.tr gz_86
          have s_87 : Sa H H378 := (s_84).tr (m_MText_eventMemberOf z376)
          exact hm.tr (gB_MText_named_221 q_p0 hF hm.1)
        · clear hF
          exact hm.tr (gB_MText_named_221 q_p0 hG hm.1)
      · clear hG
        rcases ite_s hF with ⟨q_88, hG⟩ | ⟨q_88, hG⟩
        · clear hF
          obtain ⟨v381, H382, z380, hF⟩ := bC_s hG; clear hG
          have gz_89 := (g_MText_name z380 hm.1 q_p0)
          replace hm : Rg Q H H382 := hm.tr gz_89
          have s_90 : Sa H H382 := (s_81).tr (m_MText_name z380)
          obtain ⟨v384, H385, z383, hG⟩ := bC_s hF; clear hF
          have gz_91 := (g_MText_numberOf z383 hm.1 q_p0)
          replace hm : Rg Q H H385 := hm.tr gz_91
          have s_92 : Sa H H385 := (s_90).tr (m_MText_numberOf z383)
          obtain ⟨x386, -, hF⟩ := bnd_g hG; clear hG
          rcases ite_s hF with ⟨q_93, hG⟩ | ⟨q_93, hG⟩
          · clear hF
            obtain ⟨a388, e389, hF⟩ := rf_s hG; clear hG
            have qa388 : Q a388 := hm.1 _ _ _ q_p0 e389
            obtain ⟨x390, -, hG⟩ := bnd_g hF; clear hF
            obtain ⟨n391, q392, hF⟩ := ar_s hG; clear hG
            rw [(s_92).1] at q392
            obtain ⟨q393, hG⟩ := ck_s hF; clear hF
            obtain ⟨x394, -, hF⟩ := bnd_g hG; clear hG
            rcases ite_s hF with ⟨q_94, hG⟩ | ⟨q_94, hG⟩
            · clear hF
              obtain ⟨v397, H398, z396, hF⟩ := bC_s hG; clear hG
              have gz_95 := (g_MText_fails z396 hm.1 q_p0)
              replace hm : Rg Q H H398 := hm.tr gz_95
              have s_96 : Sa H H398 := (s_92).tr (m_MText_fails z396)
              exact hm.tr (gB_MText_named_324 q_p0 hF hm.1)
            · clear hF
              exact hm.tr (gB_MText_named_324 q_p0 hG hm.1)
          · clear hF
            exact hm.tr (gB_MText_named_324 q_p0 hG hm.1)
        · clear hF
          exact hm.tr (gB_MText_named_330 q_p0 hG hm.1)
  · clear hF
    have hr := Option.some.inj hG; subst hr
    exact hm
set_option maxRecDepth 20000 in
set_option maxHeartbeats 2000000 in
theorem gB_MText_named_136 {N : Nat} {Q : Nat → Prop} {p0 : Nat} (q_p0 : Q p0) {l1 : Int32} {l2 : Int32} {l3 : Int32} {l4 : Int32} {l5 : Int32} {w0 : Int32} {H : Hp} {r : Int32 × Hp} (hF : B_MText_named_136 N p0 l1 l2 l3 l4 l5 w0 H = some r) (hc0 : Cl Q H) : Rg Q H r.2 := by
  unfold B_MText_named_136 at hF
  have hm := Rg.rf hc0
  rcases ite_s hF with ⟨q_97, hG⟩ | ⟨q_97, hG⟩
  · clear hF
    obtain ⟨q400, hF⟩ := ck_s hG; clear hG
    obtain ⟨v402, H403, z401, hG⟩ := bC_s hF; clear hF
    have gz_98 := (g_MText_fails z401 hm.1 q_p0)
    replace hm : Rg Q H H403 := hm.tr gz_98
    have s_99 : Sa H H403 := (m_MText_fails z401)
    exact hm.tr (gB_MText_named_149 q_p0 hG hm.1)
  · clear hF
    exact hm.tr (gB_MText_named_149 q_p0 hG hm.1)
set_option maxRecDepth 20000 in
set_option maxHeartbeats 2000000 in
theorem gB_MText_named_135 {N : Nat} {Q : Nat → Prop} {p0 : Nat} (q_p0 : Q p0) {l1 : Int32} {l2 : Int32} {l3 : Int32} {l4 : Int32} {l5 : Int32} {H : Hp} {r : Int32 × Hp} (hF : B_MText_named_135 N p0 l1 l2 l3 l4 l5 H = some r) (hc0 : Cl Q H) : Rg Q H r.2 := by
  unfold B_MText_named_135 at hF
  have hm := Rg.rf hc0
  exact hm.tr (gB_MText_named_136 q_p0 hF hm.1)
set_option maxRecDepth 20000 in
set_option maxHeartbeats 2000000 in
theorem gB_MText_named_131 {N : Nat} {Q : Nat → Prop} {p0 : Nat} (q_p0 : Q p0) {l1 : Int32} {l2 : Int32} {l3 : Int32} {l4 : Int32} {l5 : Int32} {H : Hp} {r : Int32 × Hp} (hF : B_MText_named_131 N p0 l1 l2 l3 l4 l5 H = some r) (hc0 : Cl Q H) : Rg Q H r.2 := by
  unfold B_MText_named_131 at hF
  have hm := Rg.rf hc0
  exact hm.tr (gB_MText_named_136 q_p0 hF hm.1)
set_option maxRecDepth 20000 in
set_option maxHeartbeats 2000000 in
theorem gB_MText_named_113 {N : Nat} {Q : Nat → Prop} {p0 : Nat} (q_p0 : Q p0) {l1 : Int32} {l2 : Int32} {l3 : Int32} {l4 : Int32} {l5 : Int32} {H : Hp} {r : Int32 × Hp} (hF : B_MText_named_113 N p0 l1 l2 l3 l4 l5 H = some r) (hc0 : Cl Q H) : Rg Q H r.2 := by
  unfold B_MText_named_113 at hF
  have hm := Rg.rf hc0
  rcases ite_s hF with ⟨q_100, hG⟩ | ⟨q_100, hG⟩
  · clear hF
    obtain ⟨q405, hF⟩ := ck_s hG; clear hG
    obtain ⟨x406, -, hG⟩ := bnd_g hF; clear hF
    rcases ite_s hG with ⟨q_101, hF⟩ | ⟨q_101, hF⟩
    · clear hG
      exact hm.tr (gB_MText_named_131 q_p0 hF hm.1)
    · clear hG
      exact hm.tr (gB_MText_named_135 q_p0 hF hm.1)
  · clear hF
    exact hm.tr (gB_MText_named_135 q_p0 hG hm.1)
set_option maxRecDepth 20000 in
set_option maxHeartbeats 2000000 in
theorem gB_MText_named_75 {N : Nat} {Q : Nat → Prop} {p0 : Nat} (q_p0 : Q p0) {l1 : Int32} {l2 : Int32} {l3 : Int32} {l4 : Int32} {l5 : Int32} {H : Hp} {r : Int32 × Hp} (hF : B_MText_named_75 N p0 l1 l2 l3 l4 l5 H = some r) (hc0 : Cl Q H) : Rg Q H r.2 := by
  unfold B_MText_named_75 at hF
  have hm := Rg.rf hc0
  exact hm.tr (gB_MText_named_136 q_p0 hF hm.1)
set_option maxRecDepth 20000 in
set_option maxHeartbeats 2000000 in
theorem gB_MText_named_53 {N : Nat} {Q : Nat → Prop} {p0 : Nat} (q_p0 : Q p0) {l1 : Int32} {l2 : Int32} {l3 : Int32} {l4 : Int32} {w0 : Int32} {H : Hp} {r : Int32 × Hp} (hF : B_MText_named_53 N p0 l1 l2 l3 l4 w0 H = some r) (hc0 : Cl Q H) : Rg Q H r.2 := by
  unfold B_MText_named_53 at hF
  have hm := Rg.rf hc0
  rcases ite_s hF with ⟨q_102, hG⟩ | ⟨q_102, hG⟩
  · clear hF
    rcases ite_s hG with ⟨q_103, hF⟩ | ⟨q_103, hF⟩
    · clear hG
      exact hm.tr (gB_MText_named_75 q_p0 hF hm.1)
    · clear hG
      obtain ⟨q410, hG⟩ := ck_s hF; clear hF
      obtain ⟨a411, e412, hF⟩ := rf_s hG; clear hG
      have qa411 : Q a411 := hm.1 _ _ _ q_p0 e412
      obtain ⟨n413, q414, hG⟩ := ar_s hF; clear hF
      obtain ⟨q415, hF⟩ := ck_s hG; clear hG
      obtain ⟨x416, -, hG⟩ := bnd_g hF; clear hF
      rcases ite_s hG with ⟨q_104, hF⟩ | ⟨q_104, hF⟩
      · clear hG
        exact hm.tr (gB_MText_named_75 q_p0 hF hm.1)
      · clear hG
        exact hm.tr (gB_MText_named_136 q_p0 hF hm.1)
  · clear hF
    rcases ite_s hG with ⟨q_105, hF⟩ | ⟨q_105, hF⟩
    · clear hG
      exact hm.tr (gB_MText_named_135 q_p0 hF hm.1)
    · clear hG
      rcases ite_s hF with ⟨q_106, hG⟩ | ⟨q_106, hG⟩
      · clear hF
        obtain ⟨q420, hF⟩ := ck_s hG; clear hG
        obtain ⟨a421, e422, hG⟩ := rf_s hF; clear hF
        have qa421 : Q a421 := hm.1 _ _ _ q_p0 e422
        obtain ⟨x423, -, hF⟩ := bnd_g hG; clear hG
        obtain ⟨n424, q425, hG⟩ := ar_s hF; clear hF
        obtain ⟨q426, hF⟩ := ck_s hG; clear hG
        obtain ⟨x427, -, hG⟩ := bnd_g hF; clear hF
        rcases ite_s hG with ⟨q_107, hF⟩ | ⟨q_107, hF⟩
        · clear hG
          exact hm.tr (gB_MText_named_131 q_p0 hF hm.1)
        · clear hG
          exact hm.tr (gB_MText_named_113 q_p0 hF hm.1)
      · clear hF
        exact hm.tr (gB_MText_named_113 q_p0 hG hm.1)
set_option maxRecDepth 20000 in
set_option maxHeartbeats 2000000 in
theorem g_MText_named {N : Nat} {Q : Nat → Prop} {p0 : Nat} {H : Hp} {r : Int32 × Hp} (hF : F_MText_named N p0 H = some r) (hc0 : Cl Q H) (q_p0 : Q p0) : Rg Q H r.2 := by
  unfold F_MText_named at hF
  have hm := Rg.rf hc0
  obtain ⟨q429, hG⟩ := ck_s hF; clear hF
  obtain ⟨v431, H432, z430, hF⟩ := bC_s hG; clear hG
  have gz_108 := (g_MText_name z430 hm.1 q_p0)
  replace hm : Rg Q H H432 := hm.tr gz_108
  have s_109 : Sa H H432 := (m_MText_name z430)
  obtain ⟨v434, H435, z433, hG⟩ := bC_s hF; clear hF
  have gz_110 := (g_MText_sort z433 hm.1 q_p0)
  replace hm : Rg Q H H435 := hm.tr gz_110
  have s_111 : Sa H H435 := (s_109).tr (m_MText_sort z433)
  obtain ⟨x436, -, hF⟩ := bnd_g hG; clear hG
  rcases ite_s hF with ⟨q_112, hG⟩ | ⟨q_112, hG⟩
  · clear hF
    obtain ⟨v439, H440, z438, hF⟩ := bC_s hG; clear hG
    have gz_113 := (g_MText_local z438 hm.1 q_p0)
    replace hm : Rg Q H H440 := hm.tr gz_113
    have s_114 : Sa H H440 := (s_111).tr (m_MText_local z438)
    obtain ⟨v442, H443, z441, hG⟩ := bC_s hF; clear hF
    have gz_115 := (g_MText_is z441 hm.1 q_p0)
    replace hm : Rg Q H H443 := hm.tr gz_115
    have s_116 : Sa H H443 := (s_114).tr (m_MText_is z441)
    rcases ite_s hG with ⟨q_117, hF⟩ | ⟨q_117, hF⟩
    · clear hG
      exact hm.tr (gB_MText_named_53 q_p0 hF hm.1)
    · clear hG
      obtain ⟨a445, e446, hG⟩ := rf_s hF; clear hF
      have qa445 : Q a445 := hm.1 _ _ _ q_p0 e446
      obtain ⟨v448, H449, z447, hF⟩ := bC_s hG; clear hG
      have gz_118 := (g_MText_index z447 hm.1 q_p0)
      replace hm : Rg Q H H449 := hm.tr gz_118
      have s_119 : Sa H H449 := (s_116).tr (m_MText_index z447)
      obtain ⟨n450, q451, hG⟩ := ar_s hF; clear hF
      rw [(s_119).1] at q451
      obtain ⟨q452, hF⟩ := ck_s hG; clear hG
      obtain ⟨x453, -, hG⟩ := bnd_g hF; clear hF
      exact hm.tr (gB_MText_named_53 q_p0 hG hm.1)
  · clear hF
    have hr := Option.some.inj hG; subst hr
    exact hm
set_option maxRecDepth 20000 in
set_option maxHeartbeats 2000000 in
theorem gB_MText_deeper_25 {N : Nat} {Q : Nat → Prop} {p0 : Nat} (q_p0 : Q p0)  {H : Hp} {r : Unit × Hp} (hF : B_MText_deeper_25 N p0  H = some r) (hc0 : Cl Q H) : Rg Q H r.2 := by
  unfold B_MText_deeper_25 at hF
  have hm := Rg.rf hc0
  obtain ⟨q25, hG⟩ := ck_s hF; clear hF
  obtain ⟨x26, -, hF⟩ := bnd_g hG; clear hG
  obtain ⟨H27, eH27, hG⟩ := bnd_g hF; clear hF
  replace hm : Rg Q H H27 := hm.tr (by rw [eH27]; exact Rg.sD hm.1 q_p0)
  have s_7 : Sa H H27 := by rw [eH27]; exact Sa.rf _
  have hr := Option.some.inj hG; subst hr
  exact hm
set_option maxRecDepth 20000 in
set_option maxHeartbeats 2000000 in
theorem g_MText_deeper {N : Nat} {Q : Nat → Prop} {p0 : Nat} {H : Hp} {r : Unit × Hp} (hF : F_MText_deeper N p0 H = some r) (hc0 : Cl Q H) (q_p0 : Q p0) : Rg Q H r.2 := by
  unfold F_MText_deeper at hF
  have hm := Rg.rf hc0
  obtain ⟨q28, hG⟩ := ck_s hF; clear hF
  obtain ⟨x29, -, hF⟩ := bnd_g hG; clear hG
  rcases ite_s hF with ⟨q_8, hG⟩ | ⟨q_8, hG⟩
  · clear hF
    obtain ⟨x31, -, hF⟩ := bnd_g hG; clear hG
    rcases ite_s hF with ⟨q_9, hG⟩ | ⟨q_9, hG⟩
    · clear hF
      obtain ⟨x33, -, hF⟩ := bnd_g hG; clear hG
      obtain ⟨v35, H36, z34, hG⟩ := bC_s hF; clear hF
      have gz_10 := (g_MText_fails z34 hm.1 q_p0)
      replace hm : Rg Q H H36 := hm.tr gz_10
      have s_11 : Sa H H36 := (m_MText_fails z34)
      exact hm.tr (gB_MText_deeper_25 q_p0 hG hm.1)
    · clear hF
      exact hm.tr (gB_MText_deeper_25 q_p0 hG hm.1)
  · clear hF
    exact hm.tr (gB_MText_deeper_25 q_p0 hG hm.1)
set_option maxRecDepth 20000 in
set_option maxHeartbeats 2000000 in
theorem gB_MText_opens_13 {N : Nat} {Q : Nat → Prop} {p0 : Nat} (q_p0 : Q p0)  {H : Hp} {r : Unit × Hp} (hF : B_MText_opens_13 N p0  H = some r) (hc0 : Cl Q H) : Rg Q H r.2 := by
  unfold B_MText_opens_13 at hF
  have hm := Rg.rf hc0
  obtain ⟨q25, hG⟩ := ck_s hF; clear hF
  obtain ⟨v27, H28, z26, hF⟩ := bC_s hG; clear hG
  have gz_8 := (g_MText_takes z26 hm.1 q_p0)
  replace hm : Rg Q H H28 := hm.tr gz_8
  have s_9 : Sa H H28 := (m_MText_takes z26)
  have hr := Option.some.inj hF; subst hr
  exact hm
set_option maxRecDepth 20000 in
set_option maxHeartbeats 2000000 in
theorem g_MText_opens {N : Nat} {Q : Nat → Prop} {p0 : Nat} {H : Hp} {r : Unit × Hp} (hF : F_MText_opens N p0 H = some r) (hc0 : Cl Q H) (q_p0 : Q p0) : Rg Q H r.2 := by
  unfold F_MText_opens at hF
  have hm := Rg.rf hc0
  obtain ⟨q29, hG⟩ := ck_s hF; clear hF
  obtain ⟨v31, H32, z30, hF⟩ := bC_s hG; clear hG
  have gz_10 := (g_MText_is z30 hm.1 q_p0)
  replace hm : Rg Q H H32 := hm.tr gz_10
  have s_11 : Sa H H32 := (m_MText_is z30)
  rcases ite_s hF with ⟨q_12, hG⟩ | ⟨q_12, hG⟩
  · clear hF
    exact hm.tr (gB_MText_opens_13 q_p0 hG hm.1)
  · clear hF
    obtain ⟨v35, H36, z34, hF⟩ := bC_s hG; clear hG
    have gz_13 := (g_MText_deeper z34 hm.1 q_p0)
    replace hm : Rg Q H H36 := hm.tr gz_13
    have s_14 : Sa H H36 := (s_11).tr (m_MText_deeper z34)
    exact hm.tr (gB_MText_opens_13 q_p0 hF hm.1)
set_option maxRecDepth 20000 in
set_option maxHeartbeats 2000000 in
theorem g_MText_closes {N : Nat} {Q : Nat → Prop} {p0 : Nat} {H : Hp} {r : Unit × Hp} (hF : F_MText_closes N p0 H = some r) (hc0 : Cl Q H) (q_p0 : Q p0) : Rg Q H r.2 := by
  unfold F_MText_closes at hF
  have hm := Rg.rf hc0
  obtain ⟨q13, hG⟩ := ck_s hF; clear hF
  obtain ⟨v15, H16, z14, hF⟩ := bC_s hG; clear hG
  have gz_5 := (g_MText_takes z14 hm.1 q_p0)
  replace hm : Rg Q H H16 := hm.tr gz_5
  have s_6 : Sa H H16 := (m_MText_takes z14)
  obtain ⟨x17, -, hG⟩ := bnd_g hF; clear hF
  obtain ⟨H18, eH18, hF⟩ := bnd_g hG; clear hG
  replace hm : Rg Q H H18 := hm.tr (by rw [eH18]; exact Rg.sD hm.1 q_p0)
  have s_7 : Sa H H18 := by rw [eH18]; exact s_6
  have hr := Option.some.inj hF; subst hr
  exact hm
set_option maxRecDepth 20000 in
set_option maxHeartbeats 2000000 in
theorem gB_MText_reckons_9 {N : Nat} {Q : Nat → Prop} {p0 : Int32}  {H : Hp} {r : Int32 × Hp} (hF : B_MText_reckons_9 N p0  H = some r) (hc0 : Cl Q H) : Rg Q H r.2 := by
  unfold B_MText_reckons_9 at hF
  have hm := Rg.rf hc0
  have hr := Option.some.inj hF; subst hr
  exact hm
set_option maxRecDepth 20000 in
set_option maxHeartbeats 2000000 in
theorem g_MText_reckons {N : Nat} {Q : Nat → Prop} {p0 : Int32} {H : Hp} {r : Int32 × Hp} (hF : F_MText_reckons N p0 H = some r) (hc0 : Cl Q H) : Rg Q H r.2 := by
  unfold F_MText_reckons at hF
  have hm := Rg.rf hc0
  rcases ite_s hF with ⟨q_3, hG⟩ | ⟨q_3, hG⟩
  · clear hF
    exact hm.tr (gB_MText_reckons_9 hG hm.1)
  · clear hF
    rcases ite_s hG with ⟨q_4, hF⟩ | ⟨q_4, hF⟩
    · clear hG
      exact hm.tr (gB_MText_reckons_9 hF hm.1)
    · clear hG
      have hr := Option.some.inj hF; subst hr
      exact hm
set_option maxRecDepth 20000 in
set_option maxHeartbeats 2000000 in
theorem gB_MText_goTogether_23 {N : Nat} {Q : Nat → Prop} {p0 : Nat} {p1 : Int32} {p2 : Int32} {p3 : Int32} {p4 : Int32} (q_p0 : Q p0)  {H : Hp} {r : Int32 × Hp} (hF : B_MText_goTogether_23 N p0 p1 p2 p3 p4  H = some r) (hc0 : Cl Q H) : Rg Q H r.2 := by
  unfold B_MText_goTogether_23 at hF
  have hm := Rg.rf hc0
  obtain ⟨q33, hG⟩ := ck_s hF; clear hF
  obtain ⟨a34, e35, hF⟩ := rf_s hG; clear hG
  have qa34 : Q a34 := hm.1 _ _ _ q_p0 e35
  obtain ⟨n36, q37, hG⟩ := ar_s hF; clear hF
  obtain ⟨q38, hF⟩ := ck_s hG; clear hG
  obtain ⟨H39, eH39, hG⟩ := bnd_g hF; clear hF
  replace hm : Rg Q H H39 := hm.tr (by rw [eH39]; exact Rg.sD hm.1 qa34)
  have s_8 : Sa H H39 := by rw [eH39]; exact Sa.rf _
  have hr := Option.some.inj hG; subst hr
  exact hm
set_option maxRecDepth 20000 in
set_option maxHeartbeats 2000000 in
theorem gB_MText_goTogether_17 {N : Nat} {Q : Nat → Prop} {p0 : Nat} {p1 : Int32} {p2 : Int32} {p3 : Int32} {p4 : Int32} (q_p0 : Q p0)  {H : Hp} {r : Int32 × Hp} (hF : B_MText_goTogether_17 N p0 p1 p2 p3 p4  H = some r) (hc0 : Cl Q H) : Rg Q H r.2 := by
  unfold B_MText_goTogether_17 at hF
  have hm := Rg.rf hc0
  obtain ⟨q40, hG⟩ := ck_s hF; clear hF
  obtain ⟨v42, H43, z41, hF⟩ := bC_s hG; clear hG
  have gz_9 := (g_MText_fails z41 hm.1 q_p0)
  replace hm : Rg Q H H43 := hm.tr gz_9
  have s_10 : Sa H H43 := (m_MText_fails z41)
  exact hm.tr (gB_MText_goTogether_23 q_p0 hF hm.1)
set_option maxRecDepth 20000 in
set_option maxHeartbeats 2000000 in
theorem g_MText_goTogether {N : Nat} {Q : Nat → Prop} {p0 : Nat} {p1 : Int32} {p2 : Int32} {p3 : Int32} {p4 : Int32} {H : Hp} {r : Int32 × Hp} (hF : F_MText_goTogether N p0 p1 p2 p3 p4 H = some r) (hc0 : Cl Q H) (q_p0 : Q p0) : Rg Q H r.2 := by
  unfold F_MText_goTogether at hF
  have hm := Rg.rf hc0
  obtain ⟨q44, hG⟩ := ck_s hF; clear hF
  obtain ⟨x45, -, hF⟩ := bnd_g hG; clear hG
  rcases ite_s hF with ⟨q_11, hG⟩ | ⟨q_11, hG⟩
  · clear hF
    rcases ite_s hG with ⟨q_12, hF⟩ | ⟨q_12, hF⟩
    · clear hG
      exact hm.tr (gB_MText_goTogether_17 q_p0 hF hm.1)
    · clear hG
      rcases ite_s hF with ⟨q_13, hG⟩ | ⟨q_13, hG⟩
      · clear hF
        exact hm.tr (gB_MText_goTogether_23 q_p0 hG hm.1)
      · clear hF
        exact hm.tr (gB_MText_goTogether_17 q_p0 hG hm.1)
  · clear hF
    exact hm.tr (gB_MText_goTogether_23 q_p0 hG hm.1)
set_option maxRecDepth 20000 in
set_option maxHeartbeats 2000000 in
theorem gB_MText_isLess_35 {N : Nat} {Q : Nat → Prop} {p0 : Nat} (q_p0 : Q p0)  {H : Hp} {r : Int32 × Hp} (hF : B_MText_isLess_35 N p0  H = some r) (hc0 : Cl Q H) : Rg Q H r.2 := by
  unfold B_MText_isLess_35 at hF
  have hm := Rg.rf hc0
  have hr := Option.some.inj hF; subst hr
  exact hm
set_option maxRecDepth 20000 in
set_option maxHeartbeats 2000000 in
theorem g_MText_isLess {N : Nat} {Q : Nat → Prop} {p0 : Nat} {H : Hp} {r : Int32 × Hp} (hF : F_MText_isLess N p0 H = some r) (hc0 : Cl Q H) (q_p0 : Q p0) : Rg Q H r.2 := by
  unfold F_MText_isLess at hF
  have hm := Rg.rf hc0
  obtain ⟨q35, hG⟩ := ck_s hF; clear hF
  obtain ⟨v37, H38, z36, hF⟩ := bC_s hG; clear hG
  have gz_13 := (g_MText_is z36 hm.1 q_p0)
  replace hm : Rg Q H H38 := hm.tr gz_13
  have s_14 : Sa H H38 := (m_MText_is z36)
  rcases ite_s hF with ⟨q_15, hG⟩ | ⟨q_15, hG⟩
  · clear hF
    obtain ⟨v41, H42, z40, hF⟩ := bC_s hG; clear hG
    have gz_16 := (g_MText_is z40 hm.1 q_p0)
    replace hm : Rg Q H H42 := hm.tr gz_16
    have s_17 : Sa H H42 := (s_14).tr (m_MText_is z40)
    rcases ite_s hF with ⟨q_18, hG⟩ | ⟨q_18, hG⟩
    · clear hF
      obtain ⟨v45, H46, z44, hF⟩ := bC_s hG; clear hG
      have gz_19 := (g_MText_is z44 hm.1 q_p0)
      replace hm : Rg Q H H46 := hm.tr gz_19
      have s_20 : Sa H H46 := (s_17).tr (m_MText_is z44)
      rcases ite_s hF with ⟨q_21, hG⟩ | ⟨q_21, hG⟩
      · clear hF
        obtain ⟨v49, H50, z48, hF⟩ := bC_s hG; clear hG
        have gz_22 := (g_MText_is z48 hm.1 q_p0)
        replace hm : Rg Q H H50 := hm.tr gz_22
        have s_23 : Sa H H50 := (s_20).tr (m_MText_is z48)
        rcases ite_s hF with ⟨q_24, hG⟩ | ⟨q_24, hG⟩
        · clear hF
          have hr := Option.some.inj hG; subst hr
          exact hm
        · clear hF
          exact hm.tr (gB_MText_isLess_35 q_p0 hG hm.1)
      · clear hF
        exact hm.tr (gB_MText_isLess_35 q_p0 hG hm.1)
    · clear hF
      exact hm.tr (gB_MText_isLess_35 q_p0 hG hm.1)
  · clear hF
    exact hm.tr (gB_MText_isLess_35 q_p0 hG hm.1)
def rg_TextE (Q : Nat → Prop) (o : Orc_TextE) : Prop :=
  (∀ (a0 : Nat) (H : Hp) (r : Int32 × Hp), o.1 a0 H = some r → Cl Q H → Q a0 → Rg Q H r.2) ∧
  (∀ (a0 : Nat) (H : Hp) (r : Int32 × Hp), o.2 a0 H = some r → Cl Q H → Q a0 → Rg Q H r.2)
set_option maxRecDepth 20000 in
set_option maxHeartbeats 2000000 in
theorem g_MText_wants {N : Nat} {Q : Nat → Prop} {o : Orc_TextE} {hmo : mo_TextE o} (hgo : rg_TextE Q o) {p0 : Nat} {p1 : Int32} {H : Hp} {r : Unit × Hp} (hF : F_MText_wants N o p0 p1 H = some r) (hc0 : Cl Q H) (q_p0 : Q p0) : Rg Q H r.2 := by
  unfold F_MText_wants at hF
  have hm := Rg.rf hc0
  obtain ⟨q23, hG⟩ := ck_s hF; clear hF
  obtain ⟨x24, -, hF⟩ := bnd_g hG; clear hG
  obtain ⟨v26, H27, z25, hG⟩ := bC_s hF; clear hF
  have gz_7 := (hgo.1 _ _ _ z25 hm.1 q_p0)
  replace hm : Rg Q H H27 := hm.tr gz_7
  have s_8 : Sa H H27 := (hmo.1 _ _ _ z25)
  obtain ⟨x28, -, hF⟩ := bnd_g hG; clear hG
  rcases ite_s hF with ⟨q_9, hG⟩ | ⟨q_9, hG⟩
  · clear hF
    rcases ite_s hG with ⟨q_10, hF⟩ | ⟨q_10, hF⟩
    · clear hG
      have hr := Option.some.inj hF; subst hr
      exact hm
    · clear hG
      obtain ⟨v32, H33, z31, hG⟩ := bC_s hF; clear hF
      have gz_11 := (g_MText_fails z31 hm.1 q_p0)
      replace hm : Rg Q H H33 := hm.tr gz_11
      have s_12 : Sa H H33 := (s_8).tr (m_MText_fails z31)
      have hr := Option.some.inj hG; subst hr
      exact hm
  · clear hF
    have hr := Option.some.inj hG; subst hr
    exact hm
set_option maxRecDepth 20000 in
set_option maxHeartbeats 2000000 in
theorem g_MText_wantsIn {N : Nat} {Q : Nat → Prop} {o : Orc_TextE} {hmo : mo_TextE o} (hgo : rg_TextE Q o) {p0 : Nat} {p1 : Int32} {H : Hp} {r : Unit × Hp} (hF : F_MText_wantsIn N o p0 p1 H = some r) (hc0 : Cl Q H) (q_p0 : Q p0) : Rg Q H r.2 := by
  unfold F_MText_wantsIn at hF
  have hm := Rg.rf hc0
  obtain ⟨q21, hG⟩ := ck_s hF; clear hF
  obtain ⟨v23, H24, z22, hF⟩ := bC_s hG; clear hG
  have gz_7 := (g_MText_opens z22 hm.1 q_p0)
  replace hm : Rg Q H H24 := hm.tr gz_7
  have s_8 : Sa H H24 := (m_MText_opens z22)
  obtain ⟨v26, H27, z25, hG⟩ := bC_s hF; clear hF
  have gz_9 := (g_MText_wants (hmo := hmo) hgo z25 hm.1 q_p0)
  replace hm : Rg Q H H27 := hm.tr gz_9
  have s_10 : Sa H H27 := (s_8).tr (m_MText_wants hmo z25)
  obtain ⟨v29, H30, z28, hF⟩ := bC_s hG; clear hG
  have gz_11 := (g_MText_closes z28 hm.1 q_p0)
  replace hm : Rg Q H H30 := hm.tr gz_11
  have s_12 : Sa H H30 := (s_10).tr (m_MText_closes z28)
  have hr := Option.some.inj hF; subst hr
  exact hm
set_option maxRecDepth 20000 in
set_option maxHeartbeats 2000000 in
theorem gB_MText_primary_51 {N : Nat} {Q : Nat → Prop} {o : Orc_TextE} {hmo : mo_TextE o} (hgo : rg_TextE Q o) {p0 : Nat} (q_p0 : Q p0) {l1 : Int32} {l2 : Int32} {H : Hp} {r : Int32 × Hp} (hF : B_MText_primary_51 N o p0 l1 l2 H = some r) (hc0 : Cl Q H) : Rg Q H r.2 := by
  unfold B_MText_primary_51 at hF
  have hm := Rg.rf hc0
  obtain ⟨q207, hG⟩ := ck_s hF; clear hF
  obtain ⟨x208, -, hF⟩ := bnd_g hG; clear hG
  rcases ite_s hF with ⟨q_69, hG⟩ | ⟨q_69, hG⟩
  · clear hF
    rcases ite_s hG with ⟨q_70, hF⟩ | ⟨q_70, hF⟩
    · clear hG
      obtain ⟨v212, H213, z211, hG⟩ := bC_s hF; clear hF
      have gz_71 := (g_MText_named z211 hm.1 q_p0)
      replace hm : Rg Q H H213 := hm.tr gz_71
      have s_72 : Sa H H213 := (m_MText_named z211)
      have hr := Option.some.inj hG; subst hr
      exact hm
    · clear hG
      obtain ⟨x214, -, hG⟩ := bnd_g hF; clear hF
      obtain ⟨H215, eH215, hF⟩ := bnd_g hG; clear hG
      replace hm : Rg Q H H215 := hm.tr (by rw [eH215]; exact Rg.sD hm.1 q_p0)
      have s_73 : Sa H H215 := by rw [eH215]; exact Sa.rf _
      rcases ite_s hF with ⟨q_74, hG⟩ | ⟨q_74, hG⟩
      · clear hF
        have hr := Option.some.inj hG; subst hr
        exact hm
      clear hF
      rcases ite_s hG with ⟨q_75, hF⟩ | ⟨q_75, hF⟩
      · clear hG
        have hr := Option.some.inj hF; subst hr
        exact hm
      clear hG
      rcases ite_s hF with ⟨q_76, hG⟩ | ⟨q_76, hG⟩
      · clear hF
        obtain ⟨H219, eH219, hF⟩ := bnd_g hG; clear hG
        replace hm : Rg Q H H219 := hm.tr (by rw [eH219]; exact Rg.sD hm.1 q_p0)
        have s_77 : Sa H H219 := by rw [eH219]; exact s_73
        obtain ⟨v221, H222, z220, hG⟩ := bC_s hF; clear hF
        have gz_78 := (g_MText_opens z220 hm.1 q_p0)
        replace hm : Rg Q H H222 := hm.tr gz_78
        have s_79 : Sa H H222 := (s_77).tr (m_MText_opens z220)
        obtain ⟨v224, H225, z223, hF⟩ := bC_s hG; clear hG
        have gz_80 := (hgo.1 _ _ _ z223 hm.1 q_p0)
        replace hm : Rg Q H H225 := hm.tr gz_80
        have s_81 : Sa H H225 := (s_79).tr (hmo.1 _ _ _ z223)
        obtain ⟨v227, H228, z226, hG⟩ := bC_s hF; clear hF
        have gz_82 := (g_MText_closes z226 hm.1 q_p0)
        replace hm : Rg Q H H228 := hm.tr gz_82
        have s_83 : Sa H H228 := (s_81).tr (m_MText_closes z226)
        have hr := Option.some.inj hG; subst hr
        exact hm
      clear hF
      rcases ite_s hG with ⟨q_84, hF⟩ | ⟨q_84, hF⟩
      · clear hG
        obtain ⟨v231, H232, z230, hG⟩ := bC_s hF; clear hF
        have gz_85 := (g_MText_wantsIn (hmo := hmo) hgo z230 hm.1 q_p0)
        replace hm : Rg Q H H232 := hm.tr gz_85
        have s_86 : Sa H H232 := (s_73).tr (m_MText_wantsIn hmo z230)
        rcases ite_s hG with ⟨q_87, hF⟩ | ⟨q_87, hF⟩
        · clear hG
          have hr := Option.some.inj hF; subst hr
          exact hm
        · clear hG
          have hr := Option.some.inj hF; subst hr
          exact hm
      clear hG
      rcases ite_s hF with ⟨q_88, hG⟩ | ⟨q_88, hG⟩
      · clear hF
        obtain ⟨v236, H237, z235, hF⟩ := bC_s hG; clear hG
        have gz_89 := (g_MText_wantsIn (hmo := hmo) hgo z235 hm.1 q_p0)
        replace hm : Rg Q H H237 := hm.tr gz_89
        have s_90 : Sa H H237 := (s_73).tr (m_MText_wantsIn hmo z235)
        rcases ite_s hF with ⟨q_91, hG⟩ | ⟨q_91, hG⟩
        · clear hF
          have hr := Option.some.inj hG; subst hr
          exact hm
        · clear hF
          have hr := Option.some.inj hG; subst hr
          exact hm
      clear hF
      rcases ite_s hG with ⟨q_92, hF⟩ | ⟨q_92, hF⟩
      · clear hG
        have hr := Option.some.inj hF; subst hr
        exact hm
      clear hG
      rcases ite_s hF with ⟨q_93, hG⟩ | ⟨q_93, hG⟩
      · clear hF
        have hr := Option.some.inj hG; subst hr
        exact hm
      clear hF
      rcases ite_s hG with ⟨q_94, hF⟩ | ⟨q_94, hF⟩
      · clear hG
        have hr := Option.some.inj hF; subst hr
        exact hm
      clear hG
      rcases ite_s hF with ⟨q_95, hG⟩ | ⟨q_95, hG⟩
      · clear hF
        have hr := Option.some.inj hG; subst hr
        exact hm
      clear hF
      rcases ite_s hG with ⟨q_96, hF⟩ | ⟨q_96, hF⟩
      · clear hG
        have hr := Option.some.inj hF; subst hr
        exact hm
      clear hG
      rcases ite_s hF with ⟨q_97, hG⟩ | ⟨q_97, hG⟩
      · clear hF
        obtain ⟨v246, H247, z245, hF⟩ := bC_s hG; clear hG
        have gz_98 := (g_MText_wantsIn (hmo := hmo) hgo z245 hm.1 q_p0)
        replace hm : Rg Q H H247 := hm.tr gz_98
        have s_99 : Sa H H247 := (s_73).tr (m_MText_wantsIn hmo z245)
        rcases ite_s hF with ⟨q_100, hG⟩ | ⟨q_100, hG⟩
        · clear hF
          have hr := Option.some.inj hG; subst hr
          exact hm
        · clear hF
          have hr := Option.some.inj hG; subst hr
          exact hm
      clear hF
      rcases ite_s hG with ⟨q_101, hF⟩ | ⟨q_101, hF⟩
      · clear hG
        obtain ⟨v251, H252, z250, hG⟩ := bC_s hF; clear hF
        have gz_102 := (g_MText_wantsIn (hmo := hmo) hgo z250 hm.1 q_p0)
        replace hm : Rg Q H H252 := hm.tr gz_102
        have s_103 : Sa H H252 := (s_73).tr (m_MText_wantsIn hmo z250)
        rcases ite_s hG with ⟨q_104, hF⟩ | ⟨q_104, hF⟩
        · clear hG
          have hr := Option.some.inj hF; subst hr
          exact hm
        · clear hG
          have hr := Option.some.inj hF; subst hr
          exact hm
      clear hG
      rcases ite_s hF with ⟨q_105, hG⟩ | ⟨q_105, hG⟩
      · clear hF
        obtain ⟨v256, H257, z255, hF⟩ := bC_s hG; clear hG
        have gz_106 := (g_MText_wantsIn (hmo := hmo) hgo z255 hm.1 q_p0)
        replace hm : Rg Q H H257 := hm.tr gz_106
        have s_107 : Sa H H257 := (s_73).tr (m_MText_wantsIn hmo z255)
        have hr := Option.some.inj hF; subst hr
        exact hm
      clear hF
      rcases ite_s hG with ⟨q_108, hF⟩ | ⟨q_108, hF⟩
      · clear hG
        obtain ⟨v260, H261, z259, hG⟩ := bC_s hF; clear hF
        have gz_109 := (g_MText_wantsIn (hmo := hmo) hgo z259 hm.1 q_p0)
        replace hm : Rg Q H H261 := hm.tr gz_109
        have s_110 : Sa H H261 := (s_73).tr (m_MText_wantsIn hmo z259)
        rcases ite_s hG with ⟨q_111, hF⟩ | ⟨q_111, hF⟩
        · clear hG
          have hr := Option.some.inj hF; subst hr
          exact hm
        · clear hG
          have hr := Option.some.inj hF; subst hr
          exact hm
      clear hG
      rcases ite_s hF with ⟨q_112, hG⟩ | ⟨q_112, hG⟩
      · clear hF
        obtain ⟨v265, H266, z264, hF⟩ := bC_s hG; clear hG
        have gz_113 := (g_MText_opens z264 hm.1 q_p0)
        replace hm : Rg Q H H266 := hm.tr gz_113
        have s_114 : Sa H H266 := (s_73).tr (m_MText_opens z264)
        obtain ⟨v268, H269, z267, hG⟩ := bC_s hF; clear hF
        have gz_115 := (g_MText_wants (hmo := hmo) hgo z267 hm.1 q_p0)
        replace hm : Rg Q H H269 := hm.tr gz_115
        have s_116 : Sa H H269 := (s_114).tr (m_MText_wants hmo z267)
        obtain ⟨v271, H272, z270, hF⟩ := bC_s hG; clear hG
        have gz_117 := (g_MText_takes z270 hm.1 q_p0)
        replace hm : Rg Q H H272 := hm.tr gz_117
        have s_118 : Sa H H272 := (s_116).tr (m_MText_takes z270)
        obtain ⟨v274, H275, z273, hG⟩ := bC_s hF; clear hF
        have gz_119 := (g_MText_name z273 hm.1 q_p0)
        replace hm : Rg Q H H275 := hm.tr gz_119
        have s_120 : Sa H H275 := (s_118).tr (m_MText_name z273)
        obtain ⟨v277, H278, z276, hF⟩ := bC_s hG; clear hG
        have gz_121 := (g_MText_numberOf z276 hm.1 q_p0)
        replace hm : Rg Q H H278 := hm.tr gz_121
        have s_122 : Sa H H278 := (s_120).tr (m_MText_numberOf z276)
        obtain ⟨v280, H281, z279, hG⟩ := bC_s hF; clear hF
        have gz_123 := (g_MText_closes z279 hm.1 q_p0)
        replace hm : Rg Q H H281 := hm.tr gz_123
        have s_124 : Sa H H281 := (s_122).tr (m_MText_closes z279)
        have hr := Option.some.inj hG; subst hr
        exact hm
      clear hF
      obtain ⟨H282, eH282, hF⟩ := bnd_g hG; clear hG
      replace hm : Rg Q H H282 := hm.tr (by rw [eH282]; exact Rg.sD hm.1 q_p0)
      have s_125 : Sa H H282 := by rw [eH282]; exact s_73
      obtain ⟨v284, H285, z283, hG⟩ := bC_s hF; clear hF
      have gz_126 := (g_MText_fails z283 hm.1 q_p0)
      replace hm : Rg Q H H285 := hm.tr gz_126
      have s_127 : Sa H H285 := (s_125).tr (m_MText_fails z283)
      have hr := Option.some.inj hG; subst hr
      exact hm
  · clear hF
    have hr := Option.some.inj hG; subst hr
    exact hm
set_option maxRecDepth 20000 in
set_option maxHeartbeats 2000000 in
theorem gB_MText_primary_36 {N : Nat} {Q : Nat → Prop} {o : Orc_TextE} {hmo : mo_TextE o} (hgo : rg_TextE Q o) {p0 : Nat} (q_p0 : Q p0) {l1 : Int32} {l2 : Int32} {H : Hp} {r : Int32 × Hp} (hF : B_MText_primary_36 N o p0 l1 l2 H = some r) (hc0 : Cl Q H) : Rg Q H r.2 := by
  unfold B_MText_primary_36 at hF
  have hm := Rg.rf hc0
  obtain ⟨q286, hG⟩ := ck_s hF; clear hF
  obtain ⟨a287, e288, hF⟩ := rf_s hG; clear hG
  have qa287 : Q a287 := hm.1 _ _ _ q_p0 e288
  obtain ⟨n289, q290, hG⟩ := ar_s hF; clear hF
  obtain ⟨q291, hF⟩ := ck_s hG; clear hG
  obtain ⟨x292, -, hG⟩ := bnd_g hF; clear hF
  rcases ite_s hG with ⟨q_128, hF⟩ | ⟨q_128, hF⟩
  · clear hG
    exact hm.tr (gB_MText_primary_51 (hmo := hmo) hgo q_p0 hF hm.1)
  · clear hG
    obtain ⟨v295, H296, z294, hG⟩ := bC_s hF; clear hF
    have gz_129 := (g_MText_fails z294 hm.1 q_p0)
    replace hm : Rg Q H H296 := hm.tr gz_129
    have s_130 : Sa H H296 := (m_MText_fails z294)
    exact hm.tr (gB_MText_primary_51 (hmo := hmo) hgo q_p0 hG hm.1)
set_option maxRecDepth 20000 in
set_option maxHeartbeats 2000000 in
theorem gB_MText_primary_25 {N : Nat} {Q : Nat → Prop} {o : Orc_TextE} {hmo : mo_TextE o} (hgo : rg_TextE Q o) {p0 : Nat} (q_p0 : Q p0) {l1 : Int32} {w0 : Int32} {H : Hp} {r : Int32 × Hp} (hF : B_MText_primary_25 N o p0 l1 w0 H = some r) (hc0 : Cl Q H) : Rg Q H r.2 := by
  unfold B_MText_primary_25 at hF
  have hm := Rg.rf hc0
  rcases ite_s hF with ⟨q_131, hG⟩ | ⟨q_131, hG⟩
  · clear hF
    exact hm.tr (gB_MText_primary_36 (hmo := hmo) hgo q_p0 hG hm.1)
  · clear hF
    rcases ite_s hG with ⟨q_132, hF⟩ | ⟨q_132, hF⟩
    · clear hG
      exact hm.tr (gB_MText_primary_36 (hmo := hmo) hgo q_p0 hF hm.1)
    · clear hG
      exact hm.tr (gB_MText_primary_51 (hmo := hmo) hgo q_p0 hF hm.1)
set_option maxRecDepth 20000 in
set_option maxHeartbeats 2000000 in
theorem g_MText_primary {N : Nat} {Q : Nat → Prop} {o : Orc_TextE} {hmo : mo_TextE o} (hgo : rg_TextE Q o) {p0 : Nat} {H : Hp} {r : Int32 × Hp} (hF : F_MText_primary N o p0 H = some r) (hc0 : Cl Q H) (q_p0 : Q p0) : Rg Q H r.2 := by
  unfold F_MText_primary at hF
  have hm := Rg.rf hc0
  obtain ⟨q299, hG⟩ := ck_s hF; clear hF
  obtain ⟨x300, -, hF⟩ := bnd_g hG; clear hG
  obtain ⟨x301, -, hG⟩ := bnd_g hF; clear hF
  rcases ite_s hG with ⟨q_133, hF⟩ | ⟨q_133, hF⟩
  · clear hG
    obtain ⟨a303, e304, hG⟩ := rf_s hF; clear hF
    have qa303 : Q a303 := hm.1 _ _ _ q_p0 e304
    obtain ⟨x305, -, hF⟩ := bnd_g hG; clear hG
    obtain ⟨n306, q307, hG⟩ := ar_s hF; clear hF
    obtain ⟨q308, hF⟩ := ck_s hG; clear hG
    obtain ⟨x309, -, hG⟩ := bnd_g hF; clear hF
    exact hm.tr (gB_MText_primary_25 (hmo := hmo) hgo q_p0 hG hm.1)
  · clear hG
    exact hm.tr (gB_MText_primary_25 (hmo := hmo) hgo q_p0 hF hm.1)
set_option maxRecDepth 20000 in
set_option maxHeartbeats 2000000 in
theorem gB_MText_unary_96 {N : Nat} {Q : Nat → Prop} {o : Orc_TextE} {hmo : mo_TextE o} (hgo : rg_TextE Q o) {p0 : Nat} (q_p0 : Q p0) {l1 : Int32} {l2 : Int32} {H : Hp} {r : Int32 × Hp} (hF : B_MText_unary_96 N o p0 l1 l2 H = some r) (hc0 : Cl Q H) : Rg Q H r.2 := by
  unfold B_MText_unary_96 at hF
  have hm := Rg.rf hc0
  obtain ⟨q99, hG⟩ := ck_s hF; clear hF
  obtain ⟨a100, e101, hF⟩ := rf_s hG; clear hG
  have qa100 : Q a100 := hm.1 _ _ _ q_p0 e101
  obtain ⟨n102, q103, hG⟩ := ar_s hF; clear hF
  obtain ⟨q104, hF⟩ := ck_s hG; clear hG
  obtain ⟨H105, eH105, hG⟩ := bnd_g hF; clear hF
  replace hm : Rg Q H H105 := hm.tr (by rw [eH105]; exact Rg.sD hm.1 qa100)
  have s_27 : Sa H H105 := by rw [eH105]; exact Sa.rf _
  have hr := Option.some.inj hG; subst hr
  exact hm
set_option maxRecDepth 20000 in
set_option maxHeartbeats 2000000 in
theorem gB_MText_unary_90 {N : Nat} {Q : Nat → Prop} {o : Orc_TextE} {hmo : mo_TextE o} (hgo : rg_TextE Q o) {p0 : Nat} (q_p0 : Q p0) {l1 : Int32} {l2 : Int32} {H : Hp} {r : Int32 × Hp} (hF : B_MText_unary_90 N o p0 l1 l2 H = some r) (hc0 : Cl Q H) : Rg Q H r.2 := by
  unfold B_MText_unary_90 at hF
  have hm := Rg.rf hc0
  obtain ⟨q106, hG⟩ := ck_s hF; clear hF
  obtain ⟨v108, H109, z107, hF⟩ := bC_s hG; clear hG
  have gz_28 := (g_MText_fails z107 hm.1 q_p0)
  replace hm : Rg Q H H109 := hm.tr gz_28
  have s_29 : Sa H H109 := (m_MText_fails z107)
  exact hm.tr (gB_MText_unary_96 (hmo := hmo) hgo q_p0 hF hm.1)
set_option maxRecDepth 20000 in
set_option maxHeartbeats 2000000 in
theorem gB_MText_unary_23 {N : Nat} {Q : Nat → Prop} {o : Orc_TextE} {hmo : mo_TextE o} (hgo : rg_TextE Q o) {p0 : Nat} (q_p0 : Q p0)  {H : Hp} {r : Int32 × Hp} (hF : B_MText_unary_23 N o p0  H = some r) (hc0 : Cl Q H) : Rg Q H r.2 := by
  unfold B_MText_unary_23 at hF
  have hm := Rg.rf hc0
  obtain ⟨q110, hG⟩ := ck_s hF; clear hF
  obtain ⟨x111, -, hF⟩ := bnd_g hG; clear hG
  obtain ⟨v113, H114, z112, hG⟩ := bC_s hF; clear hF
  have gz_30 := (g_MText_deeper z112 hm.1 q_p0)
  replace hm : Rg Q H H114 := hm.tr gz_30
  have s_31 : Sa H H114 := (m_MText_deeper z112)
  obtain ⟨x115, -, hF⟩ := bnd_g hG; clear hG
  obtain ⟨H116, eH116, hG⟩ := bnd_g hF; clear hF
  replace hm : Rg Q H H116 := hm.tr (by rw [eH116]; exact Rg.sD hm.1 q_p0)
  have s_32 : Sa H H116 := by rw [eH116]; exact s_31
  obtain ⟨v118, H119, z117, hF⟩ := bC_s hG; clear hG
  have gz_33 := (hgo.2 _ _ _ z117 hm.1 q_p0)
  replace hm : Rg Q H H119 := hm.tr gz_33
  have s_34 : Sa H H119 := (s_32).tr (hmo.2 _ _ _ z117)
  obtain ⟨x120, -, hG⟩ := bnd_g hF; clear hF
  obtain ⟨H121, eH121, hF⟩ := bnd_g hG; clear hG
  replace hm : Rg Q H H121 := hm.tr (by rw [eH121]; exact Rg.sD hm.1 q_p0)
  have s_35 : Sa H H121 := by rw [eH121]; exact s_34
  obtain ⟨x122, -, hG⟩ := bnd_g hF; clear hF
  rcases ite_s hG with ⟨q_36, hF⟩ | ⟨q_36, hF⟩
  · clear hG
    obtain ⟨a124, e125, hG⟩ := rf_s hF; clear hF
    have qa124 : Q a124 := hm.1 _ _ _ q_p0 e125
    obtain ⟨n126, q127, hF⟩ := ar_s hG; clear hG
    rw [(s_35).1] at q127
    obtain ⟨q128, hG⟩ := ck_s hF; clear hF
    obtain ⟨x129, -, hF⟩ := bnd_g hG; clear hG
    rcases ite_s hF with ⟨q_37, hG⟩ | ⟨q_37, hG⟩
    · clear hF
      rcases ite_s hG with ⟨q_38, hF⟩ | ⟨q_38, hF⟩
      · clear hG
        exact hm.tr (gB_MText_unary_96 (hmo := hmo) hgo q_p0 hF hm.1)
      · clear hG
        exact hm.tr (gB_MText_unary_90 (hmo := hmo) hgo q_p0 hF hm.1)
    · clear hF
      obtain ⟨v133, H134, z132, hF⟩ := bC_s hG; clear hG
      have gz_39 := (g_MText_reckons z132 hm.1)
      replace hm : Rg Q H H134 := hm.tr gz_39
      have s_40 : Sa H H134 := (s_35).tr (m_MText_reckons z132)
      rcases ite_s hF with ⟨q_41, hG⟩ | ⟨q_41, hG⟩
      · clear hF
        exact hm.tr (gB_MText_unary_90 (hmo := hmo) hgo q_p0 hG hm.1)
      · clear hF
        exact hm.tr (gB_MText_unary_96 (hmo := hmo) hgo q_p0 hG hm.1)
  · clear hG
    exact hm.tr (gB_MText_unary_96 (hmo := hmo) hgo q_p0 hF hm.1)
set_option maxRecDepth 20000 in
set_option maxHeartbeats 2000000 in
theorem g_MText_unary {N : Nat} {Q : Nat → Prop} {o : Orc_TextE} {hmo : mo_TextE o} (hgo : rg_TextE Q o) {p0 : Nat} {H : Hp} {r : Int32 × Hp} (hF : F_MText_unary N o p0 H = some r) (hc0 : Cl Q H) (q_p0 : Q p0) : Rg Q H r.2 := by
  unfold F_MText_unary at hF
  have hm := Rg.rf hc0
  obtain ⟨q136, hG⟩ := ck_s hF; clear hF
  obtain ⟨v138, H139, z137, hF⟩ := bC_s hG; clear hG
  have gz_42 := (g_MText_is z137 hm.1 q_p0)
  replace hm : Rg Q H H139 := hm.tr gz_42
  have s_43 : Sa H H139 := (m_MText_is z137)
  rcases ite_s hF with ⟨q_44, hG⟩ | ⟨q_44, hG⟩
  · clear hF
    obtain ⟨v142, H143, z141, hF⟩ := bC_s hG; clear hG
    have gz_45 := (g_MText_is z141 hm.1 q_p0)
    replace hm : Rg Q H H143 := hm.tr gz_45
    have s_46 : Sa H H143 := (s_43).tr (m_MText_is z141)
    rcases ite_s hF with ⟨q_47, hG⟩ | ⟨q_47, hG⟩
    · clear hF
      obtain ⟨v146, H147, z145, hF⟩ := bC_s hG; clear hG
      have gz_48 := (g_MText_primary (hmo := hmo) hgo z145 hm.1 q_p0)
      replace hm : Rg Q H H147 := hm.tr gz_48
      have s_49 : Sa H H147 := (s_46).tr (m_MText_primary hmo z145)
      have hr := Option.some.inj hF; subst hr
      exact hm
    · clear hF
      exact hm.tr (gB_MText_unary_23 (hmo := hmo) hgo q_p0 hG hm.1)
  · clear hF
    exact hm.tr (gB_MText_unary_23 (hmo := hmo) hgo q_p0 hG hm.1)
set_option maxRecDepth 20000 in
set_option maxHeartbeats 2000000 in
theorem gB_MText_product_81 {N : Nat} {Q : Nat → Prop} {o : Orc_TextE} {hmo : mo_TextE o} (hgo : rg_TextE Q o) {p0 : Nat} {kq5 : Int32 → Hp → Option (Int32 × Hp)} (q_p0 : Q p0) (hg5 : ∀ (l1 : Int32) (H : Hp) (r : Int32 × Hp), kq5 l1 H = some r → Cl Q H → Rg Q H r.2) {w0 : Nat} {w1 : Int32} {w2 : Int32} {w3 : Int32} {w4 : Int32} {H : Hp} {r : Int32 × Hp} (hF : B_MText_product_81 N o p0 kq5 w0 w1 w2 w3 w4 H = some r) (hc0 : Cl Q H) (q_w0 : Q w0) : Rg Q H r.2 := by
  unfold B_MText_product_81 at hF
  have hm := Rg.rf hc0
  obtain ⟨q79, hG⟩ := ck_s hF; clear hF
  obtain ⟨v81, H82, z80, hF⟩ := bC_s hG; clear hG
  have gz_22 := (g_MText_goTogether z80 hm.1 q_w0)
  replace hm : Rg Q H H82 := hm.tr gz_22
  have s_23 : Sa H H82 := (m_MText_goTogether z80)
  exact hm.tr (hg5 v81 H82 r hF hm.1)
set_option maxRecDepth 20000 in
set_option maxHeartbeats 2000000 in
theorem gB_MText_product_32 {N : Nat} {Q : Nat → Prop} {o : Orc_TextE} {hmo : mo_TextE o} (hgo : rg_TextE Q o) {p0 : Nat} {kq5 : Int32 → Hp → Option (Int32 × Hp)} (q_p0 : Q p0) (hg5 : ∀ (l1 : Int32) (H : Hp) (r : Int32 × Hp), kq5 l1 H = some r → Cl Q H → Rg Q H r.2) {l1 : Int32} {H : Hp} {r : Int32 × Hp} (hF : B_MText_product_32 N o p0 kq5 l1 H = some r) (hc0 : Cl Q H) : Rg Q H r.2 := by
  unfold B_MText_product_32 at hF
  have hm := Rg.rf hc0
  obtain ⟨q83, hG⟩ := ck_s hF; clear hF
  obtain ⟨x84, -, hF⟩ := bnd_g hG; clear hG
  obtain ⟨x85, -, hG⟩ := bnd_g hF; clear hF
  obtain ⟨H86, eH86, hF⟩ := bnd_g hG; clear hG
  replace hm : Rg Q H H86 := hm.tr (by rw [eH86]; exact Rg.sD hm.1 q_p0)
  have s_24 : Sa H H86 := by rw [eH86]; exact Sa.rf _
  obtain ⟨v88, H89, z87, hG⟩ := bC_s hF; clear hF
  have gz_25 := (hgo.2 _ _ _ z87 hm.1 q_p0)
  replace hm : Rg Q H H89 := hm.tr gz_25
  have s_26 : Sa H H89 := (s_24).tr (hmo.2 _ _ _ z87)
  obtain ⟨a90, e91, hF⟩ := rf_s hG; clear hG
  have qa90 : Q a90 := hm.1 _ _ _ q_p0 e91
  obtain ⟨n92, q93, hG⟩ := ar_s hF; clear hF
  rw [(s_26).1] at q93
  obtain ⟨q94, hF⟩ := ck_s hG; clear hG
  obtain ⟨x95, -, hG⟩ := bnd_g hF; clear hF
  rcases ite_s hG with ⟨q_27, hF⟩ | ⟨q_27, hF⟩
  · clear hG
    rcases ite_s hF with ⟨q_28, hG⟩ | ⟨q_28, hG⟩
    · clear hF
      exact hm.tr (gB_MText_product_81 (hmo := hmo) hgo q_p0 hg5 hG hm.1 q_p0)
    · clear hF
      exact hm.tr (gB_MText_product_81 (hmo := hmo) hgo q_p0 hg5 hG hm.1 q_p0)
  · clear hG
    obtain ⟨v99, H100, z98, hG⟩ := bC_s hF; clear hF
    have gz_29 := (g_MText_reckons z98 hm.1)
    replace hm : Rg Q H H100 := hm.tr gz_29
    have s_30 : Sa H H100 := (s_26).tr (m_MText_reckons z98)
    exact hm.tr (gB_MText_product_81 (hmo := hmo) hgo q_p0 hg5 hG hm.1 q_p0)
set_option maxRecDepth 20000 in
set_option maxHeartbeats 2000000 in
theorem gB_MText_product_5 {N : Nat} {Q : Nat → Prop} {o : Orc_TextE} {hmo : mo_TextE o} (hgo : rg_TextE Q o) {p0 : Nat} (q_p0 : Q p0) : ∀ (n : Nat) (l1 : Int32) (H : Hp) (r : Int32 × Hp), B_MText_product_5 N o p0 n l1 H = some r → Cl Q H → Rg Q H r.2 := by
  intro n
  induction n with
  | zero => intro l1 H r hF; rw [B_MText_product_5] at hF; cases hF
  | succ n ih =>
    intro l1 H r hF hc0
    rw [B_MText_product_5] at hF
    have hm := Rg.rf hc0
    obtain ⟨q101, hG⟩ := ck_s hF; clear hF
    obtain ⟨v103, H104, z102, hF⟩ := bC_s hG; clear hG
    have gz_31 := (g_MText_is z102 hm.1 q_p0)
    replace hm : Rg Q H H104 := hm.tr gz_31
    have s_32 : Sa H H104 := (m_MText_is z102)
    rcases ite_s hF with ⟨q_33, hG⟩ | ⟨q_33, hG⟩
    · clear hF
      obtain ⟨v107, H108, z106, hF⟩ := bC_s hG; clear hG
      have gz_34 := (g_MText_is z106 hm.1 q_p0)
      replace hm : Rg Q H H108 := hm.tr gz_34
      have s_35 : Sa H H108 := (s_32).tr (m_MText_is z106)
      rcases ite_s hF with ⟨q_36, hG⟩ | ⟨q_36, hG⟩
      · clear hF
        obtain ⟨v111, H112, z110, hF⟩ := bC_s hG; clear hG
        have gz_37 := (g_MText_is z110 hm.1 q_p0)
        replace hm : Rg Q H H112 := hm.tr gz_37
        have s_38 : Sa H H112 := (s_35).tr (m_MText_is z110)
        rcases ite_s hF with ⟨q_39, hG⟩ | ⟨q_39, hG⟩
        · clear hF
          have hr := Option.some.inj hG; subst hr
          exact hm
        · clear hF
          exact hm.tr (gB_MText_product_32 (hmo := hmo) hgo q_p0 ih hG hm.1)
      · clear hF
        exact hm.tr (gB_MText_product_32 (hmo := hmo) hgo q_p0 ih hG hm.1)
    · clear hF
      exact hm.tr (gB_MText_product_32 (hmo := hmo) hgo q_p0 ih hG hm.1)
set_option maxRecDepth 20000 in
set_option maxHeartbeats 2000000 in
theorem g_MText_product {N : Nat} {Q : Nat → Prop} {o : Orc_TextE} {hmo : mo_TextE o} (hgo : rg_TextE Q o) {p0 : Nat} {H : Hp} {r : Int32 × Hp} (hF : F_MText_product N o p0 H = some r) (hc0 : Cl Q H) (q_p0 : Q p0) : Rg Q H r.2 := by
  unfold F_MText_product at hF
  have hm := Rg.rf hc0
  obtain ⟨q114, hG⟩ := ck_s hF; clear hF
  obtain ⟨v116, H117, z115, hF⟩ := bC_s hG; clear hG
  have gz_40 := (hgo.2 _ _ _ z115 hm.1 q_p0)
  replace hm : Rg Q H H117 := hm.tr gz_40
  have s_41 : Sa H H117 := (hmo.2 _ _ _ z115)
  exact hm.tr (gB_MText_product_5 (hmo := hmo) hgo q_p0 N v116 H117 r hF hm.1)
set_option maxRecDepth 20000 in
set_option maxHeartbeats 2000000 in
theorem gB_MText_sum_23 {N : Nat} {Q : Nat → Prop} {o : Orc_TextE} {hmo : mo_TextE o} (hgo : rg_TextE Q o) {p0 : Nat} {kq5 : Int32 → Hp → Option (Int32 × Hp)} (q_p0 : Q p0) (hg5 : ∀ (l1 : Int32) (H : Hp) (r : Int32 × Hp), kq5 l1 H = some r → Cl Q H → Rg Q H r.2) {l1 : Int32} {H : Hp} {r : Int32 × Hp} (hF : B_MText_sum_23 N o p0 kq5 l1 H = some r) (hc0 : Cl Q H) : Rg Q H r.2 := by
  unfold B_MText_sum_23 at hF
  have hm := Rg.rf hc0
  obtain ⟨q53, hG⟩ := ck_s hF; clear hF
  obtain ⟨x54, -, hF⟩ := bnd_g hG; clear hG
  obtain ⟨x55, -, hG⟩ := bnd_g hF; clear hF
  obtain ⟨H56, eH56, hF⟩ := bnd_g hG; clear hG
  replace hm : Rg Q H H56 := hm.tr (by rw [eH56]; exact Rg.sD hm.1 q_p0)
  have s_17 : Sa H H56 := by rw [eH56]; exact Sa.rf _
  obtain ⟨v58, H59, z57, hG⟩ := bC_s hF; clear hF
  have gz_18 := (g_MText_product (hmo := hmo) hgo z57 hm.1 q_p0)
  replace hm : Rg Q H H59 := hm.tr gz_18
  have s_19 : Sa H H59 := (s_17).tr (m_MText_product hmo z57)
  obtain ⟨v61, H62, z60, hF⟩ := bC_s hG; clear hG
  have gz_20 := (g_MText_reckons z60 hm.1)
  replace hm : Rg Q H H62 := hm.tr gz_20
  have s_21 : Sa H H62 := (s_19).tr (m_MText_reckons z60)
  obtain ⟨v64, H65, z63, hG⟩ := bC_s hF; clear hF
  have gz_22 := (g_MText_goTogether z63 hm.1 q_p0)
  replace hm : Rg Q H H65 := hm.tr gz_22
  have s_23 : Sa H H65 := (s_21).tr (m_MText_goTogether z63)
  exact hm.tr (hg5 v64 H65 r hG hm.1)
set_option maxRecDepth 20000 in
set_option maxHeartbeats 2000000 in
theorem gB_MText_sum_5 {N : Nat} {Q : Nat → Prop} {o : Orc_TextE} {hmo : mo_TextE o} (hgo : rg_TextE Q o) {p0 : Nat} (q_p0 : Q p0) : ∀ (n : Nat) (l1 : Int32) (H : Hp) (r : Int32 × Hp), B_MText_sum_5 N o p0 n l1 H = some r → Cl Q H → Rg Q H r.2 := by
  intro n
  induction n with
  | zero => intro l1 H r hF; rw [B_MText_sum_5] at hF; cases hF
  | succ n ih =>
    intro l1 H r hF hc0
    rw [B_MText_sum_5] at hF
    have hm := Rg.rf hc0
    obtain ⟨q66, hG⟩ := ck_s hF; clear hF
    obtain ⟨v68, H69, z67, hF⟩ := bC_s hG; clear hG
    have gz_24 := (g_MText_is z67 hm.1 q_p0)
    replace hm : Rg Q H H69 := hm.tr gz_24
    have s_25 : Sa H H69 := (m_MText_is z67)
    rcases ite_s hF with ⟨q_26, hG⟩ | ⟨q_26, hG⟩
    · clear hF
      obtain ⟨v72, H73, z71, hF⟩ := bC_s hG; clear hG
      have gz_27 := (g_MText_is z71 hm.1 q_p0)
      replace hm : Rg Q H H73 := hm.tr gz_27
      have s_28 : Sa H H73 := (s_25).tr (m_MText_is z71)
      rcases ite_s hF with ⟨q_29, hG⟩ | ⟨q_29, hG⟩
      · clear hF
        have hr := Option.some.inj hG; subst hr
        exact hm
      · clear hF
        exact hm.tr (gB_MText_sum_23 (hmo := hmo) hgo q_p0 ih hG hm.1)
    · clear hF
      exact hm.tr (gB_MText_sum_23 (hmo := hmo) hgo q_p0 ih hG hm.1)
set_option maxRecDepth 20000 in
set_option maxHeartbeats 2000000 in
theorem g_MText_sum {N : Nat} {Q : Nat → Prop} {o : Orc_TextE} {hmo : mo_TextE o} (hgo : rg_TextE Q o) {p0 : Nat} {H : Hp} {r : Int32 × Hp} (hF : F_MText_sum N o p0 H = some r) (hc0 : Cl Q H) (q_p0 : Q p0) : Rg Q H r.2 := by
  unfold F_MText_sum at hF
  have hm := Rg.rf hc0
  obtain ⟨q75, hG⟩ := ck_s hF; clear hF
  obtain ⟨v77, H78, z76, hF⟩ := bC_s hG; clear hG
  have gz_30 := (g_MText_product (hmo := hmo) hgo z76 hm.1 q_p0)
  replace hm : Rg Q H H78 := hm.tr gz_30
  have s_31 : Sa H H78 := (m_MText_product hmo z76)
  exact hm.tr (gB_MText_sum_5 (hmo := hmo) hgo q_p0 N v77 H78 r hF hm.1)
set_option maxRecDepth 20000 in
set_option maxHeartbeats 2000000 in
theorem gB_MText_compared_72 {N : Nat} {Q : Nat → Prop} {o : Orc_TextE} {hmo : mo_TextE o} (hgo : rg_TextE Q o) {p0 : Nat} (q_p0 : Q p0) {w0 : Nat} {w1 : Int32} {w2 : Int32} {w3 : Int32} {w4 : Int32} {H : Hp} {r : Int32 × Hp} (hF : B_MText_compared_72 N o p0 w0 w1 w2 w3 w4 H = some r) (hc0 : Cl Q H) (q_w0 : Q w0) : Rg Q H r.2 := by
  unfold B_MText_compared_72 at hF
  have hm := Rg.rf hc0
  obtain ⟨q65, hG⟩ := ck_s hF; clear hF
  obtain ⟨v67, H68, z66, hF⟩ := bC_s hG; clear hG
  have gz_22 := (g_MText_goTogether z66 hm.1 q_w0)
  replace hm : Rg Q H H68 := hm.tr gz_22
  have s_23 : Sa H H68 := (m_MText_goTogether z66)
  have hr := Option.some.inj hF; subst hr
  exact hm
set_option maxRecDepth 20000 in
set_option maxHeartbeats 2000000 in
theorem gB_MText_compared_67 {N : Nat} {Q : Nat → Prop} {o : Orc_TextE} {hmo : mo_TextE o} (hgo : rg_TextE Q o) {p0 : Nat} (q_p0 : Q p0) {w0 : Nat} {w1 : Int32} {w2 : Int32} {w3 : Int32} {H : Hp} {r : Int32 × Hp} (hF : B_MText_compared_67 N o p0 w0 w1 w2 w3 H = some r) (hc0 : Cl Q H) (q_w0 : Q w0) : Rg Q H r.2 := by
  unfold B_MText_compared_67 at hF
  have hm := Rg.rf hc0
  exact hm.tr (gB_MText_compared_72 (hmo := hmo) hgo q_p0 hF hm.1 q_w0)
set_option maxRecDepth 20000 in
set_option maxHeartbeats 2000000 in
theorem gB_MText_compared_34 {N : Nat} {Q : Nat → Prop} {o : Orc_TextE} {hmo : mo_TextE o} (hgo : rg_TextE Q o) {p0 : Nat} (q_p0 : Q p0) {l1 : Int32} {l2 : Int32} {H : Hp} {r : Int32 × Hp} (hF : B_MText_compared_34 N o p0 l1 l2 H = some r) (hc0 : Cl Q H) : Rg Q H r.2 := by
  unfold B_MText_compared_34 at hF
  have hm := Rg.rf hc0
  obtain ⟨q69, hG⟩ := ck_s hF; clear hF
  obtain ⟨x70, -, hF⟩ := bnd_g hG; clear hG
  obtain ⟨x71, -, hG⟩ := bnd_g hF; clear hF
  obtain ⟨H72, eH72, hF⟩ := bnd_g hG; clear hG
  replace hm : Rg Q H H72 := hm.tr (by rw [eH72]; exact Rg.sD hm.1 q_p0)
  have s_24 : Sa H H72 := by rw [eH72]; exact Sa.rf _
  obtain ⟨v74, H75, z73, hG⟩ := bC_s hF; clear hF
  have gz_25 := (g_MText_sum (hmo := hmo) hgo z73 hm.1 q_p0)
  replace hm : Rg Q H H75 := hm.tr gz_25
  have s_26 : Sa H H75 := (s_24).tr (m_MText_sum hmo z73)
  rcases ite_s hG with ⟨q_27, hF⟩ | ⟨q_27, hF⟩
  · clear hG
    exact hm.tr (gB_MText_compared_67 (hmo := hmo) hgo q_p0 hF hm.1 q_p0)
  · clear hG
    obtain ⟨v78, H79, z77, hG⟩ := bC_s hF; clear hF
    have gz_28 := (g_MText_reckons z77 hm.1)
    replace hm : Rg Q H H79 := hm.tr gz_28
    have s_29 : Sa H H79 := (s_26).tr (m_MText_reckons z77)
    rcases ite_s hG with ⟨q_30, hF⟩ | ⟨q_30, hF⟩
    · clear hG
      exact hm.tr (gB_MText_compared_72 (hmo := hmo) hgo q_p0 hF hm.1 q_p0)
    · clear hG
      exact hm.tr (gB_MText_compared_67 (hmo := hmo) hgo q_p0 hF hm.1 q_p0)
set_option maxRecDepth 20000 in
set_option maxHeartbeats 2000000 in
theorem g_MText_compared {N : Nat} {Q : Nat → Prop} {o : Orc_TextE} {hmo : mo_TextE o} (hgo : rg_TextE Q o) {p0 : Nat} {H : Hp} {r : Int32 × Hp} (hF : F_MText_compared N o p0 H = some r) (hc0 : Cl Q H) (q_p0 : Q p0) : Rg Q H r.2 := by
  unfold F_MText_compared at hF
  have hm := Rg.rf hc0
  obtain ⟨q81, hG⟩ := ck_s hF; clear hF
  obtain ⟨v83, H84, z82, hF⟩ := bC_s hG; clear hG
  have gz_31 := (g_MText_sum (hmo := hmo) hgo z82 hm.1 q_p0)
  replace hm : Rg Q H H84 := hm.tr gz_31
  have s_32 : Sa H H84 := (m_MText_sum hmo z82)
  obtain ⟨v86, H87, z85, hG⟩ := bC_s hF; clear hF
  have gz_33 := (g_MText_isLess z85 hm.1 q_p0)
  replace hm : Rg Q H H87 := hm.tr gz_33
  have s_34 : Sa H H87 := (s_32).tr (m_MText_isLess z85)
  rcases ite_s hG with ⟨q_35, hF⟩ | ⟨q_35, hF⟩
  · clear hG
    obtain ⟨v90, H91, z89, hG⟩ := bC_s hF; clear hF
    have gz_36 := (g_MText_is z89 hm.1 q_p0)
    replace hm : Rg Q H H91 := hm.tr gz_36
    have s_37 : Sa H H91 := (s_34).tr (m_MText_is z89)
    rcases ite_s hG with ⟨q_38, hF⟩ | ⟨q_38, hF⟩
    · clear hG
      obtain ⟨v94, H95, z93, hG⟩ := bC_s hF; clear hF
      have gz_39 := (g_MText_is z93 hm.1 q_p0)
      replace hm : Rg Q H H95 := hm.tr gz_39
      have s_40 : Sa H H95 := (s_37).tr (m_MText_is z93)
      rcases ite_s hG with ⟨q_41, hF⟩ | ⟨q_41, hF⟩
      · clear hG
        have hr := Option.some.inj hF; subst hr
        exact hm
      · clear hG
        exact hm.tr (gB_MText_compared_34 (hmo := hmo) hgo q_p0 hF hm.1)
    · clear hG
      exact hm.tr (gB_MText_compared_34 (hmo := hmo) hgo q_p0 hF hm.1)
  · clear hG
    exact hm.tr (gB_MText_compared_34 (hmo := hmo) hgo q_p0 hF hm.1)
set_option maxRecDepth 20000 in
set_option maxHeartbeats 2000000 in
theorem gB_MText_both_46 {N : Nat} {Q : Nat → Prop} {o : Orc_TextE} {hmo : mo_TextE o} (hgo : rg_TextE Q o) {p0 : Nat} {kq5 : Int32 → Hp → Option (Int32 × Hp)} (q_p0 : Q p0) (hg5 : ∀ (l1 : Int32) (H : Hp) (r : Int32 × Hp), kq5 l1 H = some r → Cl Q H → Rg Q H r.2) {w0 : Nat} {w1 : Int32} {w2 : Int32} {w3 : Int32} {w4 : Int32} {H : Hp} {r : Int32 × Hp} (hF : B_MText_both_46 N o p0 kq5 w0 w1 w2 w3 w4 H = some r) (hc0 : Cl Q H) (q_w0 : Q w0) : Rg Q H r.2 := by
  unfold B_MText_both_46 at hF
  have hm := Rg.rf hc0
  obtain ⟨q41, hG⟩ := ck_s hF; clear hF
  obtain ⟨v43, H44, z42, hF⟩ := bC_s hG; clear hG
  have gz_13 := (g_MText_goTogether z42 hm.1 q_w0)
  replace hm : Rg Q H H44 := hm.tr gz_13
  have s_14 : Sa H H44 := (m_MText_goTogether z42)
  exact hm.tr (hg5 v43 H44 r hF hm.1)
set_option maxRecDepth 20000 in
set_option maxHeartbeats 2000000 in
theorem gB_MText_both_5 {N : Nat} {Q : Nat → Prop} {o : Orc_TextE} {hmo : mo_TextE o} (hgo : rg_TextE Q o) {p0 : Nat} (q_p0 : Q p0) : ∀ (n : Nat) (l1 : Int32) (H : Hp) (r : Int32 × Hp), B_MText_both_5 N o p0 n l1 H = some r → Cl Q H → Rg Q H r.2 := by
  intro n
  induction n with
  | zero => intro l1 H r hF; rw [B_MText_both_5] at hF; cases hF
  | succ n ih =>
    intro l1 H r hF hc0
    rw [B_MText_both_5] at hF
    have hm := Rg.rf hc0
    obtain ⟨q45, hG⟩ := ck_s hF; clear hF
    obtain ⟨v47, H48, z46, hF⟩ := bC_s hG; clear hG
    have gz_15 := (g_MText_is z46 hm.1 q_p0)
    replace hm : Rg Q H H48 := hm.tr gz_15
    have s_16 : Sa H H48 := (m_MText_is z46)
    rcases ite_s hF with ⟨q_17, hG⟩ | ⟨q_17, hG⟩
    · clear hF
      have hr := Option.some.inj hG; subst hr
      exact hm
    · clear hF
      obtain ⟨x50, -, hF⟩ := bnd_g hG; clear hG
      obtain ⟨x51, -, hG⟩ := bnd_g hF; clear hF
      obtain ⟨H52, eH52, hF⟩ := bnd_g hG; clear hG
      replace hm : Rg Q H H52 := hm.tr (by rw [eH52]; exact Rg.sD hm.1 q_p0)
      have s_18 : Sa H H52 := by rw [eH52]; exact s_16
      obtain ⟨v54, H55, z53, hG⟩ := bC_s hF; clear hF
      have gz_19 := (g_MText_compared (hmo := hmo) hgo z53 hm.1 q_p0)
      replace hm : Rg Q H H55 := hm.tr gz_19
      have s_20 : Sa H H55 := (s_18).tr (m_MText_compared hmo z53)
      rcases ite_s hG with ⟨q_21, hF⟩ | ⟨q_21, hF⟩
      · clear hG
        exact hm.tr (gB_MText_both_46 (hmo := hmo) hgo q_p0 ih hF hm.1 q_p0)
      · clear hG
        exact hm.tr (gB_MText_both_46 (hmo := hmo) hgo q_p0 ih hF hm.1 q_p0)
set_option maxRecDepth 20000 in
set_option maxHeartbeats 2000000 in
theorem g_MText_both {N : Nat} {Q : Nat → Prop} {o : Orc_TextE} {hmo : mo_TextE o} (hgo : rg_TextE Q o) {p0 : Nat} {H : Hp} {r : Int32 × Hp} (hF : F_MText_both N o p0 H = some r) (hc0 : Cl Q H) (q_p0 : Q p0) : Rg Q H r.2 := by
  unfold F_MText_both at hF
  have hm := Rg.rf hc0
  obtain ⟨q57, hG⟩ := ck_s hF; clear hF
  obtain ⟨v59, H60, z58, hF⟩ := bC_s hG; clear hG
  have gz_22 := (g_MText_compared (hmo := hmo) hgo z58 hm.1 q_p0)
  replace hm : Rg Q H H60 := hm.tr gz_22
  have s_23 : Sa H H60 := (m_MText_compared hmo z58)
  exact hm.tr (gB_MText_both_5 (hmo := hmo) hgo q_p0 N v59 H60 r hF hm.1)
set_option maxRecDepth 20000 in
set_option maxHeartbeats 2000000 in
theorem gB_MText_value_46 {N : Nat} {Q : Nat → Prop} {o : Orc_TextE} {hmo : mo_TextE o} (hgo : rg_TextE Q o) {p0 : Nat} {kq5 : Int32 → Hp → Option (Int32 × Hp)} (q_p0 : Q p0) (hg5 : ∀ (l1 : Int32) (H : Hp) (r : Int32 × Hp), kq5 l1 H = some r → Cl Q H → Rg Q H r.2) {w0 : Nat} {w1 : Int32} {w2 : Int32} {w3 : Int32} {w4 : Int32} {H : Hp} {r : Int32 × Hp} (hF : B_MText_value_46 N o p0 kq5 w0 w1 w2 w3 w4 H = some r) (hc0 : Cl Q H) (q_w0 : Q w0) : Rg Q H r.2 := by
  unfold B_MText_value_46 at hF
  have hm := Rg.rf hc0
  obtain ⟨q41, hG⟩ := ck_s hF; clear hF
  obtain ⟨v43, H44, z42, hF⟩ := bC_s hG; clear hG
  have gz_13 := (g_MText_goTogether z42 hm.1 q_w0)
  replace hm : Rg Q H H44 := hm.tr gz_13
  have s_14 : Sa H H44 := (m_MText_goTogether z42)
  exact hm.tr (hg5 v43 H44 r hF hm.1)
set_option maxRecDepth 20000 in
set_option maxHeartbeats 2000000 in
theorem gB_MText_value_5 {N : Nat} {Q : Nat → Prop} {o : Orc_TextE} {hmo : mo_TextE o} (hgo : rg_TextE Q o) {p0 : Nat} (q_p0 : Q p0) : ∀ (n : Nat) (l1 : Int32) (H : Hp) (r : Int32 × Hp), B_MText_value_5 N o p0 n l1 H = some r → Cl Q H → Rg Q H r.2 := by
  intro n
  induction n with
  | zero => intro l1 H r hF; rw [B_MText_value_5] at hF; cases hF
  | succ n ih =>
    intro l1 H r hF hc0
    rw [B_MText_value_5] at hF
    have hm := Rg.rf hc0
    obtain ⟨q45, hG⟩ := ck_s hF; clear hF
    obtain ⟨v47, H48, z46, hF⟩ := bC_s hG; clear hG
    have gz_15 := (g_MText_is z46 hm.1 q_p0)
    replace hm : Rg Q H H48 := hm.tr gz_15
    have s_16 : Sa H H48 := (m_MText_is z46)
    rcases ite_s hF with ⟨q_17, hG⟩ | ⟨q_17, hG⟩
    · clear hF
      have hr := Option.some.inj hG; subst hr
      exact hm
    · clear hF
      obtain ⟨x50, -, hF⟩ := bnd_g hG; clear hG
      obtain ⟨x51, -, hG⟩ := bnd_g hF; clear hF
      obtain ⟨H52, eH52, hF⟩ := bnd_g hG; clear hG
      replace hm : Rg Q H H52 := hm.tr (by rw [eH52]; exact Rg.sD hm.1 q_p0)
      have s_18 : Sa H H52 := by rw [eH52]; exact s_16
      obtain ⟨v54, H55, z53, hG⟩ := bC_s hF; clear hF
      have gz_19 := (g_MText_both (hmo := hmo) hgo z53 hm.1 q_p0)
      replace hm : Rg Q H H55 := hm.tr gz_19
      have s_20 : Sa H H55 := (s_18).tr (m_MText_both hmo z53)
      rcases ite_s hG with ⟨q_21, hF⟩ | ⟨q_21, hF⟩
      · clear hG
        exact hm.tr (gB_MText_value_46 (hmo := hmo) hgo q_p0 ih hF hm.1 q_p0)
      · clear hG
        exact hm.tr (gB_MText_value_46 (hmo := hmo) hgo q_p0 ih hF hm.1 q_p0)
set_option maxRecDepth 20000 in
set_option maxHeartbeats 2000000 in
theorem g_MText_value {N : Nat} {Q : Nat → Prop} {o : Orc_TextE} {hmo : mo_TextE o} (hgo : rg_TextE Q o) {p0 : Nat} {H : Hp} {r : Int32 × Hp} (hF : F_MText_value N o p0 H = some r) (hc0 : Cl Q H) (q_p0 : Q p0) : Rg Q H r.2 := by
  unfold F_MText_value at hF
  have hm := Rg.rf hc0
  obtain ⟨q57, hG⟩ := ck_s hF; clear hF
  obtain ⟨v59, H60, z58, hF⟩ := bC_s hG; clear hG
  have gz_22 := (g_MText_both (hmo := hmo) hgo z58 hm.1 q_p0)
  replace hm : Rg Q H H60 := hm.tr gz_22
  have s_23 : Sa H H60 := (m_MText_both hmo z58)
  exact hm.tr (gB_MText_value_5 (hmo := hmo) hgo q_p0 N v59 H60 r hF hm.1)
theorem gX_TextE {N : Nat} {Q : Nat → Prop} : ∀ d, rg_TextE Q (X_TextE N d) := by
  intro d
  induction d with
  | zero => exact ⟨(fun _ _ _ hz => absurd (show none = some _ from hz) (by simp)), (fun _ _ _ hz => absurd (show none = some _ from hz) (by simp))⟩
  | succ d ih => exact ⟨(fun _ _ _ hz hc qa0 => g_MText_value (hmo := moX_TextE d) ih hz hc qa0), (fun _ _ _ hz hc qa0 => g_MText_unary (hmo := moX_TextE d) ih hz hc qa0)⟩
set_option maxRecDepth 20000 in
set_option maxHeartbeats 2000000 in
theorem gB_MText_assigns_188 {N : Nat} {Q : Nat → Prop} {p0 : Nat} (q_p0 : Q p0)  {H : Hp} {r : Unit × Hp} (hF : B_MText_assigns_188 N p0  H = some r) (hc0 : Cl Q H) : Rg Q H r.2 := by
  unfold B_MText_assigns_188 at hF
  have hm := Rg.rf hc0
  obtain ⟨q207, hG⟩ := ck_s hF; clear hF
  obtain ⟨v209, H210, z208, hF⟩ := bC_s hG; clear hG
  have gz_47 := (g_MText_takes z208 hm.1 q_p0)
  replace hm : Rg Q H H210 := hm.tr gz_47
  have s_48 : Sa H H210 := (m_MText_takes z208)
  have hr := Option.some.inj hF; subst hr
  exact hm
set_option maxRecDepth 20000 in
set_option maxHeartbeats 2000000 in
theorem gB_MText_assigns_148 {N : Nat} {Q : Nat → Prop} {p0 : Nat} (q_p0 : Q p0) {l3 : Int32} {H : Hp} {r : Unit × Hp} (hF : B_MText_assigns_148 N p0 l3 H = some r) (hc0 : Cl Q H) : Rg Q H r.2 := by
  unfold B_MText_assigns_148 at hF
  have hm := Rg.rf hc0
  obtain ⟨q211, hG⟩ := ck_s hF; clear hF
  obtain ⟨v213, H214, z212, hF⟩ := bC_s hG; clear hG
  have gz_49 := (g_MText_takes z212 hm.1 q_p0)
  replace hm : Rg Q H H214 := hm.tr gz_49
  have s_50 : Sa H H214 := (m_MText_takes z212)
  obtain ⟨v216, H217, z215, hG⟩ := bC_s hF; clear hF
  have gz_51 := (g_MText_memberName z215 hm.1 q_p0)
  replace hm : Rg Q H H217 := hm.tr gz_51
  have s_52 : Sa H H217 := (s_50).tr (m_MText_memberName z215)
  obtain ⟨v219, H220, z218, hF⟩ := bC_s hG; clear hG
  have gz_53 := (g_MText_takes z218 hm.1 q_p0)
  replace hm : Rg Q H H220 := hm.tr gz_53
  have s_54 : Sa H H220 := (s_52).tr (m_MText_takes z218)
  obtain ⟨x221, -, hG⟩ := bnd_g hF; clear hF
  rcases ite_s hG with ⟨q_55, hF⟩ | ⟨q_55, hF⟩
  · clear hG
    obtain ⟨a223, e224, hG⟩ := rf_s hF; clear hF
    have qa223 : Q a223 := hm.1 _ _ _ q_p0 e224
    obtain ⟨n225, q226, hF⟩ := ar_s hG; clear hG
    rw [(s_54).1] at q226
    obtain ⟨q227, hG⟩ := ck_s hF; clear hF
    obtain ⟨x228, -, hF⟩ := bnd_g hG; clear hG
    obtain ⟨v230, H231, z229, hG⟩ := bC_s hF; clear hF
    have gz_56 := (g_MText_plain z229 hm.1)
    replace hm : Rg Q H H231 := hm.tr gz_56
    have s_57 : Sa H H231 := (s_54).tr (m_MText_plain z229)
    obtain ⟨v233, H234, z232, hF⟩ := bC_s hG; clear hG
    have gz_58 := (g_MText_wants (hmo := moX_TextE 50) (gX_TextE 50) z232 hm.1 q_p0)
    replace hm : Rg Q H H234 := hm.tr gz_58
    have s_59 : Sa H H234 := (s_57).tr (m_MText_wants (moX_TextE 50) z232)
    exact hm.tr (gB_MText_assigns_188 q_p0 hF hm.1)
  · clear hG
    exact hm.tr (gB_MText_assigns_188 q_p0 hF hm.1)
set_option maxRecDepth 20000 in
set_option maxHeartbeats 2000000 in
theorem gB_MText_assigns_82 {N : Nat} {Q : Nat → Prop} {p0 : Nat} (q_p0 : Q p0) {l1 : Int32} {l3 : Int32} {H : Hp} {r : Unit × Hp} (hF : B_MText_assigns_82 N p0 l1 l3 H = some r) (hc0 : Cl Q H) : Rg Q H r.2 := by
  unfold B_MText_assigns_82 at hF
  have hm := Rg.rf hc0
  obtain ⟨q235, hG⟩ := ck_s hF; clear hF
  obtain ⟨x236, -, hF⟩ := bnd_g hG; clear hG
  rcases ite_s hF with ⟨q_60, hG⟩ | ⟨q_60, hG⟩
  · clear hF
    obtain ⟨a238, e239, hF⟩ := rf_s hG; clear hG
    have qa238 : Q a238 := hm.1 _ _ _ q_p0 e239
    obtain ⟨n240, q241, hG⟩ := ar_s hF; clear hF
    obtain ⟨q242, hF⟩ := ck_s hG; clear hG
    obtain ⟨H243, eH243, hG⟩ := bnd_g hF; clear hF
    replace hm : Rg Q H H243 := hm.tr (by rw [eH243]; exact Rg.sD hm.1 qa238)
    have s_61 : Sa H H243 := by rw [eH243]; exact Sa.rf _
    obtain ⟨a244, e245, hF⟩ := rf_s hG; clear hG
    have qa244 : Q a244 := hm.1 _ _ _ q_p0 e245
    obtain ⟨n246, q247, hG⟩ := ar_s hF; clear hF
    rw [(s_61).1] at q247
    obtain ⟨q248, hF⟩ := ck_s hG; clear hG
    obtain ⟨x249, -, hG⟩ := bnd_g hF; clear hF
    obtain ⟨v251, H252, z250, hF⟩ := bC_s hG; clear hG
    have gz_62 := (g_MText_wants (hmo := moX_TextE 50) (gX_TextE 50) z250 hm.1 q_p0)
    replace hm : Rg Q H H252 := hm.tr gz_62
    have s_63 : Sa H H252 := (s_61).tr (m_MText_wants (moX_TextE 50) z250)
    exact hm.tr (gB_MText_assigns_188 q_p0 hF hm.1)
  · clear hF
    have hr := Option.some.inj hG; subst hr
    exact hm
set_option maxRecDepth 20000 in
set_option maxHeartbeats 2000000 in
theorem gB_MText_assigns_76 {N : Nat} {Q : Nat → Prop} {p0 : Nat} (q_p0 : Q p0) {l1 : Int32} {l3 : Int32} {H : Hp} {r : Unit × Hp} (hF : B_MText_assigns_76 N p0 l1 l3 H = some r) (hc0 : Cl Q H) : Rg Q H r.2 := by
  unfold B_MText_assigns_76 at hF
  have hm := Rg.rf hc0
  obtain ⟨q253, hG⟩ := ck_s hF; clear hF
  obtain ⟨v255, H256, z254, hF⟩ := bC_s hG; clear hG
  have gz_64 := (g_MText_fails z254 hm.1 q_p0)
  replace hm : Rg Q H H256 := hm.tr gz_64
  have s_65 : Sa H H256 := (m_MText_fails z254)
  exact hm.tr (gB_MText_assigns_82 q_p0 hF hm.1)
set_option maxRecDepth 20000 in
set_option maxHeartbeats 2000000 in
theorem gB_MText_assigns_47 {N : Nat} {Q : Nat → Prop} {p0 : Nat} (q_p0 : Q p0) {l1 : Int32} {l2 : Int32} {H : Hp} {r : Unit × Hp} (hF : B_MText_assigns_47 N p0 l1 l2 H = some r) (hc0 : Cl Q H) : Rg Q H r.2 := by
  unfold B_MText_assigns_47 at hF
  have hm := Rg.rf hc0
  obtain ⟨q257, hG⟩ := ck_s hF; clear hF
  obtain ⟨v259, H260, z258, hF⟩ := bC_s hG; clear hG
  have gz_66 := (g_MText_accepts z258 hm.1 q_p0)
  replace hm : Rg Q H H260 := hm.tr gz_66
  have s_67 : Sa H H260 := (m_MText_accepts z258)
  rcases ite_s hF with ⟨q_68, hG⟩ | ⟨q_68, hG⟩
  · clear hF
    obtain ⟨v263, H264, z262, hF⟩ := bC_s hG; clear hG
    have gz_69 := (g_MText_numberOf z262 hm.1 q_p0)
    replace hm : Rg Q H H264 := hm.tr gz_69
    have s_70 : Sa H H264 := (s_67).tr (m_MText_numberOf z262)
    obtain ⟨x265, -, hG⟩ := bnd_g hF; clear hF
    rcases ite_s hG with ⟨q_71, hF⟩ | ⟨q_71, hF⟩
    · clear hG
      obtain ⟨a267, e268, hG⟩ := rf_s hF; clear hF
      have qa267 : Q a267 := hm.1 _ _ _ q_p0 e268
      obtain ⟨x269, -, hF⟩ := bnd_g hG; clear hG
      obtain ⟨n270, q271, hG⟩ := ar_s hF; clear hF
      rw [(s_70).1] at q271
      obtain ⟨q272, hF⟩ := ck_s hG; clear hG
      obtain ⟨x273, -, hG⟩ := bnd_g hF; clear hF
      rcases ite_s hG with ⟨q_72, hF⟩ | ⟨q_72, hF⟩
      · clear hG
        obtain ⟨v276, H277, z275, hG⟩ := bC_s hF; clear hF
        have gz_73 := (g_MText_fails z275 hm.1 q_p0)
        replace hm : Rg Q H H277 := hm.tr gz_73
        have s_74 : Sa H H277 := (s_70).tr (m_MText_fails z275)
        exact hm.tr (gB_MText_assigns_148 q_p0 hG hm.1)
      · clear hG
        exact hm.tr (gB_MText_assigns_148 q_p0 hF hm.1)
    · clear hG
      exact hm.tr (gB_MText_assigns_148 q_p0 hF hm.1)
  · clear hF
    obtain ⟨v279, H280, z278, hF⟩ := bC_s hG; clear hG
    have gz_75 := (g_MText_local z278 hm.1 q_p0)
    replace hm : Rg Q H H280 := hm.tr gz_75
    have s_76 : Sa H H280 := (s_67).tr (m_MText_local z278)
    rcases ite_s hF with ⟨q_77, hG⟩ | ⟨q_77, hG⟩
    · clear hF
      obtain ⟨a282, e283, hF⟩ := rf_s hG; clear hG
      have qa282 : Q a282 := hm.1 _ _ _ q_p0 e283
      obtain ⟨n284, q285, hG⟩ := ar_s hF; clear hF
      rw [(s_76).1] at q285
      obtain ⟨q286, hF⟩ := ck_s hG; clear hG
      obtain ⟨x287, -, hG⟩ := bnd_g hF; clear hF
      rcases ite_s hG with ⟨q_78, hF⟩ | ⟨q_78, hF⟩
      · clear hG
        exact hm.tr (gB_MText_assigns_82 q_p0 hF hm.1)
      · clear hG
        exact hm.tr (gB_MText_assigns_76 q_p0 hF hm.1)
    · clear hF
      exact hm.tr (gB_MText_assigns_76 q_p0 hG hm.1)
set_option maxRecDepth 20000 in
set_option maxHeartbeats 2000000 in
theorem g_MText_assigns {N : Nat} {Q : Nat → Prop} {p0 : Nat} {H : Hp} {r : Unit × Hp} (hF : F_MText_assigns N p0 H = some r) (hc0 : Cl Q H) (q_p0 : Q p0) : Rg Q H r.2 := by
  unfold F_MText_assigns at hF
  have hm := Rg.rf hc0
  obtain ⟨q289, hG⟩ := ck_s hF; clear hF
  obtain ⟨v291, H292, z290, hF⟩ := bC_s hG; clear hG
  have gz_79 := (g_MText_name z290 hm.1 q_p0)
  replace hm : Rg Q H H292 := hm.tr gz_79
  have s_80 : Sa H H292 := (m_MText_name z290)
  obtain ⟨v294, H295, z293, hG⟩ := bC_s hF; clear hF
  have gz_81 := (g_MText_sort z293 hm.1 q_p0)
  replace hm : Rg Q H H295 := hm.tr gz_81
  have s_82 : Sa H H295 := (s_80).tr (m_MText_sort z293)
  obtain ⟨x296, -, hF⟩ := bnd_g hG; clear hG
  rcases ite_s hF with ⟨q_83, hG⟩ | ⟨q_83, hG⟩
  · clear hF
    obtain ⟨v299, H300, z298, hF⟩ := bC_s hG; clear hG
    have gz_84 := (g_MText_is z298 hm.1 q_p0)
    replace hm : Rg Q H H300 := hm.tr gz_84
    have s_85 : Sa H H300 := (s_82).tr (m_MText_is z298)
    rcases ite_s hF with ⟨q_86, hG⟩ | ⟨q_86, hG⟩
    · clear hF
      obtain ⟨v303, H304, z302, hF⟩ := bC_s hG; clear hG
      have gz_87 := (g_MText_is z302 hm.1 q_p0)
      replace hm : Rg Q H H304 := hm.tr gz_87
      have s_88 : Sa H H304 := (s_85).tr (m_MText_is z302)
      rcases ite_s hF with ⟨q_89, hG⟩ | ⟨q_89, hG⟩
      · clear hF
        obtain ⟨x306, -, hF⟩ := bnd_g hG; clear hG
        obtain ⟨v308, H309, z307, hG⟩ := bC_s hF; clear hF
        have gz_90 := (g_MText_fails z307 hm.1 q_p0)
        replace hm : Rg Q H H309 := hm.tr gz_90
        have s_91 : Sa H H309 := (s_88).tr (m_MText_fails z307)
        have hr := Option.some.inj hG; subst hr
        exact hm
      · clear hF
        exact hm.tr (gB_MText_assigns_47 q_p0 hG hm.1)
    · clear hF
      exact hm.tr (gB_MText_assigns_47 q_p0 hG hm.1)
  · clear hF
    have hr := Option.some.inj hG; subst hr
    exact hm
set_option maxRecDepth 20000 in
set_option maxHeartbeats 2000000 in
theorem gB_MText_localName_50 {N : Nat} {Q : Nat → Prop} {p0 : Nat} (q_p0 : Q p0) {l1 : Int32} {H : Hp} {r : Int32 × Hp} (hF : B_MText_localName_50 N p0 l1 H = some r) (hc0 : Cl Q H) : Rg Q H r.2 := by
  unfold B_MText_localName_50 at hF
  have hm := Rg.rf hc0
  obtain ⟨q53, hG⟩ := ck_s hF; clear hF
  obtain ⟨v55, H56, z54, hF⟩ := bC_s hG; clear hG
  have gz_16 := (g_MText_fails z54 hm.1 q_p0)
  replace hm : Rg Q H H56 := hm.tr gz_16
  have s_17 : Sa H H56 := (m_MText_fails z54)
  have hr := Option.some.inj hF; subst hr
  exact hm
set_option maxRecDepth 20000 in
set_option maxHeartbeats 2000000 in
theorem gB_MText_localName_27 {N : Nat} {Q : Nat → Prop} {p0 : Nat} (q_p0 : Q p0) {l1 : Int32} {H : Hp} {r : Int32 × Hp} (hF : B_MText_localName_27 N p0 l1 H = some r) (hc0 : Cl Q H) : Rg Q H r.2 := by
  unfold B_MText_localName_27 at hF
  have hm := Rg.rf hc0
  obtain ⟨q57, hG⟩ := ck_s hF; clear hF
  obtain ⟨x58, -, hF⟩ := bnd_g hG; clear hG
  rcases ite_s hF with ⟨q_18, hG⟩ | ⟨q_18, hG⟩
  · clear hF
    obtain ⟨v61, H62, z60, hF⟩ := bC_s hG; clear hG
    have gz_19 := (g_MText_local z60 hm.1 q_p0)
    replace hm : Rg Q H H62 := hm.tr gz_19
    have s_20 : Sa H H62 := (m_MText_local z60)
    rcases ite_s hF with ⟨q_21, hG⟩ | ⟨q_21, hG⟩
    · clear hF
      exact hm.tr (gB_MText_localName_50 q_p0 hG hm.1)
    · clear hF
      obtain ⟨v65, H66, z64, hF⟩ := bC_s hG; clear hG
      have gz_22 := (g_MText_index z64 hm.1 q_p0)
      replace hm : Rg Q H H66 := hm.tr gz_22
      have s_23 : Sa H H66 := (s_20).tr (m_MText_index z64)
      rcases ite_s hF with ⟨q_24, hG⟩ | ⟨q_24, hG⟩
      · clear hF
        have hr := Option.some.inj hG; subst hr
        exact hm
      · clear hF
        exact hm.tr (gB_MText_localName_50 q_p0 hG hm.1)
  · clear hF
    have hr := Option.some.inj hG; subst hr
    exact hm
set_option maxRecDepth 20000 in
set_option maxHeartbeats 2000000 in
theorem g_MText_localName {N : Nat} {Q : Nat → Prop} {p0 : Nat} {H : Hp} {r : Int32 × Hp} (hF : F_MText_localName N p0 H = some r) (hc0 : Cl Q H) (q_p0 : Q p0) : Rg Q H r.2 := by
  unfold F_MText_localName at hF
  have hm := Rg.rf hc0
  obtain ⟨q68, hG⟩ := ck_s hF; clear hF
  obtain ⟨v70, H71, z69, hF⟩ := bC_s hG; clear hG
  have gz_25 := (g_MText_name z69 hm.1 q_p0)
  replace hm : Rg Q H H71 := hm.tr gz_25
  have s_26 : Sa H H71 := (m_MText_name z69)
  obtain ⟨x72, -, hG⟩ := bnd_g hF; clear hF
  rcases ite_s hG with ⟨q_27, hF⟩ | ⟨q_27, hF⟩
  · clear hG
    obtain ⟨x74, -, hG⟩ := bnd_g hF; clear hF
    rcases ite_s hG with ⟨q_28, hF⟩ | ⟨q_28, hF⟩
    · clear hG
      obtain ⟨v77, H78, z76, hG⟩ := bC_s hF; clear hF
      have gz_29 := (g_MText_fails z76 hm.1 q_p0)
      replace hm : Rg Q H H78 := hm.tr gz_29
      have s_30 : Sa H H78 := (s_26).tr (m_MText_fails z76)
      exact hm.tr (gB_MText_localName_27 q_p0 hG hm.1)
    · clear hG
      exact hm.tr (gB_MText_localName_27 q_p0 hF hm.1)
  · clear hG
    exact hm.tr (gB_MText_localName_27 q_p0 hF hm.1)
set_option maxRecDepth 20000 in
set_option maxHeartbeats 2000000 in
theorem g_MText_tells {N : Nat} {Q : Nat → Prop} {p0 : Nat} {p1 : Int32} {p2 : Int32} {p3 : Int32} {H : Hp} {r : Unit × Hp} (hF : F_MText_tells N p0 p1 p2 p3 H = some r) (hc0 : Cl Q H) (q_p0 : Q p0) : Rg Q H r.2 := by
  unfold F_MText_tells at hF
  have hm := Rg.rf hc0
  obtain ⟨q67, hG⟩ := ck_s hF; clear hF
  obtain ⟨x68, -, hF⟩ := bnd_g hG; clear hG
  rcases ite_s hF with ⟨q_12, hG⟩ | ⟨q_12, hG⟩
  · clear hF
    obtain ⟨a70, e71, hF⟩ := rf_s hG; clear hG
    have qa70 : Q a70 := hm.1 _ _ _ q_p0 e71
    obtain ⟨x72, -, hG⟩ := bnd_g hF; clear hF
    obtain ⟨n73, q74, hF⟩ := ar_s hG; clear hG
    obtain ⟨q75, hG⟩ := ck_s hF; clear hF
    obtain ⟨H76, eH76, hF⟩ := bnd_g hG; clear hG
    replace hm : Rg Q H H76 := hm.tr (by rw [eH76]; exact Rg.sD hm.1 qa70)
    have s_13 : Sa H H76 := by rw [eH76]; exact Sa.rf _
    obtain ⟨a77, e78, hG⟩ := rf_s hF; clear hF
    have qa77 : Q a77 := hm.1 _ _ _ q_p0 e78
    obtain ⟨x79, -, hF⟩ := bnd_g hG; clear hG
    obtain ⟨n80, q81, hG⟩ := ar_s hF; clear hF
    rw [(s_13).1] at q81
    obtain ⟨q82, hF⟩ := ck_s hG; clear hG
    obtain ⟨H83, eH83, hG⟩ := bnd_g hF; clear hF
    replace hm : Rg Q H H83 := hm.tr (by rw [eH83]; exact Rg.sD hm.1 qa77)
    have s_14 : Sa H H83 := by rw [eH83]; exact s_13
    obtain ⟨a84, e85, hF⟩ := rf_s hG; clear hG
    have qa84 : Q a84 := hm.1 _ _ _ q_p0 e85
    obtain ⟨x86, -, hG⟩ := bnd_g hF; clear hF
    obtain ⟨n87, q88, hF⟩ := ar_s hG; clear hG
    rw [(s_14).1] at q88
    obtain ⟨q89, hG⟩ := ck_s hF; clear hF
    obtain ⟨H90, eH90, hF⟩ := bnd_g hG; clear hG
    replace hm : Rg Q H H90 := hm.tr (by rw [eH90]; exact Rg.sD hm.1 qa84)
    have s_15 : Sa H H90 := by rw [eH90]; exact s_14
    obtain ⟨a91, e92, hG⟩ := rf_s hF; clear hF
    have qa91 : Q a91 := hm.1 _ _ _ q_p0 e92
    obtain ⟨x93, -, hF⟩ := bnd_g hG; clear hG
    obtain ⟨n94, q95, hG⟩ := ar_s hF; clear hF
    rw [(s_15).1] at q95
    obtain ⟨q96, hF⟩ := ck_s hG; clear hG
    obtain ⟨H97, eH97, hG⟩ := bnd_g hF; clear hF
    replace hm : Rg Q H H97 := hm.tr (by rw [eH97]; exact Rg.sD hm.1 qa91)
    have s_16 : Sa H H97 := by rw [eH97]; exact s_15
    obtain ⟨x98, -, hF⟩ := bnd_g hG; clear hG
    obtain ⟨H99, eH99, hG⟩ := bnd_g hF; clear hF
    replace hm : Rg Q H H99 := hm.tr (by rw [eH99]; exact Rg.sD hm.1 q_p0)
    have s_17 : Sa H H99 := by rw [eH99]; exact s_16
    have hr := Option.some.inj hG; subst hr
    exact hm
  · clear hF
    have hr := Option.some.inj hG; subst hr
    exact hm
set_option maxRecDepth 20000 in
set_option maxHeartbeats 2000000 in
theorem gB_MText_spawns_158 {N : Nat} {Q : Nat → Prop} {p0 : Nat} (q_p0 : Q p0)  {H : Hp} {r : Unit × Hp} (hF : B_MText_spawns_158 N p0  H = some r) (hc0 : Cl Q H) : Rg Q H r.2 := by
  unfold B_MText_spawns_158 at hF
  have hm := Rg.rf hc0
  obtain ⟨q159, hG⟩ := ck_s hF; clear hF
  obtain ⟨v161, H162, z160, hF⟩ := bC_s hG; clear hG
  have gz_41 := (g_MText_takes z160 hm.1 q_p0)
  replace hm : Rg Q H H162 := hm.tr gz_41
  have s_42 : Sa H H162 := (m_MText_takes z160)
  have hr := Option.some.inj hF; subst hr
  exact hm
set_option maxRecDepth 20000 in
set_option maxHeartbeats 2000000 in
theorem gB_MText_spawns_154 {N : Nat} {Q : Nat → Prop} {p0 : Nat} (q_p0 : Q p0)  {H : Hp} {r : Unit × Hp} (hF : B_MText_spawns_154 N p0  H = some r) (hc0 : Cl Q H) : Rg Q H r.2 := by
  unfold B_MText_spawns_154 at hF
  have hm := Rg.rf hc0
  obtain ⟨q163, hG⟩ := ck_s hF; clear hF
  obtain ⟨v165, H166, z164, hF⟩ := bC_s hG; clear hG
  have gz_43 := (g_MText_closes z164 hm.1 q_p0)
  replace hm : Rg Q H H166 := hm.tr gz_43
  have s_44 : Sa H H166 := (m_MText_closes z164)
  exact hm.tr (gB_MText_spawns_158 q_p0 hF hm.1)
set_option maxRecDepth 20000 in
set_option maxHeartbeats 2000000 in
theorem gB_MText_spawns_141 {N : Nat} {Q : Nat → Prop} {p0 : Nat} {kq27 : Int32 → Int32 → Int32 → Hp → Option (Unit × Hp)} (q_p0 : Q p0) (hg27 : ∀ (l1 : Int32) (l2 : Int32) (l3 : Int32) (H : Hp) (r : Unit × Hp), kq27 l1 l2 l3 H = some r → Cl Q H → Rg Q H r.2) {l1 : Int32} {l2 : Int32} {H : Hp} {r : Unit × Hp} (hF : B_MText_spawns_141 N p0 kq27 l1 l2 H = some r) (hc0 : Cl Q H) : Rg Q H r.2 := by
  unfold B_MText_spawns_141 at hF
  have hm := Rg.rf hc0
  obtain ⟨q167, hG⟩ := ck_s hF; clear hF
  obtain ⟨v169, H170, z168, hF⟩ := bC_s hG; clear hG
  have gz_45 := (g_MText_accepts z168 hm.1 q_p0)
  replace hm : Rg Q H H170 := hm.tr gz_45
  have s_46 : Sa H H170 := (m_MText_accepts z168)
  exact hm.tr (hg27 l1 (l2 + 1) v169 H170 r hF hm.1)
set_option maxRecDepth 20000 in
set_option maxHeartbeats 2000000 in
theorem gB_MText_spawns_100 {N : Nat} {Q : Nat → Prop} {p0 : Nat} {kq27 : Int32 → Int32 → Int32 → Hp → Option (Unit × Hp)} (q_p0 : Q p0) (hg27 : ∀ (l1 : Int32) (l2 : Int32) (l3 : Int32) (H : Hp) (r : Unit × Hp), kq27 l1 l2 l3 H = some r → Cl Q H → Rg Q H r.2) {l1 : Int32} {l2 : Int32} {l5 : Int32} {H : Hp} {r : Unit × Hp} (hF : B_MText_spawns_100 N p0 kq27 l1 l2 l5 H = some r) (hc0 : Cl Q H) : Rg Q H r.2 := by
  unfold B_MText_spawns_100 at hF
  have hm := Rg.rf hc0
  obtain ⟨q171, hG⟩ := ck_s hF; clear hF
  obtain ⟨v173, H174, z172, hF⟩ := bC_s hG; clear hG
  have gz_47 := (g_MText_takes z172 hm.1 q_p0)
  replace hm : Rg Q H H174 := hm.tr gz_47
  have s_48 : Sa H H174 := (m_MText_takes z172)
  obtain ⟨v176, H177, z175, hG⟩ := bC_s hF; clear hF
  have gz_49 := (g_MText_memberName z175 hm.1 q_p0)
  replace hm : Rg Q H H177 := hm.tr gz_49
  have s_50 : Sa H H177 := (s_48).tr (m_MText_memberName z175)
  obtain ⟨v179, H180, z178, hF⟩ := bC_s hG; clear hG
  have gz_51 := (g_MText_takes z178 hm.1 q_p0)
  replace hm : Rg Q H H180 := hm.tr gz_51
  have s_52 : Sa H H180 := (s_50).tr (m_MText_takes z178)
  obtain ⟨x181, -, hG⟩ := bnd_g hF; clear hF
  rcases ite_s hG with ⟨q_53, hF⟩ | ⟨q_53, hF⟩
  · clear hG
    obtain ⟨a183, e184, hG⟩ := rf_s hF; clear hF
    have qa183 : Q a183 := hm.1 _ _ _ q_p0 e184
    obtain ⟨n185, q186, hF⟩ := ar_s hG; clear hG
    rw [(s_52).1] at q186
    obtain ⟨q187, hG⟩ := ck_s hF; clear hF
    obtain ⟨x188, -, hF⟩ := bnd_g hG; clear hG
    obtain ⟨v190, H191, z189, hG⟩ := bC_s hF; clear hF
    have gz_54 := (g_MText_plain z189 hm.1)
    replace hm : Rg Q H H191 := hm.tr gz_54
    have s_55 : Sa H H191 := (s_52).tr (m_MText_plain z189)
    obtain ⟨v193, H194, z192, hF⟩ := bC_s hG; clear hG
    have gz_56 := (g_MText_wants (hmo := moX_TextE 50) (gX_TextE 50) z192 hm.1 q_p0)
    replace hm : Rg Q H H194 := hm.tr gz_56
    have s_57 : Sa H H194 := (s_55).tr (m_MText_wants (moX_TextE 50) z192)
    exact hm.tr (gB_MText_spawns_141 q_p0 hg27 hF hm.1)
  · clear hG
    exact hm.tr (gB_MText_spawns_141 q_p0 hg27 hF hm.1)
set_option maxRecDepth 20000 in
set_option maxHeartbeats 2000000 in
theorem gB_MText_spawns_63 {N : Nat} {Q : Nat → Prop} {p0 : Nat} {kq27 : Int32 → Int32 → Int32 → Hp → Option (Unit × Hp)} (q_p0 : Q p0) (hg27 : ∀ (l1 : Int32) (l2 : Int32) (l3 : Int32) (H : Hp) (r : Unit × Hp), kq27 l1 l2 l3 H = some r → Cl Q H → Rg Q H r.2) {l1 : Int32} {l2 : Int32} {l4 : Int32} {H : Hp} {r : Unit × Hp} (hF : B_MText_spawns_63 N p0 kq27 l1 l2 l4 H = some r) (hc0 : Cl Q H) : Rg Q H r.2 := by
  unfold B_MText_spawns_63 at hF
  have hm := Rg.rf hc0
  obtain ⟨q195, hG⟩ := ck_s hF; clear hF
  obtain ⟨v197, H198, z196, hF⟩ := bC_s hG; clear hG
  have gz_58 := (g_MText_numberOf z196 hm.1 q_p0)
  replace hm : Rg Q H H198 := hm.tr gz_58
  have s_59 : Sa H H198 := (m_MText_numberOf z196)
  obtain ⟨x199, -, hG⟩ := bnd_g hF; clear hF
  rcases ite_s hG with ⟨q_60, hF⟩ | ⟨q_60, hF⟩
  · clear hG
    obtain ⟨a201, e202, hG⟩ := rf_s hF; clear hF
    have qa201 : Q a201 := hm.1 _ _ _ q_p0 e202
    obtain ⟨n203, q204, hF⟩ := ar_s hG; clear hG
    rw [(s_59).1] at q204
    obtain ⟨q205, hG⟩ := ck_s hF; clear hF
    obtain ⟨x206, -, hF⟩ := bnd_g hG; clear hG
    rcases ite_s hF with ⟨q_61, hG⟩ | ⟨q_61, hG⟩
    · clear hF
      obtain ⟨v209, H210, z208, hF⟩ := bC_s hG; clear hG
      have gz_62 := (g_MText_fails z208 hm.1 q_p0)
      replace hm : Rg Q H H210 := hm.tr gz_62
      have s_63 : Sa H H210 := (s_59).tr (m_MText_fails z208)
      exact hm.tr (gB_MText_spawns_100 q_p0 hg27 hF hm.1)
    · clear hF
      exact hm.tr (gB_MText_spawns_100 q_p0 hg27 hG hm.1)
  · clear hG
    exact hm.tr (gB_MText_spawns_100 q_p0 hg27 hF hm.1)
set_option maxRecDepth 20000 in
set_option maxHeartbeats 2000000 in
theorem gB_MText_spawns_27 {N : Nat} {Q : Nat → Prop} {p0 : Nat} (q_p0 : Q p0) : ∀ (n : Nat) (l1 : Int32) (l2 : Int32) (l3 : Int32) (H : Hp) (r : Unit × Hp), B_MText_spawns_27 N p0 n l1 l2 l3 H = some r → Cl Q H → Rg Q H r.2 := by
  intro n
  induction n with
  | zero => intro l1 l2 l3 H r hF; rw [B_MText_spawns_27] at hF; cases hF
  | succ n ih =>
    intro l1 l2 l3 H r hF hc0
    rw [B_MText_spawns_27] at hF
    have hm := Rg.rf hc0
    obtain ⟨q211, hG⟩ := ck_s hF; clear hF
    obtain ⟨x212, -, hF⟩ := bnd_g hG; clear hG
    rcases ite_s hF with ⟨q_64, hG⟩ | ⟨q_64, hG⟩
    · clear hF
      rcases ite_s hG with ⟨q_65, hF⟩ | ⟨q_65, hF⟩
      · clear hG
        exact hm.tr (gB_MText_spawns_154 q_p0 hF hm.1)
      · clear hG
        obtain ⟨v216, H217, z215, hG⟩ := bC_s hF; clear hF
        have gz_66 := (g_MText_name z215 hm.1 q_p0)
        replace hm : Rg Q H H217 := hm.tr gz_66
        have s_67 : Sa H H217 := (m_MText_name z215)
        obtain ⟨x218, -, hF⟩ := bnd_g hG; clear hG
        rcases ite_s hF with ⟨q_68, hG⟩ | ⟨q_68, hG⟩
        · clear hF
          rcases ite_s hG with ⟨q_69, hF⟩ | ⟨q_69, hF⟩
          · clear hG
            obtain ⟨v222, H223, z221, hG⟩ := bC_s hF; clear hF
            have gz_70 := (g_MText_fails z221 hm.1 q_p0)
            replace hm : Rg Q H H223 := hm.tr gz_70
            have s_71 : Sa H H223 := (s_67).tr (m_MText_fails z221)
            exact hm.tr (gB_MText_spawns_63 q_p0 ih hG hm.1)
          · clear hG
            exact hm.tr (gB_MText_spawns_63 q_p0 ih hF hm.1)
        · clear hF
          exact hm.tr (gB_MText_spawns_63 q_p0 ih hG hm.1)
    · clear hF
      exact hm.tr (gB_MText_spawns_154 q_p0 hG hm.1)
set_option maxRecDepth 20000 in
set_option maxHeartbeats 2000000 in
theorem g_MText_spawns {N : Nat} {Q : Nat → Prop} {p0 : Nat} {H : Hp} {r : Unit × Hp} (hF : F_MText_spawns N p0 H = some r) (hc0 : Cl Q H) (q_p0 : Q p0) : Rg Q H r.2 := by
  unfold F_MText_spawns at hF
  have hm := Rg.rf hc0
  obtain ⟨q224, hG⟩ := ck_s hF; clear hF
  obtain ⟨v226, H227, z225, hF⟩ := bC_s hG; clear hG
  have gz_72 := (g_MText_name z225 hm.1 q_p0)
  replace hm : Rg Q H H227 := hm.tr gz_72
  have s_73 : Sa H H227 := (m_MText_name z225)
  obtain ⟨v229, H230, z228, hG⟩ := bC_s hF; clear hF
  have gz_74 := (g_MText_numberOf z228 hm.1 q_p0)
  replace hm : Rg Q H H230 := hm.tr gz_74
  have s_75 : Sa H H230 := (s_73).tr (m_MText_numberOf z228)
  obtain ⟨v232, H233, z231, hF⟩ := bC_s hG; clear hG
  have gz_76 := (g_MText_is z231 hm.1 q_p0)
  replace hm : Rg Q H H233 := hm.tr gz_76
  have s_77 : Sa H H233 := (s_75).tr (m_MText_is z231)
  rcases ite_s hF with ⟨q_78, hG⟩ | ⟨q_78, hG⟩
  · clear hF
    exact hm.tr (gB_MText_spawns_158 q_p0 hG hm.1)
  · clear hF
    obtain ⟨v236, H237, z235, hF⟩ := bC_s hG; clear hG
    have gz_79 := (g_MText_opens z235 hm.1 q_p0)
    replace hm : Rg Q H H237 := hm.tr gz_79
    have s_80 : Sa H H237 := (s_77).tr (m_MText_opens z235)
    exact hm.tr (gB_MText_spawns_27 q_p0 N v229 0 1 H237 r hF hm.1)
