set_option maxRecDepth 20000 in
set_option maxHeartbeats 2000000 in
theorem gB_M_bitsOf_96 {N : Nat} {Q : Nat → Prop} {p0 : Nat} {p1 : Int32} {kq2 : Int32 → Hp → Option (Unit × Hp)} (q_p0 : Q p0) (hg2 : ∀ (l2 : Int32) (H : Hp) (r : Unit × Hp), kq2 l2 H = some r → Cl Q H → Rg Q H r.2) {l2 : Int32} {w0 : Nat} {w1 : Int32} {w2 : Int32} {H : Hp} {r : Unit × Hp} (hF : B_M_bitsOf_96 N p0 p1 kq2 l2 w0 w1 w2 H = some r) (hc0 : Cl Q H) (q_w0 : Q w0) : Rg Q H r.2 := by
  unfold B_M_bitsOf_96 at hF
  have hm := Rg.rf hc0
  obtain ⟨n103, q104, hG⟩ := ar_s hF; clear hF
  obtain ⟨q105, hF⟩ := ck_s hG; clear hG
  obtain ⟨H106, eH106, hG⟩ := bnd_g hF; clear hF
  replace hm : Rg Q H H106 := hm.tr (by rw [eH106]; exact Rg.sD hm.1 q_w0)
  have s_12 : Sa H H106 := by rw [eH106]; exact Sa.rf _
  exact hm.tr (hg2 (l2 + 1) H106 r hG hm.1)
set_option maxRecDepth 20000 in
set_option maxHeartbeats 2000000 in
theorem gB_M_bitsOf_40 {N : Nat} {Q : Nat → Prop} {p0 : Nat} {p1 : Int32} {kq2 : Int32 → Hp → Option (Unit × Hp)} (q_p0 : Q p0) (hg2 : ∀ (l2 : Int32) (H : Hp) (r : Unit × Hp), kq2 l2 H = some r → Cl Q H → Rg Q H r.2) {l2 : Int32} {l3 : Int32} {H : Hp} {r : Unit × Hp} (hF : B_M_bitsOf_40 N p0 p1 kq2 l2 l3 H = some r) (hc0 : Cl Q H) : Rg Q H r.2 := by
  unfold B_M_bitsOf_40 at hF
  have hm := Rg.rf hc0
  obtain ⟨q107, hG⟩ := ck_s hF; clear hF
  obtain ⟨a108, e109, hF⟩ := rf_s hG; clear hG
  have qa108 : Q a108 := hm.1 _ _ _ q_p0 e109
  obtain ⟨a110, e111, hG⟩ := rf_s hF; clear hF
  have qa110 : Q a110 := hm.1 _ _ _ q_p0 e111
  obtain ⟨n112, q113, hF⟩ := ar_s hG; clear hG
  obtain ⟨q114, hG⟩ := ck_s hF; clear hF
  obtain ⟨x115, -, hF⟩ := bnd_g hG; clear hG
  rcases ite_s hF with ⟨q_13, hG⟩ | ⟨q_13, hG⟩
  · clear hF
    exact hm.tr (gB_M_bitsOf_96 q_p0 hg2 hG hm.1 qa108)
  · clear hF
    obtain ⟨a117, e118, hF⟩ := rf_s hG; clear hG
    have qa117 : Q a117 := hm.1 _ _ _ q_p0 e118
    obtain ⟨q119, hG⟩ := ck_s hF; clear hF
    obtain ⟨x120, -, hF⟩ := bnd_g hG; clear hG
    rcases ite_s hF with ⟨q_14, hG⟩ | ⟨q_14, hG⟩
    · clear hF
      obtain ⟨a122, e123, hF⟩ := rf_s hG; clear hG
      have qa122 : Q a122 := hm.1 _ _ _ q_p0 e123
      obtain ⟨n124, q125, hG⟩ := ar_s hF; clear hF
      obtain ⟨q126, hF⟩ := ck_s hG; clear hG
      obtain ⟨x127, -, hG⟩ := bnd_g hF; clear hF
      exact hm.tr (gB_M_bitsOf_96 q_p0 hg2 hG hm.1 qa108)
    · clear hF
      obtain ⟨a128, e129, hF⟩ := rf_s hG; clear hG
      have qa128 : Q a128 := hm.1 _ _ _ q_p0 e129
      obtain ⟨v131, H132, z130, hG⟩ := bC_s hF; clear hF
      have gz_15 := (g_M_slot z130 hm.1 q_p0)
      replace hm : Rg Q H H132 := hm.tr gz_15
      have s_16 : Sa H H132 := (m_M_slot z130)
      obtain ⟨n133, q134, hF⟩ := ar_s hG; clear hG
      rw [(s_16).1] at q134
      obtain ⟨q135, hG⟩ := ck_s hF; clear hF
      obtain ⟨x136, -, hF⟩ := bnd_g hG; clear hG
      exact hm.tr (gB_M_bitsOf_96 q_p0 hg2 hF hm.1 qa108)
set_option maxRecDepth 20000 in
set_option maxHeartbeats 2000000 in
theorem gB_M_bitsOf_9 {N : Nat} {Q : Nat → Prop} {p0 : Nat} {p1 : Int32} {kq2 : Int32 → Hp → Option (Unit × Hp)} (q_p0 : Q p0) (hg2 : ∀ (l2 : Int32) (H : Hp) (r : Unit × Hp), kq2 l2 H = some r → Cl Q H → Rg Q H r.2) : ∀ (n : Nat) (l2 : Int32) (l3 : Int32) (H : Hp) (r : Unit × Hp), B_M_bitsOf_9 N p0 p1 kq2 n l2 l3 H = some r → Cl Q H → Rg Q H r.2 := by
  intro n
  induction n with
  | zero => intro l2 l3 H r hF; rw [B_M_bitsOf_9] at hF; cases hF
  | succ n ih =>
    intro l2 l3 H r hF hc0
    rw [B_M_bitsOf_9] at hF
    have hm := Rg.rf hc0
    obtain ⟨q137, hG⟩ := ck_s hF; clear hF
    obtain ⟨a138, e139, hF⟩ := rf_s hG; clear hG
    have qa138 : Q a138 := hm.1 _ _ _ q_p0 e139
    obtain ⟨q140, hG⟩ := ck_s hF; clear hF
    obtain ⟨x141, -, hF⟩ := bnd_g hG; clear hG
    rcases ite_s hF with ⟨q_17, hG⟩ | ⟨q_17, hG⟩
    · clear hF
      exact hm.tr (gB_M_bitsOf_40 q_p0 hg2 hG hm.1)
    · clear hF
      obtain ⟨a143, e144, hF⟩ := rf_s hG; clear hG
      have qa143 : Q a143 := hm.1 _ _ _ q_p0 e144
      obtain ⟨v146, H147, z145, hG⟩ := bC_s hF; clear hF
      have gz_18 := (g_M_slot z145 hm.1 q_p0)
      replace hm : Rg Q H H147 := hm.tr gz_18
      have s_19 : Sa H H147 := (m_M_slot z145)
      obtain ⟨n148, q149, hF⟩ := ar_s hG; clear hG
      rw [(s_19).1] at q149
      obtain ⟨q150, hG⟩ := ck_s hF; clear hF
      obtain ⟨x151, -, hF⟩ := bnd_g hG; clear hG
      rcases ite_s hF with ⟨q_20, hG⟩ | ⟨q_20, hG⟩
      · clear hF
        exact hm.tr (ih l2 (l3 + (-1)) H147 r hG hm.1)
      · clear hF
        exact hm.tr (gB_M_bitsOf_40 q_p0 hg2 hG hm.1)
set_option maxRecDepth 20000 in
set_option maxHeartbeats 2000000 in
theorem gB_M_bitsOf_2 {N : Nat} {Q : Nat → Prop} {p0 : Nat} {p1 : Int32} (q_p0 : Q p0) : ∀ (n : Nat) (l2 : Int32) (H : Hp) (r : Unit × Hp), B_M_bitsOf_2 N p0 p1 n l2 H = some r → Cl Q H → Rg Q H r.2 := by
  intro n
  induction n with
  | zero => intro l2 H r hF; rw [B_M_bitsOf_2] at hF; cases hF
  | succ n ih =>
    intro l2 H r hF hc0
    rw [B_M_bitsOf_2] at hF
    have hm := Rg.rf hc0
    rcases ite_s hF with ⟨q_21, hG⟩ | ⟨q_21, hG⟩
    · clear hF
      have hr := Option.some.inj hG; subst hr
      exact hm
    · clear hF
      exact hm.tr (gB_M_bitsOf_9 q_p0 ih N l2 p1 H r hG hm.1)
set_option maxRecDepth 20000 in
set_option maxHeartbeats 2000000 in
theorem g_M_bitsOf {N : Nat} {Q : Nat → Prop} {p0 : Nat} {p1 : Int32} {H : Hp} {r : Unit × Hp} (hF : F_M_bitsOf N p0 p1 H = some r) (hc0 : Cl Q H) (q_p0 : Q p0) : Rg Q H r.2 := by
  unfold F_M_bitsOf at hF
  have hm := Rg.rf hc0
  exact hm.tr (gB_M_bitsOf_2 q_p0 N 0 H r hF hm.1)
set_option maxRecDepth 20000 in
set_option maxHeartbeats 2000000 in
theorem g_MText_isRow {N : Nat} {Q : Nat → Prop} {p0 : Nat} {p1 : Int32} {p2 : Nat} {p3 : Int32} {H : Hp} {r : Int32 × Hp} (hF : F_MText_isRow N p0 p1 p2 p3 H = some r) (hc0 : Cl Q H) (q_p0 : Q p0) (q_p2 : Q p2) : Rg Q H r.2 := by
  unfold F_MText_isRow at hF
  have hm := Rg.rf hc0
  obtain ⟨q83, hG⟩ := ck_s hF; clear hF
  obtain ⟨a84, e85, hF⟩ := rf_s hG; clear hG
  have qa84 : Q a84 := hm.1 _ _ _ q_p2 e85
  obtain ⟨n86, q87, hG⟩ := ar_s hF; clear hF
  obtain ⟨q88, hF⟩ := ck_s hG; clear hG
  obtain ⟨x89, -, hG⟩ := bnd_g hF; clear hF
  rcases ite_s hG with ⟨q_4, hF⟩ | ⟨q_4, hF⟩
  · clear hG
    have hr := Option.some.inj hF; subst hr
    exact hm
  · clear hG
    obtain ⟨a91, e92, hG⟩ := rf_s hF; clear hF
    have qa91 : Q a91 := hm.1 _ _ _ q_p2 e92
    obtain ⟨n93, q94, hF⟩ := ar_s hG; clear hG
    obtain ⟨q95, hG⟩ := ck_s hF; clear hF
    obtain ⟨x96, -, hF⟩ := bnd_g hG; clear hG
    obtain ⟨q97, hG⟩ := ck_s hF; clear hF
    obtain ⟨a98, e99, hF⟩ := rf_s hG; clear hG
    have qa98 : Q a98 := hm.1 _ _ _ q_p0 e99
    obtain ⟨n100, q101, hG⟩ := ar_s hF; clear hF
    obtain ⟨q102, hF⟩ := ck_s hG; clear hG
    obtain ⟨x103, -, hG⟩ := bnd_g hF; clear hF
    obtain ⟨a104, e105, hF⟩ := rf_s hG; clear hG
    have qa104 : Q a104 := hm.1 _ _ _ q_p0 e105
    obtain ⟨n106, q107, hG⟩ := ar_s hF; clear hF
    obtain ⟨q108, hF⟩ := ck_s hG; clear hG
    obtain ⟨x109, -, hG⟩ := bnd_g hF; clear hF
    rcases ite_s hG with ⟨q_5, hF⟩ | ⟨q_5, hF⟩
    · clear hG
      obtain ⟨a111, e112, hG⟩ := rf_s hF; clear hF
      have qa111 : Q a111 := hm.1 _ _ _ q_p2 e112
      obtain ⟨n113, q114, hF⟩ := ar_s hG; clear hG
      obtain ⟨q115, hG⟩ := ck_s hF; clear hF
      obtain ⟨x116, -, hF⟩ := bnd_g hG; clear hG
      obtain ⟨a117, e118, hG⟩ := rf_s hF; clear hF
      have qa117 : Q a117 := hm.1 _ _ _ q_p0 e118
      obtain ⟨n119, q120, hF⟩ := ar_s hG; clear hG
      obtain ⟨q121, hG⟩ := ck_s hF; clear hF
      obtain ⟨x122, -, hF⟩ := bnd_g hG; clear hG
      rcases ite_s hF with ⟨q_6, hG⟩ | ⟨q_6, hG⟩
      · clear hF
        have hr := Option.some.inj hG; subst hr
        exact hm
      · clear hF
        have hr := Option.some.inj hG; subst hr
        exact hm
    · clear hG
      have hr := Option.some.inj hF; subst hr
      exact hm
set_option maxRecDepth 20000 in
set_option maxHeartbeats 2000000 in
theorem g_MWorld_number {N : Nat} {Q : Nat → Prop} {p0 : Nat} {p1 : Int32} {H : Hp} {r : Int32 × Hp} (hF : F_MWorld_number N p0 p1 H = some r) (hc0 : Cl Q H) (q_p0 : Q p0) : Rg Q H r.2 := by
  unfold F_MWorld_number at hF
  have hm := Rg.rf hc0
  obtain ⟨q15, hG⟩ := ck_s hF; clear hF
  obtain ⟨a16, e17, hF⟩ := rf_s hG; clear hG
  have qa16 : Q a16 := hm.1 _ _ _ q_p0 e17
  obtain ⟨n18, q19, hG⟩ := ar_s hF; clear hF
  obtain ⟨q20, hF⟩ := ck_s hG; clear hG
  obtain ⟨x21, -, hG⟩ := bnd_g hF; clear hF
  have hr := Option.some.inj hG; subst hr
  exact hm
set_option maxRecDepth 20000 in
set_option maxHeartbeats 2000000 in
theorem g_MRunner_fails {N : Nat} {Q : Nat → Prop} {p0 : Nat} {p1 : Int32} {H : Hp} {r : Unit × Hp} (hF : F_MRunner_fails N p0 p1 H = some r) (hc0 : Cl Q H) (q_p0 : Q p0) : Rg Q H r.2 := by
  unfold F_MRunner_fails at hF
  have hm := Rg.rf hc0
  obtain ⟨q9, hG⟩ := ck_s hF; clear hF
  obtain ⟨x10, -, hF⟩ := bnd_g hG; clear hG
  rcases ite_s hF with ⟨q_4, hG⟩ | ⟨q_4, hG⟩
  · clear hF
    obtain ⟨H12, eH12, hF⟩ := bnd_g hG; clear hG
    replace hm : Rg Q H H12 := hm.tr (by rw [eH12]; exact Rg.sD hm.1 q_p0)
    have s_5 : Sa H H12 := by rw [eH12]; exact Sa.rf _
    have hr := Option.some.inj hF; subst hr
    exact hm
  · clear hF
    have hr := Option.some.inj hG; subst hr
    exact hm
set_option maxRecDepth 20000 in
set_option maxHeartbeats 2000000 in
theorem gB_MRunner_counts_14 {N : Nat} {Q : Nat → Prop} {p0 : Nat} (q_p0 : Q p0)  {H : Hp} {r : Unit × Hp} (hF : B_MRunner_counts_14 N p0  H = some r) (hc0 : Cl Q H) : Rg Q H r.2 := by
  unfold B_MRunner_counts_14 at hF
  have hm := Rg.rf hc0
  obtain ⟨q19, hG⟩ := ck_s hF; clear hF
  obtain ⟨x20, -, hF⟩ := bnd_g hG; clear hG
  obtain ⟨H21, eH21, hG⟩ := bnd_g hF; clear hF
  replace hm : Rg Q H H21 := hm.tr (by rw [eH21]; exact Rg.sD hm.1 q_p0)
  have s_6 : Sa H H21 := by rw [eH21]; exact Sa.rf _
  have hr := Option.some.inj hG; subst hr
  exact hm
set_option maxRecDepth 20000 in
set_option maxHeartbeats 2000000 in
theorem g_MRunner_counts {N : Nat} {Q : Nat → Prop} {p0 : Nat} {H : Hp} {r : Unit × Hp} (hF : F_MRunner_counts N p0 H = some r) (hc0 : Cl Q H) (q_p0 : Q p0) : Rg Q H r.2 := by
  unfold F_MRunner_counts at hF
  have hm := Rg.rf hc0
  obtain ⟨q22, hG⟩ := ck_s hF; clear hF
  obtain ⟨x23, -, hF⟩ := bnd_g hG; clear hG
  rcases ite_s hF with ⟨q_7, hG⟩ | ⟨q_7, hG⟩
  · clear hF
    obtain ⟨v26, H27, z25, hF⟩ := bC_s hG; clear hG
    have gz_8 := (g_MRunner_fails z25 hm.1 q_p0)
    replace hm : Rg Q H H27 := hm.tr gz_8
    have s_9 : Sa H H27 := (m_MRunner_fails z25)
    exact hm.tr (gB_MRunner_counts_14 q_p0 hF hm.1)
  · clear hF
    exact hm.tr (gB_MRunner_counts_14 q_p0 hG hm.1)
set_option maxRecDepth 20000 in
set_option maxHeartbeats 2000000 in
theorem g_MRunner_is {N : Nat} {Q : Nat → Prop} {p0 : Nat} {p1 : Int32} {H : Hp} {r : Int32 × Hp} (hF : F_MRunner_is N p0 p1 H = some r) (hc0 : Cl Q H) (q_p0 : Q p0) : Rg Q H r.2 := by
  unfold F_MRunner_is at hF
  have hm := Rg.rf hc0
  obtain ⟨q29, hG⟩ := ck_s hF; clear hF
  obtain ⟨x30, -, hF⟩ := bnd_g hG; clear hG
  rcases ite_s hF with ⟨q_3, hG⟩ | ⟨q_3, hG⟩
  · clear hF
    obtain ⟨a32, e33, hF⟩ := rf_s hG; clear hG
    have qa32 : Q a32 := hm.1 _ _ _ q_p0 e33
    obtain ⟨q34, hG⟩ := ck_s hF; clear hF
    obtain ⟨a35, e36, hF⟩ := rf_s hG; clear hG
    have qa35 : Q a35 := hm.1 _ _ _ qa32 e36
    obtain ⟨x37, -, hG⟩ := bnd_g hF; clear hF
    obtain ⟨n38, q39, hF⟩ := ar_s hG; clear hG
    obtain ⟨q40, hG⟩ := ck_s hF; clear hF
    obtain ⟨x41, -, hF⟩ := bnd_g hG; clear hG
    rcases ite_s hF with ⟨q_4, hG⟩ | ⟨q_4, hG⟩
    · clear hF
      have hr := Option.some.inj hG; subst hr
      exact hm
    · clear hF
      have hr := Option.some.inj hG; subst hr
      exact hm
  · clear hF
    have hr := Option.some.inj hG; subst hr
    exact hm
set_option maxRecDepth 20000 in
set_option maxHeartbeats 2000000 in
theorem g_MWorld_isAlive {N : Nat} {Q : Nat → Prop} {p0 : Nat} {p1 : Int32} {H : Hp} {r : Int32 × Hp} (hF : F_MWorld_isAlive N p0 p1 H = some r) (hc0 : Cl Q H) (q_p0 : Q p0) : Rg Q H r.2 := by
  unfold F_MWorld_isAlive at hF
  have hm := Rg.rf hc0
  obtain ⟨x27, -, hG⟩ := bnd_g hF; clear hF
  obtain ⟨q28, hF⟩ := ck_s hG; clear hG
  obtain ⟨a29, e30, hG⟩ := rf_s hF; clear hF
  have qa29 : Q a29 := hm.1 _ _ _ q_p0 e30
  obtain ⟨n31, q32, hF⟩ := ar_s hG; clear hG
  obtain ⟨q33, hG⟩ := ck_s hF; clear hF
  obtain ⟨x34, -, hF⟩ := bnd_g hG; clear hG
  rcases ite_s hF with ⟨q_5, hG⟩ | ⟨q_5, hG⟩
  · clear hF
    have hr := Option.some.inj hG; subst hr
    exact hm
  · clear hF
    obtain ⟨v37, H38, z36, hF⟩ := bC_s hG; clear hG
    have gz_6 := (g_MWorld_number z36 hm.1 q_p0)
    replace hm : Rg Q H H38 := hm.tr gz_6
    have s_7 : Sa H H38 := (m_MWorld_number z36)
    rcases ite_s hF with ⟨q_8, hG⟩ | ⟨q_8, hG⟩
    · clear hF
      have hr := Option.some.inj hG; subst hr
      exact hm
    · clear hF
      have hr := Option.some.inj hG; subst hr
      exact hm
set_option maxRecDepth 20000 in
set_option maxHeartbeats 2000000 in
theorem g_MWorld_has {N : Nat} {Q : Nat → Prop} {p0 : Nat} {p1 : Int32} {p2 : Int32} {H : Hp} {r : Int32 × Hp} (hF : F_MWorld_has N p0 p1 p2 H = some r) (hc0 : Cl Q H) (q_p0 : Q p0) : Rg Q H r.2 := by
  unfold F_MWorld_has at hF
  have hm := Rg.rf hc0
  obtain ⟨q25, hG⟩ := ck_s hF; clear hF
  obtain ⟨v27, H28, z26, hF⟩ := bC_s hG; clear hG
  have gz_5 := (g_MWorld_isAlive z26 hm.1 q_p0)
  replace hm : Rg Q H H28 := hm.tr gz_5
  have s_6 : Sa H H28 := (m_MWorld_isAlive z26)
  rcases ite_s hF with ⟨q_7, hG⟩ | ⟨q_7, hG⟩
  · clear hF
    have hr := Option.some.inj hG; subst hr
    exact hm
  · clear hF
    obtain ⟨a30, e31, hF⟩ := rf_s hG; clear hG
    have qa30 : Q a30 := hm.1 _ _ _ q_p0 e31
    obtain ⟨n32, q33, hG⟩ := ar_s hF; clear hF
    rw [(s_6).1] at q33
    obtain ⟨q34, hF⟩ := ck_s hG; clear hG
    obtain ⟨x35, -, hG⟩ := bnd_g hF; clear hF
    rcases ite_s hG with ⟨q_8, hF⟩ | ⟨q_8, hF⟩
    · clear hG
      have hr := Option.some.inj hF; subst hr
      exact hm
    · clear hG
      have hr := Option.some.inj hF; subst hr
      exact hm
set_option maxRecDepth 20000 in
set_option maxHeartbeats 2000000 in
theorem g_MRunner_named {N : Nat} {Q : Nat → Prop} {p0 : Nat} {p1 : Int32} {H : Hp} {r : Int32 × Hp} (hF : F_MRunner_named N p0 p1 H = some r) (hc0 : Cl Q H) (q_p0 : Q p0) : Rg Q H r.2 := by
  unfold F_MRunner_named at hF
  have hm := Rg.rf hc0
  obtain ⟨q251, hG⟩ := ck_s hF; clear hF
  obtain ⟨a252, e253, hF⟩ := rf_s hG; clear hG
  have qa252 : Q a252 := hm.1 _ _ _ q_p0 e253
  obtain ⟨q254, hG⟩ := ck_s hF; clear hF
  obtain ⟨a255, e256, hF⟩ := rf_s hG; clear hG
  have qa255 : Q a255 := hm.1 _ _ _ qa252 e256
  obtain ⟨n257, q258, hG⟩ := ar_s hF; clear hF
  obtain ⟨q259, hF⟩ := ck_s hG; clear hG
  obtain ⟨x260, -, hG⟩ := bnd_g hF; clear hF
  obtain ⟨a261, e262, hF⟩ := rf_s hG; clear hG
  have qa261 : Q a261 := hm.1 _ _ _ q_p0 e262
  obtain ⟨q263, hG⟩ := ck_s hF; clear hF
  obtain ⟨a264, e265, hF⟩ := rf_s hG; clear hG
  have qa264 : Q a264 := hm.1 _ _ _ qa261 e265
  obtain ⟨x266, -, hG⟩ := bnd_g hF; clear hF
  obtain ⟨n267, q268, hF⟩ := ar_s hG; clear hG
  obtain ⟨q269, hG⟩ := ck_s hF; clear hF
  obtain ⟨x270, -, hF⟩ := bnd_g hG; clear hG
  rcases ite_s hF with ⟨q_14, hG⟩ | ⟨q_14, hG⟩
  · clear hF
    obtain ⟨a272, e273, hF⟩ := rf_s hG; clear hG
    have qa272 : Q a272 := hm.1 _ _ _ q_p0 e273
    obtain ⟨q274, hG⟩ := ck_s hF; clear hF
    obtain ⟨a275, e276, hF⟩ := rf_s hG; clear hG
    have qa275 : Q a275 := hm.1 _ _ _ qa272 e276
    obtain ⟨x277, -, hG⟩ := bnd_g hF; clear hF
    obtain ⟨n278, q279, hF⟩ := ar_s hG; clear hG
    obtain ⟨q280, hG⟩ := ck_s hF; clear hF
    obtain ⟨x281, -, hF⟩ := bnd_g hG; clear hG
    obtain ⟨a282, e283, hG⟩ := rf_s hF; clear hF
    have qa282 : Q a282 := hm.1 _ _ _ q_p0 e283
    obtain ⟨q284, hF⟩ := ck_s hG; clear hG
    obtain ⟨a285, e286, hG⟩ := rf_s hF; clear hF
    have qa285 : Q a285 := hm.1 _ _ _ qa282 e286
    obtain ⟨n287, q288, hF⟩ := ar_s hG; clear hG
    obtain ⟨q289, hG⟩ := ck_s hF; clear hF
    obtain ⟨x290, -, hF⟩ := bnd_g hG; clear hG
    rcases ite_s hF with ⟨q_15, hG⟩ | ⟨q_15, hG⟩
    · clear hF
      obtain ⟨a292, e293, hF⟩ := rf_s hG; clear hG
      have qa292 : Q a292 := hm.1 _ _ _ q_p0 e293
      obtain ⟨q294, hG⟩ := ck_s hF; clear hF
      obtain ⟨a295, e296, hF⟩ := rf_s hG; clear hG
      have qa295 : Q a295 := hm.1 _ _ _ qa292 e296
      obtain ⟨x297, -, hG⟩ := bnd_g hF; clear hF
      obtain ⟨n298, q299, hF⟩ := ar_s hG; clear hG
      obtain ⟨q300, hG⟩ := ck_s hF; clear hF
      obtain ⟨x301, -, hF⟩ := bnd_g hG; clear hG
      obtain ⟨x302, -, hG⟩ := bnd_g hF; clear hF
      obtain ⟨H303, eH303, hF⟩ := bnd_g hG; clear hG
      replace hm : Rg Q H H303 := hm.tr (by rw [eH303]; exact Rg.sD hm.1 q_p0)
      have s_16 : Sa H H303 := by rw [eH303]; exact Sa.rf _
      obtain ⟨x304, -, hG⟩ := bnd_g hF; clear hF
      rcases ite_s hG with ⟨q_17, hF⟩ | ⟨q_17, hF⟩
      · clear hG
        obtain ⟨a306, e307, hG⟩ := rf_s hF; clear hF
        have qa306 : Q a306 := hm.1 _ _ _ q_p0 e307
        obtain ⟨a308, e309, hF⟩ := rf_s hG; clear hG
        have qa308 : Q a308 := hm.1 _ _ _ q_p0 e309
        obtain ⟨n310, q311, hG⟩ := ar_s hF; clear hF
        rw [(s_16).1] at q311
        obtain ⟨q312, hF⟩ := ck_s hG; clear hG
        obtain ⟨x313, -, hG⟩ := bnd_g hF; clear hF
        obtain ⟨q314, hF⟩ := ck_s hG; clear hG
        rw [(s_16).1] at q314
        obtain ⟨v316, H317, z315, hG⟩ := bC_s hF; clear hF
        have gz_18 := (g_MWorld_has z315 hm.1 qa306)
        replace hm : Rg Q H H317 := hm.tr gz_18
        have s_19 : Sa H H317 := (s_16).tr (m_MWorld_has z315)
        rcases ite_s hG with ⟨q_20, hF⟩ | ⟨q_20, hF⟩
        · clear hG
          obtain ⟨v320, H321, z319, hG⟩ := bC_s hF; clear hF
          have gz_21 := (g_MRunner_fails z319 hm.1 q_p0)
          replace hm : Rg Q H H321 := hm.tr gz_21
          have s_22 : Sa H H321 := (s_19).tr (m_MRunner_fails z319)
          have hr := Option.some.inj hG; subst hr
          exact hm
        · clear hG
          obtain ⟨a322, e323, hG⟩ := rf_s hF; clear hF
          have qa322 : Q a322 := hm.1 _ _ _ q_p0 e323
          obtain ⟨q324, hF⟩ := ck_s hG; clear hG
          rw [(s_19).1] at q324
          obtain ⟨a325, e326, hG⟩ := rf_s hF; clear hF
          have qa325 : Q a325 := hm.1 _ _ _ qa322 e326
          obtain ⟨a327, e328, hF⟩ := rf_s hG; clear hG
          have qa327 : Q a327 := hm.1 _ _ _ q_p0 e328
          obtain ⟨n329, q330, hG⟩ := ar_s hF; clear hF
          rw [(s_19).1] at q330
          obtain ⟨q331, hF⟩ := ck_s hG; clear hG
          obtain ⟨x332, -, hG⟩ := bnd_g hF; clear hF
          obtain ⟨n333, q334, hF⟩ := ar_s hG; clear hG
          rw [(s_19).1] at q334
          obtain ⟨q335, hG⟩ := ck_s hF; clear hF
          obtain ⟨x336, -, hF⟩ := bnd_g hG; clear hG
          have hr := Option.some.inj hF; subst hr
          exact hm
      · clear hG
        have hr := Option.some.inj hF; subst hr
        exact hm
    · clear hF
      obtain ⟨x337, -, hF⟩ := bnd_g hG; clear hG
      obtain ⟨H338, eH338, hG⟩ := bnd_g hF; clear hF
      replace hm : Rg Q H H338 := hm.tr (by rw [eH338]; exact Rg.sD hm.1 q_p0)
      have s_23 : Sa H H338 := by rw [eH338]; exact Sa.rf _
      obtain ⟨a339, e340, hF⟩ := rf_s hG; clear hG
      have qa339 : Q a339 := hm.1 _ _ _ q_p0 e340
      obtain ⟨q341, hG⟩ := ck_s hF; clear hF
      rw [(s_23).1] at q341
      obtain ⟨a342, e343, hF⟩ := rf_s hG; clear hG
      have qa342 : Q a342 := hm.1 _ _ _ qa339 e343
      obtain ⟨n344, q345, hG⟩ := ar_s hF; clear hF
      rw [(s_23).1] at q345
      obtain ⟨q346, hF⟩ := ck_s hG; clear hG
      obtain ⟨x347, -, hG⟩ := bnd_g hF; clear hF
      rcases ite_s hG with ⟨q_24, hF⟩ | ⟨q_24, hF⟩
      · clear hG
        obtain ⟨a349, e350, hG⟩ := rf_s hF; clear hF
        have qa349 : Q a349 := hm.1 _ _ _ q_p0 e350
        obtain ⟨q351, hF⟩ := ck_s hG; clear hG
        rw [(s_23).1] at q351
        obtain ⟨a352, e353, hG⟩ := rf_s hF; clear hF
        have qa352 : Q a352 := hm.1 _ _ _ qa349 e353
        obtain ⟨a354, e355, hF⟩ := rf_s hG; clear hG
        have qa354 : Q a354 := hm.1 _ _ _ q_p0 e355
        obtain ⟨n356, q357, hG⟩ := ar_s hF; clear hF
        rw [(s_23).1] at q357
        obtain ⟨q358, hF⟩ := ck_s hG; clear hG
        obtain ⟨x359, -, hG⟩ := bnd_g hF; clear hF
        obtain ⟨n360, q361, hF⟩ := ar_s hG; clear hG
        rw [(s_23).1] at q361
        obtain ⟨q362, hG⟩ := ck_s hF; clear hF
        obtain ⟨x363, -, hF⟩ := bnd_g hG; clear hG
        have hr := Option.some.inj hF; subst hr
        exact hm
      · clear hG
        obtain ⟨a364, e365, hG⟩ := rf_s hF; clear hF
        have qa364 : Q a364 := hm.1 _ _ _ q_p0 e365
        obtain ⟨n366, q367, hF⟩ := ar_s hG; clear hG
        rw [(s_23).1] at q367
        obtain ⟨q368, hG⟩ := ck_s hF; clear hF
        obtain ⟨x369, -, hF⟩ := bnd_g hG; clear hG
        have hr := Option.some.inj hF; subst hr
        exact hm
  · clear hF
    obtain ⟨a370, e371, hF⟩ := rf_s hG; clear hG
    have qa370 : Q a370 := hm.1 _ _ _ q_p0 e371
    obtain ⟨n372, q373, hG⟩ := ar_s hF; clear hF
    obtain ⟨q374, hF⟩ := ck_s hG; clear hG
    obtain ⟨x375, -, hG⟩ := bnd_g hF; clear hF
    have hr := Option.some.inj hG; subst hr
    exact hm
set_option maxRecDepth 20000 in
set_option maxHeartbeats 2000000 in
theorem gB_MRunner_drawn_71 {N : Nat} {Q : Nat → Prop} {p0 : Nat} {p1 : Int32} {kq23 : Int32 → Int32 → Hp → Option (Int32 × Hp)} (q_p0 : Q p0) (hg23 : ∀ (l2 : Int32) (l3 : Int32) (H : Hp) (r : Int32 × Hp), kq23 l2 l3 H = some r → Cl Q H → Rg Q H r.2) {l3 : Int32} {w0 : Int32} {w1 : Int32} {H : Hp} {r : Int32 × Hp} (hF : B_MRunner_drawn_71 N p0 p1 kq23 l3 w0 w1 H = some r) (hc0 : Cl Q H) : Rg Q H r.2 := by
  unfold B_MRunner_drawn_71 at hF
  have hm := Rg.rf hc0
  obtain ⟨x67, -, hG⟩ := bnd_g hF; clear hF
  obtain ⟨x68, -, hF⟩ := bnd_g hG; clear hG
  obtain ⟨x69, -, hG⟩ := bnd_g hF; clear hF
  exact hm.tr (hg23 x69 (l3 + 1) H r hG hm.1)
set_option maxRecDepth 20000 in
set_option maxHeartbeats 2000000 in
theorem gB_MRunner_drawn_23 {N : Nat} {Q : Nat → Prop} {p0 : Nat} {p1 : Int32} (q_p0 : Q p0) : ∀ (n : Nat) (l2 : Int32) (l3 : Int32) (H : Hp) (r : Int32 × Hp), B_MRunner_drawn_23 N p0 p1 n l2 l3 H = some r → Cl Q H → Rg Q H r.2 := by
  intro n
  induction n with
  | zero => intro l2 l3 H r hF; rw [B_MRunner_drawn_23] at hF; cases hF
  | succ n ih =>
    intro l2 l3 H r hF hc0
    rw [B_MRunner_drawn_23] at hF
    have hm := Rg.rf hc0
    rcases ite_s hF with ⟨q_10, hG⟩ | ⟨q_10, hG⟩
    · clear hF
      obtain ⟨q71, hF⟩ := ck_s hG; clear hG
      obtain ⟨x72, -, hG⟩ := bnd_g hF; clear hF
      obtain ⟨H73, eH73, hF⟩ := bnd_g hG; clear hG
      replace hm : Rg Q H H73 := hm.tr (by rw [eH73]; exact Rg.sD hm.1 q_p0)
      have s_11 : Sa H H73 := by rw [eH73]; exact Sa.rf _
      obtain ⟨q74, hG⟩ := ck_s hF; clear hF
      obtain ⟨x75, -, hF⟩ := bnd_g hG; clear hG
      have hr := Option.some.inj hF; subst hr
      exact hm
    · clear hF
      rcases ite_s hG with ⟨q_12, hF⟩ | ⟨q_12, hF⟩
      · clear hG
        obtain ⟨q77, hG⟩ := ck_s hF; clear hF
        obtain ⟨a78, e79, hF⟩ := rf_s hG; clear hG
        have qa78 : Q a78 := hm.1 _ _ _ q_p0 e79
        obtain ⟨q80, hG⟩ := ck_s hF; clear hF
        obtain ⟨x81, -, hF⟩ := bnd_g hG; clear hG
        exact hm.tr (gB_MRunner_drawn_71 q_p0 ih hF hm.1)
      · clear hG
        rcases ite_s hF with ⟨q_13, hG⟩ | ⟨q_13, hG⟩
        · clear hF
          obtain ⟨q83, hF⟩ := ck_s hG; clear hG
          obtain ⟨x84, -, hG⟩ := bnd_g hF; clear hF
          exact hm.tr (gB_MRunner_drawn_71 q_p0 ih hG hm.1)
        · clear hF
          rcases ite_s hG with ⟨q_14, hF⟩ | ⟨q_14, hF⟩
          · clear hG
            obtain ⟨q86, hG⟩ := ck_s hF; clear hF
            obtain ⟨x87, -, hF⟩ := bnd_g hG; clear hG
            exact hm.tr (gB_MRunner_drawn_71 q_p0 ih hF hm.1)
          · clear hG
            obtain ⟨q88, hG⟩ := ck_s hF; clear hF
            obtain ⟨x89, -, hF⟩ := bnd_g hG; clear hG
            exact hm.tr (gB_MRunner_drawn_71 q_p0 ih hF hm.1)
set_option maxRecDepth 20000 in
set_option maxHeartbeats 2000000 in
theorem g_MRunner_drawn {N : Nat} {Q : Nat → Prop} {p0 : Nat} {p1 : Int32} {H : Hp} {r : Int32 × Hp} (hF : F_MRunner_drawn N p0 p1 H = some r) (hc0 : Cl Q H) (q_p0 : Q p0) : Rg Q H r.2 := by
  unfold F_MRunner_drawn at hF
  have hm := Rg.rf hc0
  rcases ite_s hF with ⟨q_15, hG⟩ | ⟨q_15, hG⟩
  · clear hF
    obtain ⟨q91, hF⟩ := ck_s hG; clear hG
    obtain ⟨a92, e93, hG⟩ := rf_s hF; clear hF
    have qa92 : Q a92 := hm.1 _ _ _ q_p0 e93
    obtain ⟨q94, hF⟩ := ck_s hG; clear hG
    obtain ⟨x95, -, hG⟩ := bnd_g hF; clear hF
    exact hm.tr (gB_MRunner_drawn_23 q_p0 N x95 0 H r hG hm.1)
  · clear hF
    obtain ⟨q96, hF⟩ := ck_s hG; clear hG
    obtain ⟨v98, H99, z97, hG⟩ := bC_s hF; clear hF
    have gz_16 := (g_MRunner_fails z97 hm.1 q_p0)
    replace hm : Rg Q H H99 := hm.tr gz_16
    have s_17 : Sa H H99 := (m_MRunner_fails z97)
    have hr := Option.some.inj hG; subst hr
    exact hm
set_option maxRecDepth 20000 in
set_option maxHeartbeats 2000000 in
theorem gB_MRunner_root_58 {N : Nat} {Q : Nat → Prop} {p0 : Nat} {p1 : Int32} {kq25 : Int64 → Int64 → Int64 → Hp → Option (Int32 × Hp)} (q_p0 : Q p0) (hg25 : ∀ (l2 : Int64) (l4 : Int64) (l6 : Int64) (H : Hp) (r : Int32 × Hp), kq25 l2 l4 l6 H = some r → Cl Q H → Rg Q H r.2) {l2 : Int64} {l6 : Int64} {w0 : Int64} {H : Hp} {r : Int32 × Hp} (hF : B_MRunner_root_58 N p0 p1 kq25 l2 l6 w0 H = some r) (hc0 : Cl Q H) : Rg Q H r.2 := by
  unfold B_MRunner_root_58 at hF
  have hm := Rg.rf hc0
  obtain ⟨x19, -, hG⟩ := bnd_g hF; clear hF
  exact hm.tr (hg25 l2 w0 x19 H r hG hm.1)
set_option maxRecDepth 20000 in
set_option maxHeartbeats 2000000 in
theorem gB_MRunner_root_25 {N : Nat} {Q : Nat → Prop} {p0 : Nat} {p1 : Int32} (q_p0 : Q p0) : ∀ (n : Nat) (l2 : Int64) (l4 : Int64) (l6 : Int64) (H : Hp) (r : Int32 × Hp), B_MRunner_root_25 N p0 p1 n l2 l4 l6 H = some r → Cl Q H → Rg Q H r.2 := by
  intro n
  induction n with
  | zero => intro l2 l4 l6 H r hF; rw [B_MRunner_root_25] at hF; cases hF
  | succ n ih =>
    intro l2 l4 l6 H r hF hc0
    rw [B_MRunner_root_25] at hF
    have hm := Rg.rf hc0
    rcases ite_s hF with ⟨q_6, hG⟩ | ⟨q_6, hG⟩
    · clear hF
      have hr := Option.some.inj hG; subst hr
      exact hm
    · clear hF
      rcases ite_s hG with ⟨q_7, hF⟩ | ⟨q_7, hF⟩
      · clear hG
        exact hm.tr (gB_MRunner_root_58 q_p0 ih hF hm.1)
      · clear hG
        exact hm.tr (gB_MRunner_root_58 q_p0 ih hF hm.1)
set_option maxRecDepth 20000 in
set_option maxHeartbeats 2000000 in
theorem g_MRunner_root {N : Nat} {Q : Nat → Prop} {p0 : Nat} {p1 : Int32} {H : Hp} {r : Int32 × Hp} (hF : F_MRunner_root N p0 p1 H = some r) (hc0 : Cl Q H) (q_p0 : Q p0) : Rg Q H r.2 := by
  unfold F_MRunner_root at hF
  have hm := Rg.rf hc0
  rcases ite_s hF with ⟨q_8, hG⟩ | ⟨q_8, hG⟩
  · clear hF
    obtain ⟨x23, -, hF⟩ := bnd_g hG; clear hG
    exact hm.tr (gB_MRunner_root_25 q_p0 N x23 0 16777216 H r hF hm.1)
  · clear hF
    obtain ⟨q24, hF⟩ := ck_s hG; clear hG
    obtain ⟨v26, H27, z25, hG⟩ := bC_s hF; clear hF
    have gz_9 := (g_MRunner_fails z25 hm.1 q_p0)
    replace hm : Rg Q H H27 := hm.tr gz_9
    have s_10 : Sa H H27 := (m_MRunner_fails z25)
    have hr := Option.some.inj hG; subst hr
    exact hm
set_option maxRecDepth 20000 in
set_option maxHeartbeats 2000000 in
theorem g_MRunner_called {N : Nat} {Q : Nat → Prop} {p0 : Nat} {p1 : Int32} {p2 : Int32} {H : Hp} {r : Int32 × Hp} (hF : F_MRunner_called N p0 p1 p2 H = some r) (hc0 : Cl Q H) (q_p0 : Q p0) : Rg Q H r.2 := by
  unfold F_MRunner_called at hF
  have hm := Rg.rf hc0
  rcases ite_s hF with ⟨q_18, hG⟩ | ⟨q_18, hG⟩
  · clear hF
    have hr := Option.some.inj hG; subst hr
    exact hm
  clear hF
  rcases ite_s hG with ⟨q_19, hF⟩ | ⟨q_19, hF⟩
  · clear hG
    obtain ⟨v74, H75, z73, hG⟩ := bC_s hF; clear hF
    have gz_20 := (g_M_in z73 hm.1)
    replace hm : Rg Q H H75 := hm.tr gz_20
    have s_21 : Sa H H75 := (m_M_in z73)
    rcases ite_s hG with ⟨q_22, hF⟩ | ⟨q_22, hF⟩
    · clear hG
      have hr := Option.some.inj hF; subst hr
      exact hm
    · clear hG
      obtain ⟨q77, hG⟩ := ck_s hF; clear hF
      rw [(s_21).1] at q77
      obtain ⟨a78, e79, hF⟩ := rf_s hG; clear hG
      have qa78 : Q a78 := hm.1 _ _ _ q_p0 e79
      obtain ⟨n80, q81, hG⟩ := ar_s hF; clear hF
      rw [(s_21).1] at q81
      obtain ⟨q82, hF⟩ := ck_s hG; clear hG
      obtain ⟨x83, -, hG⟩ := bnd_g hF; clear hF
      have hr := Option.some.inj hG; subst hr
      exact hm
  clear hG
  rcases ite_s hF with ⟨q_23, hG⟩ | ⟨q_23, hG⟩
  · clear hF
    obtain ⟨q85, hF⟩ := ck_s hG; clear hG
    obtain ⟨v87, H88, z86, hG⟩ := bC_s hF; clear hF
    have gz_24 := (g_MRunner_drawn z86 hm.1 q_p0)
    replace hm : Rg Q H H88 := hm.tr gz_24
    have s_25 : Sa H H88 := (m_MRunner_drawn z86)
    have hr := Option.some.inj hG; subst hr
    exact hm
  clear hF
  rcases ite_s hG with ⟨q_26, hF⟩ | ⟨q_26, hF⟩
  · clear hG
    obtain ⟨q90, hG⟩ := ck_s hF; clear hF
    obtain ⟨a91, e92, hF⟩ := rf_s hG; clear hG
    have qa91 : Q a91 := hm.1 _ _ _ q_p0 e92
    obtain ⟨q93, hG⟩ := ck_s hF; clear hF
    obtain ⟨v95, H96, z94, hF⟩ := bC_s hG; clear hG
    have gz_27 := (g_MWorld_isAlive z94 hm.1 qa91)
    replace hm : Rg Q H H96 := hm.tr gz_27
    have s_28 : Sa H H96 := (m_MWorld_isAlive z94)
    rcases ite_s hF with ⟨q_29, hG⟩ | ⟨q_29, hG⟩
    · clear hF
      have hr := Option.some.inj hG; subst hr
      exact hm
    · clear hF
      have hr := Option.some.inj hG; subst hr
      exact hm
  clear hG
  rcases ite_s hF with ⟨q_30, hG⟩ | ⟨q_30, hG⟩
  · clear hF
    obtain ⟨q99, hF⟩ := ck_s hG; clear hG
    obtain ⟨v101, H102, z100, hG⟩ := bC_s hF; clear hF
    have gz_31 := (g_MRunner_root z100 hm.1 q_p0)
    replace hm : Rg Q H H102 := hm.tr gz_31
    have s_32 : Sa H H102 := (m_MRunner_root z100)
    have hr := Option.some.inj hG; subst hr
    exact hm
  clear hF
  obtain ⟨v104, H105, z103, hF⟩ := bC_s hG; clear hG
  have gz_33 := (g_M_held z103 hm.1)
  replace hm : Rg Q H H105 := hm.tr gz_33
  have s_34 : Sa H H105 := (m_M_held z103)
  have hr := Option.some.inj hF; subst hr
  exact hm
set_option maxRecDepth 20000 in
set_option maxHeartbeats 2000000 in
theorem gB_MRunner_times_63 {N : Nat} {Q : Nat → Prop} {p0 : Int32} {p1 : Int32} {p2 : Int32} {w0 : Int32} {w1 : Int64} {H : Hp} {r : Int32 × Hp} (hF : B_MRunner_times_63 N p0 p1 p2 w0 w1 H = some r) (hc0 : Cl Q H) : Rg Q H r.2 := by
  unfold B_MRunner_times_63 at hF
  have hm := Rg.rf hc0
  obtain ⟨v22, H23, z21, hG⟩ := bC_s hF; clear hF
  have gz_7 := (g_M_held z21 hm.1)
  replace hm : Rg Q H H23 := hm.tr gz_7
  have s_8 : Sa H H23 := (m_M_held z21)
  have hr := Option.some.inj hG; subst hr
  exact hm
set_option maxRecDepth 20000 in
set_option maxHeartbeats 2000000 in
theorem gB_MRunner_times_54 {N : Nat} {Q : Nat → Prop} {p0 : Int32} {p1 : Int32} {p2 : Int32} {l7 : Int64} {w0 : Int32} {H : Hp} {r : Int32 × Hp} (hF : B_MRunner_times_54 N p0 p1 p2 l7 w0 H = some r) (hc0 : Cl Q H) : Rg Q H r.2 := by
  unfold B_MRunner_times_54 at hF
  have hm := Rg.rf hc0
  exact hm.tr (gB_MRunner_times_63 hF hm.1)
set_option maxRecDepth 20000 in
set_option maxHeartbeats 2000000 in
theorem gB_MRunner_times_61 {N : Nat} {Q : Nat → Prop} {p0 : Int32} {p1 : Int32} {p2 : Int32} {l7 : Int64} {w0 : Int32} {H : Hp} {r : Int32 × Hp} (hF : B_MRunner_times_61 N p0 p1 p2 l7 w0 H = some r) (hc0 : Cl Q H) : Rg Q H r.2 := by
  unfold B_MRunner_times_61 at hF
  have hm := Rg.rf hc0
  exact hm.tr (gB_MRunner_times_63 hF hm.1)
set_option maxRecDepth 20000 in
set_option maxHeartbeats 2000000 in
theorem g_MRunner_times {N : Nat} {Q : Nat → Prop} {p0 : Int32} {p1 : Int32} {p2 : Int32} {H : Hp} {r : Int32 × Hp} (hF : F_MRunner_times N p0 p1 p2 H = some r) (hc0 : Cl Q H) : Rg Q H r.2 := by
  unfold F_MRunner_times at hF
  have hm := Rg.rf hc0
  obtain ⟨x24, -, hG⟩ := bnd_g hF; clear hF
  rcases ite_s hG with ⟨q_9, hF⟩ | ⟨q_9, hF⟩
  · clear hG
    have hr := Option.some.inj hF; subst hr
    exact hm
  · clear hG
    obtain ⟨x26, -, hG⟩ := bnd_g hF; clear hF
    obtain ⟨x27, -, hF⟩ := bnd_g hG; clear hG
    rcases ite_s hF with ⟨q_10, hG⟩ | ⟨q_10, hG⟩
    · clear hF
      exact hm.tr (gB_MRunner_times_54 hG hm.1)
    · clear hF
      rcases ite_s hG with ⟨q_11, hF⟩ | ⟨q_11, hF⟩
      · clear hG
        rcases ite_s hF with ⟨q_12, hG⟩ | ⟨q_12, hG⟩
        · clear hF
          exact hm.tr (gB_MRunner_times_54 hG hm.1)
        · clear hF
          exact hm.tr (gB_MRunner_times_61 hG hm.1)
      · clear hG
        exact hm.tr (gB_MRunner_times_61 hF hm.1)
set_option maxRecDepth 20000 in
set_option maxHeartbeats 2000000 in
theorem gB_MRunner_divided_174 {N : Nat} {Q : Nat → Prop} {p0 : Nat} {p1 : Int32} {p2 : Int32} {p3 : Int32} (q_p0 : Q p0) {w0 : Int32} {w1 : Int64} {H : Hp} {r : Int32 × Hp} (hF : B_MRunner_divided_174 N p0 p1 p2 p3 w0 w1 H = some r) (hc0 : Cl Q H) : Rg Q H r.2 := by
  unfold B_MRunner_divided_174 at hF
  have hm := Rg.rf hc0
  obtain ⟨v88, H89, z87, hG⟩ := bC_s hF; clear hF
  have gz_16 := (g_M_held z87 hm.1)
  replace hm : Rg Q H H89 := hm.tr gz_16
  have s_17 : Sa H H89 := (m_M_held z87)
  have hr := Option.some.inj hG; subst hr
  exact hm
set_option maxRecDepth 20000 in
set_option maxHeartbeats 2000000 in
theorem gB_MRunner_divided_163 {N : Nat} {Q : Nat → Prop} {p0 : Nat} {p1 : Int32} {p2 : Int32} {p3 : Int32} (q_p0 : Q p0) {l8 : Int64} {w0 : Int32} {w1 : Int32} {w2 : Int32} {H : Hp} {r : Int32 × Hp} (hF : B_MRunner_divided_163 N p0 p1 p2 p3 l8 w0 w1 w2 H = some r) (hc0 : Cl Q H) : Rg Q H r.2 := by
  unfold B_MRunner_divided_163 at hF
  have hm := Rg.rf hc0
  rcases ite_s hF with ⟨q_18, hG⟩ | ⟨q_18, hG⟩
  · clear hF
    exact hm.tr (gB_MRunner_divided_174 q_p0 hG hm.1)
  · clear hF
    exact hm.tr (gB_MRunner_divided_174 q_p0 hG hm.1)
set_option maxRecDepth 20000 in
set_option maxHeartbeats 2000000 in
theorem gB_MRunner_divided_154 {N : Nat} {Q : Nat → Prop} {p0 : Nat} {p1 : Int32} {p2 : Int32} {p3 : Int32} (q_p0 : Q p0) {l8 : Int64} {w0 : Int32} {w1 : Int32} {H : Hp} {r : Int32 × Hp} (hF : B_MRunner_divided_154 N p0 p1 p2 p3 l8 w0 w1 H = some r) (hc0 : Cl Q H) : Rg Q H r.2 := by
  unfold B_MRunner_divided_154 at hF
  have hm := Rg.rf hc0
  rcases ite_s hF with ⟨q_19, hG⟩ | ⟨q_19, hG⟩
  · clear hF
    exact hm.tr (gB_MRunner_divided_163 q_p0 hG hm.1)
  · clear hF
    exact hm.tr (gB_MRunner_divided_163 q_p0 hG hm.1)
set_option maxRecDepth 20000 in
set_option maxHeartbeats 2000000 in
theorem gB_MRunner_divided_141 {N : Nat} {Q : Nat → Prop} {p0 : Nat} {p1 : Int32} {p2 : Int32} {p3 : Int32} (q_p0 : Q p0) {w0 : Int64} {w1 : Int64} {H : Hp} {r : Int32 × Hp} (hF : B_MRunner_divided_141 N p0 p1 p2 p3 w0 w1 H = some r) (hc0 : Cl Q H) : Rg Q H r.2 := by
  unfold B_MRunner_divided_141 at hF
  have hm := Rg.rf hc0
  rcases ite_s hF with ⟨q_20, hG⟩ | ⟨q_20, hG⟩
  · clear hF
    exact hm.tr (gB_MRunner_divided_154 q_p0 hG hm.1)
  · clear hF
    exact hm.tr (gB_MRunner_divided_154 q_p0 hG hm.1)
set_option maxRecDepth 20000 in
set_option maxHeartbeats 2000000 in
theorem gB_MRunner_divided_136 {N : Nat} {Q : Nat → Prop} {p0 : Nat} {p1 : Int32} {p2 : Int32} {p3 : Int32} (q_p0 : Q p0) {w0 : Int64} {H : Hp} {r : Int32 × Hp} (hF : B_MRunner_divided_136 N p0 p1 p2 p3 w0 H = some r) (hc0 : Cl Q H) : Rg Q H r.2 := by
  unfold B_MRunner_divided_136 at hF
  have hm := Rg.rf hc0
  exact hm.tr (gB_MRunner_divided_141 q_p0 hF hm.1)
set_option maxRecDepth 20000 in
set_option maxHeartbeats 2000000 in
theorem gB_MRunner_divided_140 {N : Nat} {Q : Nat → Prop} {p0 : Nat} {p1 : Int32} {p2 : Int32} {p3 : Int32} (q_p0 : Q p0) {w0 : Int64} {H : Hp} {r : Int32 × Hp} (hF : B_MRunner_divided_140 N p0 p1 p2 p3 w0 H = some r) (hc0 : Cl Q H) : Rg Q H r.2 := by
  unfold B_MRunner_divided_140 at hF
  have hm := Rg.rf hc0
  exact hm.tr (gB_MRunner_divided_141 q_p0 hF hm.1)
set_option maxRecDepth 20000 in
set_option maxHeartbeats 2000000 in
theorem gB_MRunner_divided_86 {N : Nat} {Q : Nat → Prop} {p0 : Nat} {p1 : Int32} {p2 : Int32} {p3 : Int32} (q_p0 : Q p0) {l4 : Int64} {w0 : Int64} {H : Hp} {r : Int32 × Hp} (hF : B_MRunner_divided_86 N p0 p1 p2 p3 l4 w0 H = some r) (hc0 : Cl Q H) : Rg Q H r.2 := by
  unfold B_MRunner_divided_86 at hF
  have hm := Rg.rf hc0
  obtain ⟨q93, hG⟩ := ck_s hF; clear hF
  obtain ⟨x94, -, hF⟩ := bnd_g hG; clear hG
  rcases ite_s hF with ⟨q_21, hG⟩ | ⟨q_21, hG⟩
  · clear hF
    exact hm.tr (gB_MRunner_divided_136 q_p0 hG hm.1)
  · clear hF
    rcases ite_s hG with ⟨q_22, hF⟩ | ⟨q_22, hF⟩
    · clear hG
      rcases ite_s hF with ⟨q_23, hG⟩ | ⟨q_23, hG⟩
      · clear hF
        exact hm.tr (gB_MRunner_divided_136 q_p0 hG hm.1)
      · clear hF
        exact hm.tr (gB_MRunner_divided_140 q_p0 hG hm.1)
    · clear hG
      exact hm.tr (gB_MRunner_divided_140 q_p0 hF hm.1)
set_option maxRecDepth 20000 in
set_option maxHeartbeats 2000000 in
theorem gB_MRunner_divided_66 {N : Nat} {Q : Nat → Prop} {p0 : Nat} {p1 : Int32} {p2 : Int32} {p3 : Int32} (q_p0 : Q p0) {w0 : Int64} {H : Hp} {r : Int32 × Hp} (hF : B_MRunner_divided_66 N p0 p1 p2 p3 w0 H = some r) (hc0 : Cl Q H) : Rg Q H r.2 := by
  unfold B_MRunner_divided_66 at hF
  have hm := Rg.rf hc0
  obtain ⟨x98, -, hG⟩ := bnd_g hF; clear hF
  rcases ite_s hG with ⟨q_24, hF⟩ | ⟨q_24, hF⟩
  · clear hG
    exact hm.tr (gB_MRunner_divided_86 q_p0 hF hm.1)
  · clear hG
    exact hm.tr (gB_MRunner_divided_86 q_p0 hF hm.1)
set_option maxRecDepth 20000 in
set_option maxHeartbeats 2000000 in
theorem g_MRunner_divided {N : Nat} {Q : Nat → Prop} {p0 : Nat} {p1 : Int32} {p2 : Int32} {p3 : Int32} {H : Hp} {r : Int32 × Hp} (hF : F_MRunner_divided N p0 p1 p2 p3 H = some r) (hc0 : Cl Q H) (q_p0 : Q p0) : Rg Q H r.2 := by
  unfold F_MRunner_divided at hF
  have hm := Rg.rf hc0
  rcases ite_s hF with ⟨q_25, hG⟩ | ⟨q_25, hG⟩
  · clear hF
    obtain ⟨q101, hF⟩ := ck_s hG; clear hG
    obtain ⟨v103, H104, z102, hG⟩ := bC_s hF; clear hF
    have gz_26 := (g_MRunner_fails z102 hm.1 q_p0)
    replace hm : Rg Q H H104 := hm.tr gz_26
    have s_27 : Sa H H104 := (m_MRunner_fails z102)
    have hr := Option.some.inj hG; subst hr
    exact hm
  · clear hF
    obtain ⟨q105, hF⟩ := ck_s hG; clear hG
    obtain ⟨a106, e107, hG⟩ := rf_s hF; clear hF
    have qa106 : Q a106 := hm.1 _ _ _ q_p0 e107
    obtain ⟨q108, hF⟩ := ck_s hG; clear hG
    obtain ⟨a109, e110, hG⟩ := rf_s hF; clear hF
    have qa109 : Q a109 := hm.1 _ _ _ qa106 e110
    obtain ⟨n111, q112, hF⟩ := ar_s hG; clear hG
    obtain ⟨q113, hG⟩ := ck_s hF; clear hF
    obtain ⟨x114, -, hF⟩ := bnd_g hG; clear hG
    rcases ite_s hF with ⟨q_28, hG⟩ | ⟨q_28, hG⟩
    · clear hF
      obtain ⟨q116, hF⟩ := ck_s hG; clear hG
      obtain ⟨x117, -, hG⟩ := bnd_g hF; clear hF
      have hr := Option.some.inj hG; subst hr
      exact hm
    · clear hF
      obtain ⟨a118, e119, hF⟩ := rf_s hG; clear hG
      have qa118 : Q a118 := hm.1 _ _ _ q_p0 e119
      obtain ⟨q120, hG⟩ := ck_s hF; clear hF
      obtain ⟨a121, e122, hF⟩ := rf_s hG; clear hG
      have qa121 : Q a121 := hm.1 _ _ _ qa118 e122
      obtain ⟨n123, q124, hG⟩ := ar_s hF; clear hF
      obtain ⟨q125, hF⟩ := ck_s hG; clear hG
      obtain ⟨x126, -, hG⟩ := bnd_g hF; clear hF
      rcases ite_s hG with ⟨q_29, hF⟩ | ⟨q_29, hF⟩
      · clear hG
        obtain ⟨q128, hG⟩ := ck_s hF; clear hF
        have hr := Option.some.inj hG; subst hr
        exact hm
      · clear hG
        rcases ite_s hF with ⟨q_30, hG⟩ | ⟨q_30, hG⟩
        · clear hF
          exact hm.tr (gB_MRunner_divided_66 q_p0 hG hm.1)
        · clear hF
          exact hm.tr (gB_MRunner_divided_66 q_p0 hG hm.1)
def rg_RunE (Q : Nat → Prop) (o : Orc_RunE) : Prop :=
  (∀ (a0 : Nat) (H : Hp) (r : Int32 × Hp), o.1 a0 H = some r → Cl Q H → Q a0 → Rg Q H r.2) ∧
  (∀ (a0 : Nat) (H : Hp) (r : Int32 × Hp), o.2 a0 H = some r → Cl Q H → Q a0 → Rg Q H r.2)
set_option maxRecDepth 20000 in
set_option maxHeartbeats 2000000 in
theorem gB_MRunner_primary_276 {N : Nat} {Q : Nat → Prop} {o : Orc_RunE} {hmo : mo_RunE o} (hgo : rg_RunE Q o) {p0 : Nat} (q_p0 : Q p0)  {H : Hp} {r : Int32 × Hp} (hF : B_MRunner_primary_276 N o p0  H = some r) (hc0 : Cl Q H) : Rg Q H r.2 := by
  unfold B_MRunner_primary_276 at hF
  have hm := Rg.rf hc0
  have hr := Option.some.inj hF; subst hr
  exact hm
set_option maxRecDepth 20000 in
set_option maxHeartbeats 2000000 in
theorem g_MRunner_primary {N : Nat} {Q : Nat → Prop} {o : Orc_RunE} {hmo : mo_RunE o} (hgo : rg_RunE Q o) {p0 : Nat} {H : Hp} {r : Int32 × Hp} (hF : F_MRunner_primary N o p0 H = some r) (hc0 : Cl Q H) (q_p0 : Q p0) : Rg Q H r.2 := by
  unfold F_MRunner_primary at hF
  have hm := Rg.rf hc0
  obtain ⟨q207, hG⟩ := ck_s hF; clear hF
  obtain ⟨x208, -, hF⟩ := bnd_g hG; clear hG
  rcases ite_s hF with ⟨q_39, hG⟩ | ⟨q_39, hG⟩
  · clear hF
    obtain ⟨x210, -, hF⟩ := bnd_g hG; clear hG
    obtain ⟨x211, -, hG⟩ := bnd_g hF; clear hF
    obtain ⟨H212, eH212, hF⟩ := bnd_g hG; clear hG
    replace hm : Rg Q H H212 := hm.tr (by rw [eH212]; exact Rg.sD hm.1 q_p0)
    have s_40 : Sa H H212 := by rw [eH212]; exact Sa.rf _
    obtain ⟨a213, e214, hG⟩ := rf_s hF; clear hF
    have qa213 : Q a213 := hm.1 _ _ _ q_p0 e214
    obtain ⟨q215, hF⟩ := ck_s hG; clear hG
    rw [(s_40).1] at q215
    obtain ⟨a216, e217, hG⟩ := rf_s hF; clear hF
    have qa216 : Q a216 := hm.1 _ _ _ qa213 e217
    obtain ⟨n218, q219, hF⟩ := ar_s hG; clear hG
    rw [(s_40).1] at q219
    obtain ⟨q220, hG⟩ := ck_s hF; clear hF
    obtain ⟨x221, -, hF⟩ := bnd_g hG; clear hG
    rcases ite_s hF with ⟨q_41, hG⟩ | ⟨q_41, hG⟩
    · clear hF
      obtain ⟨v224, H225, z223, hF⟩ := bC_s hG; clear hG
      have gz_42 := (g_MRunner_named z223 hm.1 q_p0)
      replace hm : Rg Q H H225 := hm.tr gz_42
      have s_43 : Sa H H225 := (s_40).tr (m_MRunner_named z223)
      have hr := Option.some.inj hF; subst hr
      exact hm
    clear hF
    rcases ite_s hG with ⟨q_44, hF⟩ | ⟨q_44, hF⟩
    · clear hG
      obtain ⟨a227, e228, hG⟩ := rf_s hF; clear hF
      have qa227 : Q a227 := hm.1 _ _ _ q_p0 e228
      obtain ⟨q229, hF⟩ := ck_s hG; clear hG
      rw [(s_40).1] at q229
      obtain ⟨a230, e231, hG⟩ := rf_s hF; clear hF
      have qa230 : Q a230 := hm.1 _ _ _ qa227 e231
      obtain ⟨n232, q233, hF⟩ := ar_s hG; clear hG
      rw [(s_40).1] at q233
      obtain ⟨q234, hG⟩ := ck_s hF; clear hF
      obtain ⟨x235, -, hF⟩ := bnd_g hG; clear hG
      have hr := Option.some.inj hF; subst hr
      exact hm
    clear hG
    rcases ite_s hF with ⟨q_45, hG⟩ | ⟨q_45, hG⟩
    · clear hF
      obtain ⟨a237, e238, hF⟩ := rf_s hG; clear hG
      have qa237 : Q a237 := hm.1 _ _ _ q_p0 e238
      obtain ⟨q239, hG⟩ := ck_s hF; clear hF
      rw [(s_40).1] at q239
      obtain ⟨a240, e241, hF⟩ := rf_s hG; clear hG
      have qa240 : Q a240 := hm.1 _ _ _ qa237 e241
      obtain ⟨n242, q243, hG⟩ := ar_s hF; clear hF
      rw [(s_40).1] at q243
      obtain ⟨q244, hF⟩ := ck_s hG; clear hG
      obtain ⟨x245, -, hG⟩ := bnd_g hF; clear hF
      have hr := Option.some.inj hG; subst hr
      exact hm
    clear hF
    rcases ite_s hG with ⟨q_46, hF⟩ | ⟨q_46, hF⟩
    · clear hG
      obtain ⟨v248, H249, z247, hG⟩ := bC_s hF; clear hF
      have gz_47 := (hgo.1 _ _ _ z247 hm.1 q_p0)
      replace hm : Rg Q H H249 := hm.tr gz_47
      have s_48 : Sa H H249 := (s_40).tr (hmo.1 _ _ _ z247)
      obtain ⟨x250, -, hF⟩ := bnd_g hG; clear hG
      obtain ⟨H251, eH251, hG⟩ := bnd_g hF; clear hF
      replace hm : Rg Q H H251 := hm.tr (by rw [eH251]; exact Rg.sD hm.1 q_p0)
      have s_49 : Sa H H251 := by rw [eH251]; exact s_48
      have hr := Option.some.inj hG; subst hr
      exact hm
    clear hG
    rcases ite_s hF with ⟨q_50, hG⟩ | ⟨q_50, hG⟩
    · clear hF
      have hr := Option.some.inj hG; subst hr
      exact hm
    clear hF
    rcases ite_s hG with ⟨q_51, hF⟩ | ⟨q_51, hF⟩
    · clear hG
      have hr := Option.some.inj hF; subst hr
      exact hm
    clear hG
    rcases ite_s hF with ⟨q_52, hG⟩ | ⟨q_52, hG⟩
    · clear hF
      have hr := Option.some.inj hG; subst hr
      exact hm
    clear hF
    rcases ite_s hG with ⟨q_53, hF⟩ | ⟨q_53, hF⟩
    · clear hG
      obtain ⟨x256, -, hG⟩ := bnd_g hF; clear hF
      have hr := Option.some.inj hG; subst hr
      exact hm
    clear hG
    rcases ite_s hF with ⟨q_54, hG⟩ | ⟨q_54, hG⟩
    · clear hF
      obtain ⟨a258, e259, hF⟩ := rf_s hG; clear hG
      have qa258 : Q a258 := hm.1 _ _ _ q_p0 e259
      obtain ⟨q260, hG⟩ := ck_s hF; clear hF
      rw [(s_40).1] at q260
      obtain ⟨x261, -, hF⟩ := bnd_g hG; clear hG
      have hr := Option.some.inj hF; subst hr
      exact hm
    clear hF
    rcases ite_s hG with ⟨q_55, hF⟩ | ⟨q_55, hF⟩
    · clear hG
      obtain ⟨x263, -, hG⟩ := bnd_g hF; clear hF
      obtain ⟨H264, eH264, hF⟩ := bnd_g hG; clear hG
      replace hm : Rg Q H H264 := hm.tr (by rw [eH264]; exact Rg.sD hm.1 q_p0)
      have s_56 : Sa H H264 := by rw [eH264]; exact s_40
      obtain ⟨v266, H267, z265, hG⟩ := bC_s hF; clear hF
      have gz_57 := (hgo.1 _ _ _ z265 hm.1 q_p0)
      replace hm : Rg Q H H267 := hm.tr gz_57
      have s_58 : Sa H H267 := (s_56).tr (hmo.1 _ _ _ z265)
      obtain ⟨a268, e269, hF⟩ := rf_s hG; clear hG
      have qa268 : Q a268 := hm.1 _ _ _ q_p0 e269
      obtain ⟨q270, hG⟩ := ck_s hF; clear hF
      rw [(s_58).1] at q270
      obtain ⟨a271, e272, hF⟩ := rf_s hG; clear hG
      have qa271 : Q a271 := hm.1 _ _ _ qa268 e272
      obtain ⟨x273, -, hG⟩ := bnd_g hF; clear hF
      obtain ⟨n274, q275, hF⟩ := ar_s hG; clear hG
      rw [(s_58).1] at q275
      obtain ⟨q276, hG⟩ := ck_s hF; clear hF
      obtain ⟨x277, -, hF⟩ := bnd_g hG; clear hG
      obtain ⟨x278, -, hG⟩ := bnd_g hF; clear hF
      obtain ⟨H279, eH279, hF⟩ := bnd_g hG; clear hG
      replace hm : Rg Q H H279 := hm.tr (by rw [eH279]; exact Rg.sD hm.1 q_p0)
      have s_59 : Sa H H279 := by rw [eH279]; exact s_58
      obtain ⟨a280, e281, hG⟩ := rf_s hF; clear hF
      have qa280 : Q a280 := hm.1 _ _ _ q_p0 e281
      obtain ⟨q282, hF⟩ := ck_s hG; clear hG
      rw [(s_59).1] at q282
      obtain ⟨v284, H285, z283, hG⟩ := bC_s hF; clear hF
      have gz_60 := (g_MWorld_has z283 hm.1 qa280)
      replace hm : Rg Q H H285 := hm.tr gz_60
      have s_61 : Sa H H285 := (s_59).tr (m_MWorld_has z283)
      rcases ite_s hG with ⟨q_62, hF⟩ | ⟨q_62, hF⟩
      · clear hG
        have hr := Option.some.inj hF; subst hr
        exact hm
      · clear hG
        have hr := Option.some.inj hF; subst hr
        exact hm
    clear hG
    obtain ⟨x287, -, hG⟩ := bnd_g hF; clear hF
    obtain ⟨H288, eH288, hF⟩ := bnd_g hG; clear hG
    replace hm : Rg Q H H288 := hm.tr (by rw [eH288]; exact Rg.sD hm.1 q_p0)
    have s_63 : Sa H H288 := by rw [eH288]; exact s_40
    obtain ⟨v290, H291, z289, hG⟩ := bC_s hF; clear hF
    have gz_64 := (hgo.1 _ _ _ z289 hm.1 q_p0)
    replace hm : Rg Q H H291 := hm.tr gz_64
    have s_65 : Sa H H291 := (s_63).tr (hmo.1 _ _ _ z289)
    obtain ⟨x292, -, hF⟩ := bnd_g hG; clear hG
    obtain ⟨H293, eH293, hG⟩ := bnd_g hF; clear hF
    replace hm : Rg Q H H293 := hm.tr (by rw [eH293]; exact Rg.sD hm.1 q_p0)
    have s_66 : Sa H H293 := by rw [eH293]; exact s_65
    obtain ⟨x294, -, hF⟩ := bnd_g hG; clear hG
    rcases ite_s hF with ⟨q_67, hG⟩ | ⟨q_67, hG⟩
    · clear hF
      exact hm.tr (gB_MRunner_primary_276 (hmo := hmo) hgo q_p0 hG hm.1)
    · clear hF
      obtain ⟨x296, -, hF⟩ := bnd_g hG; clear hG
      rcases ite_s hF with ⟨q_68, hG⟩ | ⟨q_68, hG⟩
      · clear hF
        obtain ⟨a298, e299, hF⟩ := rf_s hG; clear hG
        have qa298 : Q a298 := hm.1 _ _ _ q_p0 e299
        obtain ⟨q300, hG⟩ := ck_s hF; clear hF
        rw [(s_66).1] at q300
        obtain ⟨a301, e302, hF⟩ := rf_s hG; clear hG
        have qa301 : Q a301 := hm.1 _ _ _ qa298 e302
        obtain ⟨n303, q304, hG⟩ := ar_s hF; clear hF
        rw [(s_66).1] at q304
        obtain ⟨q305, hF⟩ := ck_s hG; clear hG
        obtain ⟨x306, -, hG⟩ := bnd_g hF; clear hF
        obtain ⟨v308, H309, z307, hF⟩ := bC_s hG; clear hG
        have gz_69 := (g_MRunner_called z307 hm.1 q_p0)
        replace hm : Rg Q H H309 := hm.tr gz_69
        have s_70 : Sa H H309 := (s_66).tr (m_MRunner_called z307)
        have hr := Option.some.inj hF; subst hr
        exact hm
      · clear hF
        exact hm.tr (gB_MRunner_primary_276 (hmo := hmo) hgo q_p0 hG hm.1)
  · clear hF
    have hr := Option.some.inj hG; subst hr
    exact hm
set_option maxRecDepth 20000 in
set_option maxHeartbeats 2000000 in
theorem gB_MRunner_unary_23 {N : Nat} {Q : Nat → Prop} {o : Orc_RunE} {hmo : mo_RunE o} (hgo : rg_RunE Q o) {p0 : Nat} (q_p0 : Q p0)  {H : Hp} {r : Int32 × Hp} (hF : B_MRunner_unary_23 N o p0  H = some r) (hc0 : Cl Q H) : Rg Q H r.2 := by
  unfold B_MRunner_unary_23 at hF
  have hm := Rg.rf hc0
  obtain ⟨q83, hG⟩ := ck_s hF; clear hF
  obtain ⟨x84, -, hF⟩ := bnd_g hG; clear hG
  obtain ⟨x85, -, hG⟩ := bnd_g hF; clear hF
  obtain ⟨H86, eH86, hF⟩ := bnd_g hG; clear hG
  replace hm : Rg Q H H86 := hm.tr (by rw [eH86]; exact Rg.sD hm.1 q_p0)
  have s_16 : Sa H H86 := by rw [eH86]; exact Sa.rf _
  obtain ⟨v88, H89, z87, hG⟩ := bC_s hF; clear hF
  have gz_17 := (hgo.2 _ _ _ z87 hm.1 q_p0)
  replace hm : Rg Q H H89 := hm.tr gz_17
  have s_18 : Sa H H89 := (s_16).tr (hmo.2 _ _ _ z87)
  obtain ⟨a90, e91, hF⟩ := rf_s hG; clear hG
  have qa90 : Q a90 := hm.1 _ _ _ q_p0 e91
  obtain ⟨q92, hG⟩ := ck_s hF; clear hF
  rw [(s_18).1] at q92
  obtain ⟨a93, e94, hF⟩ := rf_s hG; clear hG
  have qa93 : Q a93 := hm.1 _ _ _ qa90 e94
  obtain ⟨n95, q96, hG⟩ := ar_s hF; clear hF
  rw [(s_18).1] at q96
  obtain ⟨q97, hF⟩ := ck_s hG; clear hG
  obtain ⟨x98, -, hG⟩ := bnd_g hF; clear hF
  rcases ite_s hG with ⟨q_19, hF⟩ | ⟨q_19, hF⟩
  · clear hG
    have hr := Option.some.inj hF; subst hr
    exact hm
  · clear hG
    obtain ⟨a100, e101, hG⟩ := rf_s hF; clear hF
    have qa100 : Q a100 := hm.1 _ _ _ q_p0 e101
    obtain ⟨q102, hF⟩ := ck_s hG; clear hG
    rw [(s_18).1] at q102
    obtain ⟨a103, e104, hG⟩ := rf_s hF; clear hF
    have qa103 : Q a103 := hm.1 _ _ _ qa100 e104
    obtain ⟨n105, q106, hF⟩ := ar_s hG; clear hG
    rw [(s_18).1] at q106
    obtain ⟨q107, hG⟩ := ck_s hF; clear hF
    obtain ⟨x108, -, hF⟩ := bnd_g hG; clear hG
    obtain ⟨v110, H111, z109, hG⟩ := bC_s hF; clear hF
    have gz_20 := (g_M_held z109 hm.1)
    replace hm : Rg Q H H111 := hm.tr gz_20
    have s_21 : Sa H H111 := (s_18).tr (m_M_held z109)
    have hr := Option.some.inj hG; subst hr
    exact hm
set_option maxRecDepth 20000 in
set_option maxHeartbeats 2000000 in
theorem g_MRunner_unary {N : Nat} {Q : Nat → Prop} {o : Orc_RunE} {hmo : mo_RunE o} (hgo : rg_RunE Q o) {p0 : Nat} {H : Hp} {r : Int32 × Hp} (hF : F_MRunner_unary N o p0 H = some r) (hc0 : Cl Q H) (q_p0 : Q p0) : Rg Q H r.2 := by
  unfold F_MRunner_unary at hF
  have hm := Rg.rf hc0
  obtain ⟨q112, hG⟩ := ck_s hF; clear hF
  obtain ⟨v114, H115, z113, hF⟩ := bC_s hG; clear hG
  have gz_22 := (g_MRunner_is z113 hm.1 q_p0)
  replace hm : Rg Q H H115 := hm.tr gz_22
  have s_23 : Sa H H115 := (m_MRunner_is z113)
  rcases ite_s hF with ⟨q_24, hG⟩ | ⟨q_24, hG⟩
  · clear hF
    obtain ⟨v118, H119, z117, hF⟩ := bC_s hG; clear hG
    have gz_25 := (g_MRunner_is z117 hm.1 q_p0)
    replace hm : Rg Q H H119 := hm.tr gz_25
    have s_26 : Sa H H119 := (s_23).tr (m_MRunner_is z117)
    rcases ite_s hF with ⟨q_27, hG⟩ | ⟨q_27, hG⟩
    · clear hF
      obtain ⟨v122, H123, z121, hF⟩ := bC_s hG; clear hG
      have gz_28 := (g_MRunner_primary (hmo := hmo) hgo z121 hm.1 q_p0)
      replace hm : Rg Q H H123 := hm.tr gz_28
      have s_29 : Sa H H123 := (s_26).tr (m_MRunner_primary hmo z121)
      have hr := Option.some.inj hF; subst hr
      exact hm
    · clear hF
      exact hm.tr (gB_MRunner_unary_23 (hmo := hmo) hgo q_p0 hG hm.1)
  · clear hF
    exact hm.tr (gB_MRunner_unary_23 (hmo := hmo) hgo q_p0 hG hm.1)
set_option maxRecDepth 20000 in
set_option maxHeartbeats 2000000 in
theorem gB_MRunner_product_108 {N : Nat} {Q : Nat → Prop} {o : Orc_RunE} {hmo : mo_RunE o} (hgo : rg_RunE Q o) {p0 : Nat} {kq5 : Int32 → Hp → Option (Int32 × Hp)} (q_p0 : Q p0) (hg5 : ∀ (l1 : Int32) (H : Hp) (r : Int32 × Hp), kq5 l1 H = some r → Cl Q H → Rg Q H r.2) {w0 : Int32} {H : Hp} {r : Int32 × Hp} (hF : B_MRunner_product_108 N o p0 kq5 w0 H = some r) (hc0 : Cl Q H) : Rg Q H r.2 := by
  unfold B_MRunner_product_108 at hF
  have hm := Rg.rf hc0
  exact hm.tr (hg5 w0 H r hF hm.1)
set_option maxRecDepth 20000 in
set_option maxHeartbeats 2000000 in
theorem gB_MRunner_product_66 {N : Nat} {Q : Nat → Prop} {o : Orc_RunE} {hmo : mo_RunE o} (hgo : rg_RunE Q o) {p0 : Nat} {kq5 : Int32 → Hp → Option (Int32 × Hp)} (q_p0 : Q p0) (hg5 : ∀ (l1 : Int32) (H : Hp) (r : Int32 × Hp), kq5 l1 H = some r → Cl Q H → Rg Q H r.2)  {H : Hp} {r : Int32 × Hp} (hF : B_MRunner_product_66 N o p0 kq5  H = some r) (hc0 : Cl Q H) : Rg Q H r.2 := by
  unfold B_MRunner_product_66 at hF
  have hm := Rg.rf hc0
  exact hm.tr (gB_MRunner_product_108 (hmo := hmo) hgo q_p0 hg5 hF hm.1)
set_option maxRecDepth 20000 in
set_option maxHeartbeats 2000000 in
theorem gB_MRunner_product_32 {N : Nat} {Q : Nat → Prop} {o : Orc_RunE} {hmo : mo_RunE o} (hgo : rg_RunE Q o) {p0 : Nat} {kq5 : Int32 → Hp → Option (Int32 × Hp)} (q_p0 : Q p0) (hg5 : ∀ (l1 : Int32) (H : Hp) (r : Int32 × Hp), kq5 l1 H = some r → Cl Q H → Rg Q H r.2) {l1 : Int32} {H : Hp} {r : Int32 × Hp} (hF : B_MRunner_product_32 N o p0 kq5 l1 H = some r) (hc0 : Cl Q H) : Rg Q H r.2 := by
  unfold B_MRunner_product_32 at hF
  have hm := Rg.rf hc0
  obtain ⟨q107, hG⟩ := ck_s hF; clear hF
  obtain ⟨x108, -, hF⟩ := bnd_g hG; clear hG
  obtain ⟨x109, -, hG⟩ := bnd_g hF; clear hF
  obtain ⟨H110, eH110, hF⟩ := bnd_g hG; clear hG
  replace hm : Rg Q H H110 := hm.tr (by rw [eH110]; exact Rg.sD hm.1 q_p0)
  have s_23 : Sa H H110 := by rw [eH110]; exact Sa.rf _
  obtain ⟨v112, H113, z111, hG⟩ := bC_s hF; clear hF
  have gz_24 := (hgo.2 _ _ _ z111 hm.1 q_p0)
  replace hm : Rg Q H H113 := hm.tr gz_24
  have s_25 : Sa H H113 := (s_23).tr (hmo.2 _ _ _ z111)
  obtain ⟨x114, -, hF⟩ := bnd_g hG; clear hG
  rcases ite_s hF with ⟨q_26, hG⟩ | ⟨q_26, hG⟩
  · clear hF
    exact hm.tr (gB_MRunner_product_66 (hmo := hmo) hgo q_p0 hg5 hG hm.1)
  · clear hF
    obtain ⟨x116, -, hF⟩ := bnd_g hG; clear hG
    rcases ite_s hF with ⟨q_27, hG⟩ | ⟨q_27, hG⟩
    · clear hF
      obtain ⟨a118, e119, hF⟩ := rf_s hG; clear hG
      have qa118 : Q a118 := hm.1 _ _ _ q_p0 e119
      obtain ⟨q120, hG⟩ := ck_s hF; clear hF
      rw [(s_25).1] at q120
      obtain ⟨a121, e122, hF⟩ := rf_s hG; clear hG
      have qa121 : Q a121 := hm.1 _ _ _ qa118 e122
      obtain ⟨n123, q124, hG⟩ := ar_s hF; clear hF
      rw [(s_25).1] at q124
      obtain ⟨q125, hF⟩ := ck_s hG; clear hG
      obtain ⟨x126, -, hG⟩ := bnd_g hF; clear hF
      rcases ite_s hG with ⟨q_28, hF⟩ | ⟨q_28, hF⟩
      · clear hG
        obtain ⟨a128, e129, hG⟩ := rf_s hF; clear hF
        have qa128 : Q a128 := hm.1 _ _ _ q_p0 e129
        obtain ⟨q130, hF⟩ := ck_s hG; clear hG
        rw [(s_25).1] at q130
        obtain ⟨a131, e132, hG⟩ := rf_s hF; clear hF
        have qa131 : Q a131 := hm.1 _ _ _ qa128 e132
        obtain ⟨n133, q134, hF⟩ := ar_s hG; clear hG
        rw [(s_25).1] at q134
        obtain ⟨q135, hG⟩ := ck_s hF; clear hF
        obtain ⟨x136, -, hF⟩ := bnd_g hG; clear hG
        obtain ⟨v138, H139, z137, hG⟩ := bC_s hF; clear hF
        have gz_29 := (g_MRunner_times z137 hm.1)
        replace hm : Rg Q H H139 := hm.tr gz_29
        have s_30 : Sa H H139 := (s_25).tr (m_MRunner_times z137)
        exact hm.tr (gB_MRunner_product_108 (hmo := hmo) hgo q_p0 hg5 hG hm.1)
      · clear hG
        obtain ⟨v141, H142, z140, hG⟩ := bC_s hF; clear hF
        have gz_31 := (g_MRunner_divided z140 hm.1 q_p0)
        replace hm : Rg Q H H142 := hm.tr gz_31
        have s_32 : Sa H H142 := (s_25).tr (m_MRunner_divided z140)
        exact hm.tr (gB_MRunner_product_108 (hmo := hmo) hgo q_p0 hg5 hG hm.1)
    · clear hF
      exact hm.tr (gB_MRunner_product_66 (hmo := hmo) hgo q_p0 hg5 hG hm.1)
set_option maxRecDepth 20000 in
set_option maxHeartbeats 2000000 in
theorem gB_MRunner_product_5 {N : Nat} {Q : Nat → Prop} {o : Orc_RunE} {hmo : mo_RunE o} (hgo : rg_RunE Q o) {p0 : Nat} (q_p0 : Q p0) : ∀ (n : Nat) (l1 : Int32) (H : Hp) (r : Int32 × Hp), B_MRunner_product_5 N o p0 n l1 H = some r → Cl Q H → Rg Q H r.2 := by
  intro n
  induction n with
  | zero => intro l1 H r hF; rw [B_MRunner_product_5] at hF; cases hF
  | succ n ih =>
    intro l1 H r hF hc0
    rw [B_MRunner_product_5] at hF
    have hm := Rg.rf hc0
    obtain ⟨q143, hG⟩ := ck_s hF; clear hF
    obtain ⟨v145, H146, z144, hF⟩ := bC_s hG; clear hG
    have gz_33 := (g_MRunner_is z144 hm.1 q_p0)
    replace hm : Rg Q H H146 := hm.tr gz_33
    have s_34 : Sa H H146 := (m_MRunner_is z144)
    rcases ite_s hF with ⟨q_35, hG⟩ | ⟨q_35, hG⟩
    · clear hF
      obtain ⟨v149, H150, z148, hF⟩ := bC_s hG; clear hG
      have gz_36 := (g_MRunner_is z148 hm.1 q_p0)
      replace hm : Rg Q H H150 := hm.tr gz_36
      have s_37 : Sa H H150 := (s_34).tr (m_MRunner_is z148)
      rcases ite_s hF with ⟨q_38, hG⟩ | ⟨q_38, hG⟩
      · clear hF
        obtain ⟨v153, H154, z152, hF⟩ := bC_s hG; clear hG
        have gz_39 := (g_MRunner_is z152 hm.1 q_p0)
        replace hm : Rg Q H H154 := hm.tr gz_39
        have s_40 : Sa H H154 := (s_37).tr (m_MRunner_is z152)
        rcases ite_s hF with ⟨q_41, hG⟩ | ⟨q_41, hG⟩
        · clear hF
          have hr := Option.some.inj hG; subst hr
          exact hm
        · clear hF
          exact hm.tr (gB_MRunner_product_32 (hmo := hmo) hgo q_p0 ih hG hm.1)
      · clear hF
        exact hm.tr (gB_MRunner_product_32 (hmo := hmo) hgo q_p0 ih hG hm.1)
    · clear hF
      exact hm.tr (gB_MRunner_product_32 (hmo := hmo) hgo q_p0 ih hG hm.1)
set_option maxRecDepth 20000 in
set_option maxHeartbeats 2000000 in
theorem g_MRunner_product {N : Nat} {Q : Nat → Prop} {o : Orc_RunE} {hmo : mo_RunE o} (hgo : rg_RunE Q o) {p0 : Nat} {H : Hp} {r : Int32 × Hp} (hF : F_MRunner_product N o p0 H = some r) (hc0 : Cl Q H) (q_p0 : Q p0) : Rg Q H r.2 := by
  unfold F_MRunner_product at hF
  have hm := Rg.rf hc0
  obtain ⟨q156, hG⟩ := ck_s hF; clear hF
  obtain ⟨v158, H159, z157, hF⟩ := bC_s hG; clear hG
  have gz_42 := (hgo.2 _ _ _ z157 hm.1 q_p0)
  replace hm : Rg Q H H159 := hm.tr gz_42
  have s_43 : Sa H H159 := (hmo.2 _ _ _ z157)
  exact hm.tr (gB_MRunner_product_5 (hmo := hmo) hgo q_p0 N v158 H159 r hF hm.1)
set_option maxRecDepth 20000 in
set_option maxHeartbeats 2000000 in
theorem gB_MRunner_sum_79 {N : Nat} {Q : Nat → Prop} {o : Orc_RunE} {hmo : mo_RunE o} (hgo : rg_RunE Q o) {p0 : Nat} {kq5 : Int32 → Hp → Option (Int32 × Hp)} (q_p0 : Q p0) (hg5 : ∀ (l1 : Int32) (H : Hp) (r : Int32 × Hp), kq5 l1 H = some r → Cl Q H → Rg Q H r.2) {w0 : Int32} {w1 : Int64} {H : Hp} {r : Int32 × Hp} (hF : B_MRunner_sum_79 N o p0 kq5 w0 w1 H = some r) (hc0 : Cl Q H) : Rg Q H r.2 := by
  unfold B_MRunner_sum_79 at hF
  have hm := Rg.rf hc0
  obtain ⟨v86, H87, z85, hG⟩ := bC_s hF; clear hF
  have gz_16 := (g_M_held z85 hm.1)
  replace hm : Rg Q H H87 := hm.tr gz_16
  have s_17 : Sa H H87 := (m_M_held z85)
  exact hm.tr (hg5 v86 H87 r hG hm.1)
set_option maxRecDepth 20000 in
set_option maxHeartbeats 2000000 in
theorem gB_MRunner_sum_23 {N : Nat} {Q : Nat → Prop} {o : Orc_RunE} {hmo : mo_RunE o} (hgo : rg_RunE Q o) {p0 : Nat} {kq5 : Int32 → Hp → Option (Int32 × Hp)} (q_p0 : Q p0) (hg5 : ∀ (l1 : Int32) (H : Hp) (r : Int32 × Hp), kq5 l1 H = some r → Cl Q H → Rg Q H r.2) {l1 : Int32} {H : Hp} {r : Int32 × Hp} (hF : B_MRunner_sum_23 N o p0 kq5 l1 H = some r) (hc0 : Cl Q H) : Rg Q H r.2 := by
  unfold B_MRunner_sum_23 at hF
  have hm := Rg.rf hc0
  obtain ⟨q88, hG⟩ := ck_s hF; clear hF
  obtain ⟨x89, -, hF⟩ := bnd_g hG; clear hG
  obtain ⟨x90, -, hG⟩ := bnd_g hF; clear hF
  obtain ⟨H91, eH91, hF⟩ := bnd_g hG; clear hG
  replace hm : Rg Q H H91 := hm.tr (by rw [eH91]; exact Rg.sD hm.1 q_p0)
  have s_18 : Sa H H91 := by rw [eH91]; exact Sa.rf _
  obtain ⟨v93, H94, z92, hG⟩ := bC_s hF; clear hF
  have gz_19 := (g_MRunner_product (hmo := hmo) hgo z92 hm.1 q_p0)
  replace hm : Rg Q H H94 := hm.tr gz_19
  have s_20 : Sa H H94 := (s_18).tr (m_MRunner_product hmo z92)
  obtain ⟨a95, e96, hF⟩ := rf_s hG; clear hG
  have qa95 : Q a95 := hm.1 _ _ _ q_p0 e96
  obtain ⟨q97, hG⟩ := ck_s hF; clear hF
  rw [(s_20).1] at q97
  obtain ⟨a98, e99, hF⟩ := rf_s hG; clear hG
  have qa98 : Q a98 := hm.1 _ _ _ qa95 e99
  obtain ⟨n100, q101, hG⟩ := ar_s hF; clear hF
  rw [(s_20).1] at q101
  obtain ⟨q102, hF⟩ := ck_s hG; clear hG
  obtain ⟨x103, -, hG⟩ := bnd_g hF; clear hF
  obtain ⟨a104, e105, hF⟩ := rf_s hG; clear hG
  have qa104 : Q a104 := hm.1 _ _ _ q_p0 e105
  obtain ⟨q106, hG⟩ := ck_s hF; clear hF
  rw [(s_20).1] at q106
  obtain ⟨a107, e108, hF⟩ := rf_s hG; clear hG
  have qa107 : Q a107 := hm.1 _ _ _ qa104 e108
  obtain ⟨n109, q110, hG⟩ := ar_s hF; clear hF
  rw [(s_20).1] at q110
  obtain ⟨q111, hF⟩ := ck_s hG; clear hG
  obtain ⟨x112, -, hG⟩ := bnd_g hF; clear hF
  rcases ite_s hG with ⟨q_21, hF⟩ | ⟨q_21, hF⟩
  · clear hG
    exact hm.tr (gB_MRunner_sum_79 (hmo := hmo) hgo q_p0 hg5 hF hm.1)
  · clear hG
    exact hm.tr (gB_MRunner_sum_79 (hmo := hmo) hgo q_p0 hg5 hF hm.1)
set_option maxRecDepth 20000 in
set_option maxHeartbeats 2000000 in
theorem gB_MRunner_sum_5 {N : Nat} {Q : Nat → Prop} {o : Orc_RunE} {hmo : mo_RunE o} (hgo : rg_RunE Q o) {p0 : Nat} (q_p0 : Q p0) : ∀ (n : Nat) (l1 : Int32) (H : Hp) (r : Int32 × Hp), B_MRunner_sum_5 N o p0 n l1 H = some r → Cl Q H → Rg Q H r.2 := by
  intro n
  induction n with
  | zero => intro l1 H r hF; rw [B_MRunner_sum_5] at hF; cases hF
  | succ n ih =>
    intro l1 H r hF hc0
    rw [B_MRunner_sum_5] at hF
    have hm := Rg.rf hc0
    obtain ⟨q114, hG⟩ := ck_s hF; clear hF
    obtain ⟨v116, H117, z115, hF⟩ := bC_s hG; clear hG
    have gz_22 := (g_MRunner_is z115 hm.1 q_p0)
    replace hm : Rg Q H H117 := hm.tr gz_22
    have s_23 : Sa H H117 := (m_MRunner_is z115)
    rcases ite_s hF with ⟨q_24, hG⟩ | ⟨q_24, hG⟩
    · clear hF
      obtain ⟨v120, H121, z119, hF⟩ := bC_s hG; clear hG
      have gz_25 := (g_MRunner_is z119 hm.1 q_p0)
      replace hm : Rg Q H H121 := hm.tr gz_25
      have s_26 : Sa H H121 := (s_23).tr (m_MRunner_is z119)
      rcases ite_s hF with ⟨q_27, hG⟩ | ⟨q_27, hG⟩
      · clear hF
        have hr := Option.some.inj hG; subst hr
        exact hm
      · clear hF
        exact hm.tr (gB_MRunner_sum_23 (hmo := hmo) hgo q_p0 ih hG hm.1)
    · clear hF
      exact hm.tr (gB_MRunner_sum_23 (hmo := hmo) hgo q_p0 ih hG hm.1)
set_option maxRecDepth 20000 in
set_option maxHeartbeats 2000000 in
theorem g_MRunner_sum {N : Nat} {Q : Nat → Prop} {o : Orc_RunE} {hmo : mo_RunE o} (hgo : rg_RunE Q o) {p0 : Nat} {H : Hp} {r : Int32 × Hp} (hF : F_MRunner_sum N o p0 H = some r) (hc0 : Cl Q H) (q_p0 : Q p0) : Rg Q H r.2 := by
  unfold F_MRunner_sum at hF
  have hm := Rg.rf hc0
  obtain ⟨q123, hG⟩ := ck_s hF; clear hF
  obtain ⟨v125, H126, z124, hF⟩ := bC_s hG; clear hG
  have gz_28 := (g_MRunner_product (hmo := hmo) hgo z124 hm.1 q_p0)
  replace hm : Rg Q H H126 := hm.tr gz_28
  have s_29 : Sa H H126 := (m_MRunner_product hmo z124)
  exact hm.tr (gB_MRunner_sum_5 (hmo := hmo) hgo q_p0 N v125 H126 r hF hm.1)
set_option maxRecDepth 20000 in
set_option maxHeartbeats 2000000 in
theorem gB_MRunner_compared_173 {N : Nat} {Q : Nat → Prop} {o : Orc_RunE} {hmo : mo_RunE o} (hgo : rg_RunE Q o) {p0 : Nat} (q_p0 : Q p0) {w0 : Int32} {H : Hp} {r : Int32 × Hp} (hF : B_MRunner_compared_173 N o p0 w0 H = some r) (hc0 : Cl Q H) : Rg Q H r.2 := by
  unfold B_MRunner_compared_173 at hF
  have hm := Rg.rf hc0
  rcases ite_s hF with ⟨q_24, hG⟩ | ⟨q_24, hG⟩
  · clear hF
    have hr := Option.some.inj hG; subst hr
    exact hm
  · clear hF
    have hr := Option.some.inj hG; subst hr
    exact hm
set_option maxRecDepth 20000 in
set_option maxHeartbeats 2000000 in
theorem gB_MRunner_compared_54 {N : Nat} {Q : Nat → Prop} {o : Orc_RunE} {hmo : mo_RunE o} (hgo : rg_RunE Q o) {p0 : Nat} (q_p0 : Q p0) {l1 : Int32} {l2 : Int32} {H : Hp} {r : Int32 × Hp} (hF : B_MRunner_compared_54 N o p0 l1 l2 H = some r) (hc0 : Cl Q H) : Rg Q H r.2 := by
  unfold B_MRunner_compared_54 at hF
  have hm := Rg.rf hc0
  obtain ⟨q78, hG⟩ := ck_s hF; clear hF
  obtain ⟨x79, -, hF⟩ := bnd_g hG; clear hG
  obtain ⟨H80, eH80, hG⟩ := bnd_g hF; clear hF
  replace hm : Rg Q H H80 := hm.tr (by rw [eH80]; exact Rg.sD hm.1 q_p0)
  have s_25 : Sa H H80 := by rw [eH80]; exact Sa.rf _
  obtain ⟨v82, H83, z81, hF⟩ := bC_s hG; clear hG
  have gz_26 := (g_MRunner_sum (hmo := hmo) hgo z81 hm.1 q_p0)
  replace hm : Rg Q H H83 := hm.tr gz_26
  have s_27 : Sa H H83 := (s_25).tr (m_MRunner_sum hmo z81)
  rcases ite_s hF with ⟨q_28, hG⟩ | ⟨q_28, hG⟩
  · clear hF
    rcases ite_s hG with ⟨q_29, hF⟩ | ⟨q_29, hF⟩
    · clear hG
      exact hm.tr (gB_MRunner_compared_173 (hmo := hmo) hgo q_p0 hF hm.1)
    · clear hG
      exact hm.tr (gB_MRunner_compared_173 (hmo := hmo) hgo q_p0 hF hm.1)
  · clear hF
    rcases ite_s hG with ⟨q_30, hF⟩ | ⟨q_30, hF⟩
    · clear hG
      rcases ite_s hF with ⟨q_31, hG⟩ | ⟨q_31, hG⟩
      · clear hF
        exact hm.tr (gB_MRunner_compared_173 (hmo := hmo) hgo q_p0 hG hm.1)
      · clear hF
        exact hm.tr (gB_MRunner_compared_173 (hmo := hmo) hgo q_p0 hG hm.1)
    · clear hG
      rcases ite_s hF with ⟨q_32, hG⟩ | ⟨q_32, hG⟩
      · clear hF
        rcases ite_s hG with ⟨q_33, hF⟩ | ⟨q_33, hF⟩
        · clear hG
          exact hm.tr (gB_MRunner_compared_173 (hmo := hmo) hgo q_p0 hF hm.1)
        · clear hG
          exact hm.tr (gB_MRunner_compared_173 (hmo := hmo) hgo q_p0 hF hm.1)
      · clear hF
        rcases ite_s hG with ⟨q_34, hF⟩ | ⟨q_34, hF⟩
        · clear hG
          rcases ite_s hF with ⟨q_35, hG⟩ | ⟨q_35, hG⟩
          · clear hF
            exact hm.tr (gB_MRunner_compared_173 (hmo := hmo) hgo q_p0 hG hm.1)
          · clear hF
            exact hm.tr (gB_MRunner_compared_173 (hmo := hmo) hgo q_p0 hG hm.1)
        · clear hG
          rcases ite_s hF with ⟨q_36, hG⟩ | ⟨q_36, hG⟩
          · clear hF
            rcases ite_s hG with ⟨q_37, hF⟩ | ⟨q_37, hF⟩
            · clear hG
              exact hm.tr (gB_MRunner_compared_173 (hmo := hmo) hgo q_p0 hF hm.1)
            · clear hG
              exact hm.tr (gB_MRunner_compared_173 (hmo := hmo) hgo q_p0 hF hm.1)
          · clear hF
            rcases ite_s hG with ⟨q_38, hF⟩ | ⟨q_38, hF⟩
            · clear hG
              exact hm.tr (gB_MRunner_compared_173 (hmo := hmo) hgo q_p0 hF hm.1)
            · clear hG
              exact hm.tr (gB_MRunner_compared_173 (hmo := hmo) hgo q_p0 hF hm.1)
set_option maxRecDepth 20000 in
set_option maxHeartbeats 2000000 in
theorem gB_MRunner_compared_28 {N : Nat} {Q : Nat → Prop} {o : Orc_RunE} {hmo : mo_RunE o} (hgo : rg_RunE Q o) {p0 : Nat} (q_p0 : Q p0) {l1 : Int32} {w0 : Int32} {H : Hp} {r : Int32 × Hp} (hF : B_MRunner_compared_28 N o p0 l1 w0 H = some r) (hc0 : Cl Q H) : Rg Q H r.2 := by
  unfold B_MRunner_compared_28 at hF
  have hm := Rg.rf hc0
  rcases ite_s hF with ⟨q_39, hG⟩ | ⟨q_39, hG⟩
  · clear hF
    exact hm.tr (gB_MRunner_compared_54 (hmo := hmo) hgo q_p0 hG hm.1)
  · clear hF
    rcases ite_s hG with ⟨q_40, hF⟩ | ⟨q_40, hF⟩
    · clear hG
      exact hm.tr (gB_MRunner_compared_54 (hmo := hmo) hgo q_p0 hF hm.1)
    · clear hG
      rcases ite_s hF with ⟨q_41, hG⟩ | ⟨q_41, hG⟩
      · clear hF
        have hr := Option.some.inj hG; subst hr
        exact hm
      · clear hF
        rcases ite_s hG with ⟨q_42, hF⟩ | ⟨q_42, hF⟩
        · clear hG
          exact hm.tr (gB_MRunner_compared_54 (hmo := hmo) hgo q_p0 hF hm.1)
        · clear hG
          have hr := Option.some.inj hF; subst hr
          exact hm
set_option maxRecDepth 20000 in
set_option maxHeartbeats 2000000 in
theorem g_MRunner_compared {N : Nat} {Q : Nat → Prop} {o : Orc_RunE} {hmo : mo_RunE o} (hgo : rg_RunE Q o) {p0 : Nat} {H : Hp} {r : Int32 × Hp} (hF : F_MRunner_compared N o p0 H = some r) (hc0 : Cl Q H) (q_p0 : Q p0) : Rg Q H r.2 := by
  unfold F_MRunner_compared at hF
  have hm := Rg.rf hc0
  obtain ⟨q99, hG⟩ := ck_s hF; clear hF
  obtain ⟨v101, H102, z100, hF⟩ := bC_s hG; clear hG
  have gz_43 := (g_MRunner_sum (hmo := hmo) hgo z100 hm.1 q_p0)
  replace hm : Rg Q H H102 := hm.tr gz_43
  have s_44 : Sa H H102 := (m_MRunner_sum hmo z100)
  obtain ⟨x103, -, hG⟩ := bnd_g hF; clear hF
  rcases ite_s hG with ⟨q_45, hF⟩ | ⟨q_45, hF⟩
  · clear hG
    obtain ⟨a105, e106, hG⟩ := rf_s hF; clear hF
    have qa105 : Q a105 := hm.1 _ _ _ q_p0 e106
    obtain ⟨q107, hF⟩ := ck_s hG; clear hG
    rw [(s_44).1] at q107
    obtain ⟨a108, e109, hG⟩ := rf_s hF; clear hF
    have qa108 : Q a108 := hm.1 _ _ _ qa105 e109
    obtain ⟨x110, -, hF⟩ := bnd_g hG; clear hG
    obtain ⟨n111, q112, hG⟩ := ar_s hF; clear hF
    rw [(s_44).1] at q112
    obtain ⟨q113, hF⟩ := ck_s hG; clear hG
    obtain ⟨x114, -, hG⟩ := bnd_g hF; clear hF
    exact hm.tr (gB_MRunner_compared_28 (hmo := hmo) hgo q_p0 hG hm.1)
  · clear hG
    exact hm.tr (gB_MRunner_compared_28 (hmo := hmo) hgo q_p0 hF hm.1)
set_option maxRecDepth 20000 in
set_option maxHeartbeats 2000000 in
theorem gB_MRunner_both_74 {N : Nat} {Q : Nat → Prop} {o : Orc_RunE} {hmo : mo_RunE o} (hgo : rg_RunE Q o) {p0 : Nat} {kq5 : Int32 → Hp → Option (Int32 × Hp)} (q_p0 : Q p0) (hg5 : ∀ (l1 : Int32) (H : Hp) (r : Int32 × Hp), kq5 l1 H = some r → Cl Q H → Rg Q H r.2) {w0 : Int32} {H : Hp} {r : Int32 × Hp} (hF : B_MRunner_both_74 N o p0 kq5 w0 H = some r) (hc0 : Cl Q H) : Rg Q H r.2 := by
  unfold B_MRunner_both_74 at hF
  have hm := Rg.rf hc0
  exact hm.tr (hg5 w0 H r hF hm.1)
set_option maxRecDepth 20000 in
set_option maxHeartbeats 2000000 in
theorem gB_MRunner_both_61 {N : Nat} {Q : Nat → Prop} {o : Orc_RunE} {hmo : mo_RunE o} (hgo : rg_RunE Q o) {p0 : Nat} {kq5 : Int32 → Hp → Option (Int32 × Hp)} (q_p0 : Q p0) (hg5 : ∀ (l1 : Int32) (H : Hp) (r : Int32 × Hp), kq5 l1 H = some r → Cl Q H → Rg Q H r.2) {l1 : Int32} {l2 : Int32} {w0 : Nat} {w1 : Int32} {w2 : Int32} {H : Hp} {r : Int32 × Hp} (hF : B_MRunner_both_61 N o p0 kq5 l1 l2 w0 w1 w2 H = some r) (hc0 : Cl Q H) (q_w0 : Q w0) : Rg Q H r.2 := by
  unfold B_MRunner_both_61 at hF
  have hm := Rg.rf hc0
  obtain ⟨q49, hG⟩ := ck_s hF; clear hF
  obtain ⟨H50, eH50, hF⟩ := bnd_g hG; clear hG
  replace hm : Rg Q H H50 := hm.tr (by rw [eH50]; exact Rg.sD hm.1 q_w0)
  have s_17 : Sa H H50 := by rw [eH50]; exact Sa.rf _
  rcases ite_s hF with ⟨q_18, hG⟩ | ⟨q_18, hG⟩
  · clear hF
    exact hm.tr (gB_MRunner_both_74 (hmo := hmo) hgo q_p0 hg5 hG hm.1)
  · clear hF
    exact hm.tr (gB_MRunner_both_74 (hmo := hmo) hgo q_p0 hg5 hG hm.1)
set_option maxRecDepth 20000 in
set_option maxHeartbeats 2000000 in
theorem gB_MRunner_both_38 {N : Nat} {Q : Nat → Prop} {o : Orc_RunE} {hmo : mo_RunE o} (hgo : rg_RunE Q o) {p0 : Nat} {kq5 : Int32 → Hp → Option (Int32 × Hp)} (q_p0 : Q p0) (hg5 : ∀ (l1 : Int32) (H : Hp) (r : Int32 × Hp), kq5 l1 H = some r → Cl Q H → Rg Q H r.2) {l1 : Int32} {w0 : Nat} {w1 : Int32} {w2 : Int32} {H : Hp} {r : Int32 × Hp} (hF : B_MRunner_both_38 N o p0 kq5 l1 w0 w1 w2 H = some r) (hc0 : Cl Q H) (q_w0 : Q w0) : Rg Q H r.2 := by
  unfold B_MRunner_both_38 at hF
  have hm := Rg.rf hc0
  obtain ⟨q52, hG⟩ := ck_s hF; clear hF
  obtain ⟨H53, eH53, hF⟩ := bnd_g hG; clear hG
  replace hm : Rg Q H H53 := hm.tr (by rw [eH53]; exact Rg.sD hm.1 q_w0)
  have s_19 : Sa H H53 := by rw [eH53]; exact Sa.rf _
  obtain ⟨q54, hG⟩ := ck_s hF; clear hF
  rw [(s_19).1] at q54
  obtain ⟨v56, H57, z55, hF⟩ := bC_s hG; clear hG
  have gz_20 := (g_MRunner_compared (hmo := hmo) hgo z55 hm.1 q_p0)
  replace hm : Rg Q H H57 := hm.tr gz_20
  have s_21 : Sa H H57 := (s_19).tr (m_MRunner_compared hmo z55)
  obtain ⟨x58, -, hG⟩ := bnd_g hF; clear hF
  rcases ite_s hG with ⟨q_22, hF⟩ | ⟨q_22, hF⟩
  · clear hG
    exact hm.tr (gB_MRunner_both_61 (hmo := hmo) hgo q_p0 hg5 hF hm.1 q_p0)
  · clear hG
    exact hm.tr (gB_MRunner_both_61 (hmo := hmo) hgo q_p0 hg5 hF hm.1 q_p0)
set_option maxRecDepth 20000 in
set_option maxHeartbeats 2000000 in
theorem gB_MRunner_both_5 {N : Nat} {Q : Nat → Prop} {o : Orc_RunE} {hmo : mo_RunE o} (hgo : rg_RunE Q o) {p0 : Nat} (q_p0 : Q p0) : ∀ (n : Nat) (l1 : Int32) (H : Hp) (r : Int32 × Hp), B_MRunner_both_5 N o p0 n l1 H = some r → Cl Q H → Rg Q H r.2 := by
  intro n
  induction n with
  | zero => intro l1 H r hF; rw [B_MRunner_both_5] at hF; cases hF
  | succ n ih =>
    intro l1 H r hF hc0
    rw [B_MRunner_both_5] at hF
    have hm := Rg.rf hc0
    obtain ⟨q60, hG⟩ := ck_s hF; clear hF
    obtain ⟨v62, H63, z61, hF⟩ := bC_s hG; clear hG
    have gz_23 := (g_MRunner_is z61 hm.1 q_p0)
    replace hm : Rg Q H H63 := hm.tr gz_23
    have s_24 : Sa H H63 := (m_MRunner_is z61)
    rcases ite_s hF with ⟨q_25, hG⟩ | ⟨q_25, hG⟩
    · clear hF
      have hr := Option.some.inj hG; subst hr
      exact hm
    · clear hF
      obtain ⟨x65, -, hF⟩ := bnd_g hG; clear hG
      obtain ⟨H66, eH66, hG⟩ := bnd_g hF; clear hF
      replace hm : Rg Q H H66 := hm.tr (by rw [eH66]; exact Rg.sD hm.1 q_p0)
      have s_26 : Sa H H66 := by rw [eH66]; exact s_24
      obtain ⟨x67, -, hF⟩ := bnd_g hG; clear hG
      rcases ite_s hF with ⟨q_27, hG⟩ | ⟨q_27, hG⟩
      · clear hF
        exact hm.tr (gB_MRunner_both_38 (hmo := hmo) hgo q_p0 ih hG hm.1 q_p0)
      · clear hF
        exact hm.tr (gB_MRunner_both_38 (hmo := hmo) hgo q_p0 ih hG hm.1 q_p0)
set_option maxRecDepth 20000 in
set_option maxHeartbeats 2000000 in
theorem g_MRunner_both {N : Nat} {Q : Nat → Prop} {o : Orc_RunE} {hmo : mo_RunE o} (hgo : rg_RunE Q o) {p0 : Nat} {H : Hp} {r : Int32 × Hp} (hF : F_MRunner_both N o p0 H = some r) (hc0 : Cl Q H) (q_p0 : Q p0) : Rg Q H r.2 := by
  unfold F_MRunner_both at hF
  have hm := Rg.rf hc0
  obtain ⟨q69, hG⟩ := ck_s hF; clear hF
  obtain ⟨v71, H72, z70, hF⟩ := bC_s hG; clear hG
  have gz_28 := (g_MRunner_compared (hmo := hmo) hgo z70 hm.1 q_p0)
  replace hm : Rg Q H H72 := hm.tr gz_28
  have s_29 : Sa H H72 := (m_MRunner_compared hmo z70)
  exact hm.tr (gB_MRunner_both_5 (hmo := hmo) hgo q_p0 N v71 H72 r hF hm.1)
set_option maxRecDepth 20000 in
set_option maxHeartbeats 2000000 in
theorem gB_MRunner_value_74 {N : Nat} {Q : Nat → Prop} {o : Orc_RunE} {hmo : mo_RunE o} (hgo : rg_RunE Q o) {p0 : Nat} {kq5 : Int32 → Hp → Option (Int32 × Hp)} (q_p0 : Q p0) (hg5 : ∀ (l1 : Int32) (H : Hp) (r : Int32 × Hp), kq5 l1 H = some r → Cl Q H → Rg Q H r.2) {w0 : Int32} {H : Hp} {r : Int32 × Hp} (hF : B_MRunner_value_74 N o p0 kq5 w0 H = some r) (hc0 : Cl Q H) : Rg Q H r.2 := by
  unfold B_MRunner_value_74 at hF
  have hm := Rg.rf hc0
  exact hm.tr (hg5 w0 H r hF hm.1)
set_option maxRecDepth 20000 in
set_option maxHeartbeats 2000000 in
theorem gB_MRunner_value_61 {N : Nat} {Q : Nat → Prop} {o : Orc_RunE} {hmo : mo_RunE o} (hgo : rg_RunE Q o) {p0 : Nat} {kq5 : Int32 → Hp → Option (Int32 × Hp)} (q_p0 : Q p0) (hg5 : ∀ (l1 : Int32) (H : Hp) (r : Int32 × Hp), kq5 l1 H = some r → Cl Q H → Rg Q H r.2) {l1 : Int32} {l2 : Int32} {w0 : Nat} {w1 : Int32} {w2 : Int32} {H : Hp} {r : Int32 × Hp} (hF : B_MRunner_value_61 N o p0 kq5 l1 l2 w0 w1 w2 H = some r) (hc0 : Cl Q H) (q_w0 : Q w0) : Rg Q H r.2 := by
  unfold B_MRunner_value_61 at hF
  have hm := Rg.rf hc0
  obtain ⟨q49, hG⟩ := ck_s hF; clear hF
  obtain ⟨H50, eH50, hF⟩ := bnd_g hG; clear hG
  replace hm : Rg Q H H50 := hm.tr (by rw [eH50]; exact Rg.sD hm.1 q_w0)
  have s_17 : Sa H H50 := by rw [eH50]; exact Sa.rf _
  rcases ite_s hF with ⟨q_18, hG⟩ | ⟨q_18, hG⟩
  · clear hF
    exact hm.tr (gB_MRunner_value_74 (hmo := hmo) hgo q_p0 hg5 hG hm.1)
  · clear hF
    exact hm.tr (gB_MRunner_value_74 (hmo := hmo) hgo q_p0 hg5 hG hm.1)
set_option maxRecDepth 20000 in
set_option maxHeartbeats 2000000 in
theorem gB_MRunner_value_38 {N : Nat} {Q : Nat → Prop} {o : Orc_RunE} {hmo : mo_RunE o} (hgo : rg_RunE Q o) {p0 : Nat} {kq5 : Int32 → Hp → Option (Int32 × Hp)} (q_p0 : Q p0) (hg5 : ∀ (l1 : Int32) (H : Hp) (r : Int32 × Hp), kq5 l1 H = some r → Cl Q H → Rg Q H r.2) {l1 : Int32} {w0 : Nat} {w1 : Int32} {w2 : Int32} {H : Hp} {r : Int32 × Hp} (hF : B_MRunner_value_38 N o p0 kq5 l1 w0 w1 w2 H = some r) (hc0 : Cl Q H) (q_w0 : Q w0) : Rg Q H r.2 := by
  unfold B_MRunner_value_38 at hF
  have hm := Rg.rf hc0
  obtain ⟨q52, hG⟩ := ck_s hF; clear hF
  obtain ⟨H53, eH53, hF⟩ := bnd_g hG; clear hG
  replace hm : Rg Q H H53 := hm.tr (by rw [eH53]; exact Rg.sD hm.1 q_w0)
  have s_19 : Sa H H53 := by rw [eH53]; exact Sa.rf _
  obtain ⟨q54, hG⟩ := ck_s hF; clear hF
  rw [(s_19).1] at q54
  obtain ⟨v56, H57, z55, hF⟩ := bC_s hG; clear hG
  have gz_20 := (g_MRunner_both (hmo := hmo) hgo z55 hm.1 q_p0)
  replace hm : Rg Q H H57 := hm.tr gz_20
  have s_21 : Sa H H57 := (s_19).tr (m_MRunner_both hmo z55)
  obtain ⟨x58, -, hG⟩ := bnd_g hF; clear hF
  rcases ite_s hG with ⟨q_22, hF⟩ | ⟨q_22, hF⟩
  · clear hG
    exact hm.tr (gB_MRunner_value_61 (hmo := hmo) hgo q_p0 hg5 hF hm.1 q_p0)
  · clear hG
    exact hm.tr (gB_MRunner_value_61 (hmo := hmo) hgo q_p0 hg5 hF hm.1 q_p0)
set_option maxRecDepth 20000 in
set_option maxHeartbeats 2000000 in
theorem gB_MRunner_value_5 {N : Nat} {Q : Nat → Prop} {o : Orc_RunE} {hmo : mo_RunE o} (hgo : rg_RunE Q o) {p0 : Nat} (q_p0 : Q p0) : ∀ (n : Nat) (l1 : Int32) (H : Hp) (r : Int32 × Hp), B_MRunner_value_5 N o p0 n l1 H = some r → Cl Q H → Rg Q H r.2 := by
  intro n
  induction n with
  | zero => intro l1 H r hF; rw [B_MRunner_value_5] at hF; cases hF
  | succ n ih =>
    intro l1 H r hF hc0
    rw [B_MRunner_value_5] at hF
    have hm := Rg.rf hc0
    obtain ⟨q60, hG⟩ := ck_s hF; clear hF
    obtain ⟨v62, H63, z61, hF⟩ := bC_s hG; clear hG
    have gz_23 := (g_MRunner_is z61 hm.1 q_p0)
    replace hm : Rg Q H H63 := hm.tr gz_23
    have s_24 : Sa H H63 := (m_MRunner_is z61)
    rcases ite_s hF with ⟨q_25, hG⟩ | ⟨q_25, hG⟩
    · clear hF
      have hr := Option.some.inj hG; subst hr
      exact hm
    · clear hF
      obtain ⟨x65, -, hF⟩ := bnd_g hG; clear hG
      obtain ⟨H66, eH66, hG⟩ := bnd_g hF; clear hF
      replace hm : Rg Q H H66 := hm.tr (by rw [eH66]; exact Rg.sD hm.1 q_p0)
      have s_26 : Sa H H66 := by rw [eH66]; exact s_24
      obtain ⟨x67, -, hF⟩ := bnd_g hG; clear hG
      rcases ite_s hF with ⟨q_27, hG⟩ | ⟨q_27, hG⟩
      · clear hF
        exact hm.tr (gB_MRunner_value_38 (hmo := hmo) hgo q_p0 ih hG hm.1 q_p0)
      · clear hF
        exact hm.tr (gB_MRunner_value_38 (hmo := hmo) hgo q_p0 ih hG hm.1 q_p0)
set_option maxRecDepth 20000 in
set_option maxHeartbeats 2000000 in
theorem g_MRunner_value {N : Nat} {Q : Nat → Prop} {o : Orc_RunE} {hmo : mo_RunE o} (hgo : rg_RunE Q o) {p0 : Nat} {H : Hp} {r : Int32 × Hp} (hF : F_MRunner_value N o p0 H = some r) (hc0 : Cl Q H) (q_p0 : Q p0) : Rg Q H r.2 := by
  unfold F_MRunner_value at hF
  have hm := Rg.rf hc0
  obtain ⟨q69, hG⟩ := ck_s hF; clear hF
  obtain ⟨v71, H72, z70, hF⟩ := bC_s hG; clear hG
  have gz_28 := (g_MRunner_both (hmo := hmo) hgo z70 hm.1 q_p0)
  replace hm : Rg Q H H72 := hm.tr gz_28
  have s_29 : Sa H H72 := (m_MRunner_both hmo z70)
  exact hm.tr (gB_MRunner_value_5 (hmo := hmo) hgo q_p0 N v71 H72 r hF hm.1)
theorem gX_RunE {N : Nat} {Q : Nat → Prop} : ∀ d, rg_RunE Q (X_RunE N d) := by
  intro d
  induction d with
  | zero => exact ⟨(fun _ _ _ hz => absurd (show none = some _ from hz) (by simp)), (fun _ _ _ hz => absurd (show none = some _ from hz) (by simp))⟩
  | succ d ih => exact ⟨(fun _ _ _ hz hc qa0 => g_MRunner_value (hmo := moX_RunE d) ih hz hc qa0), (fun _ _ _ hz hc qa0 => g_MRunner_unary (hmo := moX_RunE d) ih hz hc qa0)⟩
set_option maxRecDepth 20000 in
set_option maxHeartbeats 2000000 in
theorem g_MRunner_given {N : Nat} {Q : Nat → Prop} {p0 : Int32} {p1 : Int32} {H : Hp} {r : Int32 × Hp} (hF : F_MRunner_given N p0 p1 H = some r) (hc0 : Cl Q H) : Rg Q H r.2 := by
  unfold F_MRunner_given at hF
  have hm := Rg.rf hc0
  rcases ite_s hF with ⟨q_4, hG⟩ | ⟨q_4, hG⟩
  · clear hF
    obtain ⟨v11, H12, z10, hF⟩ := bC_s hG; clear hG
    have gz_5 := (g_M_held z10 hm.1)
    replace hm : Rg Q H H12 := hm.tr gz_5
    have s_6 : Sa H H12 := (m_M_held z10)
    have hr := Option.some.inj hF; subst hr
    exact hm
  · clear hF
    have hr := Option.some.inj hG; subst hr
    exact hm
set_option maxRecDepth 20000 in
set_option maxHeartbeats 2000000 in
theorem gB_MRunner_assigns_100 {N : Nat} {Q : Nat → Prop} {p0 : Nat} {p1 : Int32} (q_p0 : Q p0)  {H : Hp} {r : Unit × Hp} (hF : B_MRunner_assigns_100 N p0 p1  H = some r) (hc0 : Cl Q H) : Rg Q H r.2 := by
  unfold B_MRunner_assigns_100 at hF
  have hm := Rg.rf hc0
  obtain ⟨q137, hG⟩ := ck_s hF; clear hF
  obtain ⟨x138, -, hF⟩ := bnd_g hG; clear hG
  obtain ⟨H139, eH139, hG⟩ := bnd_g hF; clear hF
  replace hm : Rg Q H H139 := hm.tr (by rw [eH139]; exact Rg.sD hm.1 q_p0)
  have s_19 : Sa H H139 := by rw [eH139]; exact Sa.rf _
  have hr := Option.some.inj hG; subst hr
  exact hm
set_option maxRecDepth 20000 in
set_option maxHeartbeats 2000000 in
theorem g_MRunner_assigns {N : Nat} {Q : Nat → Prop} {p0 : Nat} {p1 : Int32} {H : Hp} {r : Unit × Hp} (hF : F_MRunner_assigns N p0 p1 H = some r) (hc0 : Cl Q H) (q_p0 : Q p0) : Rg Q H r.2 := by
  unfold F_MRunner_assigns at hF
  have hm := Rg.rf hc0
  obtain ⟨q140, hG⟩ := ck_s hF; clear hF
  obtain ⟨a141, e142, hF⟩ := rf_s hG; clear hG
  have qa141 : Q a141 := hm.1 _ _ _ q_p0 e142
  obtain ⟨q143, hG⟩ := ck_s hF; clear hF
  obtain ⟨a144, e145, hF⟩ := rf_s hG; clear hG
  have qa144 : Q a144 := hm.1 _ _ _ qa141 e145
  obtain ⟨n146, q147, hG⟩ := ar_s hF; clear hF
  obtain ⟨q148, hF⟩ := ck_s hG; clear hG
  obtain ⟨x149, -, hG⟩ := bnd_g hF; clear hF
  rcases ite_s hG with ⟨q_20, hF⟩ | ⟨q_20, hF⟩
  · clear hG
    obtain ⟨x151, -, hG⟩ := bnd_g hF; clear hF
    obtain ⟨H152, eH152, hF⟩ := bnd_g hG; clear hG
    replace hm : Rg Q H H152 := hm.tr (by rw [eH152]; exact Rg.sD hm.1 q_p0)
    have s_21 : Sa H H152 := by rw [eH152]; exact Sa.rf _
    obtain ⟨a153, e154, hG⟩ := rf_s hF; clear hF
    have qa153 : Q a153 := hm.1 _ _ _ q_p0 e154
    obtain ⟨a155, e156, hF⟩ := rf_s hG; clear hG
    have qa155 : Q a155 := hm.1 _ _ _ q_p0 e156
    obtain ⟨q157, hG⟩ := ck_s hF; clear hF
    rw [(s_21).1] at q157
    obtain ⟨a158, e159, hF⟩ := rf_s hG; clear hG
    have qa158 : Q a158 := hm.1 _ _ _ qa155 e159
    obtain ⟨n160, q161, hG⟩ := ar_s hF; clear hF
    rw [(s_21).1] at q161
    obtain ⟨q162, hF⟩ := ck_s hG; clear hG
    obtain ⟨x163, -, hG⟩ := bnd_g hF; clear hF
    obtain ⟨v165, H166, z164, hF⟩ := bC_s hG; clear hG
    have gz_22 := ((gX_RunE 50).1 _ _ _ z164 hm.1 q_p0)
    replace hm : Rg Q H H166 := hm.tr gz_22
    have s_23 : Sa H H166 := (s_21).tr ((moX_RunE 50).1 _ _ _ z164)
    obtain ⟨n167, q168, hG⟩ := ar_s hF; clear hF
    rw [(s_23).1] at q168
    obtain ⟨q169, hF⟩ := ck_s hG; clear hG
    obtain ⟨H170, eH170, hG⟩ := bnd_g hF; clear hF
    replace hm : Rg Q H H170 := hm.tr (by rw [eH170]; exact Rg.sD hm.1 qa153)
    have s_24 : Sa H H170 := by rw [eH170]; exact s_23
    exact hm.tr (gB_MRunner_assigns_100 q_p0 hG hm.1)
  · clear hG
    obtain ⟨a171, e172, hG⟩ := rf_s hF; clear hF
    have qa171 : Q a171 := hm.1 _ _ _ q_p0 e172
    obtain ⟨q173, hF⟩ := ck_s hG; clear hG
    obtain ⟨a174, e175, hG⟩ := rf_s hF; clear hF
    have qa174 : Q a174 := hm.1 _ _ _ qa171 e175
    obtain ⟨n176, q177, hF⟩ := ar_s hG; clear hG
    obtain ⟨q178, hG⟩ := ck_s hF; clear hF
    obtain ⟨x179, -, hF⟩ := bnd_g hG; clear hG
    obtain ⟨x180, -, hG⟩ := bnd_g hF; clear hF
    obtain ⟨H181, eH181, hF⟩ := bnd_g hG; clear hG
    replace hm : Rg Q H H181 := hm.tr (by rw [eH181]; exact Rg.sD hm.1 q_p0)
    have s_25 : Sa H H181 := by rw [eH181]; exact Sa.rf _
    obtain ⟨v183, H184, z182, hG⟩ := bC_s hF; clear hF
    have gz_26 := ((gX_RunE 50).1 _ _ _ z182 hm.1 q_p0)
    replace hm : Rg Q H H184 := hm.tr gz_26
    have s_27 : Sa H H184 := (s_25).tr ((moX_RunE 50).1 _ _ _ z182)
    obtain ⟨x185, -, hF⟩ := bnd_g hG; clear hG
    rcases ite_s hF with ⟨q_28, hG⟩ | ⟨q_28, hG⟩
    · clear hF
      obtain ⟨a187, e188, hF⟩ := rf_s hG; clear hG
      have qa187 : Q a187 := hm.1 _ _ _ q_p0 e188
      obtain ⟨a189, e190, hG⟩ := rf_s hF; clear hF
      have qa189 : Q a189 := hm.1 _ _ _ q_p0 e190
      obtain ⟨q191, hF⟩ := ck_s hG; clear hG
      rw [(s_27).1] at q191
      obtain ⟨a192, e193, hG⟩ := rf_s hF; clear hF
      have qa192 : Q a192 := hm.1 _ _ _ qa189 e193
      obtain ⟨n194, q195, hF⟩ := ar_s hG; clear hG
      rw [(s_27).1] at q195
      obtain ⟨q196, hG⟩ := ck_s hF; clear hF
      obtain ⟨x197, -, hF⟩ := bnd_g hG; clear hG
      obtain ⟨v199, H200, z198, hG⟩ := bC_s hF; clear hF
      have gz_29 := (g_MRunner_given z198 hm.1)
      replace hm : Rg Q H H200 := hm.tr gz_29
      have s_30 : Sa H H200 := (s_27).tr (m_MRunner_given z198)
      obtain ⟨n201, q202, hF⟩ := ar_s hG; clear hG
      rw [(s_30).1] at q202
      obtain ⟨q203, hG⟩ := ck_s hF; clear hF
      obtain ⟨H204, eH204, hF⟩ := bnd_g hG; clear hG
      replace hm : Rg Q H H204 := hm.tr (by rw [eH204]; exact Rg.sD hm.1 qa187)
      have s_31 : Sa H H204 := by rw [eH204]; exact s_30
      exact hm.tr (gB_MRunner_assigns_100 q_p0 hF hm.1)
    · clear hF
      exact hm.tr (gB_MRunner_assigns_100 q_p0 hG hm.1)
set_option maxRecDepth 20000 in
set_option maxHeartbeats 2000000 in
theorem g_MRunner_skips {N : Nat} {Q : Nat → Prop} {p0 : Nat} {H : Hp} {r : Unit × Hp} (hF : F_MRunner_skips N p0 H = some r) (hc0 : Cl Q H) (q_p0 : Q p0) : Rg Q H r.2 := by
  unfold F_MRunner_skips at hF
  have hm := Rg.rf hc0
  obtain ⟨q25, hG⟩ := ck_s hF; clear hF
  obtain ⟨a26, e27, hF⟩ := rf_s hG; clear hG
  have qa26 : Q a26 := hm.1 _ _ _ q_p0 e27
  obtain ⟨q28, hG⟩ := ck_s hF; clear hF
  obtain ⟨a29, e30, hF⟩ := rf_s hG; clear hG
  have qa29 : Q a29 := hm.1 _ _ _ qa26 e30
  obtain ⟨x31, -, hG⟩ := bnd_g hF; clear hF
  obtain ⟨n32, q33, hF⟩ := ar_s hG; clear hG
  obtain ⟨q34, hG⟩ := ck_s hF; clear hF
  obtain ⟨x35, -, hF⟩ := bnd_g hG; clear hG
  obtain ⟨H36, eH36, hG⟩ := bnd_g hF; clear hF
  replace hm : Rg Q H H36 := hm.tr (by rw [eH36]; exact Rg.sD hm.1 q_p0)
  have s_3 : Sa H H36 := by rw [eH36]; exact Sa.rf _
  have hr := Option.some.inj hG; subst hr
  exact hm
set_option maxRecDepth 20000 in
set_option maxHeartbeats 2000000 in
theorem gB_MRunner_isNear_68 {N : Nat} {Q : Nat → Prop} {p0 : Nat} {p1 : Int32} {p2 : Int32} {p3 : Int32} {kq6 : Int32 → Int32 → Hp → Option (Int32 × Hp)} (q_p0 : Q p0) (hg6 : ∀ (l4 : Int32) (l5 : Int32) (H : Hp) (r : Int32 × Hp), kq6 l4 l5 H = some r → Cl Q H → Rg Q H r.2) {l5 : Int32} {w0 : Int32} {H : Hp} {r : Int32 × Hp} (hF : B_MRunner_isNear_68 N p0 p1 p2 p3 kq6 l5 w0 H = some r) (hc0 : Cl Q H) : Rg Q H r.2 := by
  unfold B_MRunner_isNear_68 at hF
  have hm := Rg.rf hc0
  exact hm.tr (hg6 w0 (l5 + 1) H r hF hm.1)
set_option maxRecDepth 20000 in
set_option maxHeartbeats 2000000 in
theorem gB_MRunner_isNear_67 {N : Nat} {Q : Nat → Prop} {p0 : Nat} {p1 : Int32} {p2 : Int32} {p3 : Int32} {kq6 : Int32 → Int32 → Hp → Option (Int32 × Hp)} (q_p0 : Q p0) (hg6 : ∀ (l4 : Int32) (l5 : Int32) (H : Hp) (r : Int32 × Hp), kq6 l4 l5 H = some r → Cl Q H → Rg Q H r.2) {l5 : Int32} {H : Hp} {r : Int32 × Hp} (hF : B_MRunner_isNear_67 N p0 p1 p2 p3 kq6 l5 H = some r) (hc0 : Cl Q H) : Rg Q H r.2 := by
  unfold B_MRunner_isNear_67 at hF
  have hm := Rg.rf hc0
  exact hm.tr (gB_MRunner_isNear_68 q_p0 hg6 hF hm.1)
set_option maxRecDepth 20000 in
set_option maxHeartbeats 2000000 in
theorem gB_MRunner_isNear_6 {N : Nat} {Q : Nat → Prop} {p0 : Nat} {p1 : Int32} {p2 : Int32} {p3 : Int32} (q_p0 : Q p0) : ∀ (n : Nat) (l4 : Int32) (l5 : Int32) (H : Hp) (r : Int32 × Hp), B_MRunner_isNear_6 N p0 p1 p2 p3 n l4 l5 H = some r → Cl Q H → Rg Q H r.2 := by
  intro n
  induction n with
  | zero => intro l4 l5 H r hF; rw [B_MRunner_isNear_6] at hF; cases hF
  | succ n ih =>
    intro l4 l5 H r hF hc0
    rw [B_MRunner_isNear_6] at hF
    have hm := Rg.rf hc0
    rcases ite_s hF with ⟨q_5, hG⟩ | ⟨q_5, hG⟩
    · clear hF
      obtain ⟨q46, hF⟩ := ck_s hG; clear hG
      have hr := Option.some.inj hF; subst hr
      exact hm
    · clear hF
      obtain ⟨q47, hF⟩ := ck_s hG; clear hG
      obtain ⟨a48, e49, hG⟩ := rf_s hF; clear hF
      have qa48 : Q a48 := hm.1 _ _ _ q_p0 e49
      obtain ⟨q50, hF⟩ := ck_s hG; clear hG
      obtain ⟨a51, e52, hG⟩ := rf_s hF; clear hF
      have qa51 : Q a51 := hm.1 _ _ _ qa48 e52
      obtain ⟨n53, q54, hF⟩ := ar_s hG; clear hG
      obtain ⟨q55, hG⟩ := ck_s hF; clear hF
      obtain ⟨x56, -, hF⟩ := bnd_g hG; clear hG
      obtain ⟨a57, e58, hG⟩ := rf_s hF; clear hF
      have qa57 : Q a57 := hm.1 _ _ _ q_p0 e58
      obtain ⟨n59, q60, hF⟩ := ar_s hG; clear hG
      obtain ⟨q61, hG⟩ := ck_s hF; clear hF
      obtain ⟨x62, -, hF⟩ := bnd_g hG; clear hG
      obtain ⟨x63, -, hG⟩ := bnd_g hF; clear hF
      rcases ite_s hG with ⟨q_6, hF⟩ | ⟨q_6, hF⟩
      · clear hG
        exact hm.tr (gB_MRunner_isNear_67 q_p0 ih hF hm.1)
      · clear hG
        rcases ite_s hF with ⟨q_7, hG⟩ | ⟨q_7, hG⟩
        · clear hF
          exact hm.tr (gB_MRunner_isNear_67 q_p0 ih hG hm.1)
        · clear hF
          rcases ite_s hG with ⟨q_8, hF⟩ | ⟨q_8, hF⟩
          · clear hG
            exact hm.tr (gB_MRunner_isNear_67 q_p0 ih hF hm.1)
          · clear hG
            exact hm.tr (gB_MRunner_isNear_68 q_p0 ih hF hm.1)
set_option maxRecDepth 20000 in
set_option maxHeartbeats 2000000 in
theorem g_MRunner_isNear {N : Nat} {Q : Nat → Prop} {p0 : Nat} {p1 : Int32} {p2 : Int32} {p3 : Int32} {H : Hp} {r : Int32 × Hp} (hF : F_MRunner_isNear N p0 p1 p2 p3 H = some r) (hc0 : Cl Q H) (q_p0 : Q p0) : Rg Q H r.2 := by
  unfold F_MRunner_isNear at hF
  have hm := Rg.rf hc0
  exact hm.tr (gB_MRunner_isNear_6 q_p0 N 1 p2 H r hF hm.1)
set_option maxRecDepth 20000 in
set_option maxHeartbeats 2000000 in
theorem gB_MRunner_commanded_27 {N : Nat} {Q : Nat → Prop} {p0 : Nat} {p1 : Int32} (q_p0 : Q p0)  {H : Hp} {r : Int32 × Hp} (hF : B_MRunner_commanded_27 N p0 p1  H = some r) (hc0 : Cl Q H) : Rg Q H r.2 := by
  unfold B_MRunner_commanded_27 at hF
  have hm := Rg.rf hc0
  obtain ⟨q45, hG⟩ := ck_s hF; clear hF
  obtain ⟨x46, -, hF⟩ := bnd_g hG; clear hG
  rcases ite_s hF with ⟨q_10, hG⟩ | ⟨q_10, hG⟩
  · clear hF
    obtain ⟨x48, -, hF⟩ := bnd_g hG; clear hG
    obtain ⟨x49, -, hG⟩ := bnd_g hF; clear hF
    obtain ⟨x50, -, hF⟩ := bnd_g hG; clear hG
    obtain ⟨H51, eH51, hG⟩ := bnd_g hF; clear hF
    replace hm : Rg Q H H51 := hm.tr (by rw [eH51]; exact Rg.sD hm.1 q_p0)
    have s_11 : Sa H H51 := by rw [eH51]; exact Sa.rf _
    obtain ⟨a52, e53, hF⟩ := rf_s hG; clear hG
    have qa52 : Q a52 := hm.1 _ _ _ q_p0 e53
    obtain ⟨n54, q55, hG⟩ := ar_s hF; clear hF
    rw [(s_11).1] at q55
    obtain ⟨q56, hF⟩ := ck_s hG; clear hG
    obtain ⟨H57, eH57, hG⟩ := bnd_g hF; clear hF
    replace hm : Rg Q H H57 := hm.tr (by rw [eH57]; exact Rg.sD hm.1 qa52)
    have s_12 : Sa H H57 := by rw [eH57]; exact s_11
    have hr := Option.some.inj hG; subst hr
    exact hm
  · clear hF
    have hr := Option.some.inj hG; subst hr
    exact hm
set_option maxRecDepth 20000 in
set_option maxHeartbeats 2000000 in
theorem g_MRunner_commanded {N : Nat} {Q : Nat → Prop} {p0 : Nat} {p1 : Int32} {H : Hp} {r : Int32 × Hp} (hF : F_MRunner_commanded N p0 p1 H = some r) (hc0 : Cl Q H) (q_p0 : Q p0) : Rg Q H r.2 := by
  unfold F_MRunner_commanded at hF
  have hm := Rg.rf hc0
  obtain ⟨q58, hG⟩ := ck_s hF; clear hF
  obtain ⟨x59, -, hF⟩ := bnd_g hG; clear hG
  rcases ite_s hF with ⟨q_13, hG⟩ | ⟨q_13, hG⟩
  · clear hF
    obtain ⟨x61, -, hF⟩ := bnd_g hG; clear hG
    obtain ⟨x62, -, hG⟩ := bnd_g hF; clear hF
    rcases ite_s hG with ⟨q_14, hF⟩ | ⟨q_14, hF⟩
    · clear hG
      obtain ⟨v65, H66, z64, hG⟩ := bC_s hF; clear hF
      have gz_15 := (g_MRunner_fails z64 hm.1 q_p0)
      replace hm : Rg Q H H66 := hm.tr gz_15
      have s_16 : Sa H H66 := (m_MRunner_fails z64)
      exact hm.tr (gB_MRunner_commanded_27 q_p0 hG hm.1)
    · clear hG
      exact hm.tr (gB_MRunner_commanded_27 q_p0 hF hm.1)
  · clear hF
    exact hm.tr (gB_MRunner_commanded_27 q_p0 hG hm.1)
set_option maxRecDepth 20000 in
set_option maxHeartbeats 2000000 in
theorem gB_MRunner_spawns_234 {N : Nat} {Q : Nat → Prop} {p0 : Nat} (q_p0 : Q p0) {l1 : Int32} {l2 : Int32} {l3 : Int32} {l4 : Int32} {l5 : Int32} {l6 : Int32} {l7 : Int32} {H : Hp} {r : Unit × Hp} (hF : B_MRunner_spawns_234 N p0 l1 l2 l3 l4 l5 l6 l7 H = some r) (hc0 : Cl Q H) : Rg Q H r.2 := by
  unfold B_MRunner_spawns_234 at hF
  have hm := Rg.rf hc0
  obtain ⟨q253, hG⟩ := ck_s hF; clear hF
  obtain ⟨x254, -, hF⟩ := bnd_g hG; clear hG
  obtain ⟨H255, eH255, hG⟩ := bnd_g hF; clear hF
  replace hm : Rg Q H H255 := hm.tr (by rw [eH255]; exact Rg.sD hm.1 q_p0)
  have s_39 : Sa H H255 := by rw [eH255]; exact Sa.rf _
  obtain ⟨v257, H258, z256, hF⟩ := bC_s hG; clear hG
  have gz_40 := (g_MRunner_commanded z256 hm.1 q_p0)
  replace hm : Rg Q H H258 := hm.tr gz_40
  have s_41 : Sa H H258 := (s_39).tr (m_MRunner_commanded z256)
  rcases ite_s hF with ⟨q_42, hG⟩ | ⟨q_42, hG⟩
  · clear hF
    obtain ⟨a260, e261, hF⟩ := rf_s hG; clear hG
    have qa260 : Q a260 := hm.1 _ _ _ q_p0 e261
    obtain ⟨n262, q263, hG⟩ := ar_s hF; clear hF
    rw [(s_41).1] at q263
    obtain ⟨q264, hF⟩ := ck_s hG; clear hG
    obtain ⟨H265, eH265, hG⟩ := bnd_g hF; clear hF
    replace hm : Rg Q H H265 := hm.tr (by rw [eH265]; exact Rg.sD hm.1 qa260)
    have s_43 : Sa H H265 := by rw [eH265]; exact s_41
    obtain ⟨a266, e267, hF⟩ := rf_s hG; clear hG
    have qa266 : Q a266 := hm.1 _ _ _ q_p0 e267
    obtain ⟨n268, q269, hG⟩ := ar_s hF; clear hF
    rw [(s_43).1] at q269
    obtain ⟨q270, hF⟩ := ck_s hG; clear hG
    obtain ⟨H271, eH271, hG⟩ := bnd_g hF; clear hF
    replace hm : Rg Q H H271 := hm.tr (by rw [eH271]; exact Rg.sD hm.1 qa266)
    have s_44 : Sa H H271 := by rw [eH271]; exact s_43
    obtain ⟨a272, e273, hF⟩ := rf_s hG; clear hG
    have qa272 : Q a272 := hm.1 _ _ _ q_p0 e273
    obtain ⟨n274, q275, hG⟩ := ar_s hF; clear hF
    rw [(s_44).1] at q275
    obtain ⟨q276, hF⟩ := ck_s hG; clear hG
    obtain ⟨H277, eH277, hG⟩ := bnd_g hF; clear hF
    replace hm : Rg Q H H277 := hm.tr (by rw [eH277]; exact Rg.sD hm.1 qa272)
    have s_45 : Sa H H277 := by rw [eH277]; exact s_44
    obtain ⟨a278, e279, hF⟩ := rf_s hG; clear hG
    have qa278 : Q a278 := hm.1 _ _ _ q_p0 e279
    obtain ⟨n280, q281, hG⟩ := ar_s hF; clear hF
    rw [(s_45).1] at q281
    obtain ⟨q282, hF⟩ := ck_s hG; clear hG
    obtain ⟨H283, eH283, hG⟩ := bnd_g hF; clear hF
    replace hm : Rg Q H H283 := hm.tr (by rw [eH283]; exact Rg.sD hm.1 qa278)
    have s_46 : Sa H H283 := by rw [eH283]; exact s_45
    obtain ⟨a284, e285, hF⟩ := rf_s hG; clear hG
    have qa284 : Q a284 := hm.1 _ _ _ q_p0 e285
    obtain ⟨n286, q287, hG⟩ := ar_s hF; clear hF
    rw [(s_46).1] at q287
    obtain ⟨q288, hF⟩ := ck_s hG; clear hG
    obtain ⟨H289, eH289, hG⟩ := bnd_g hF; clear hF
    replace hm : Rg Q H H289 := hm.tr (by rw [eH289]; exact Rg.sD hm.1 qa284)
    have s_47 : Sa H H289 := by rw [eH289]; exact s_46
    obtain ⟨a290, e291, hF⟩ := rf_s hG; clear hG
    have qa290 : Q a290 := hm.1 _ _ _ q_p0 e291
    obtain ⟨n292, q293, hG⟩ := ar_s hF; clear hF
    rw [(s_47).1] at q293
    obtain ⟨q294, hF⟩ := ck_s hG; clear hG
    obtain ⟨H295, eH295, hG⟩ := bnd_g hF; clear hF
    replace hm : Rg Q H H295 := hm.tr (by rw [eH295]; exact Rg.sD hm.1 qa290)
    have s_48 : Sa H H295 := by rw [eH295]; exact s_47
    obtain ⟨a296, e297, hF⟩ := rf_s hG; clear hG
    have qa296 : Q a296 := hm.1 _ _ _ q_p0 e297
    obtain ⟨n298, q299, hG⟩ := ar_s hF; clear hF
    rw [(s_48).1] at q299
    obtain ⟨q300, hF⟩ := ck_s hG; clear hG
    obtain ⟨H301, eH301, hG⟩ := bnd_g hF; clear hF
    replace hm : Rg Q H H301 := hm.tr (by rw [eH301]; exact Rg.sD hm.1 qa296)
    have s_49 : Sa H H301 := by rw [eH301]; exact s_48
    have hr := Option.some.inj hG; subst hr
    exact hm
  · clear hF
    have hr := Option.some.inj hG; subst hr
    exact hm
set_option maxRecDepth 20000 in
set_option maxHeartbeats 2000000 in
theorem gB_MRunner_spawns_227 {N : Nat} {Q : Nat → Prop} {p0 : Nat} {kq63 : Int32 → Int32 → Int32 → Int32 → Int32 → Int32 → Int32 → Int32 → Hp → Option (Unit × Hp)} (q_p0 : Q p0) (hg63 : ∀ (l1 : Int32) (l2 : Int32) (l3 : Int32) (l4 : Int32) (l5 : Int32) (l6 : Int32) (l7 : Int32) (l8 : Int32) (H : Hp) (r : Unit × Hp), kq63 l1 l2 l3 l4 l5 l6 l7 l8 H = some r → Cl Q H → Rg Q H r.2) {l1 : Int32} {l2 : Int32} {l3 : Int32} {l4 : Int32} {l5 : Int32} {l6 : Int32} {l7 : Int32} {l8 : Int32} {w0 : Nat} {w1 : Int32} {w2 : Int32} {H : Hp} {r : Unit × Hp} (hF : B_MRunner_spawns_227 N p0 kq63 l1 l2 l3 l4 l5 l6 l7 l8 w0 w1 w2 H = some r) (hc0 : Cl Q H) (q_w0 : Q w0) : Rg Q H r.2 := by
  unfold B_MRunner_spawns_227 at hF
  have hm := Rg.rf hc0
  obtain ⟨q302, hG⟩ := ck_s hF; clear hF
  obtain ⟨H303, eH303, hF⟩ := bnd_g hG; clear hG
  replace hm : Rg Q H H303 := hm.tr (by rw [eH303]; exact Rg.sD hm.1 q_w0)
  have s_50 : Sa H H303 := by rw [eH303]; exact Sa.rf _
  exact hm.tr (hg63 l1 l2 l3 l4 l5 l6 l7 l8 H303 r hF hm.1)
set_option maxRecDepth 20000 in
set_option maxHeartbeats 2000000 in
theorem gB_MRunner_spawns_210 {N : Nat} {Q : Nat → Prop} {p0 : Nat} {kq63 : Int32 → Int32 → Int32 → Int32 → Int32 → Int32 → Int32 → Int32 → Hp → Option (Unit × Hp)} (q_p0 : Q p0) (hg63 : ∀ (l1 : Int32) (l2 : Int32) (l3 : Int32) (l4 : Int32) (l5 : Int32) (l6 : Int32) (l7 : Int32) (l8 : Int32) (H : Hp) (r : Unit × Hp), kq63 l1 l2 l3 l4 l5 l6 l7 l8 H = some r → Cl Q H → Rg Q H r.2) {l1 : Int32} {l2 : Int32} {l3 : Int32} {l4 : Int32} {l5 : Int32} {l6 : Int32} {l7 : Int32} {w0 : Int32} {H : Hp} {r : Unit × Hp} (hF : B_MRunner_spawns_210 N p0 kq63 l1 l2 l3 l4 l5 l6 l7 w0 H = some r) (hc0 : Cl Q H) : Rg Q H r.2 := by
  unfold B_MRunner_spawns_210 at hF
  have hm := Rg.rf hc0
  obtain ⟨q304, hG⟩ := ck_s hF; clear hF
  obtain ⟨x305, -, hF⟩ := bnd_g hG; clear hG
  rcases ite_s hF with ⟨q_51, hG⟩ | ⟨q_51, hG⟩
  · clear hF
    exact hm.tr (gB_MRunner_spawns_227 q_p0 hg63 hG hm.1 q_p0)
  · clear hF
    exact hm.tr (gB_MRunner_spawns_227 q_p0 hg63 hG hm.1 q_p0)
set_option maxRecDepth 20000 in
set_option maxHeartbeats 2000000 in
theorem gB_MRunner_spawns_183 {N : Nat} {Q : Nat → Prop} {p0 : Nat} {kq63 : Int32 → Int32 → Int32 → Int32 → Int32 → Int32 → Int32 → Int32 → Hp → Option (Unit × Hp)} (q_p0 : Q p0) (hg63 : ∀ (l1 : Int32) (l2 : Int32) (l3 : Int32) (l4 : Int32) (l5 : Int32) (l6 : Int32) (l7 : Int32) (l8 : Int32) (H : Hp) (r : Unit × Hp), kq63 l1 l2 l3 l4 l5 l6 l7 l8 H = some r → Cl Q H → Rg Q H r.2) {l1 : Int32} {l2 : Int32} {l3 : Int32} {l4 : Int32} {l5 : Int32} {l7 : Int32} {w0 : Int32} {H : Hp} {r : Unit × Hp} (hF : B_MRunner_spawns_183 N p0 kq63 l1 l2 l3 l4 l5 l7 w0 H = some r) (hc0 : Cl Q H) : Rg Q H r.2 := by
  unfold B_MRunner_spawns_183 at hF
  have hm := Rg.rf hc0
  obtain ⟨q307, hG⟩ := ck_s hF; clear hF
  obtain ⟨a308, e309, hF⟩ := rf_s hG; clear hG
  have qa308 : Q a308 := hm.1 _ _ _ q_p0 e309
  obtain ⟨q310, hG⟩ := ck_s hF; clear hF
  obtain ⟨a311, e312, hF⟩ := rf_s hG; clear hG
  have qa311 : Q a311 := hm.1 _ _ _ qa308 e312
  obtain ⟨x313, -, hG⟩ := bnd_g hF; clear hF
  obtain ⟨n314, q315, hF⟩ := ar_s hG; clear hG
  obtain ⟨q316, hG⟩ := ck_s hF; clear hF
  obtain ⟨x317, -, hF⟩ := bnd_g hG; clear hG
  rcases ite_s hF with ⟨q_52, hG⟩ | ⟨q_52, hG⟩
  · clear hF
    exact hm.tr (gB_MRunner_spawns_210 q_p0 hg63 hG hm.1)
  · clear hF
    exact hm.tr (gB_MRunner_spawns_210 q_p0 hg63 hG hm.1)
set_option maxRecDepth 20000 in
set_option maxHeartbeats 2000000 in
theorem gB_MRunner_spawns_169 {N : Nat} {Q : Nat → Prop} {p0 : Nat} {kq63 : Int32 → Int32 → Int32 → Int32 → Int32 → Int32 → Int32 → Int32 → Hp → Option (Unit × Hp)} (q_p0 : Q p0) (hg63 : ∀ (l1 : Int32) (l2 : Int32) (l3 : Int32) (l4 : Int32) (l5 : Int32) (l6 : Int32) (l7 : Int32) (l8 : Int32) (H : Hp) (r : Unit × Hp), kq63 l1 l2 l3 l4 l5 l6 l7 l8 H = some r → Cl Q H → Rg Q H r.2) {l1 : Int32} {l2 : Int32} {l3 : Int32} {l4 : Int32} {l6 : Int32} {l7 : Int32} {l10 : Int32} {w0 : Int32} {H : Hp} {r : Unit × Hp} (hF : B_MRunner_spawns_169 N p0 kq63 l1 l2 l3 l4 l6 l7 l10 w0 H = some r) (hc0 : Cl Q H) : Rg Q H r.2 := by
  unfold B_MRunner_spawns_169 at hF
  have hm := Rg.rf hc0
  rcases ite_s hF with ⟨q_53, hG⟩ | ⟨q_53, hG⟩
  · clear hF
    exact hm.tr (gB_MRunner_spawns_183 q_p0 hg63 hG hm.1)
  · clear hF
    exact hm.tr (gB_MRunner_spawns_183 q_p0 hg63 hG hm.1)
set_option maxRecDepth 20000 in
set_option maxHeartbeats 2000000 in
theorem gB_MRunner_spawns_155 {N : Nat} {Q : Nat → Prop} {p0 : Nat} {kq63 : Int32 → Int32 → Int32 → Int32 → Int32 → Int32 → Int32 → Int32 → Hp → Option (Unit × Hp)} (q_p0 : Q p0) (hg63 : ∀ (l1 : Int32) (l2 : Int32) (l3 : Int32) (l4 : Int32) (l5 : Int32) (l6 : Int32) (l7 : Int32) (l8 : Int32) (H : Hp) (r : Unit × Hp), kq63 l1 l2 l3 l4 l5 l6 l7 l8 H = some r → Cl Q H → Rg Q H r.2) {l1 : Int32} {l2 : Int32} {l3 : Int32} {l5 : Int32} {l6 : Int32} {l7 : Int32} {l10 : Int32} {w0 : Int32} {H : Hp} {r : Unit × Hp} (hF : B_MRunner_spawns_155 N p0 kq63 l1 l2 l3 l5 l6 l7 l10 w0 H = some r) (hc0 : Cl Q H) : Rg Q H r.2 := by
  unfold B_MRunner_spawns_155 at hF
  have hm := Rg.rf hc0
  rcases ite_s hF with ⟨q_54, hG⟩ | ⟨q_54, hG⟩
  · clear hF
    exact hm.tr (gB_MRunner_spawns_169 q_p0 hg63 hG hm.1)
  · clear hF
    exact hm.tr (gB_MRunner_spawns_169 q_p0 hg63 hG hm.1)
set_option maxRecDepth 20000 in
set_option maxHeartbeats 2000000 in
theorem gB_MRunner_spawns_142 {N : Nat} {Q : Nat → Prop} {p0 : Nat} {kq63 : Int32 → Int32 → Int32 → Int32 → Int32 → Int32 → Int32 → Int32 → Hp → Option (Unit × Hp)} (q_p0 : Q p0) (hg63 : ∀ (l1 : Int32) (l2 : Int32) (l3 : Int32) (l4 : Int32) (l5 : Int32) (l6 : Int32) (l7 : Int32) (l8 : Int32) (H : Hp) (r : Unit × Hp), kq63 l1 l2 l3 l4 l5 l6 l7 l8 H = some r → Cl Q H → Rg Q H r.2) {l1 : Int32} {l2 : Int32} {l4 : Int32} {l5 : Int32} {l6 : Int32} {l7 : Int32} {l10 : Int32} {w0 : Int32} {H : Hp} {r : Unit × Hp} (hF : B_MRunner_spawns_142 N p0 kq63 l1 l2 l4 l5 l6 l7 l10 w0 H = some r) (hc0 : Cl Q H) : Rg Q H r.2 := by
  unfold B_MRunner_spawns_142 at hF
  have hm := Rg.rf hc0
  rcases ite_s hF with ⟨q_55, hG⟩ | ⟨q_55, hG⟩
  · clear hF
    exact hm.tr (gB_MRunner_spawns_155 q_p0 hg63 hG hm.1)
  · clear hF
    exact hm.tr (gB_MRunner_spawns_155 q_p0 hg63 hG hm.1)
set_option maxRecDepth 20000 in
set_option maxHeartbeats 2000000 in
theorem gB_MRunner_spawns_63 {N : Nat} {Q : Nat → Prop} {p0 : Nat} (q_p0 : Q p0) : ∀ (n : Nat) (l1 : Int32) (l2 : Int32) (l3 : Int32) (l4 : Int32) (l5 : Int32) (l6 : Int32) (l7 : Int32) (l8 : Int32) (H : Hp) (r : Unit × Hp), B_MRunner_spawns_63 N p0 n l1 l2 l3 l4 l5 l6 l7 l8 H = some r → Cl Q H → Rg Q H r.2 := by
  intro n
  induction n with
  | zero => intro l1 l2 l3 l4 l5 l6 l7 l8 H r hF; rw [B_MRunner_spawns_63] at hF; cases hF
  | succ n ih =>
    intro l1 l2 l3 l4 l5 l6 l7 l8 H r hF hc0
    rw [B_MRunner_spawns_63] at hF
    have hm := Rg.rf hc0
    rcases ite_s hF with ⟨q_56, hG⟩ | ⟨q_56, hG⟩
    · clear hF
      exact hm.tr (gB_MRunner_spawns_234 q_p0 hG hm.1)
    · clear hF
      obtain ⟨q323, hF⟩ := ck_s hG; clear hG
      obtain ⟨x324, -, hG⟩ := bnd_g hF; clear hF
      rcases ite_s hG with ⟨q_57, hF⟩ | ⟨q_57, hF⟩
      · clear hG
        obtain ⟨a326, e327, hG⟩ := rf_s hF; clear hF
        have qa326 : Q a326 := hm.1 _ _ _ q_p0 e327
        obtain ⟨q328, hF⟩ := ck_s hG; clear hG
        obtain ⟨a329, e330, hG⟩ := rf_s hF; clear hF
        have qa329 : Q a329 := hm.1 _ _ _ qa326 e330
        obtain ⟨x331, -, hF⟩ := bnd_g hG; clear hG
        obtain ⟨n332, q333, hG⟩ := ar_s hF; clear hF
        obtain ⟨q334, hF⟩ := ck_s hG; clear hG
        obtain ⟨x335, -, hG⟩ := bnd_g hF; clear hF
        obtain ⟨x336, -, hF⟩ := bnd_g hG; clear hG
        obtain ⟨H337, eH337, hG⟩ := bnd_g hF; clear hF
        replace hm : Rg Q H H337 := hm.tr (by rw [eH337]; exact Rg.sD hm.1 q_p0)
        have s_58 : Sa H H337 := by rw [eH337]; exact Sa.rf _
        obtain ⟨a338, e339, hF⟩ := rf_s hG; clear hG
        have qa338 : Q a338 := hm.1 _ _ _ q_p0 e339
        obtain ⟨q340, hG⟩ := ck_s hF; clear hF
        rw [(s_58).1] at q340
        obtain ⟨a341, e342, hF⟩ := rf_s hG; clear hG
        have qa341 : Q a341 := hm.1 _ _ _ qa338 e342
        obtain ⟨n343, q344, hG⟩ := ar_s hF; clear hF
        rw [(s_58).1] at q344
        obtain ⟨q345, hF⟩ := ck_s hG; clear hG
        obtain ⟨x346, -, hG⟩ := bnd_g hF; clear hF
        obtain ⟨v348, H349, z347, hF⟩ := bC_s hG; clear hG
        have gz_59 := ((gX_RunE 50).1 _ _ _ z347 hm.1 q_p0)
        replace hm : Rg Q H H349 := hm.tr gz_59
        have s_60 : Sa H H349 := (s_58).tr ((moX_RunE 50).1 _ _ _ z347)
        obtain ⟨v351, H352, z350, hG⟩ := bC_s hF; clear hF
        have gz_61 := (g_MRunner_given z350 hm.1)
        replace hm : Rg Q H H352 := hm.tr gz_61
        have s_62 : Sa H H352 := (s_60).tr (m_MRunner_given z350)
        obtain ⟨x353, -, hF⟩ := bnd_g hG; clear hG
        rcases ite_s hF with ⟨q_63, hG⟩ | ⟨q_63, hG⟩
        · clear hF
          exact hm.tr (gB_MRunner_spawns_142 q_p0 ih hG hm.1)
        · clear hF
          exact hm.tr (gB_MRunner_spawns_142 q_p0 ih hG hm.1)
      · clear hG
        exact hm.tr (gB_MRunner_spawns_234 q_p0 hF hm.1)
set_option maxRecDepth 20000 in
set_option maxHeartbeats 2000000 in
theorem gB_MRunner_spawns_61 {N : Nat} {Q : Nat → Prop} {p0 : Nat} (q_p0 : Q p0) {l1 : Int32} {l2 : Int32} {l3 : Int32} {l4 : Int32} {l5 : Int32} {l6 : Int32} {l7 : Int32} {w0 : Int32} {H : Hp} {r : Unit × Hp} (hF : B_MRunner_spawns_61 N p0 l1 l2 l3 l4 l5 l6 l7 w0 H = some r) (hc0 : Cl Q H) : Rg Q H r.2 := by
  unfold B_MRunner_spawns_61 at hF
  have hm := Rg.rf hc0
  exact hm.tr (gB_MRunner_spawns_63 q_p0 N l1 l2 l3 l4 l5 l6 l7 w0 H r hF hm.1)
set_option maxRecDepth 20000 in
set_option maxHeartbeats 2000000 in
theorem g_MRunner_spawns {N : Nat} {Q : Nat → Prop} {p0 : Nat} {H : Hp} {r : Unit × Hp} (hF : F_MRunner_spawns N p0 H = some r) (hc0 : Cl Q H) (q_p0 : Q p0) : Rg Q H r.2 := by
  unfold F_MRunner_spawns at hF
  have hm := Rg.rf hc0
  obtain ⟨q355, hG⟩ := ck_s hF; clear hF
  obtain ⟨a356, e357, hF⟩ := rf_s hG; clear hG
  have qa356 : Q a356 := hm.1 _ _ _ q_p0 e357
  obtain ⟨q358, hG⟩ := ck_s hF; clear hF
  obtain ⟨a359, e360, hF⟩ := rf_s hG; clear hG
  have qa359 : Q a359 := hm.1 _ _ _ qa356 e360
  obtain ⟨x361, -, hG⟩ := bnd_g hF; clear hF
  obtain ⟨n362, q363, hF⟩ := ar_s hG; clear hG
  obtain ⟨q364, hG⟩ := ck_s hF; clear hF
  obtain ⟨x365, -, hF⟩ := bnd_g hG; clear hG
  obtain ⟨x366, -, hG⟩ := bnd_g hF; clear hF
  obtain ⟨H367, eH367, hF⟩ := bnd_g hG; clear hG
  replace hm : Rg Q H H367 := hm.tr (by rw [eH367]; exact Rg.sD hm.1 q_p0)
  have s_64 : Sa H H367 := by rw [eH367]; exact Sa.rf _
  obtain ⟨a368, e369, hG⟩ := rf_s hF; clear hF
  have qa368 : Q a368 := hm.1 _ _ _ q_p0 e369
  obtain ⟨q370, hF⟩ := ck_s hG; clear hG
  rw [(s_64).1] at q370
  obtain ⟨a371, e372, hG⟩ := rf_s hF; clear hF
  have qa371 : Q a371 := hm.1 _ _ _ qa368 e372
  obtain ⟨x373, -, hF⟩ := bnd_g hG; clear hG
  obtain ⟨n374, q375, hG⟩ := ar_s hF; clear hF
  rw [(s_64).1] at q375
  obtain ⟨q376, hF⟩ := ck_s hG; clear hG
  obtain ⟨x377, -, hG⟩ := bnd_g hF; clear hF
  rcases ite_s hG with ⟨q_65, hF⟩ | ⟨q_65, hF⟩
  · clear hG
    exact hm.tr (gB_MRunner_spawns_61 q_p0 hF hm.1)
  · clear hG
    exact hm.tr (gB_MRunner_spawns_61 q_p0 hF hm.1)
set_option maxRecDepth 20000 in
set_option maxHeartbeats 2000000 in
theorem gB_MRunner_emits_257 {N : Nat} {Q : Nat → Prop} {p0 : Nat} (q_p0 : Q p0) {l1 : Int32} {l2 : Int32} {l3 : Int32} {l4 : Int32} {l5 : Int32} {l6 : Int32} {l7 : Int32} {H : Hp} {r : Unit × Hp} (hF : B_MRunner_emits_257 N p0 l1 l2 l3 l4 l5 l6 l7 H = some r) (hc0 : Cl Q H) : Rg Q H r.2 := by
  unfold B_MRunner_emits_257 at hF
  have hm := Rg.rf hc0
  obtain ⟨q277, hG⟩ := ck_s hF; clear hF
  obtain ⟨v279, H280, z278, hF⟩ := bC_s hG; clear hG
  have gz_51 := (g_MRunner_commanded z278 hm.1 q_p0)
  replace hm : Rg Q H H280 := hm.tr gz_51
  have s_52 : Sa H H280 := (m_MRunner_commanded z278)
  rcases ite_s hF with ⟨q_53, hG⟩ | ⟨q_53, hG⟩
  · clear hF
    obtain ⟨a282, e283, hF⟩ := rf_s hG; clear hG
    have qa282 : Q a282 := hm.1 _ _ _ q_p0 e283
    obtain ⟨n284, q285, hG⟩ := ar_s hF; clear hF
    rw [(s_52).1] at q285
    obtain ⟨q286, hF⟩ := ck_s hG; clear hG
    obtain ⟨H287, eH287, hG⟩ := bnd_g hF; clear hF
    replace hm : Rg Q H H287 := hm.tr (by rw [eH287]; exact Rg.sD hm.1 qa282)
    have s_54 : Sa H H287 := by rw [eH287]; exact s_52
    obtain ⟨a288, e289, hF⟩ := rf_s hG; clear hG
    have qa288 : Q a288 := hm.1 _ _ _ q_p0 e289
    obtain ⟨n290, q291, hG⟩ := ar_s hF; clear hF
    rw [(s_54).1] at q291
    obtain ⟨q292, hF⟩ := ck_s hG; clear hG
    obtain ⟨H293, eH293, hG⟩ := bnd_g hF; clear hF
    replace hm : Rg Q H H293 := hm.tr (by rw [eH293]; exact Rg.sD hm.1 qa288)
    have s_55 : Sa H H293 := by rw [eH293]; exact s_54
    obtain ⟨a294, e295, hF⟩ := rf_s hG; clear hG
    have qa294 : Q a294 := hm.1 _ _ _ q_p0 e295
    obtain ⟨a296, e297, hG⟩ := rf_s hF; clear hF
    have qa296 : Q a296 := hm.1 _ _ _ q_p0 e297
    obtain ⟨q298, hF⟩ := ck_s hG; clear hG
    rw [(s_55).1] at q298
    obtain ⟨x299, -, hG⟩ := bnd_g hF; clear hF
    obtain ⟨n300, q301, hF⟩ := ar_s hG; clear hG
    rw [(s_55).1] at q301
    obtain ⟨q302, hG⟩ := ck_s hF; clear hF
    obtain ⟨H303, eH303, hF⟩ := bnd_g hG; clear hG
    replace hm : Rg Q H H303 := hm.tr (by rw [eH303]; exact Rg.sD hm.1 qa294)
    have s_56 : Sa H H303 := by rw [eH303]; exact s_55
    obtain ⟨a304, e305, hG⟩ := rf_s hF; clear hF
    have qa304 : Q a304 := hm.1 _ _ _ q_p0 e305
    obtain ⟨n306, q307, hF⟩ := ar_s hG; clear hG
    rw [(s_56).1] at q307
    obtain ⟨q308, hG⟩ := ck_s hF; clear hF
    obtain ⟨H309, eH309, hF⟩ := bnd_g hG; clear hG
    replace hm : Rg Q H H309 := hm.tr (by rw [eH309]; exact Rg.sD hm.1 qa304)
    have s_57 : Sa H H309 := by rw [eH309]; exact s_56
    obtain ⟨a310, e311, hG⟩ := rf_s hF; clear hF
    have qa310 : Q a310 := hm.1 _ _ _ q_p0 e311
    obtain ⟨n312, q313, hF⟩ := ar_s hG; clear hG
    rw [(s_57).1] at q313
    obtain ⟨q314, hG⟩ := ck_s hF; clear hF
    obtain ⟨H315, eH315, hF⟩ := bnd_g hG; clear hG
    replace hm : Rg Q H H315 := hm.tr (by rw [eH315]; exact Rg.sD hm.1 qa310)
    have s_58 : Sa H H315 := by rw [eH315]; exact s_57
    obtain ⟨a316, e317, hG⟩ := rf_s hF; clear hF
    have qa316 : Q a316 := hm.1 _ _ _ q_p0 e317
    obtain ⟨n318, q319, hF⟩ := ar_s hG; clear hG
    rw [(s_58).1] at q319
    obtain ⟨q320, hG⟩ := ck_s hF; clear hF
    obtain ⟨H321, eH321, hF⟩ := bnd_g hG; clear hG
    replace hm : Rg Q H H321 := hm.tr (by rw [eH321]; exact Rg.sD hm.1 qa316)
    have s_59 : Sa H H321 := by rw [eH321]; exact s_58
    obtain ⟨a322, e323, hG⟩ := rf_s hF; clear hF
    have qa322 : Q a322 := hm.1 _ _ _ q_p0 e323
    obtain ⟨n324, q325, hF⟩ := ar_s hG; clear hG
    rw [(s_59).1] at q325
    obtain ⟨q326, hG⟩ := ck_s hF; clear hF
    obtain ⟨H327, eH327, hF⟩ := bnd_g hG; clear hG
    replace hm : Rg Q H H327 := hm.tr (by rw [eH327]; exact Rg.sD hm.1 qa322)
    have s_60 : Sa H H327 := by rw [eH327]; exact s_59
    have hr := Option.some.inj hF; subst hr
    exact hm
  · clear hF
    have hr := Option.some.inj hG; subst hr
    exact hm
set_option maxRecDepth 20000 in
set_option maxHeartbeats 2000000 in
theorem gB_MRunner_emits_219 {N : Nat} {Q : Nat → Prop} {p0 : Nat} (q_p0 : Q p0) {l1 : Int32} {l2 : Int32} {l3 : Int32} {l4 : Int32} {l5 : Int32} {l6 : Int32} {w0 : Int32} {H : Hp} {r : Unit × Hp} (hF : B_MRunner_emits_219 N p0 l1 l2 l3 l4 l5 l6 w0 H = some r) (hc0 : Cl Q H) : Rg Q H r.2 := by
  unfold B_MRunner_emits_219 at hF
  have hm := Rg.rf hc0
  obtain ⟨q328, hG⟩ := ck_s hF; clear hF
  obtain ⟨x329, -, hF⟩ := bnd_g hG; clear hG
  obtain ⟨H330, eH330, hG⟩ := bnd_g hF; clear hF
  replace hm : Rg Q H H330 := hm.tr (by rw [eH330]; exact Rg.sD hm.1 q_p0)
  have s_61 : Sa H H330 := by rw [eH330]; exact Sa.rf _
  obtain ⟨x331, -, hF⟩ := bnd_g hG; clear hG
  rcases ite_s hF with ⟨q_62, hG⟩ | ⟨q_62, hG⟩
  · clear hF
    obtain ⟨v334, H335, z333, hF⟩ := bC_s hG; clear hG
    have gz_63 := (g_M_in z333 hm.1)
    replace hm : Rg Q H H335 := hm.tr gz_63
    have s_64 : Sa H H335 := (s_61).tr (m_M_in z333)
    rcases ite_s hF with ⟨q_65, hG⟩ | ⟨q_65, hG⟩
    · clear hF
      obtain ⟨v338, H339, z337, hF⟩ := bC_s hG; clear hG
      have gz_66 := (g_MRunner_fails z337 hm.1 q_p0)
      replace hm : Rg Q H H339 := hm.tr gz_66
      have s_67 : Sa H H339 := (s_64).tr (m_MRunner_fails z337)
      exact hm.tr (gB_MRunner_emits_257 q_p0 hF hm.1)
    · clear hF
      exact hm.tr (gB_MRunner_emits_257 q_p0 hG hm.1)
  · clear hF
    exact hm.tr (gB_MRunner_emits_257 q_p0 hG hm.1)
set_option maxRecDepth 20000 in
set_option maxHeartbeats 2000000 in
theorem gB_MRunner_emits_192 {N : Nat} {Q : Nat → Prop} {p0 : Nat} (q_p0 : Q p0) {l1 : Int32} {l2 : Int32} {l3 : Int32} {l4 : Int32} {l5 : Int32} {w0 : Int32} {H : Hp} {r : Unit × Hp} (hF : B_MRunner_emits_192 N p0 l1 l2 l3 l4 l5 w0 H = some r) (hc0 : Cl Q H) : Rg Q H r.2 := by
  unfold B_MRunner_emits_192 at hF
  have hm := Rg.rf hc0
  obtain ⟨q340, hG⟩ := ck_s hF; clear hF
  obtain ⟨x341, -, hF⟩ := bnd_g hG; clear hG
  obtain ⟨H342, eH342, hG⟩ := bnd_g hF; clear hF
  replace hm : Rg Q H H342 := hm.tr (by rw [eH342]; exact Rg.sD hm.1 q_p0)
  have s_68 : Sa H H342 := by rw [eH342]; exact Sa.rf _
  obtain ⟨x343, -, hF⟩ := bnd_g hG; clear hG
  rcases ite_s hF with ⟨q_69, hG⟩ | ⟨q_69, hG⟩
  · clear hF
    obtain ⟨v346, H347, z345, hF⟩ := bC_s hG; clear hG
    have gz_70 := ((gX_RunE 50).1 _ _ _ z345 hm.1 q_p0)
    replace hm : Rg Q H H347 := hm.tr gz_70
    have s_71 : Sa H H347 := (s_68).tr ((moX_RunE 50).1 _ _ _ z345)
    exact hm.tr (gB_MRunner_emits_219 q_p0 hF hm.1)
  · clear hF
    exact hm.tr (gB_MRunner_emits_219 q_p0 hG hm.1)
set_option maxRecDepth 20000 in
set_option maxHeartbeats 2000000 in
theorem gB_MRunner_emits_173 {N : Nat} {Q : Nat → Prop} {p0 : Nat} (q_p0 : Q p0) {l1 : Int32} {l2 : Int32} {l3 : Int32} {l4 : Int32} {l5 : Int32} {w0 : Nat} {w1 : Int32} {w2 : Int32} {H : Hp} {r : Unit × Hp} (hF : B_MRunner_emits_173 N p0 l1 l2 l3 l4 l5 w0 w1 w2 H = some r) (hc0 : Cl Q H) (q_w0 : Q w0) : Rg Q H r.2 := by
  unfold B_MRunner_emits_173 at hF
  have hm := Rg.rf hc0
  obtain ⟨q348, hG⟩ := ck_s hF; clear hF
  obtain ⟨H349, eH349, hF⟩ := bnd_g hG; clear hG
  replace hm : Rg Q H H349 := hm.tr (by rw [eH349]; exact Rg.sD hm.1 q_w0)
  have s_72 : Sa H H349 := by rw [eH349]; exact Sa.rf _
  obtain ⟨q350, hG⟩ := ck_s hF; clear hF
  rw [(s_72).1] at q350
  obtain ⟨x351, -, hF⟩ := bnd_g hG; clear hG
  rcases ite_s hF with ⟨q_73, hG⟩ | ⟨q_73, hG⟩
  · clear hF
    obtain ⟨v354, H355, z353, hF⟩ := bC_s hG; clear hG
    have gz_74 := ((gX_RunE 50).1 _ _ _ z353 hm.1 q_p0)
    replace hm : Rg Q H H355 := hm.tr gz_74
    have s_75 : Sa H H355 := (s_72).tr ((moX_RunE 50).1 _ _ _ z353)
    exact hm.tr (gB_MRunner_emits_192 q_p0 hF hm.1)
  · clear hF
    exact hm.tr (gB_MRunner_emits_192 q_p0 hG hm.1)
set_option maxRecDepth 20000 in
set_option maxHeartbeats 2000000 in
theorem gB_MRunner_emits_151 {N : Nat} {Q : Nat → Prop} {p0 : Nat} (q_p0 : Q p0) {l1 : Int32} {l2 : Int32} {l3 : Int32} {l4 : Int32} {l5 : Int32} {H : Hp} {r : Unit × Hp} (hF : B_MRunner_emits_151 N p0 l1 l2 l3 l4 l5 H = some r) (hc0 : Cl Q H) : Rg Q H r.2 := by
  unfold B_MRunner_emits_151 at hF
  have hm := Rg.rf hc0
  obtain ⟨q356, hG⟩ := ck_s hF; clear hF
  obtain ⟨x357, -, hF⟩ := bnd_g hG; clear hG
  obtain ⟨a358, e359, hG⟩ := rf_s hF; clear hF
  have qa358 : Q a358 := hm.1 _ _ _ q_p0 e359
  obtain ⟨q360, hF⟩ := ck_s hG; clear hG
  obtain ⟨a361, e362, hG⟩ := rf_s hF; clear hF
  have qa361 : Q a361 := hm.1 _ _ _ qa358 e362
  obtain ⟨n363, q364, hF⟩ := ar_s hG; clear hG
  obtain ⟨q365, hG⟩ := ck_s hF; clear hF
  obtain ⟨x366, -, hF⟩ := bnd_g hG; clear hG
  rcases ite_s hF with ⟨q_76, hG⟩ | ⟨q_76, hG⟩
  · clear hF
    exact hm.tr (gB_MRunner_emits_173 q_p0 hG hm.1 q_p0)
  · clear hF
    exact hm.tr (gB_MRunner_emits_173 q_p0 hG hm.1 q_p0)
set_option maxRecDepth 20000 in
set_option maxHeartbeats 2000000 in
theorem gB_MRunner_emits_143 {N : Nat} {Q : Nat → Prop} {p0 : Nat} {kq36 : Int32 → Int32 → Int32 → Int32 → Int32 → Int32 → Hp → Option (Unit × Hp)} (q_p0 : Q p0) (hg36 : ∀ (l1 : Int32) (l2 : Int32) (l3 : Int32) (l4 : Int32) (l5 : Int32) (l6 : Int32) (H : Hp) (r : Unit × Hp), kq36 l1 l2 l3 l4 l5 l6 H = some r → Cl Q H → Rg Q H r.2) {l1 : Int32} {l2 : Int32} {l3 : Int32} {l4 : Int32} {l6 : Int32} {w0 : Int32} {H : Hp} {r : Unit × Hp} (hF : B_MRunner_emits_143 N p0 kq36 l1 l2 l3 l4 l6 w0 H = some r) (hc0 : Cl Q H) : Rg Q H r.2 := by
  unfold B_MRunner_emits_143 at hF
  have hm := Rg.rf hc0
  exact hm.tr (hg36 l1 l2 l3 l4 w0 (l6 + 1) H r hF hm.1)
set_option maxRecDepth 20000 in
set_option maxHeartbeats 2000000 in
theorem gB_MRunner_emits_128 {N : Nat} {Q : Nat → Prop} {p0 : Nat} {kq36 : Int32 → Int32 → Int32 → Int32 → Int32 → Int32 → Hp → Option (Unit × Hp)} (q_p0 : Q p0) (hg36 : ∀ (l1 : Int32) (l2 : Int32) (l3 : Int32) (l4 : Int32) (l5 : Int32) (l6 : Int32) (H : Hp) (r : Unit × Hp), kq36 l1 l2 l3 l4 l5 l6 H = some r → Cl Q H → Rg Q H r.2) {l1 : Int32} {l2 : Int32} {l3 : Int32} {l5 : Int32} {l6 : Int32} {l7 : Int32} {w0 : Int32} {H : Hp} {r : Unit × Hp} (hF : B_MRunner_emits_128 N p0 kq36 l1 l2 l3 l5 l6 l7 w0 H = some r) (hc0 : Cl Q H) : Rg Q H r.2 := by
  unfold B_MRunner_emits_128 at hF
  have hm := Rg.rf hc0
  rcases ite_s hF with ⟨q_77, hG⟩ | ⟨q_77, hG⟩
  · clear hF
    exact hm.tr (gB_MRunner_emits_143 q_p0 hg36 hG hm.1)
  · clear hF
    exact hm.tr (gB_MRunner_emits_143 q_p0 hg36 hG hm.1)
set_option maxRecDepth 20000 in
set_option maxHeartbeats 2000000 in
theorem gB_MRunner_emits_114 {N : Nat} {Q : Nat → Prop} {p0 : Nat} {kq36 : Int32 → Int32 → Int32 → Int32 → Int32 → Int32 → Hp → Option (Unit × Hp)} (q_p0 : Q p0) (hg36 : ∀ (l1 : Int32) (l2 : Int32) (l3 : Int32) (l4 : Int32) (l5 : Int32) (l6 : Int32) (H : Hp) (r : Unit × Hp), kq36 l1 l2 l3 l4 l5 l6 H = some r → Cl Q H → Rg Q H r.2) {l1 : Int32} {l2 : Int32} {l4 : Int32} {l5 : Int32} {l6 : Int32} {l7 : Int32} {w0 : Int32} {H : Hp} {r : Unit × Hp} (hF : B_MRunner_emits_114 N p0 kq36 l1 l2 l4 l5 l6 l7 w0 H = some r) (hc0 : Cl Q H) : Rg Q H r.2 := by
  unfold B_MRunner_emits_114 at hF
  have hm := Rg.rf hc0
  rcases ite_s hF with ⟨q_78, hG⟩ | ⟨q_78, hG⟩
  · clear hF
    exact hm.tr (gB_MRunner_emits_128 q_p0 hg36 hG hm.1)
  · clear hF
    exact hm.tr (gB_MRunner_emits_128 q_p0 hg36 hG hm.1)
set_option maxRecDepth 20000 in
set_option maxHeartbeats 2000000 in
theorem gB_MRunner_emits_101 {N : Nat} {Q : Nat → Prop} {p0 : Nat} {kq36 : Int32 → Int32 → Int32 → Int32 → Int32 → Int32 → Hp → Option (Unit × Hp)} (q_p0 : Q p0) (hg36 : ∀ (l1 : Int32) (l2 : Int32) (l3 : Int32) (l4 : Int32) (l5 : Int32) (l6 : Int32) (H : Hp) (r : Unit × Hp), kq36 l1 l2 l3 l4 l5 l6 H = some r → Cl Q H → Rg Q H r.2) {l1 : Int32} {l3 : Int32} {l4 : Int32} {l5 : Int32} {l6 : Int32} {l7 : Int32} {w0 : Int32} {H : Hp} {r : Unit × Hp} (hF : B_MRunner_emits_101 N p0 kq36 l1 l3 l4 l5 l6 l7 w0 H = some r) (hc0 : Cl Q H) : Rg Q H r.2 := by
  unfold B_MRunner_emits_101 at hF
  have hm := Rg.rf hc0
  rcases ite_s hF with ⟨q_79, hG⟩ | ⟨q_79, hG⟩
  · clear hF
    exact hm.tr (gB_MRunner_emits_114 q_p0 hg36 hG hm.1)
  · clear hF
    exact hm.tr (gB_MRunner_emits_114 q_p0 hg36 hG hm.1)
set_option maxRecDepth 20000 in
set_option maxHeartbeats 2000000 in
theorem gB_MRunner_emits_36 {N : Nat} {Q : Nat → Prop} {p0 : Nat} (q_p0 : Q p0) : ∀ (n : Nat) (l1 : Int32) (l2 : Int32) (l3 : Int32) (l4 : Int32) (l5 : Int32) (l6 : Int32) (H : Hp) (r : Unit × Hp), B_MRunner_emits_36 N p0 n l1 l2 l3 l4 l5 l6 H = some r → Cl Q H → Rg Q H r.2 := by
  intro n
  induction n with
  | zero => intro l1 l2 l3 l4 l5 l6 H r hF; rw [B_MRunner_emits_36] at hF; cases hF
  | succ n ih =>
    intro l1 l2 l3 l4 l5 l6 H r hF hc0
    rw [B_MRunner_emits_36] at hF
    have hm := Rg.rf hc0
    obtain ⟨q371, hG⟩ := ck_s hF; clear hF
    obtain ⟨a372, e373, hF⟩ := rf_s hG; clear hG
    have qa372 : Q a372 := hm.1 _ _ _ q_p0 e373
    obtain ⟨q374, hG⟩ := ck_s hF; clear hF
    obtain ⟨a375, e376, hF⟩ := rf_s hG; clear hG
    have qa375 : Q a375 := hm.1 _ _ _ qa372 e376
    obtain ⟨n377, q378, hG⟩ := ar_s hF; clear hF
    obtain ⟨q379, hF⟩ := ck_s hG; clear hG
    obtain ⟨x380, -, hG⟩ := bnd_g hF; clear hF
    rcases ite_s hG with ⟨q_80, hF⟩ | ⟨q_80, hF⟩
    · clear hG
      exact hm.tr (gB_MRunner_emits_151 q_p0 hF hm.1)
    · clear hG
      obtain ⟨x382, -, hG⟩ := bnd_g hF; clear hF
      rcases ite_s hG with ⟨q_81, hF⟩ | ⟨q_81, hF⟩
      · clear hG
        obtain ⟨a384, e385, hG⟩ := rf_s hF; clear hF
        have qa384 : Q a384 := hm.1 _ _ _ q_p0 e385
        obtain ⟨q386, hF⟩ := ck_s hG; clear hG
        obtain ⟨a387, e388, hG⟩ := rf_s hF; clear hF
        have qa387 : Q a387 := hm.1 _ _ _ qa384 e388
        obtain ⟨n389, q390, hF⟩ := ar_s hG; clear hG
        obtain ⟨q391, hG⟩ := ck_s hF; clear hF
        obtain ⟨x392, -, hF⟩ := bnd_g hG; clear hG
        obtain ⟨v394, H395, z393, hG⟩ := bC_s hF; clear hF
        have gz_82 := ((gX_RunE 50).1 _ _ _ z393 hm.1 q_p0)
        replace hm : Rg Q H H395 := hm.tr gz_82
        have s_83 : Sa H H395 := ((moX_RunE 50).1 _ _ _ z393)
        obtain ⟨v397, H398, z396, hF⟩ := bC_s hG; clear hG
        have gz_84 := (g_MRunner_given z396 hm.1)
        replace hm : Rg Q H H398 := hm.tr gz_84
        have s_85 : Sa H H398 := (s_83).tr (m_MRunner_given z396)
        obtain ⟨x399, -, hG⟩ := bnd_g hF; clear hF
        obtain ⟨H400, eH400, hF⟩ := bnd_g hG; clear hG
        replace hm : Rg Q H H400 := hm.tr (by rw [eH400]; exact Rg.sD hm.1 q_p0)
        have s_86 : Sa H H400 := by rw [eH400]; exact s_85
        rcases ite_s hF with ⟨q_87, hG⟩ | ⟨q_87, hG⟩
        · clear hF
          exact hm.tr (gB_MRunner_emits_101 q_p0 ih hG hm.1)
        · clear hF
          exact hm.tr (gB_MRunner_emits_101 q_p0 ih hG hm.1)
      · clear hG
        exact hm.tr (gB_MRunner_emits_151 q_p0 hF hm.1)
set_option maxRecDepth 20000 in
set_option maxHeartbeats 2000000 in
theorem g_MRunner_emits {N : Nat} {Q : Nat → Prop} {p0 : Nat} {H : Hp} {r : Unit × Hp} (hF : F_MRunner_emits N p0 H = some r) (hc0 : Cl Q H) (q_p0 : Q p0) : Rg Q H r.2 := by
  unfold F_MRunner_emits at hF
  have hm := Rg.rf hc0
  obtain ⟨q402, hG⟩ := ck_s hF; clear hF
  obtain ⟨a403, e404, hF⟩ := rf_s hG; clear hG
  have qa403 : Q a403 := hm.1 _ _ _ q_p0 e404
  obtain ⟨q405, hG⟩ := ck_s hF; clear hF
  obtain ⟨a406, e407, hF⟩ := rf_s hG; clear hG
  have qa406 : Q a406 := hm.1 _ _ _ qa403 e407
  obtain ⟨x408, -, hG⟩ := bnd_g hF; clear hF
  obtain ⟨n409, q410, hF⟩ := ar_s hG; clear hG
  obtain ⟨q411, hG⟩ := ck_s hF; clear hF
  obtain ⟨x412, -, hF⟩ := bnd_g hG; clear hG
  obtain ⟨x413, -, hG⟩ := bnd_g hF; clear hF
  obtain ⟨H414, eH414, hF⟩ := bnd_g hG; clear hG
  replace hm : Rg Q H H414 := hm.tr (by rw [eH414]; exact Rg.sD hm.1 q_p0)
  have s_88 : Sa H H414 := by rw [eH414]; exact Sa.rf _
  exact hm.tr (gB_MRunner_emits_36 q_p0 N x412 0 0 0 0 0 H414 r hF hm.1)
