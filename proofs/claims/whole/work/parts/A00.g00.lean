set_option maxRecDepth 20000 in
set_option maxHeartbeats 2000000 in
theorem g_Str_coder {N : Nat} {Q : Nat → Prop} {p0 : Nat} {H : Hp} {r : Int32 × Hp} (hF : F_Str_coder N p0 H = some r) (hc0 : Cl Q H) (q_p0 : Q p0) : Rg Q H r.2 := by
  unfold F_Str_coder at hF
  have hm := Rg.rf hc0
  rcases ite_s hF with ⟨q_2, hG⟩ | ⟨q_2, hG⟩
  · clear hF
    have hr := Option.some.inj hG; subst hr
    exact hm
  · clear hF
    obtain ⟨q10, hF⟩ := ck_s hG; clear hG
    obtain ⟨x11, -, hG⟩ := bnd_g hF; clear hF
    obtain ⟨q12, hF⟩ := ck_s hG; clear hG
    have hr := Option.some.inj hF; subst hr
    exact hm
set_option maxRecDepth 20000 in
set_option maxHeartbeats 2000000 in
theorem g_Str_length {N : Nat} {Q : Nat → Prop} {p0 : Nat} {H : Hp} {r : Int32 × Hp} (hF : F_Str_length N p0 H = some r) (hc0 : Cl Q H) (q_p0 : Q p0) : Rg Q H r.2 := by
  unfold F_Str_length at hF
  have hm := Rg.rf hc0
  obtain ⟨q17, hG⟩ := ck_s hF; clear hF
  obtain ⟨a18, e19, hF⟩ := rf_s hG; clear hG
  have qa18 : Q a18 := hm.1 _ _ _ q_p0 e19
  obtain ⟨n20, q21, hG⟩ := ar_s hF; clear hF
  obtain ⟨v23, H24, z22, hF⟩ := bC_s hG; clear hG
  have gz_3 := (g_Str_coder z22 hm.1 q_p0)
  replace hm : Rg Q H H24 := hm.tr gz_3
  have s_4 : Sa H H24 := (m_Str_coder z22)
  have hr := Option.some.inj hF; subst hr
  exact hm
set_option maxRecDepth 20000 in
set_option maxHeartbeats 2000000 in
theorem g_Str_isLatin1 {N : Nat} {Q : Nat → Prop} {p0 : Nat} {H : Hp} {r : Int32 × Hp} (hF : F_Str_isLatin1 N p0 H = some r) (hc0 : Cl Q H) (q_p0 : Q p0) : Rg Q H r.2 := by
  unfold F_Str_isLatin1 at hF
  have hm := Rg.rf hc0
  rcases ite_s hF with ⟨q_3, hG⟩ | ⟨q_3, hG⟩
  · clear hF
    have hr := Option.some.inj hG; subst hr
    exact hm
  · clear hF
    obtain ⟨q10, hF⟩ := ck_s hG; clear hG
    obtain ⟨x11, -, hG⟩ := bnd_g hF; clear hF
    rcases ite_s hG with ⟨q_4, hF⟩ | ⟨q_4, hF⟩
    · clear hG
      have hr := Option.some.inj hF; subst hr
      exact hm
    · clear hG
      have hr := Option.some.inj hF; subst hr
      exact hm
theorem g_Pre_checkIndex {N : Nat} {Q : Nat → Prop} {i n : Int32} {H : Hp} {r : Int32 × Hp} (hF : F_Pre_checkIndex N i n H = some r) (hc0 : Cl Q H) : Rg Q H r.2 := by
  obtain ⟨-, hF⟩ := ck_s hF
  obtain ⟨-, hF⟩ := ck_s hF
  cases hF
  exact Rg.rf hc0
set_option maxRecDepth 20000 in
set_option maxHeartbeats 2000000 in
theorem g_Str_checkIndex {N : Nat} {Q : Nat → Prop} {p0 : Int32} {p1 : Int32} {H : Hp} {r : Unit × Hp} (hF : F_Str_checkIndex N p0 p1 H = some r) (hc0 : Cl Q H) : Rg Q H r.2 := by
  unfold F_Str_checkIndex at hF
  have hm := Rg.rf hc0
  obtain ⟨v11, H12, z10, hG⟩ := bC_s hF; clear hF
  have gz_3 := (g_Pre_checkIndex z10 hm.1)
  replace hm : Rg Q H H12 := hm.tr gz_3
  have s_4 : Sa H H12 := (m_Pre_checkIndex z10)
  have hr := Option.some.inj hG; subst hr
  exact hm
set_option maxRecDepth 20000 in
set_option maxHeartbeats 2000000 in
theorem g_SL_charAt {N : Nat} {Q : Nat → Prop} {p0 : Nat} {p1 : Int32} {H : Hp} {r : Int32 × Hp} (hF : F_SL_charAt N p0 p1 H = some r) (hc0 : Cl Q H) (q_p0 : Q p0) : Rg Q H r.2 := by
  unfold F_SL_charAt at hF
  have hm := Rg.rf hc0
  obtain ⟨n19, q20, hG⟩ := ar_s hF; clear hF
  obtain ⟨v22, H23, z21, hF⟩ := bC_s hG; clear hG
  have gz_3 := (g_Str_checkIndex z21 hm.1)
  replace hm : Rg Q H H23 := hm.tr gz_3
  have s_4 : Sa H H23 := (m_Str_checkIndex z21)
  obtain ⟨q24, hG⟩ := ck_s hF; clear hF
  obtain ⟨x25, -, hF⟩ := bnd_g hG; clear hG
  obtain ⟨x26, -, hG⟩ := bnd_g hF; clear hF
  obtain ⟨q27, hF⟩ := ck_s hG; clear hG
  have hr := Option.some.inj hF; subst hr
  exact hm
set_option maxRecDepth 20000 in
set_option maxHeartbeats 2000000 in
theorem g_Str_charAt {N : Nat} {Q : Nat → Prop} {p0 : Nat} {p1 : Int32} {H : Hp} {r : Int32 × Hp} (hF : F_Str_charAt N p0 p1 H = some r) (hc0 : Cl Q H) (q_p0 : Q p0) : Rg Q H r.2 := by
  unfold F_Str_charAt at hF
  have hm := Rg.rf hc0
  obtain ⟨q27, hG⟩ := ck_s hF; clear hF
  obtain ⟨v29, H30, z28, hF⟩ := bC_s hG; clear hG
  have gz_6 := (g_Str_isLatin1 z28 hm.1 q_p0)
  replace hm : Rg Q H H30 := hm.tr gz_6
  have s_7 : Sa H H30 := (m_Str_isLatin1 z28)
  rcases ite_s hF with ⟨q_8, hG⟩ | ⟨q_8, hG⟩
  · clear hF
    obtain ⟨a32, e33, hF⟩ := rf_s hG; clear hG
    have qa32 : Q a32 := hm.1 _ _ _ q_p0 e33
    cases hF
  · clear hF
    obtain ⟨a34, e35, hF⟩ := rf_s hG; clear hG
    have qa34 : Q a34 := hm.1 _ _ _ q_p0 e35
    obtain ⟨v37, H38, z36, hG⟩ := bC_s hF; clear hF
    have gz_9 := (g_SL_charAt z36 hm.1 qa34)
    replace hm : Rg Q H H38 := hm.tr gz_9
    have s_10 : Sa H H38 := (s_7).tr (m_SL_charAt z36)
    obtain ⟨q39, hF⟩ := ck_s hG; clear hG
    have hr := Option.some.inj hF; subst hr
    exact hm
set_option maxRecDepth 20000 in
set_option maxHeartbeats 2000000 in
theorem gB_Arr_fill_5 {N : Nat} {Q : Nat → Prop} {p0 : Nat} {p1 : Int32} (q_p0 : Q p0) : ∀ (n : Nat) (l2 : Int32) (l3 : Int32) (H : Hp) (r : Unit × Hp), B_Arr_fill_5 N p0 p1 n l2 l3 H = some r → Cl Q H → Rg Q H r.2 := by
  intro n
  induction n with
  | zero => intro l2 l3 H r hF; rw [B_Arr_fill_5] at hF; cases hF
  | succ n ih =>
    intro l2 l3 H r hF hc0
    rw [B_Arr_fill_5] at hF
    have hm := Rg.rf hc0
    rcases ite_s hF with ⟨q_4, hG⟩ | ⟨q_4, hG⟩
    · clear hF
      have hr := Option.some.inj hG; subst hr
      exact hm
    · clear hF
      obtain ⟨n18, q19, hF⟩ := ar_s hG; clear hG
      obtain ⟨q20, hG⟩ := ck_s hF; clear hF
      obtain ⟨H21, eH21, hF⟩ := bnd_g hG; clear hG
      replace hm : Rg Q H H21 := hm.tr (by rw [eH21]; exact Rg.sD hm.1 q_p0)
      have s_5 : Sa H H21 := by rw [eH21]; exact Sa.rf _
      exact hm.tr (ih (l2 + 1) l3 H21 r hF hm.1)
set_option maxRecDepth 20000 in
set_option maxHeartbeats 2000000 in
theorem g_Arr_fill {N : Nat} {Q : Nat → Prop} {p0 : Nat} {p1 : Int32} {H : Hp} {r : Unit × Hp} (hF : F_Arr_fill N p0 p1 H = some r) (hc0 : Cl Q H) (q_p0 : Q p0) : Rg Q H r.2 := by
  unfold F_Arr_fill at hF
  have hm := Rg.rf hc0
  obtain ⟨n22, q23, hG⟩ := ar_s hF; clear hF
  obtain ⟨x24, -, hF⟩ := bnd_g hG; clear hG
  exact hm.tr (gB_Arr_fill_5 q_p0 N 0 x24 H r hF hm.1)
set_option maxRecDepth 20000 in
set_option maxHeartbeats 2000000 in
theorem g_Math_max {N : Nat} {Q : Nat → Prop} {p0 : Int32} {p1 : Int32} {H : Hp} {r : Int32 × Hp} (hF : F_Math_max N p0 p1 H = some r) (hc0 : Cl Q H) : Rg Q H r.2 := by
  unfold F_Math_max at hF
  have hm := Rg.rf hc0
  rcases ite_s hF with ⟨q_2, hG⟩ | ⟨q_2, hG⟩
  · clear hF
    have hr := Option.some.inj hG; subst hr
    exact hm
  · clear hF
    have hr := Option.some.inj hG; subst hr
    exact hm
set_option maxRecDepth 20000 in
set_option maxHeartbeats 2000000 in
theorem g_Math_min {N : Nat} {Q : Nat → Prop} {p0 : Int32} {p1 : Int32} {H : Hp} {r : Int32 × Hp} (hF : F_Math_min N p0 p1 H = some r) (hc0 : Cl Q H) : Rg Q H r.2 := by
  unfold F_Math_min at hF
  have hm := Rg.rf hc0
  rcases ite_s hF with ⟨q_2, hG⟩ | ⟨q_2, hG⟩
  · clear hF
    have hr := Option.some.inj hG; subst hr
    exact hm
  · clear hF
    have hr := Option.some.inj hG; subst hr
    exact hm
set_option maxRecDepth 20000 in
set_option maxHeartbeats 2000000 in
theorem g_Lexer_hasRoom {N : Nat} {Q : Nat → Prop} {p0 : Nat} {p1 : Int32} {H : Hp} {r : Int32 × Hp} (hF : F_Lexer_hasRoom N p0 p1 H = some r) (hc0 : Cl Q H) (q_p0 : Q p0) : Rg Q H r.2 := by
  unfold F_Lexer_hasRoom at hF
  have hm := Rg.rf hc0
  obtain ⟨q7, hG⟩ := ck_s hF; clear hF
  obtain ⟨x8, -, hF⟩ := bnd_g hG; clear hG
  rcases ite_s hF with ⟨q_2, hG⟩ | ⟨q_2, hG⟩
  · clear hF
    have hr := Option.some.inj hG; subst hr
    exact hm
  · clear hF
    have hr := Option.some.inj hG; subst hr
    exact hm
set_option maxRecDepth 20000 in
set_option maxHeartbeats 2000000 in
theorem gB_Lexer_addInt_40 {N : Nat} {Q : Nat → Prop} {p0 : Nat} {p1 : Int32} {kq3 : Int32 → Hp → Option (Unit × Hp)} (q_p0 : Q p0) (hg3 : ∀ (l2 : Int32) (H : Hp) (r : Unit × Hp), kq3 l2 H = some r → Cl Q H → Rg Q H r.2) {l2 : Int32} {H : Hp} {r : Unit × Hp} (hF : B_Lexer_addInt_40 N p0 p1 kq3 l2 H = some r) (hc0 : Cl Q H) : Rg Q H r.2 := by
  unfold B_Lexer_addInt_40 at hF
  have hm := Rg.rf hc0
  exact hm.tr (hg3 (l2 + (-8)) H r hF hm.1)
set_option maxRecDepth 20000 in
set_option maxHeartbeats 2000000 in
theorem gB_Lexer_addInt_3 {N : Nat} {Q : Nat → Prop} {p0 : Nat} {p1 : Int32} (q_p0 : Q p0) : ∀ (n : Nat) (l2 : Int32) (H : Hp) (r : Unit × Hp), B_Lexer_addInt_3 N p0 p1 n l2 H = some r → Cl Q H → Rg Q H r.2 := by
  intro n
  induction n with
  | zero => intro l2 H r hF; rw [B_Lexer_addInt_3] at hF; cases hF
  | succ n ih =>
    intro l2 H r hF hc0
    rw [B_Lexer_addInt_3] at hF
    have hm := Rg.rf hc0
    rcases ite_s hF with ⟨q_7, hG⟩ | ⟨q_7, hG⟩
    · clear hF
      have hr := Option.some.inj hG; subst hr
      exact hm
    · clear hF
      obtain ⟨q28, hF⟩ := ck_s hG; clear hG
      obtain ⟨x29, -, hG⟩ := bnd_g hF; clear hF
      rcases ite_s hG with ⟨q_8, hF⟩ | ⟨q_8, hF⟩
      · clear hG
        exact hm.tr (gB_Lexer_addInt_40 q_p0 ih hF hm.1)
      · clear hG
        obtain ⟨a31, e32, hG⟩ := rf_s hF; clear hF
        have qa31 : Q a31 := hm.1 _ _ _ q_p0 e32
        obtain ⟨x33, -, hF⟩ := bnd_g hG; clear hG
        obtain ⟨n34, q35, hG⟩ := ar_s hF; clear hF
        obtain ⟨q36, hF⟩ := ck_s hG; clear hG
        obtain ⟨H37, eH37, hG⟩ := bnd_g hF; clear hF
        replace hm : Rg Q H H37 := hm.tr (by rw [eH37]; exact Rg.sD hm.1 qa31)
        have s_9 : Sa H H37 := by rw [eH37]; exact Sa.rf _
        obtain ⟨x38, -, hF⟩ := bnd_g hG; clear hG
        obtain ⟨H39, eH39, hG⟩ := bnd_g hF; clear hF
        replace hm : Rg Q H H39 := hm.tr (by rw [eH39]; exact Rg.sD hm.1 q_p0)
        have s_10 : Sa H H39 := by rw [eH39]; exact s_9
        exact hm.tr (gB_Lexer_addInt_40 q_p0 ih hG hm.1)
set_option maxRecDepth 20000 in
set_option maxHeartbeats 2000000 in
theorem g_Lexer_addInt {N : Nat} {Q : Nat → Prop} {p0 : Nat} {p1 : Int32} {H : Hp} {r : Unit × Hp} (hF : F_Lexer_addInt N p0 p1 H = some r) (hc0 : Cl Q H) (q_p0 : Q p0) : Rg Q H r.2 := by
  unfold F_Lexer_addInt at hF
  have hm := Rg.rf hc0
  exact hm.tr (gB_Lexer_addInt_3 q_p0 N 24 H r hF hm.1)
set_option maxRecDepth 20000 in
set_option maxHeartbeats 2000000 in
theorem g_W_feed {N : Nat} {Q : Nat → Prop} {p0 : Nat} {p1 : Int32} {p2 : Int32} {p3 : Int32} {p4 : Int32} {p5 : Int32} {H : Hp} {r : Int32 × Hp} (hF : F_W_feed N p0 p1 p2 p3 p4 p5 H = some r) (hc0 : Cl Q H) (q_p0 : Q p0) : Rg Q H r.2 := by
  unfold F_W_feed at hF
  have hm := Rg.rf hc0
  obtain ⟨q77, hG⟩ := ck_s hF; clear hF
  obtain ⟨a78, e79, hF⟩ := rf_s hG; clear hG
  have qa78 : Q a78 := hm.1 _ _ _ q_p0 e79
  obtain ⟨q80, hG⟩ := ck_s hF; clear hF
  obtain ⟨v82, H83, z81, hF⟩ := bC_s hG; clear hG
  have gz_14 := (g_Lexer_hasRoom z81 hm.1 qa78)
  replace hm : Rg Q H H83 := hm.tr gz_14
  have s_15 : Sa H H83 := (m_Lexer_hasRoom z81)
  rcases ite_s hF with ⟨q_16, hG⟩ | ⟨q_16, hG⟩
  · clear hF
    have hr := Option.some.inj hG; subst hr
    exact hm
  · clear hF
    obtain ⟨a85, e86, hF⟩ := rf_s hG; clear hG
    have qa85 : Q a85 := hm.1 _ _ _ q_p0 e86
    obtain ⟨q87, hG⟩ := ck_s hF; clear hF
    rw [(s_15).1] at q87
    obtain ⟨v89, H90, z88, hF⟩ := bC_s hG; clear hG
    have gz_17 := (g_Lexer_addInt z88 hm.1 qa85)
    replace hm : Rg Q H H90 := hm.tr gz_17
    have s_18 : Sa H H90 := (s_15).tr (m_Lexer_addInt z88)
    obtain ⟨a91, e92, hG⟩ := rf_s hF; clear hF
    have qa91 : Q a91 := hm.1 _ _ _ q_p0 e92
    obtain ⟨q93, hF⟩ := ck_s hG; clear hG
    rw [(s_18).1] at q93
    obtain ⟨v95, H96, z94, hG⟩ := bC_s hF; clear hF
    have gz_19 := (g_Lexer_addInt z94 hm.1 qa91)
    replace hm : Rg Q H H96 := hm.tr gz_19
    have s_20 : Sa H H96 := (s_18).tr (m_Lexer_addInt z94)
    obtain ⟨a97, e98, hF⟩ := rf_s hG; clear hG
    have qa97 : Q a97 := hm.1 _ _ _ q_p0 e98
    obtain ⟨q99, hG⟩ := ck_s hF; clear hF
    rw [(s_20).1] at q99
    obtain ⟨v101, H102, z100, hF⟩ := bC_s hG; clear hG
    have gz_21 := (g_Lexer_addInt z100 hm.1 qa97)
    replace hm : Rg Q H H102 := hm.tr gz_21
    have s_22 : Sa H H102 := (s_20).tr (m_Lexer_addInt z100)
    obtain ⟨a103, e104, hG⟩ := rf_s hF; clear hF
    have qa103 : Q a103 := hm.1 _ _ _ q_p0 e104
    obtain ⟨q105, hF⟩ := ck_s hG; clear hG
    rw [(s_22).1] at q105
    obtain ⟨v107, H108, z106, hG⟩ := bC_s hF; clear hF
    have gz_23 := (g_Lexer_addInt z106 hm.1 qa103)
    replace hm : Rg Q H H108 := hm.tr gz_23
    have s_24 : Sa H H108 := (s_22).tr (m_Lexer_addInt z106)
    obtain ⟨a109, e110, hF⟩ := rf_s hG; clear hG
    have qa109 : Q a109 := hm.1 _ _ _ q_p0 e110
    obtain ⟨q111, hG⟩ := ck_s hF; clear hF
    rw [(s_24).1] at q111
    obtain ⟨v113, H114, z112, hF⟩ := bC_s hG; clear hG
    have gz_25 := (g_Lexer_addInt z112 hm.1 qa109)
    replace hm : Rg Q H H114 := hm.tr gz_25
    have s_26 : Sa H H114 := (s_24).tr (m_Lexer_addInt z112)
    have hr := Option.some.inj hF; subst hr
    exact hm
set_option maxRecDepth 20000 in
set_option maxHeartbeats 2000000 in
theorem g_W_end {N : Nat} {Q : Nat → Prop} {p0 : Nat} {p1 : Int32} {H : Hp} {r : Int32 × Hp} (hF : F_W_end N p0 p1 H = some r) (hc0 : Cl Q H) (q_p0 : Q p0) : Rg Q H r.2 := by
  unfold F_W_end at hF
  have hm := Rg.rf hc0
  rcases ite_s hF with ⟨q_5, hG⟩ | ⟨q_5, hG⟩
  · clear hF
    have hr := Option.some.inj hG; subst hr
    exact hm
  · clear hF
    obtain ⟨q24, hF⟩ := ck_s hG; clear hG
    obtain ⟨a25, e26, hG⟩ := rf_s hF; clear hF
    have qa25 : Q a25 := hm.1 _ _ _ q_p0 e26
    obtain ⟨q27, hF⟩ := ck_s hG; clear hG
    obtain ⟨x28, -, hG⟩ := bnd_g hF; clear hF
    rcases ite_s hG with ⟨q_6, hF⟩ | ⟨q_6, hF⟩
    · clear hG
      obtain ⟨a30, e31, hG⟩ := rf_s hF; clear hF
      have qa30 : Q a30 := hm.1 _ _ _ q_p0 e31
      obtain ⟨q32, hF⟩ := ck_s hG; clear hG
      obtain ⟨H33, eH33, hG⟩ := bnd_g hF; clear hF
      replace hm : Rg Q H H33 := hm.tr (by rw [eH33]; exact Rg.sD hm.1 qa30)
      have s_7 : Sa H H33 := by rw [eH33]; exact Sa.rf _
      have hr := Option.some.inj hG; subst hr
      exact hm
    · clear hG
      have hr := Option.some.inj hF; subst hr
      exact hm
set_option maxRecDepth 20000 in
set_option maxHeartbeats 2000000 in
theorem g_Shapes_clear {N : Nat} {Q : Nat → Prop} {p0 : Nat} {H : Hp} {r : Unit × Hp} (hF : F_Shapes_clear N p0 H = some r) (hc0 : Cl Q H) (q_p0 : Q p0) : Rg Q H r.2 := by
  unfold F_Shapes_clear at hF
  have hm := Rg.rf hc0
  obtain ⟨q17, hG⟩ := ck_s hF; clear hF
  obtain ⟨H18, eH18, hF⟩ := bnd_g hG; clear hG
  replace hm : Rg Q H H18 := hm.tr (by rw [eH18]; exact Rg.sD hm.1 q_p0)
  have s_5 : Sa H H18 := by rw [eH18]; exact Sa.rf _
  obtain ⟨a19, e20, hG⟩ := rf_s hF; clear hF
  have qa19 : Q a19 := hm.1 _ _ _ q_p0 e20
  obtain ⟨n21, q22, hF⟩ := ar_s hG; clear hG
  rw [(s_5).1] at q22
  obtain ⟨q23, hG⟩ := ck_s hF; clear hF
  obtain ⟨H24, eH24, hF⟩ := bnd_g hG; clear hG
  replace hm : Rg Q H H24 := hm.tr (by rw [eH24]; exact Rg.sD hm.1 qa19)
  have s_6 : Sa H H24 := by rw [eH24]; exact s_5
  have hr := Option.some.inj hF; subst hr
  exact hm
set_option maxRecDepth 20000 in
set_option maxHeartbeats 2000000 in
theorem g_Program_clear {N : Nat} {Q : Nat → Prop} {p0 : Nat} {H : Hp} {r : Unit × Hp} (hF : F_Program_clear N p0 H = some r) (hc0 : Cl Q H) (q_p0 : Q p0) : Rg Q H r.2 := by
  unfold F_Program_clear at hF
  have hm := Rg.rf hc0
  obtain ⟨q37, hG⟩ := ck_s hF; clear hF
  obtain ⟨H38, eH38, hF⟩ := bnd_g hG; clear hG
  replace hm : Rg Q H H38 := hm.tr (by rw [eH38]; exact Rg.sD hm.1 q_p0)
  have s_15 : Sa H H38 := by rw [eH38]; exact Sa.rf _
  obtain ⟨a39, e40, hG⟩ := rf_s hF; clear hF
  have qa39 : Q a39 := hm.1 _ _ _ q_p0 e40
  obtain ⟨q41, hF⟩ := ck_s hG; clear hG
  rw [(s_15).1] at q41
  obtain ⟨v43, H44, z42, hG⟩ := bC_s hF; clear hF
  have gz_16 := (g_Shapes_clear z42 hm.1 qa39)
  replace hm : Rg Q H H44 := hm.tr gz_16
  have s_17 : Sa H H44 := (s_15).tr (m_Shapes_clear z42)
  obtain ⟨a45, e46, hF⟩ := rf_s hG; clear hG
  have qa45 : Q a45 := hm.1 _ _ _ q_p0 e46
  obtain ⟨q47, hG⟩ := ck_s hF; clear hF
  rw [(s_17).1] at q47
  obtain ⟨v49, H50, z48, hF⟩ := bC_s hG; clear hG
  have gz_18 := (g_Shapes_clear z48 hm.1 qa45)
  replace hm : Rg Q H H50 := hm.tr gz_18
  have s_19 : Sa H H50 := (s_17).tr (m_Shapes_clear z48)
  obtain ⟨H51, eH51, hG⟩ := bnd_g hF; clear hF
  replace hm : Rg Q H H51 := hm.tr (by rw [eH51]; exact Rg.sD hm.1 q_p0)
  have s_20 : Sa H H51 := by rw [eH51]; exact s_19
  obtain ⟨H52, eH52, hF⟩ := bnd_g hG; clear hG
  replace hm : Rg Q H H52 := hm.tr (by rw [eH52]; exact Rg.sD hm.1 q_p0)
  have s_21 : Sa H H52 := by rw [eH52]; exact s_20
  obtain ⟨H53, eH53, hG⟩ := bnd_g hF; clear hF
  replace hm : Rg Q H H53 := hm.tr (by rw [eH53]; exact Rg.sD hm.1 q_p0)
  have s_22 : Sa H H53 := by rw [eH53]; exact s_21
  obtain ⟨H54, eH54, hF⟩ := bnd_g hG; clear hG
  replace hm : Rg Q H H54 := hm.tr (by rw [eH54]; exact Rg.sD hm.1 q_p0)
  have s_23 : Sa H H54 := by rw [eH54]; exact s_22
  have hr := Option.some.inj hF; subst hr
  exact hm
set_option maxRecDepth 20000 in
set_option maxHeartbeats 2000000 in
theorem g_Lexer_byteAt {N : Nat} {Q : Nat → Prop} {p0 : Nat} {p1 : Int32} {H : Hp} {r : Int32 × Hp} (hF : F_Lexer_byteAt N p0 p1 H = some r) (hc0 : Cl Q H) (q_p0 : Q p0) : Rg Q H r.2 := by
  unfold F_Lexer_byteAt at hF
  have hm := Rg.rf hc0
  obtain ⟨q19, hG⟩ := ck_s hF; clear hF
  obtain ⟨x20, -, hF⟩ := bnd_g hG; clear hG
  rcases ite_s hF with ⟨q_2, hG⟩ | ⟨q_2, hG⟩
  · clear hF
    have hr := Option.some.inj hG; subst hr
    exact hm
  · clear hF
    obtain ⟨a22, e23, hF⟩ := rf_s hG; clear hG
    have qa22 : Q a22 := hm.1 _ _ _ q_p0 e23
    obtain ⟨n24, q25, hG⟩ := ar_s hF; clear hF
    obtain ⟨q26, hF⟩ := ck_s hG; clear hG
    obtain ⟨x27, -, hG⟩ := bnd_g hF; clear hF
    have hr := Option.some.inj hG; subst hr
    exact hm
set_option maxRecDepth 20000 in
set_option maxHeartbeats 2000000 in
theorem gB_Lexer_behindBlanks_70 {N : Nat} {Q : Nat → Prop} {p0 : Nat} {p1 : Int32} {kq4 : Int32 → Int32 → Hp → Option (Int32 × Hp)} (q_p0 : Q p0) (hg4 : ∀ (l2 : Int32) (l3 : Int32) (H : Hp) (r : Int32 × Hp), kq4 l2 l3 H = some r → Cl Q H → Rg Q H r.2) {l2 : Int32} {l3 : Int32} {H : Hp} {r : Int32 × Hp} (hF : B_Lexer_behindBlanks_70 N p0 p1 kq4 l2 l3 H = some r) (hc0 : Cl Q H) : Rg Q H r.2 := by
  unfold B_Lexer_behindBlanks_70 at hF
  have hm := Rg.rf hc0
  exact hm.tr (hg4 l2 (l3 + 1) H r hF hm.1)
set_option maxRecDepth 20000 in
set_option maxHeartbeats 2000000 in
theorem gB_Lexer_behindBlanks_4 {N : Nat} {Q : Nat → Prop} {p0 : Nat} {p1 : Int32} (q_p0 : Q p0) : ∀ (n : Nat) (l2 : Int32) (l3 : Int32) (H : Hp) (r : Int32 × Hp), B_Lexer_behindBlanks_4 N p0 p1 n l2 l3 H = some r → Cl Q H → Rg Q H r.2 := by
  intro n
  induction n with
  | zero => intro l2 l3 H r hF; rw [B_Lexer_behindBlanks_4] at hF; cases hF
  | succ n ih =>
    intro l2 l3 H r hF hc0
    rw [B_Lexer_behindBlanks_4] at hF
    have hm := Rg.rf hc0
    obtain ⟨q27, hG⟩ := ck_s hF; clear hF
    obtain ⟨x28, -, hF⟩ := bnd_g hG; clear hG
    rcases ite_s hF with ⟨q_10, hG⟩ | ⟨q_10, hG⟩
    · clear hF
      obtain ⟨x30, -, hF⟩ := bnd_g hG; clear hG
      have hr := Option.some.inj hF; subst hr
      exact hm
    · clear hF
      obtain ⟨v32, H33, z31, hF⟩ := bC_s hG; clear hG
      have gz_11 := (g_Lexer_byteAt z31 hm.1 q_p0)
      replace hm : Rg Q H H33 := hm.tr gz_11
      have s_12 : Sa H H33 := (m_Lexer_byteAt z31)
      rcases ite_s hF with ⟨q_13, hG⟩ | ⟨q_13, hG⟩
      · clear hF
        exact hm.tr (gB_Lexer_behindBlanks_70 q_p0 ih hG hm.1)
      · clear hF
        rcases ite_s hG with ⟨q_14, hF⟩ | ⟨q_14, hF⟩
        · clear hG
          exact hm.tr (gB_Lexer_behindBlanks_70 q_p0 ih hF hm.1)
        · clear hG
          rcases ite_s hF with ⟨q_15, hG⟩ | ⟨q_15, hG⟩
          · clear hF
            rcases ite_s hG with ⟨q_16, hF⟩ | ⟨q_16, hF⟩
            · clear hG
              exact hm.tr (gB_Lexer_behindBlanks_70 q_p0 ih hF hm.1)
            · clear hG
              rcases ite_s hF with ⟨q_17, hG⟩ | ⟨q_17, hG⟩
              · clear hF
                exact hm.tr (gB_Lexer_behindBlanks_70 q_p0 ih hG hm.1)
              · clear hF
                rcases ite_s hG with ⟨q_18, hF⟩ | ⟨q_18, hF⟩
                · clear hG
                  exact hm.tr (gB_Lexer_behindBlanks_70 q_p0 ih hF hm.1)
                · clear hG
                  have hr := Option.some.inj hF; subst hr
                  exact hm
          · clear hF
            exact hm.tr (gB_Lexer_behindBlanks_70 q_p0 ih hG hm.1)
set_option maxRecDepth 20000 in
set_option maxHeartbeats 2000000 in
theorem g_Lexer_behindBlanks {N : Nat} {Q : Nat → Prop} {p0 : Nat} {p1 : Int32} {H : Hp} {r : Int32 × Hp} (hF : F_Lexer_behindBlanks N p0 p1 H = some r) (hc0 : Cl Q H) (q_p0 : Q p0) : Rg Q H r.2 := by
  unfold F_Lexer_behindBlanks at hF
  have hm := Rg.rf hc0
  exact hm.tr (gB_Lexer_behindBlanks_4 q_p0 N 0 p1 H r hF hm.1)
set_option maxRecDepth 20000 in
set_option maxHeartbeats 2000000 in
theorem gB_Lexer_isLetter_24 {N : Nat} {Q : Nat → Prop} {p0 : Int32}  {H : Hp} {r : Int32 × Hp} (hF : B_Lexer_isLetter_24 N p0  H = some r) (hc0 : Cl Q H) : Rg Q H r.2 := by
  unfold B_Lexer_isLetter_24 at hF
  have hm := Rg.rf hc0
  have hr := Option.some.inj hF; subst hr
  exact hm
set_option maxRecDepth 20000 in
set_option maxHeartbeats 2000000 in
theorem gB_Lexer_isLetter_12 {N : Nat} {Q : Nat → Prop} {p0 : Int32}  {H : Hp} {r : Int32 × Hp} (hF : B_Lexer_isLetter_12 N p0  H = some r) (hc0 : Cl Q H) : Rg Q H r.2 := by
  unfold B_Lexer_isLetter_12 at hF
  have hm := Rg.rf hc0
  rcases ite_s hF with ⟨q_5, hG⟩ | ⟨q_5, hG⟩
  · clear hF
    have hr := Option.some.inj hG; subst hr
    exact hm
  · clear hF
    rcases ite_s hG with ⟨q_6, hF⟩ | ⟨q_6, hF⟩
    · clear hG
      have hr := Option.some.inj hF; subst hr
      exact hm
    · clear hG
      exact hm.tr (gB_Lexer_isLetter_24 hF hm.1)
set_option maxRecDepth 20000 in
set_option maxHeartbeats 2000000 in
theorem g_Lexer_isLetter {N : Nat} {Q : Nat → Prop} {p0 : Int32} {H : Hp} {r : Int32 × Hp} (hF : F_Lexer_isLetter N p0 H = some r) (hc0 : Cl Q H) : Rg Q H r.2 := by
  unfold F_Lexer_isLetter at hF
  have hm := Rg.rf hc0
  rcases ite_s hF with ⟨q_7, hG⟩ | ⟨q_7, hG⟩
  · clear hF
    exact hm.tr (gB_Lexer_isLetter_12 hG hm.1)
  · clear hF
    rcases ite_s hG with ⟨q_8, hF⟩ | ⟨q_8, hF⟩
    · clear hG
      exact hm.tr (gB_Lexer_isLetter_24 hF hm.1)
    · clear hG
      exact hm.tr (gB_Lexer_isLetter_12 hF hm.1)
set_option maxRecDepth 20000 in
set_option maxHeartbeats 2000000 in
theorem g_Lexer_isDigit {N : Nat} {Q : Nat → Prop} {p0 : Int32} {H : Hp} {r : Int32 × Hp} (hF : F_Lexer_isDigit N p0 H = some r) (hc0 : Cl Q H) : Rg Q H r.2 := by
  unfold F_Lexer_isDigit at hF
  have hm := Rg.rf hc0
  rcases ite_s hF with ⟨q_3, hG⟩ | ⟨q_3, hG⟩
  · clear hF
    have hr := Option.some.inj hG; subst hr
    exact hm
  · clear hF
    rcases ite_s hG with ⟨q_4, hF⟩ | ⟨q_4, hF⟩
    · clear hG
      have hr := Option.some.inj hF; subst hr
      exact hm
    · clear hG
      have hr := Option.some.inj hF; subst hr
      exact hm
set_option maxRecDepth 20000 in
set_option maxHeartbeats 2000000 in
theorem g_Str_isLatin1_K0 {N : Nat} {Q : Nat → Prop}  {H : Hp} {r : Int32 × Hp} (hF : F_Str_isLatin1_K0 N  H = some r) (hc0 : Cl Q H) : Rg Q H r.2 := by
  unfold F_Str_isLatin1_K0 at hF
  have hm := Rg.rf hc0
  rcases ite_s hF with ⟨q_3, hG⟩ | ⟨q_3, hG⟩
  · clear hF
    have hr := Option.some.inj hG; subst hr
    exact hm
  · clear hF
    rcases ite_s hG with ⟨q_4, hF⟩ | ⟨q_4, hF⟩
    · clear hG
      have hr := Option.some.inj hF; subst hr
      exact hm
    · clear hG
      have hr := Option.some.inj hF; subst hr
      exact hm
set_option maxRecDepth 20000 in
set_option maxHeartbeats 2000000 in
theorem g_SL_charAt_K100 {N : Nat} {Q : Nat → Prop} {p1 : Int32} {H : Hp} {r : Int32 × Hp} (hF : F_SL_charAt_K100 N p1 H = some r) (hc0 : Cl Q H) : Rg Q H r.2 := by
  unfold F_SL_charAt_K100 at hF
  have hm := Rg.rf hc0
  obtain ⟨v16, H17, z15, hG⟩ := bC_s hF; clear hF
  have gz_3 := (g_Str_checkIndex z15 hm.1)
  replace hm : Rg Q H H17 := hm.tr gz_3
  have s_4 : Sa H H17 := (m_Str_checkIndex z15)
  obtain ⟨q18, hF⟩ := ck_s hG; clear hG
  obtain ⟨x19, -, hG⟩ := bnd_g hF; clear hF
  obtain ⟨x20, -, hF⟩ := bnd_g hG; clear hG
  obtain ⟨q21, hG⟩ := ck_s hF; clear hF
  have hr := Option.some.inj hG; subst hr
  exact hm
set_option maxRecDepth 20000 in
set_option maxHeartbeats 2000000 in
theorem g_Str_charAt_K0 {N : Nat} {Q : Nat → Prop} {p1 : Int32} {H : Hp} {r : Int32 × Hp} (hF : F_Str_charAt_K0 N p1 H = some r) (hc0 : Cl Q H) : Rg Q H r.2 := by
  unfold F_Str_charAt_K0 at hF
  have hm := Rg.rf hc0
  obtain ⟨v18, H19, z17, hG⟩ := bC_s hF; clear hF
  have gz_6 := (g_Str_isLatin1_K0 z17 hm.1)
  replace hm : Rg Q H H19 := hm.tr gz_6
  have s_7 : Sa H H19 := (m_Str_isLatin1_K0 z17)
  rcases ite_s hG with ⟨q_8, hF⟩ | ⟨q_8, hF⟩
  · clear hG
    cases hF
  · clear hG
    obtain ⟨v22, H23, z21, hG⟩ := bC_s hF; clear hF
    have gz_9 := (g_SL_charAt_K100 z21 hm.1)
    replace hm : Rg Q H H23 := hm.tr gz_9
    have s_10 : Sa H H23 := (s_7).tr (m_SL_charAt_K100 z21)
    obtain ⟨q24, hF⟩ := ck_s hG; clear hG
    have hr := Option.some.inj hF; subst hr
    exact hm
set_option maxRecDepth 20000 in
set_option maxHeartbeats 2000000 in
theorem gB_Lexer_wordOf_80 {N : Nat} {Q : Nat → Prop} {p0 : Nat} {p1 : Int32} {p2 : Int32} {kq2 : Int32 → Hp → Option (Int32 × Hp)} (q_p0 : Q p0) (hg2 : ∀ (l3 : Int32) (H : Hp) (r : Int32 × Hp), kq2 l3 H = some r → Cl Q H → Rg Q H r.2) {l3 : Int32} {H : Hp} {r : Int32 × Hp} (hF : B_Lexer_wordOf_80 N p0 p1 p2 kq2 l3 H = some r) (hc0 : Cl Q H) : Rg Q H r.2 := by
  unfold B_Lexer_wordOf_80 at hF
  have hm := Rg.rf hc0
  exact hm.tr (hg2 (l3 + 1) H r hF hm.1)
set_option maxRecDepth 20000 in
set_option maxHeartbeats 2000000 in
theorem gB_Lexer_wordOf_69 {N : Nat} {Q : Nat → Prop} {p0 : Nat} {p1 : Int32} {p2 : Int32} {kq2 : Int32 → Hp → Option (Int32 × Hp)} (q_p0 : Q p0) (hg2 : ∀ (l3 : Int32) (H : Hp) (r : Int32 × Hp), kq2 l3 H = some r → Cl Q H → Rg Q H r.2) {l3 : Int32} {l4 : Int32} {H : Hp} {r : Int32 × Hp} (hF : B_Lexer_wordOf_69 N p0 p1 p2 kq2 l3 l4 H = some r) (hc0 : Cl Q H) : Rg Q H r.2 := by
  unfold B_Lexer_wordOf_69 at hF
  have hm := Rg.rf hc0
  rcases ite_s hF with ⟨q_10, hG⟩ | ⟨q_10, hG⟩
  · clear hF
    have hr := Option.some.inj hG; subst hr
    exact hm
  · clear hF
    exact hm.tr (gB_Lexer_wordOf_80 q_p0 hg2 hG hm.1)
set_option maxRecDepth 20000 in
set_option maxHeartbeats 2000000 in
theorem gB_Lexer_wordOf_32 {N : Nat} {Q : Nat → Prop} {p0 : Nat} {p1 : Int32} {p2 : Int32} {kq2 : Int32 → Hp → Option (Int32 × Hp)} (q_p0 : Q p0) (hg2 : ∀ (l3 : Int32) (H : Hp) (r : Int32 × Hp), kq2 l3 H = some r → Cl Q H → Rg Q H r.2) : ∀ (n : Nat) (l3 : Int32) (l4 : Int32) (H : Hp) (r : Int32 × Hp), B_Lexer_wordOf_32 N p0 p1 p2 kq2 n l3 l4 H = some r → Cl Q H → Rg Q H r.2 := by
  intro n
  induction n with
  | zero => intro l3 l4 H r hF; rw [B_Lexer_wordOf_32] at hF; cases hF
  | succ n ih =>
    intro l3 l4 H r hF hc0
    rw [B_Lexer_wordOf_32] at hF
    have hm := Rg.rf hc0
    rcases ite_s hF with ⟨q_11, hG⟩ | ⟨q_11, hG⟩
    · clear hF
      exact hm.tr (gB_Lexer_wordOf_69 q_p0 hg2 hG hm.1)
    · clear hF
      obtain ⟨q65, hF⟩ := ck_s hG; clear hG
      obtain ⟨v67, H68, z66, hG⟩ := bC_s hF; clear hF
      have gz_12 := (g_Lexer_byteAt z66 hm.1 q_p0)
      replace hm : Rg Q H H68 := hm.tr gz_12
      have s_13 : Sa H H68 := (m_Lexer_byteAt z66)
      obtain ⟨a69, e70, hF⟩ := rf_s hG; clear hG
      have qa69 : Q a69 := hm.1 _ _ _ q_p0 e70
      obtain ⟨n71, q72, hG⟩ := ar_s hF; clear hF
      rw [(s_13).1] at q72
      obtain ⟨q73, hF⟩ := ck_s hG; clear hG
      obtain ⟨x74, -, hG⟩ := bnd_g hF; clear hF
      obtain ⟨v76, H77, z75, hF⟩ := bC_s hG; clear hG
      have gz_14 := (g_Str_charAt_K0 z75 hm.1)
      replace hm : Rg Q H H77 := hm.tr gz_14
      have s_15 : Sa H H77 := (s_13).tr (m_Str_charAt_K0 z75)
      rcases ite_s hF with ⟨q_16, hG⟩ | ⟨q_16, hG⟩
      · clear hF
        exact hm.tr (ih l3 (l4 + 1) H77 r hG hm.1)
      · clear hF
        exact hm.tr (gB_Lexer_wordOf_69 q_p0 hg2 hG hm.1)
set_option maxRecDepth 20000 in
set_option maxHeartbeats 2000000 in
theorem gB_Lexer_wordOf_2 {N : Nat} {Q : Nat → Prop} {p0 : Nat} {p1 : Int32} {p2 : Int32} (q_p0 : Q p0) : ∀ (n : Nat) (l3 : Int32) (H : Hp) (r : Int32 × Hp), B_Lexer_wordOf_2 N p0 p1 p2 n l3 H = some r → Cl Q H → Rg Q H r.2 := by
  intro n
  induction n with
  | zero => intro l3 H r hF; rw [B_Lexer_wordOf_2] at hF; cases hF
  | succ n ih =>
    intro l3 H r hF hc0
    rw [B_Lexer_wordOf_2] at hF
    have hm := Rg.rf hc0
    rcases ite_s hF with ⟨q_17, hG⟩ | ⟨q_17, hG⟩
    · clear hF
      have hr := Option.some.inj hG; subst hr
      exact hm
    · clear hF
      obtain ⟨q80, hF⟩ := ck_s hG; clear hG
      obtain ⟨a81, e82, hG⟩ := rf_s hF; clear hF
      have qa81 : Q a81 := hm.1 _ _ _ q_p0 e82
      obtain ⟨n83, q84, hF⟩ := ar_s hG; clear hG
      obtain ⟨q85, hG⟩ := ck_s hF; clear hF
      obtain ⟨x86, -, hF⟩ := bnd_g hG; clear hG
      obtain ⟨a87, e88, hG⟩ := rf_s hF; clear hF
      have qa87 : Q a87 := hm.1 _ _ _ q_p0 e88
      obtain ⟨n89, q90, hF⟩ := ar_s hG; clear hG
      obtain ⟨q91, hG⟩ := ck_s hF; clear hF
      obtain ⟨x92, -, hF⟩ := bnd_g hG; clear hG
      rcases ite_s hF with ⟨q_18, hG⟩ | ⟨q_18, hG⟩
      · clear hF
        exact hm.tr (gB_Lexer_wordOf_32 q_p0 ih N l3 0 H r hG hm.1)
      · clear hF
        exact hm.tr (gB_Lexer_wordOf_80 q_p0 ih hG hm.1)
set_option maxRecDepth 20000 in
set_option maxHeartbeats 2000000 in
theorem g_Lexer_wordOf {N : Nat} {Q : Nat → Prop} {p0 : Nat} {p1 : Int32} {p2 : Int32} {H : Hp} {r : Int32 × Hp} (hF : F_Lexer_wordOf N p0 p1 p2 H = some r) (hc0 : Cl Q H) (q_p0 : Q p0) : Rg Q H r.2 := by
  unfold F_Lexer_wordOf at hF
  have hm := Rg.rf hc0
  exact hm.tr (gB_Lexer_wordOf_2 q_p0 N 0 H r hF hm.1)
set_option maxRecDepth 20000 in
set_option maxHeartbeats 2000000 in
theorem g_Lexer_note {N : Nat} {Q : Nat → Prop} {p0 : Nat} {p1 : Int32} {p2 : Int32} {p3 : Int32} {p4 : Int32} {H : Hp} {r : Unit × Hp} (hF : F_Lexer_note N p0 p1 p2 p3 p4 H = some r) (hc0 : Cl Q H) (q_p0 : Q p0) : Rg Q H r.2 := by
  unfold F_Lexer_note at hF
  have hm := Rg.rf hc0
  obtain ⟨q75, hG⟩ := ck_s hF; clear hF
  obtain ⟨x76, -, hF⟩ := bnd_g hG; clear hG
  obtain ⟨a77, e78, hG⟩ := rf_s hF; clear hF
  have qa77 : Q a77 := hm.1 _ _ _ q_p0 e78
  obtain ⟨n79, q80, hF⟩ := ar_s hG; clear hG
  rcases ite_s hF with ⟨q_12, hG⟩ | ⟨q_12, hG⟩
  · clear hF
    have hr := Option.some.inj hG; subst hr
    exact hm
  · clear hF
    obtain ⟨a82, e83, hF⟩ := rf_s hG; clear hG
    have qa82 : Q a82 := hm.1 _ _ _ q_p0 e83
    obtain ⟨x84, -, hG⟩ := bnd_g hF; clear hF
    obtain ⟨n85, q86, hF⟩ := ar_s hG; clear hG
    obtain ⟨q87, hG⟩ := ck_s hF; clear hF
    obtain ⟨H88, eH88, hF⟩ := bnd_g hG; clear hG
    replace hm : Rg Q H H88 := hm.tr (by rw [eH88]; exact Rg.sD hm.1 qa82)
    have s_13 : Sa H H88 := by rw [eH88]; exact Sa.rf _
    obtain ⟨a89, e90, hG⟩ := rf_s hF; clear hF
    have qa89 : Q a89 := hm.1 _ _ _ q_p0 e90
    obtain ⟨x91, -, hF⟩ := bnd_g hG; clear hG
    obtain ⟨n92, q93, hG⟩ := ar_s hF; clear hF
    rw [(s_13).1] at q93
    obtain ⟨q94, hF⟩ := ck_s hG; clear hG
    obtain ⟨H95, eH95, hG⟩ := bnd_g hF; clear hF
    replace hm : Rg Q H H95 := hm.tr (by rw [eH95]; exact Rg.sD hm.1 qa89)
    have s_14 : Sa H H95 := by rw [eH95]; exact s_13
    obtain ⟨a96, e97, hF⟩ := rf_s hG; clear hG
    have qa96 : Q a96 := hm.1 _ _ _ q_p0 e97
    obtain ⟨x98, -, hG⟩ := bnd_g hF; clear hF
    obtain ⟨n99, q100, hF⟩ := ar_s hG; clear hG
    rw [(s_14).1] at q100
    obtain ⟨q101, hG⟩ := ck_s hF; clear hF
    obtain ⟨H102, eH102, hF⟩ := bnd_g hG; clear hG
    replace hm : Rg Q H H102 := hm.tr (by rw [eH102]; exact Rg.sD hm.1 qa96)
    have s_15 : Sa H H102 := by rw [eH102]; exact s_14
    obtain ⟨a103, e104, hG⟩ := rf_s hF; clear hF
    have qa103 : Q a103 := hm.1 _ _ _ q_p0 e104
    obtain ⟨x105, -, hF⟩ := bnd_g hG; clear hG
    obtain ⟨n106, q107, hG⟩ := ar_s hF; clear hF
    rw [(s_15).1] at q107
    obtain ⟨q108, hF⟩ := ck_s hG; clear hG
    obtain ⟨H109, eH109, hG⟩ := bnd_g hF; clear hF
    replace hm : Rg Q H H109 := hm.tr (by rw [eH109]; exact Rg.sD hm.1 qa103)
    have s_16 : Sa H H109 := by rw [eH109]; exact s_15
    obtain ⟨x110, -, hF⟩ := bnd_g hG; clear hG
    obtain ⟨H111, eH111, hG⟩ := bnd_g hF; clear hF
    replace hm : Rg Q H H111 := hm.tr (by rw [eH111]; exact Rg.sD hm.1 q_p0)
    have s_17 : Sa H H111 := by rw [eH111]; exact s_16
    have hr := Option.some.inj hG; subst hr
    exact hm
set_option maxRecDepth 20000 in
set_option maxHeartbeats 2000000 in
theorem gB_Lexer_behindName_62 {N : Nat} {Q : Nat → Prop} {p0 : Nat} {p1 : Int32} (q_p0 : Q p0) {l2 : Int32} {w0 : Nat} {w1 : Int32} {w2 : Int32} {w3 : Int32} {w4 : Int32} {H : Hp} {r : Int32 × Hp} (hF : B_Lexer_behindName_62 N p0 p1 l2 w0 w1 w2 w3 w4 H = some r) (hc0 : Cl Q H) (q_w0 : Q w0) : Rg Q H r.2 := by
  unfold B_Lexer_behindName_62 at hF
  have hm := Rg.rf hc0
  obtain ⟨q53, hG⟩ := ck_s hF; clear hF
  obtain ⟨v55, H56, z54, hF⟩ := bC_s hG; clear hG
  have gz_17 := (g_Lexer_note z54 hm.1 q_w0)
  replace hm : Rg Q H H56 := hm.tr gz_17
  have s_18 : Sa H H56 := (m_Lexer_note z54)
  have hr := Option.some.inj hF; subst hr
  exact hm
set_option maxRecDepth 20000 in
set_option maxHeartbeats 2000000 in
theorem gB_Lexer_behindName_38 {N : Nat} {Q : Nat → Prop} {p0 : Nat} {p1 : Int32} (q_p0 : Q p0) {l2 : Int32} {H : Hp} {r : Int32 × Hp} (hF : B_Lexer_behindName_38 N p0 p1 l2 H = some r) (hc0 : Cl Q H) : Rg Q H r.2 := by
  unfold B_Lexer_behindName_38 at hF
  have hm := Rg.rf hc0
  obtain ⟨q57, hG⟩ := ck_s hF; clear hF
  obtain ⟨v59, H60, z58, hF⟩ := bC_s hG; clear hG
  have gz_19 := (g_Lexer_wordOf z58 hm.1 q_p0)
  replace hm : Rg Q H H60 := hm.tr gz_19
  have s_20 : Sa H H60 := (m_Lexer_wordOf z58)
  rcases ite_s hF with ⟨q_21, hG⟩ | ⟨q_21, hG⟩
  · clear hF
    exact hm.tr (gB_Lexer_behindName_62 q_p0 hG hm.1 q_p0)
  · clear hF
    exact hm.tr (gB_Lexer_behindName_62 q_p0 hG hm.1 q_p0)
set_option maxRecDepth 20000 in
set_option maxHeartbeats 2000000 in
theorem gB_Lexer_behindName_32 {N : Nat} {Q : Nat → Prop} {p0 : Nat} {p1 : Int32} {kq2 : Int32 → Hp → Option (Int32 × Hp)} (q_p0 : Q p0) (hg2 : ∀ (l2 : Int32) (H : Hp) (r : Int32 × Hp), kq2 l2 H = some r → Cl Q H → Rg Q H r.2) {l2 : Int32} {H : Hp} {r : Int32 × Hp} (hF : B_Lexer_behindName_32 N p0 p1 kq2 l2 H = some r) (hc0 : Cl Q H) : Rg Q H r.2 := by
  unfold B_Lexer_behindName_32 at hF
  have hm := Rg.rf hc0
  exact hm.tr (hg2 (l2 + 1) H r hF hm.1)
set_option maxRecDepth 20000 in
set_option maxHeartbeats 2000000 in
theorem gB_Lexer_behindName_2 {N : Nat} {Q : Nat → Prop} {p0 : Nat} {p1 : Int32} (q_p0 : Q p0) : ∀ (n : Nat) (l2 : Int32) (H : Hp) (r : Int32 × Hp), B_Lexer_behindName_2 N p0 p1 n l2 H = some r → Cl Q H → Rg Q H r.2 := by
  intro n
  induction n with
  | zero => intro l2 H r hF; rw [B_Lexer_behindName_2] at hF; cases hF
  | succ n ih =>
    intro l2 H r hF hc0
    rw [B_Lexer_behindName_2] at hF
    have hm := Rg.rf hc0
    obtain ⟨q62, hG⟩ := ck_s hF; clear hF
    obtain ⟨x63, -, hF⟩ := bnd_g hG; clear hG
    rcases ite_s hF with ⟨q_22, hG⟩ | ⟨q_22, hG⟩
    · clear hF
      exact hm.tr (gB_Lexer_behindName_38 q_p0 hG hm.1)
    · clear hF
      obtain ⟨v66, H67, z65, hF⟩ := bC_s hG; clear hG
      have gz_23 := (g_Lexer_byteAt z65 hm.1 q_p0)
      replace hm : Rg Q H H67 := hm.tr gz_23
      have s_24 : Sa H H67 := (m_Lexer_byteAt z65)
      obtain ⟨v69, H70, z68, hG⟩ := bC_s hF; clear hF
      have gz_25 := (g_Lexer_isLetter z68 hm.1)
      replace hm : Rg Q H H70 := hm.tr gz_25
      have s_26 : Sa H H70 := (s_24).tr (m_Lexer_isLetter z68)
      rcases ite_s hG with ⟨q_27, hF⟩ | ⟨q_27, hF⟩
      · clear hG
        obtain ⟨v73, H74, z72, hG⟩ := bC_s hF; clear hF
        have gz_28 := (g_Lexer_byteAt z72 hm.1 q_p0)
        replace hm : Rg Q H H74 := hm.tr gz_28
        have s_29 : Sa H H74 := (s_26).tr (m_Lexer_byteAt z72)
        obtain ⟨v76, H77, z75, hF⟩ := bC_s hG; clear hG
        have gz_30 := (g_Lexer_isDigit z75 hm.1)
        replace hm : Rg Q H H77 := hm.tr gz_30
        have s_31 : Sa H H77 := (s_29).tr (m_Lexer_isDigit z75)
        rcases ite_s hF with ⟨q_32, hG⟩ | ⟨q_32, hG⟩
        · clear hF
          exact hm.tr (gB_Lexer_behindName_38 q_p0 hG hm.1)
        · clear hF
          exact hm.tr (gB_Lexer_behindName_32 q_p0 ih hG hm.1)
      · clear hG
        exact hm.tr (gB_Lexer_behindName_32 q_p0 ih hF hm.1)
set_option maxRecDepth 20000 in
set_option maxHeartbeats 2000000 in
theorem g_Lexer_behindName {N : Nat} {Q : Nat → Prop} {p0 : Nat} {p1 : Int32} {H : Hp} {r : Int32 × Hp} (hF : F_Lexer_behindName N p0 p1 H = some r) (hc0 : Cl Q H) (q_p0 : Q p0) : Rg Q H r.2 := by
  unfold F_Lexer_behindName at hF
  have hm := Rg.rf hc0
  exact hm.tr (gB_Lexer_behindName_2 q_p0 N p1 H r hF hm.1)
set_option maxRecDepth 20000 in
set_option maxHeartbeats 2000000 in
theorem g_Math_min2 {N : Nat} {Q : Nat → Prop} {p0 : Int64} {p2 : Int64} {H : Hp} {r : Int64 × Hp} (hF : F_Math_min2 N p0 p2 H = some r) (hc0 : Cl Q H) : Rg Q H r.2 := by
  unfold F_Math_min2 at hF
  have hm := Rg.rf hc0
  rcases ite_s hF with ⟨q_2, hG⟩ | ⟨q_2, hG⟩
  · clear hF
    have hr := Option.some.inj hG; subst hr
    exact hm
  · clear hF
    have hr := Option.some.inj hG; subst hr
    exact hm
set_option maxRecDepth 20000 in
set_option maxHeartbeats 2000000 in
theorem g_Math_max2 {N : Nat} {Q : Nat → Prop} {p0 : Int64} {p2 : Int64} {H : Hp} {r : Int64 × Hp} (hF : F_Math_max2 N p0 p2 H = some r) (hc0 : Cl Q H) : Rg Q H r.2 := by
  unfold F_Math_max2 at hF
  have hm := Rg.rf hc0
  rcases ite_s hF with ⟨q_2, hG⟩ | ⟨q_2, hG⟩
  · clear hF
    have hr := Option.some.inj hG; subst hr
    exact hm
  · clear hF
    have hr := Option.some.inj hG; subst hr
    exact hm
set_option maxRecDepth 20000 in
set_option maxHeartbeats 2000000 in
theorem gB_Lexer_behindNumber_110 {N : Nat} {Q : Nat → Prop} {p0 : Nat} {p1 : Int32} (q_p0 : Q p0) {l4 : Int32} {l5 : Int32} {w0 : Nat} {w1 : Int32} {w2 : Int32} {w3 : Int32} {H : Hp} {r : Int32 × Hp} (hF : B_Lexer_behindNumber_110 N p0 p1 l4 l5 w0 w1 w2 w3 H = some r) (hc0 : Cl Q H) (q_w0 : Q w0) : Rg Q H r.2 := by
  unfold B_Lexer_behindNumber_110 at hF
  have hm := Rg.rf hc0
  obtain ⟨q127, hG⟩ := ck_s hF; clear hF
  obtain ⟨v129, H130, z128, hF⟩ := bC_s hG; clear hG
  have gz_39 := (g_Lexer_note z128 hm.1 q_w0)
  replace hm : Rg Q H H130 := hm.tr gz_39
  have s_40 : Sa H H130 := (m_Lexer_note z128)
  have hr := Option.some.inj hF; subst hr
  exact hm
set_option maxRecDepth 20000 in
set_option maxHeartbeats 2000000 in
theorem gB_Lexer_behindNumber_94 {N : Nat} {Q : Nat → Prop} {p0 : Nat} {p1 : Int32} (q_p0 : Q p0) {l2 : Int64} {l4 : Int32} {w0 : Int32} {H : Hp} {r : Int32 × Hp} (hF : B_Lexer_behindNumber_94 N p0 p1 l2 l4 w0 H = some r) (hc0 : Cl Q H) : Rg Q H r.2 := by
  unfold B_Lexer_behindNumber_94 at hF
  have hm := Rg.rf hc0
  rcases ite_s hF with ⟨q_41, hG⟩ | ⟨q_41, hG⟩
  · clear hF
    exact hm.tr (gB_Lexer_behindNumber_110 q_p0 hG hm.1 q_p0)
  · clear hF
    exact hm.tr (gB_Lexer_behindNumber_110 q_p0 hG hm.1 q_p0)
set_option maxRecDepth 20000 in
set_option maxHeartbeats 2000000 in
theorem gB_Lexer_behindNumber_81 {N : Nat} {Q : Nat → Prop} {p0 : Nat} {p1 : Int32} (q_p0 : Q p0) {l2 : Int64} {l4 : Int32} {H : Hp} {r : Int32 × Hp} (hF : B_Lexer_behindNumber_81 N p0 p1 l2 l4 H = some r) (hc0 : Cl Q H) : Rg Q H r.2 := by
  unfold B_Lexer_behindNumber_81 at hF
  have hm := Rg.rf hc0
  rcases ite_s hF with ⟨q_42, hG⟩ | ⟨q_42, hG⟩
  · clear hF
    exact hm.tr (gB_Lexer_behindNumber_94 q_p0 hG hm.1)
  · clear hF
    exact hm.tr (gB_Lexer_behindNumber_94 q_p0 hG hm.1)
set_option maxRecDepth 20000 in
set_option maxHeartbeats 2000000 in
theorem gB_Lexer_behindNumber_257 {N : Nat} {Q : Nat → Prop} {p0 : Nat} {p1 : Int32} (q_p0 : Q p0) {l4 : Int32} {l10 : Int32} {w0 : Nat} {w1 : Int32} {w2 : Int32} {w3 : Int32} {H : Hp} {r : Int32 × Hp} (hF : B_Lexer_behindNumber_257 N p0 p1 l4 l10 w0 w1 w2 w3 H = some r) (hc0 : Cl Q H) (q_w0 : Q w0) : Rg Q H r.2 := by
  unfold B_Lexer_behindNumber_257 at hF
  have hm := Rg.rf hc0
  obtain ⟨q133, hG⟩ := ck_s hF; clear hF
  obtain ⟨v135, H136, z134, hF⟩ := bC_s hG; clear hG
  have gz_43 := (g_Lexer_note z134 hm.1 q_w0)
  replace hm : Rg Q H H136 := hm.tr gz_43
  have s_44 : Sa H H136 := (m_Lexer_note z134)
  have hr := Option.some.inj hF; subst hr
  exact hm
set_option maxRecDepth 20000 in
set_option maxHeartbeats 2000000 in
theorem gB_Lexer_behindNumber_213 {N : Nat} {Q : Nat → Prop} {p0 : Nat} {p1 : Int32} (q_p0 : Q p0) {l2 : Int64} {l4 : Int32} {l5 : Int64} {l7 : Int64} {w0 : Int32} {H : Hp} {r : Int32 × Hp} (hF : B_Lexer_behindNumber_213 N p0 p1 l2 l4 l5 l7 w0 H = some r) (hc0 : Cl Q H) : Rg Q H r.2 := by
  unfold B_Lexer_behindNumber_213 at hF
  have hm := Rg.rf hc0
  obtain ⟨v138, H139, z137, hG⟩ := bC_s hF; clear hF
  have gz_45 := (g_Math_max2 z137 hm.1)
  replace hm : Rg Q H H139 := hm.tr gz_45
  have s_46 : Sa H H139 := (m_Math_max2 z137)
  obtain ⟨q140, hF⟩ := ck_s hG; clear hG
  obtain ⟨x141, -, hG⟩ := bnd_g hF; clear hF
  rcases ite_s hG with ⟨q_47, hF⟩ | ⟨q_47, hF⟩
  · clear hG
    exact hm.tr (gB_Lexer_behindNumber_257 q_p0 hF hm.1 q_p0)
  · clear hG
    exact hm.tr (gB_Lexer_behindNumber_257 q_p0 hF hm.1 q_p0)
set_option maxRecDepth 20000 in
set_option maxHeartbeats 2000000 in
theorem gB_Lexer_behindNumber_208 {N : Nat} {Q : Nat → Prop} {p0 : Nat} {p1 : Int32} (q_p0 : Q p0) {l2 : Int64} {l4 : Int32} {l5 : Int64} {l7 : Int64} {H : Hp} {r : Int32 × Hp} (hF : B_Lexer_behindNumber_208 N p0 p1 l2 l4 l5 l7 H = some r) (hc0 : Cl Q H) : Rg Q H r.2 := by
  unfold B_Lexer_behindNumber_208 at hF
  have hm := Rg.rf hc0
  exact hm.tr (gB_Lexer_behindNumber_213 q_p0 hF hm.1)
set_option maxRecDepth 20000 in
set_option maxHeartbeats 2000000 in
theorem gB_Lexer_behindNumber_194 {N : Nat} {Q : Nat → Prop} {p0 : Nat} {p1 : Int32} (q_p0 : Q p0) {l2 : Int64} {l4 : Int32} {l5 : Int64} {l7 : Int64} {l9 : Int32} {H : Hp} {r : Int32 × Hp} (hF : B_Lexer_behindNumber_194 N p0 p1 l2 l4 l5 l7 l9 H = some r) (hc0 : Cl Q H) : Rg Q H r.2 := by
  unfold B_Lexer_behindNumber_194 at hF
  have hm := Rg.rf hc0
  rcases ite_s hF with ⟨q_48, hG⟩ | ⟨q_48, hG⟩
  · clear hF
    exact hm.tr (gB_Lexer_behindNumber_208 q_p0 hG hm.1)
  · clear hF
    rcases ite_s hG with ⟨q_49, hF⟩ | ⟨q_49, hF⟩
    · clear hG
      exact hm.tr (gB_Lexer_behindNumber_213 q_p0 hF hm.1)
    · clear hG
      exact hm.tr (gB_Lexer_behindNumber_208 q_p0 hF hm.1)
set_option maxRecDepth 20000 in
set_option maxHeartbeats 2000000 in
theorem gB_Lexer_behindNumber_188 {N : Nat} {Q : Nat → Prop} {p0 : Nat} {p1 : Int32} {kq130 : Int64 → Int32 → Int64 → Int64 → Int32 → Hp → Option (Int32 × Hp)} (q_p0 : Q p0) (hg130 : ∀ (l2 : Int64) (l4 : Int32) (l5 : Int64) (l7 : Int64) (l9 : Int32) (H : Hp) (r : Int32 × Hp), kq130 l2 l4 l5 l7 l9 H = some r → Cl Q H → Rg Q H r.2) {l2 : Int64} {l4 : Int32} {l5 : Int64} {l7 : Int64} {l9 : Int32} {H : Hp} {r : Int32 × Hp} (hF : B_Lexer_behindNumber_188 N p0 p1 kq130 l2 l4 l5 l7 l9 H = some r) (hc0 : Cl Q H) : Rg Q H r.2 := by
  unfold B_Lexer_behindNumber_188 at hF
  have hm := Rg.rf hc0
  exact hm.tr (hg130 l2 (l4 + 1) l5 l7 l9 H r hF hm.1)
set_option maxRecDepth 20000 in
set_option maxHeartbeats 2000000 in
theorem gB_Lexer_behindNumber_130 {N : Nat} {Q : Nat → Prop} {p0 : Nat} {p1 : Int32} (q_p0 : Q p0) : ∀ (n : Nat) (l2 : Int64) (l4 : Int32) (l5 : Int64) (l7 : Int64) (l9 : Int32) (H : Hp) (r : Int32 × Hp), B_Lexer_behindNumber_130 N p0 p1 n l2 l4 l5 l7 l9 H = some r → Cl Q H → Rg Q H r.2 := by
  intro n
  induction n with
  | zero => intro l2 l4 l5 l7 l9 H r hF; rw [B_Lexer_behindNumber_130] at hF; cases hF
  | succ n ih =>
    intro l2 l4 l5 l7 l9 H r hF hc0
    rw [B_Lexer_behindNumber_130] at hF
    have hm := Rg.rf hc0
    obtain ⟨q145, hG⟩ := ck_s hF; clear hF
    obtain ⟨x146, -, hF⟩ := bnd_g hG; clear hG
    rcases ite_s hF with ⟨q_50, hG⟩ | ⟨q_50, hG⟩
    · clear hF
      exact hm.tr (gB_Lexer_behindNumber_194 q_p0 hG hm.1)
    · clear hF
      obtain ⟨v149, H150, z148, hF⟩ := bC_s hG; clear hG
      have gz_51 := (g_Lexer_byteAt z148 hm.1 q_p0)
      replace hm : Rg Q H H150 := hm.tr gz_51
      have s_52 : Sa H H150 := (m_Lexer_byteAt z148)
      obtain ⟨v152, H153, z151, hG⟩ := bC_s hF; clear hF
      have gz_53 := (g_Lexer_isDigit z151 hm.1)
      replace hm : Rg Q H H153 := hm.tr gz_53
      have s_54 : Sa H H153 := (s_52).tr (m_Lexer_isDigit z151)
      rcases ite_s hG with ⟨q_55, hF⟩ | ⟨q_55, hF⟩
      · clear hG
        exact hm.tr (gB_Lexer_behindNumber_194 q_p0 hF hm.1)
      · clear hG
        rcases ite_s hF with ⟨q_56, hG⟩ | ⟨q_56, hG⟩
        · clear hF
          exact hm.tr (gB_Lexer_behindNumber_188 q_p0 ih hG hm.1)
        · clear hF
          obtain ⟨v157, H158, z156, hF⟩ := bC_s hG; clear hG
          have gz_57 := (g_Lexer_byteAt z156 hm.1 q_p0)
          replace hm : Rg Q H H158 := hm.tr gz_57
          have s_58 : Sa H H158 := (s_54).tr (m_Lexer_byteAt z156)
          obtain ⟨x159, -, hG⟩ := bnd_g hF; clear hF
          obtain ⟨x160, -, hF⟩ := bnd_g hG; clear hG
          exact hm.tr (gB_Lexer_behindNumber_188 q_p0 ih hF hm.1)
set_option maxRecDepth 20000 in
set_option maxHeartbeats 2000000 in
theorem gB_Lexer_behindNumber_56 {N : Nat} {Q : Nat → Prop} {p0 : Nat} {p1 : Int32} (q_p0 : Q p0) {l2 : Int64} {l4 : Int32} {H : Hp} {r : Int32 × Hp} (hF : B_Lexer_behindNumber_56 N p0 p1 l2 l4 H = some r) (hc0 : Cl Q H) : Rg Q H r.2 := by
  unfold B_Lexer_behindNumber_56 at hF
  have hm := Rg.rf hc0
  obtain ⟨q161, hG⟩ := ck_s hF; clear hF
  obtain ⟨v163, H164, z162, hF⟩ := bC_s hG; clear hG
  have gz_59 := (g_Lexer_byteAt z162 hm.1 q_p0)
  replace hm : Rg Q H H164 := hm.tr gz_59
  have s_60 : Sa H H164 := (m_Lexer_byteAt z162)
  rcases ite_s hF with ⟨q_61, hG⟩ | ⟨q_61, hG⟩
  · clear hF
    obtain ⟨v167, H168, z166, hF⟩ := bC_s hG; clear hG
    have gz_62 := (g_Lexer_byteAt z166 hm.1 q_p0)
    replace hm : Rg Q H H168 := hm.tr gz_62
    have s_63 : Sa H H168 := (s_60).tr (m_Lexer_byteAt z166)
    obtain ⟨v170, H171, z169, hG⟩ := bC_s hF; clear hF
    have gz_64 := (g_Lexer_isDigit z169 hm.1)
    replace hm : Rg Q H H171 := hm.tr gz_64
    have s_65 : Sa H H171 := (s_63).tr (m_Lexer_isDigit z169)
    rcases ite_s hG with ⟨q_66, hF⟩ | ⟨q_66, hF⟩
    · clear hG
      exact hm.tr (gB_Lexer_behindNumber_81 q_p0 hF hm.1)
    · clear hG
      exact hm.tr (gB_Lexer_behindNumber_130 q_p0 N l2 (l4 + 1) 0 1 0 H171 r hF hm.1)
  · clear hF
    exact hm.tr (gB_Lexer_behindNumber_81 q_p0 hG hm.1)
set_option maxRecDepth 20000 in
set_option maxHeartbeats 2000000 in
theorem gB_Lexer_behindNumber_5 {N : Nat} {Q : Nat → Prop} {p0 : Nat} {p1 : Int32} (q_p0 : Q p0) : ∀ (n : Nat) (l2 : Int64) (l4 : Int32) (H : Hp) (r : Int32 × Hp), B_Lexer_behindNumber_5 N p0 p1 n l2 l4 H = some r → Cl Q H → Rg Q H r.2 := by
  intro n
  induction n with
  | zero => intro l2 l4 H r hF; rw [B_Lexer_behindNumber_5] at hF; cases hF
  | succ n ih =>
    intro l2 l4 H r hF hc0
    rw [B_Lexer_behindNumber_5] at hF
    have hm := Rg.rf hc0
    obtain ⟨q173, hG⟩ := ck_s hF; clear hF
    obtain ⟨x174, -, hF⟩ := bnd_g hG; clear hG
    rcases ite_s hF with ⟨q_67, hG⟩ | ⟨q_67, hG⟩
    · clear hF
      exact hm.tr (gB_Lexer_behindNumber_56 q_p0 hG hm.1)
    · clear hF
      obtain ⟨v177, H178, z176, hF⟩ := bC_s hG; clear hG
      have gz_68 := (g_Lexer_byteAt z176 hm.1 q_p0)
      replace hm : Rg Q H H178 := hm.tr gz_68
      have s_69 : Sa H H178 := (m_Lexer_byteAt z176)
      obtain ⟨v180, H181, z179, hG⟩ := bC_s hF; clear hF
      have gz_70 := (g_Lexer_isDigit z179 hm.1)
      replace hm : Rg Q H H181 := hm.tr gz_70
      have s_71 : Sa H H181 := (s_69).tr (m_Lexer_isDigit z179)
      rcases ite_s hG with ⟨q_72, hF⟩ | ⟨q_72, hF⟩
      · clear hG
        exact hm.tr (gB_Lexer_behindNumber_56 q_p0 hF hm.1)
      · clear hG
        obtain ⟨v184, H185, z183, hG⟩ := bC_s hF; clear hF
        have gz_73 := (g_Lexer_byteAt z183 hm.1 q_p0)
        replace hm : Rg Q H H185 := hm.tr gz_73
        have s_74 : Sa H H185 := (s_71).tr (m_Lexer_byteAt z183)
        obtain ⟨x186, -, hF⟩ := bnd_g hG; clear hG
        obtain ⟨v188, H189, z187, hG⟩ := bC_s hF; clear hF
        have gz_75 := (g_Math_min2 z187 hm.1)
        replace hm : Rg Q H H189 := hm.tr gz_75
        have s_76 : Sa H H189 := (s_74).tr (m_Math_min2 z187)
        exact hm.tr (ih v188 (l4 + 1) H189 r hG hm.1)
set_option maxRecDepth 20000 in
set_option maxHeartbeats 2000000 in
theorem g_Lexer_behindNumber {N : Nat} {Q : Nat → Prop} {p0 : Nat} {p1 : Int32} {H : Hp} {r : Int32 × Hp} (hF : F_Lexer_behindNumber N p0 p1 H = some r) (hc0 : Cl Q H) (q_p0 : Q p0) : Rg Q H r.2 := by
  unfold F_Lexer_behindNumber at hF
  have hm := Rg.rf hc0
  exact hm.tr (gB_Lexer_behindNumber_5 q_p0 N 0 p1 H r hF hm.1)
set_option maxRecDepth 20000 in
set_option maxHeartbeats 2000000 in
theorem g_SL_canEncode {N : Nat} {Q : Nat → Prop} {p0 : Int32} {H : Hp} {r : Int32 × Hp} (hF : F_SL_canEncode N p0 H = some r) (hc0 : Cl Q H) : Rg Q H r.2 := by
  unfold F_SL_canEncode at hF
  have hm := Rg.rf hc0
  rcases ite_s hF with ⟨q_3, hG⟩ | ⟨q_3, hG⟩
  · clear hF
    have hr := Option.some.inj hG; subst hr
    exact hm
  · clear hF
    rcases ite_s hG with ⟨q_4, hF⟩ | ⟨q_4, hF⟩
    · clear hG
      have hr := Option.some.inj hF; subst hr
      exact hm
    · clear hG
      have hr := Option.some.inj hF; subst hr
      exact hm
set_option maxRecDepth 20000 in
set_option maxHeartbeats 2000000 in
theorem gB_SL_indexOfChar_7 {N : Nat} {Q : Nat → Prop} {p0 : Nat} {p1 : Int32} {p2 : Int32} {p3 : Int32} (q_p0 : Q p0) : ∀ (n : Nat) (l4 : Int32) (l5 : Int32) (H : Hp) (r : Int32 × Hp), B_SL_indexOfChar_7 N p0 p1 p2 p3 n l4 l5 H = some r → Cl Q H → Rg Q H r.2 := by
  intro n
  induction n with
  | zero => intro l4 l5 H r hF; rw [B_SL_indexOfChar_7] at hF; cases hF
  | succ n ih =>
    intro l4 l5 H r hF hc0
    rw [B_SL_indexOfChar_7] at hF
    have hm := Rg.rf hc0
    rcases ite_s hF with ⟨q_3, hG⟩ | ⟨q_3, hG⟩
    · clear hF
      have hr := Option.some.inj hG; subst hr
      exact hm
    · clear hF
      obtain ⟨n16, q17, hF⟩ := ar_s hG; clear hG
      obtain ⟨q18, hG⟩ := ck_s hF; clear hF
      obtain ⟨x19, -, hF⟩ := bnd_g hG; clear hG
      rcases ite_s hF with ⟨q_4, hG⟩ | ⟨q_4, hG⟩
      · clear hF
        have hr := Option.some.inj hG; subst hr
        exact hm
      · clear hF
        exact hm.tr (ih l4 (l5 + 1) H r hG hm.1)
set_option maxRecDepth 20000 in
set_option maxHeartbeats 2000000 in
theorem g_SL_indexOfChar {N : Nat} {Q : Nat → Prop} {p0 : Nat} {p1 : Int32} {p2 : Int32} {p3 : Int32} {H : Hp} {r : Int32 × Hp} (hF : F_SL_indexOfChar N p0 p1 p2 p3 H = some r) (hc0 : Cl Q H) (q_p0 : Q p0) : Rg Q H r.2 := by
  unfold F_SL_indexOfChar at hF
  have hm := Rg.rf hc0
  obtain ⟨x21, -, hG⟩ := bnd_g hF; clear hF
  exact hm.tr (gB_SL_indexOfChar_7 q_p0 N x21 p2 H r hG hm.1)
set_option maxRecDepth 20000 in
set_option maxHeartbeats 2000000 in
theorem g_SL_indexOf {N : Nat} {Q : Nat → Prop} {p0 : Nat} {p1 : Int32} {l2 : Int32} {l3 : Int32} {H : Hp} {r : Int32 × Hp} (hF : F_SL_indexOf N p0 p1 l2 l3 H = some r) (hc0 : Cl Q H) (q_p0 : Q p0) : Rg Q H r.2 := by
  unfold F_SL_indexOf at hF
  have hm := Rg.rf hc0
  obtain ⟨v34, H35, z33, hG⟩ := bC_s hF; clear hF
  have gz_11 := (g_SL_canEncode z33 hm.1)
  replace hm : Rg Q H H35 := hm.tr gz_11
  have s_12 : Sa H H35 := (m_SL_canEncode z33)
  rcases ite_s hG with ⟨q_13, hF⟩ | ⟨q_13, hF⟩
  · clear hG
    have hr := Option.some.inj hF; subst hr
    exact hm
  · clear hG
    obtain ⟨v38, H39, z37, hG⟩ := bC_s hF; clear hF
    have gz_14 := (g_Math_max z37 hm.1)
    replace hm : Rg Q H H39 := hm.tr gz_14
    have s_15 : Sa H H39 := (s_12).tr (m_Math_max z37)
    obtain ⟨n40, q41, hF⟩ := ar_s hG; clear hG
    rw [(s_15).1] at q41
    obtain ⟨v43, H44, z42, hG⟩ := bC_s hF; clear hF
    have gz_16 := (g_Math_min z42 hm.1)
    replace hm : Rg Q H H44 := hm.tr gz_16
    have s_17 : Sa H H44 := (s_15).tr (m_Math_min z42)
    rcases ite_s hG with ⟨q_18, hF⟩ | ⟨q_18, hF⟩
    · clear hG
      obtain ⟨v47, H48, z46, hG⟩ := bC_s hF; clear hF
      have gz_19 := (g_SL_indexOfChar z46 hm.1 q_p0)
      replace hm : Rg Q H H48 := hm.tr gz_19
      have s_20 : Sa H H48 := (s_17).tr (m_SL_indexOfChar z46)
      have hr := Option.some.inj hG; subst hr
      exact hm
    · clear hG
      have hr := Option.some.inj hF; subst hr
      exact hm
set_option maxRecDepth 20000 in
set_option maxHeartbeats 2000000 in
theorem g_Str_indexOf2 {N : Nat} {Q : Nat → Prop} {p0 : Nat} {p1 : Int32} {p2 : Int32} {H : Hp} {r : Int32 × Hp} (hF : F_Str_indexOf2 N p0 p1 p2 H = some r) (hc0 : Cl Q H) (q_p0 : Q p0) : Rg Q H r.2 := by
  unfold F_Str_indexOf2 at hF
  have hm := Rg.rf hc0
  obtain ⟨q37, hG⟩ := ck_s hF; clear hF
  obtain ⟨v39, H40, z38, hF⟩ := bC_s hG; clear hG
  have gz_10 := (g_Str_isLatin1 z38 hm.1 q_p0)
  replace hm : Rg Q H H40 := hm.tr gz_10
  have s_11 : Sa H H40 := (m_Str_isLatin1 z38)
  rcases ite_s hF with ⟨q_12, hG⟩ | ⟨q_12, hG⟩
  · clear hF
    obtain ⟨a42, e43, hF⟩ := rf_s hG; clear hG
    have qa42 : Q a42 := hm.1 _ _ _ q_p0 e43
    obtain ⟨v45, H46, z44, hG⟩ := bC_s hF; clear hF
    have gz_13 := (g_Str_length z44 hm.1 q_p0)
    replace hm : Rg Q H H46 := hm.tr gz_13
    have s_14 : Sa H H46 := (s_11).tr (m_Str_length z44)
    cases hG
  · clear hF
    obtain ⟨a47, e48, hF⟩ := rf_s hG; clear hG
    have qa47 : Q a47 := hm.1 _ _ _ q_p0 e48
    obtain ⟨v50, H51, z49, hG⟩ := bC_s hF; clear hF
    have gz_15 := (g_Str_length z49 hm.1 q_p0)
    replace hm : Rg Q H H51 := hm.tr gz_15
    have s_16 : Sa H H51 := (s_11).tr (m_Str_length z49)
    obtain ⟨v53, H54, z52, hF⟩ := bC_s hG; clear hG
    have gz_17 := (g_SL_indexOf z52 hm.1 qa47)
    replace hm : Rg Q H H54 := hm.tr gz_17
    have s_18 : Sa H H54 := (s_16).tr (m_SL_indexOf z52)
    have hr := Option.some.inj hF; subst hr
    exact hm
set_option maxRecDepth 20000 in
set_option maxHeartbeats 2000000 in
theorem g_Str_indexOf {N : Nat} {Q : Nat → Prop} {p0 : Nat} {p1 : Int32} {H : Hp} {r : Int32 × Hp} (hF : F_Str_indexOf N p0 p1 H = some r) (hc0 : Cl Q H) (q_p0 : Q p0) : Rg Q H r.2 := by
  unfold F_Str_indexOf at hF
  have hm := Rg.rf hc0
  obtain ⟨q9, hG⟩ := ck_s hF; clear hF
  obtain ⟨v11, H12, z10, hF⟩ := bC_s hG; clear hG
  have gz_3 := (g_Str_indexOf2 z10 hm.1 q_p0)
  replace hm : Rg Q H H12 := hm.tr gz_3
  have s_4 : Sa H H12 := (m_Str_indexOf2 z10)
  have hr := Option.some.inj hF; subst hr
  exact hm
set_option maxRecDepth 20000 in
set_option maxHeartbeats 2000000 in
theorem g_Str_isLatin1_K2 {N : Nat} {Q : Nat → Prop}  {H : Hp} {r : Int32 × Hp} (hF : F_Str_isLatin1_K2 N  H = some r) (hc0 : Cl Q H) : Rg Q H r.2 := by
  unfold F_Str_isLatin1_K2 at hF
  have hm := Rg.rf hc0
  rcases ite_s hF with ⟨q_3, hG⟩ | ⟨q_3, hG⟩
  · clear hF
    have hr := Option.some.inj hG; subst hr
    exact hm
  · clear hF
    rcases ite_s hG with ⟨q_4, hF⟩ | ⟨q_4, hF⟩
    · clear hG
      have hr := Option.some.inj hF; subst hr
      exact hm
    · clear hG
      have hr := Option.some.inj hF; subst hr
      exact hm
set_option maxRecDepth 20000 in
set_option maxHeartbeats 2000000 in
theorem g_Str_coder_K2 {N : Nat} {Q : Nat → Prop}  {H : Hp} {r : Int32 × Hp} (hF : F_Str_coder_K2 N  H = some r) (hc0 : Cl Q H) : Rg Q H r.2 := by
  unfold F_Str_coder_K2 at hF
  have hm := Rg.rf hc0
  rcases ite_s hF with ⟨q_2, hG⟩ | ⟨q_2, hG⟩
  · clear hF
    have hr := Option.some.inj hG; subst hr
    exact hm
  · clear hF
    have hr := Option.some.inj hG; subst hr
    exact hm
set_option maxRecDepth 20000 in
set_option maxHeartbeats 2000000 in
theorem g_Str_length_K2 {N : Nat} {Q : Nat → Prop}  {H : Hp} {r : Int32 × Hp} (hF : F_Str_length_K2 N  H = some r) (hc0 : Cl Q H) : Rg Q H r.2 := by
  unfold F_Str_length_K2 at hF
  have hm := Rg.rf hc0
  obtain ⟨v8, H9, z7, hG⟩ := bC_s hF; clear hF
  have gz_3 := (g_Str_coder_K2 z7 hm.1)
  replace hm : Rg Q H H9 := hm.tr gz_3
  have s_4 : Sa H H9 := (m_Str_coder_K2 z7)
  have hr := Option.some.inj hG; subst hr
  exact hm
set_option maxRecDepth 20000 in
set_option maxHeartbeats 2000000 in
theorem gB_SL_indexOfChar_K102_7 {N : Nat} {Q : Nat → Prop} {p1 : Int32} {p2 : Int32} {p3 : Int32} : ∀ (n : Nat) (l4 : Int32) (l5 : Int32) (H : Hp) (r : Int32 × Hp), B_SL_indexOfChar_K102_7 N p1 p2 p3 n l4 l5 H = some r → Cl Q H → Rg Q H r.2 := by
  intro n
  induction n with
  | zero => intro l4 l5 H r hF; rw [B_SL_indexOfChar_K102_7] at hF; cases hF
  | succ n ih =>
    intro l4 l5 H r hF hc0
    rw [B_SL_indexOfChar_K102_7] at hF
    have hm := Rg.rf hc0
    rcases ite_s hF with ⟨q_3, hG⟩ | ⟨q_3, hG⟩
    · clear hF
      have hr := Option.some.inj hG; subst hr
      exact hm
    · clear hF
      obtain ⟨q12, hF⟩ := ck_s hG; clear hG
      obtain ⟨x13, -, hG⟩ := bnd_g hF; clear hF
      rcases ite_s hG with ⟨q_4, hF⟩ | ⟨q_4, hF⟩
      · clear hG
        have hr := Option.some.inj hF; subst hr
        exact hm
      · clear hG
        exact hm.tr (ih l4 (l5 + 1) H r hF hm.1)
set_option maxRecDepth 20000 in
set_option maxHeartbeats 2000000 in
theorem g_SL_indexOfChar_K102 {N : Nat} {Q : Nat → Prop} {p1 : Int32} {p2 : Int32} {p3 : Int32} {H : Hp} {r : Int32 × Hp} (hF : F_SL_indexOfChar_K102 N p1 p2 p3 H = some r) (hc0 : Cl Q H) : Rg Q H r.2 := by
  unfold F_SL_indexOfChar_K102 at hF
  have hm := Rg.rf hc0
  obtain ⟨x15, -, hG⟩ := bnd_g hF; clear hF
  exact hm.tr (gB_SL_indexOfChar_K102_7 N x15 p2 H r hG hm.1)
set_option maxRecDepth 20000 in
set_option maxHeartbeats 2000000 in
theorem g_SL_indexOf_K102 {N : Nat} {Q : Nat → Prop} {p1 : Int32} {l2 : Int32} {l3 : Int32} {H : Hp} {r : Int32 × Hp} (hF : F_SL_indexOf_K102 N p1 l2 l3 H = some r) (hc0 : Cl Q H) : Rg Q H r.2 := by
  unfold F_SL_indexOf_K102 at hF
  have hm := Rg.rf hc0
  obtain ⟨v30, H31, z29, hG⟩ := bC_s hF; clear hF
  have gz_11 := (g_SL_canEncode z29 hm.1)
  replace hm : Rg Q H H31 := hm.tr gz_11
  have s_12 : Sa H H31 := (m_SL_canEncode z29)
  rcases ite_s hG with ⟨q_13, hF⟩ | ⟨q_13, hF⟩
  · clear hG
    have hr := Option.some.inj hF; subst hr
    exact hm
  · clear hG
    obtain ⟨v34, H35, z33, hG⟩ := bC_s hF; clear hF
    have gz_14 := (g_Math_max z33 hm.1)
    replace hm : Rg Q H H35 := hm.tr gz_14
    have s_15 : Sa H H35 := (s_12).tr (m_Math_max z33)
    obtain ⟨v37, H38, z36, hF⟩ := bC_s hG; clear hG
    have gz_16 := (g_Math_min z36 hm.1)
    replace hm : Rg Q H H38 := hm.tr gz_16
    have s_17 : Sa H H38 := (s_15).tr (m_Math_min z36)
    rcases ite_s hF with ⟨q_18, hG⟩ | ⟨q_18, hG⟩
    · clear hF
      obtain ⟨v41, H42, z40, hF⟩ := bC_s hG; clear hG
      have gz_19 := (g_SL_indexOfChar_K102 z40 hm.1)
      replace hm : Rg Q H H42 := hm.tr gz_19
      have s_20 : Sa H H42 := (s_17).tr (m_SL_indexOfChar_K102 z40)
      have hr := Option.some.inj hF; subst hr
      exact hm
    · clear hF
      have hr := Option.some.inj hG; subst hr
      exact hm
set_option maxRecDepth 20000 in
set_option maxHeartbeats 2000000 in
theorem g_Str_indexOf2_K2 {N : Nat} {Q : Nat → Prop} {p1 : Int32} {p2 : Int32} {H : Hp} {r : Int32 × Hp} (hF : F_Str_indexOf2_K2 N p1 p2 H = some r) (hc0 : Cl Q H) : Rg Q H r.2 := by
  unfold F_Str_indexOf2_K2 at hF
  have hm := Rg.rf hc0
  obtain ⟨v28, H29, z27, hG⟩ := bC_s hF; clear hF
  have gz_10 := (g_Str_isLatin1_K2 z27 hm.1)
  replace hm : Rg Q H H29 := hm.tr gz_10
  have s_11 : Sa H H29 := (m_Str_isLatin1_K2 z27)
  rcases ite_s hG with ⟨q_12, hF⟩ | ⟨q_12, hF⟩
  · clear hG
    obtain ⟨v32, H33, z31, hG⟩ := bC_s hF; clear hF
    have gz_13 := (g_Str_length_K2 z31 hm.1)
    replace hm : Rg Q H H33 := hm.tr gz_13
    have s_14 : Sa H H33 := (s_11).tr (m_Str_length_K2 z31)
    cases hG
  · clear hG
    obtain ⟨v35, H36, z34, hG⟩ := bC_s hF; clear hF
    have gz_15 := (g_Str_length_K2 z34 hm.1)
    replace hm : Rg Q H H36 := hm.tr gz_15
    have s_16 : Sa H H36 := (s_11).tr (m_Str_length_K2 z34)
    obtain ⟨v38, H39, z37, hF⟩ := bC_s hG; clear hG
    have gz_17 := (g_SL_indexOf_K102 z37 hm.1)
    replace hm : Rg Q H H39 := hm.tr gz_17
    have s_18 : Sa H H39 := (s_16).tr (m_SL_indexOf_K102 z37)
    have hr := Option.some.inj hF; subst hr
    exact hm
set_option maxRecDepth 20000 in
set_option maxHeartbeats 2000000 in
theorem g_Str_indexOf_K2 {N : Nat} {Q : Nat → Prop} {p1 : Int32} {H : Hp} {r : Int32 × Hp} (hF : F_Str_indexOf_K2 N p1 H = some r) (hc0 : Cl Q H) : Rg Q H r.2 := by
  unfold F_Str_indexOf_K2 at hF
  have hm := Rg.rf hc0
  obtain ⟨v8, H9, z7, hG⟩ := bC_s hF; clear hF
  have gz_3 := (g_Str_indexOf2_K2 z7 hm.1)
  replace hm : Rg Q H H9 := hm.tr gz_3
  have s_4 : Sa H H9 := (m_Str_indexOf2_K2 z7)
  have hr := Option.some.inj hG; subst hr
  exact hm
set_option maxRecDepth 20000 in
set_option maxHeartbeats 2000000 in
theorem gB_Lexer_behindSign_167 {N : Nat} {Q : Nat → Prop} {p0 : Nat} {p1 : Int32} (q_p0 : Q p0) {l4 : Int32} {H : Hp} {r : Int32 × Hp} (hF : B_Lexer_behindSign_167 N p0 p1 l4 H = some r) (hc0 : Cl Q H) : Rg Q H r.2 := by
  unfold B_Lexer_behindSign_167 at hF
  have hm := Rg.rf hc0
  obtain ⟨q73, hG⟩ := ck_s hF; clear hF
  obtain ⟨v75, H76, z74, hF⟩ := bC_s hG; clear hG
  have gz_27 := (g_Lexer_note z74 hm.1 q_p0)
  replace hm : Rg Q H H76 := hm.tr gz_27
  have s_28 : Sa H H76 := (m_Lexer_note z74)
  have hr := Option.some.inj hF; subst hr
  exact hm
set_option maxRecDepth 20000 in
set_option maxHeartbeats 2000000 in
theorem gB_Lexer_behindSign_136 {N : Nat} {Q : Nat → Prop} {p0 : Nat} {p1 : Int32} (q_p0 : Q p0) {l2 : Int32} {l4 : Int32} {H : Hp} {r : Int32 × Hp} (hF : B_Lexer_behindSign_136 N p0 p1 l2 l4 H = some r) (hc0 : Cl Q H) : Rg Q H r.2 := by
  unfold B_Lexer_behindSign_136 at hF
  have hm := Rg.rf hc0
  obtain ⟨v78, H79, z77, hG⟩ := bC_s hF; clear hF
  have gz_29 := (g_Str_indexOf_K2 z77 hm.1)
  replace hm : Rg Q H H79 := hm.tr gz_29
  have s_30 : Sa H H79 := (m_Str_indexOf_K2 z77)
  rcases ite_s hG with ⟨q_31, hF⟩ | ⟨q_31, hF⟩
  · clear hG
    exact hm.tr (gB_Lexer_behindSign_167 q_p0 hF hm.1)
  · clear hG
    obtain ⟨v82, H83, z81, hG⟩ := bC_s hF; clear hF
    have gz_32 := (g_Str_indexOf_K2 z81 hm.1)
    replace hm : Rg Q H H83 := hm.tr gz_32
    have s_33 : Sa H H83 := (s_30).tr (m_Str_indexOf_K2 z81)
    obtain ⟨q84, hF⟩ := ck_s hG; clear hG
    rw [(s_33).1] at q84
    obtain ⟨v86, H87, z85, hG⟩ := bC_s hF; clear hF
    have gz_34 := (g_Lexer_note z85 hm.1 q_p0)
    replace hm : Rg Q H H87 := hm.tr gz_34
    have s_35 : Sa H H87 := (s_33).tr (m_Lexer_note z85)
    have hr := Option.some.inj hG; subst hr
    exact hm
set_option maxRecDepth 20000 in
set_option maxHeartbeats 2000000 in
theorem gB_Lexer_behindSign_131 {N : Nat} {Q : Nat → Prop} {p0 : Nat} {p1 : Int32} (q_p0 : Q p0) {w0 : Int32} {H : Hp} {r : Int32 × Hp} (hF : B_Lexer_behindSign_131 N p0 p1 w0 H = some r) (hc0 : Cl Q H) : Rg Q H r.2 := by
  unfold B_Lexer_behindSign_131 at hF
  have hm := Rg.rf hc0
  exact hm.tr (gB_Lexer_behindSign_167 q_p0 hF hm.1)
set_option maxRecDepth 20000 in
set_option maxHeartbeats 2000000 in
theorem gB_Lexer_behindSign_118 {N : Nat} {Q : Nat → Prop} {p0 : Nat} {p1 : Int32} (q_p0 : Q p0) {l2 : Int32} {H : Hp} {r : Int32 × Hp} (hF : B_Lexer_behindSign_118 N p0 p1 l2 H = some r) (hc0 : Cl Q H) : Rg Q H r.2 := by
  unfold B_Lexer_behindSign_118 at hF
  have hm := Rg.rf hc0
  rcases ite_s hF with ⟨q_36, hG⟩ | ⟨q_36, hG⟩
  · clear hF
    exact hm.tr (gB_Lexer_behindSign_131 q_p0 hG hm.1)
  · clear hF
    exact hm.tr (gB_Lexer_behindSign_131 q_p0 hG hm.1)
set_option maxRecDepth 20000 in
set_option maxHeartbeats 2000000 in
theorem gB_Lexer_behindSign_101 {N : Nat} {Q : Nat → Prop} {p0 : Nat} {p1 : Int32} (q_p0 : Q p0) {l2 : Int32} {l3 : Int32} {l4 : Int32} {H : Hp} {r : Int32 × Hp} (hF : B_Lexer_behindSign_101 N p0 p1 l2 l3 l4 H = some r) (hc0 : Cl Q H) : Rg Q H r.2 := by
  unfold B_Lexer_behindSign_101 at hF
  have hm := Rg.rf hc0
  rcases ite_s hF with ⟨q_37, hG⟩ | ⟨q_37, hG⟩
  · clear hF
    rcases ite_s hG with ⟨q_38, hF⟩ | ⟨q_38, hF⟩
    · clear hG
      exact hm.tr (gB_Lexer_behindSign_118 q_p0 hF hm.1)
    · clear hG
      rcases ite_s hF with ⟨q_39, hG⟩ | ⟨q_39, hG⟩
      · clear hF
        exact hm.tr (gB_Lexer_behindSign_118 q_p0 hG hm.1)
      · clear hF
        exact hm.tr (gB_Lexer_behindSign_136 q_p0 hG hm.1)
  · clear hF
    exact hm.tr (gB_Lexer_behindSign_136 q_p0 hG hm.1)
set_option maxRecDepth 20000 in
set_option maxHeartbeats 2000000 in
theorem gB_Lexer_behindSign_96 {N : Nat} {Q : Nat → Prop} {p0 : Nat} {p1 : Int32} (q_p0 : Q p0) {w0 : Int32} {H : Hp} {r : Int32 × Hp} (hF : B_Lexer_behindSign_96 N p0 p1 w0 H = some r) (hc0 : Cl Q H) : Rg Q H r.2 := by
  unfold B_Lexer_behindSign_96 at hF
  have hm := Rg.rf hc0
  exact hm.tr (gB_Lexer_behindSign_167 q_p0 hF hm.1)
set_option maxRecDepth 20000 in
set_option maxHeartbeats 2000000 in
theorem gB_Lexer_behindSign_61 {N : Nat} {Q : Nat → Prop} {p0 : Nat} {p1 : Int32} (q_p0 : Q p0) {l2 : Int32} {H : Hp} {r : Int32 × Hp} (hF : B_Lexer_behindSign_61 N p0 p1 l2 H = some r) (hc0 : Cl Q H) : Rg Q H r.2 := by
  unfold B_Lexer_behindSign_61 at hF
  have hm := Rg.rf hc0
  rcases ite_s hF with ⟨q_40, hG⟩ | ⟨q_40, hG⟩
  · clear hF
    exact hm.tr (gB_Lexer_behindSign_96 q_p0 hG hm.1)
  · clear hF
    rcases ite_s hG with ⟨q_41, hF⟩ | ⟨q_41, hF⟩
    · clear hG
      exact hm.tr (gB_Lexer_behindSign_96 q_p0 hF hm.1)
    · clear hG
      rcases ite_s hF with ⟨q_42, hG⟩ | ⟨q_42, hG⟩
      · clear hF
        exact hm.tr (gB_Lexer_behindSign_96 q_p0 hG hm.1)
      · clear hF
        exact hm.tr (gB_Lexer_behindSign_96 q_p0 hG hm.1)
set_option maxRecDepth 20000 in
set_option maxHeartbeats 2000000 in
theorem gB_Lexer_behindSign_27 {N : Nat} {Q : Nat → Prop} {p0 : Nat} {p1 : Int32} (q_p0 : Q p0) {l2 : Int32} {w0 : Int32} {H : Hp} {r : Int32 × Hp} (hF : B_Lexer_behindSign_27 N p0 p1 l2 w0 H = some r) (hc0 : Cl Q H) : Rg Q H r.2 := by
  unfold B_Lexer_behindSign_27 at hF
  have hm := Rg.rf hc0
  rcases ite_s hF with ⟨q_43, hG⟩ | ⟨q_43, hG⟩
  · clear hF
    rcases ite_s hG with ⟨q_44, hF⟩ | ⟨q_44, hF⟩
    · clear hG
      exact hm.tr (gB_Lexer_behindSign_61 q_p0 hF hm.1)
    · clear hG
      rcases ite_s hF with ⟨q_45, hG⟩ | ⟨q_45, hG⟩
      · clear hF
        exact hm.tr (gB_Lexer_behindSign_61 q_p0 hG hm.1)
      · clear hF
        rcases ite_s hG with ⟨q_46, hF⟩ | ⟨q_46, hF⟩
        · clear hG
          exact hm.tr (gB_Lexer_behindSign_61 q_p0 hF hm.1)
        · clear hG
          rcases ite_s hF with ⟨q_47, hG⟩ | ⟨q_47, hG⟩
          · clear hF
            exact hm.tr (gB_Lexer_behindSign_61 q_p0 hG hm.1)
          · clear hF
            exact hm.tr (gB_Lexer_behindSign_101 q_p0 hG hm.1)
  · clear hF
    exact hm.tr (gB_Lexer_behindSign_101 q_p0 hG hm.1)
set_option maxRecDepth 20000 in
set_option maxHeartbeats 2000000 in
theorem g_Lexer_behindSign {N : Nat} {Q : Nat → Prop} {p0 : Nat} {p1 : Int32} {H : Hp} {r : Int32 × Hp} (hF : F_Lexer_behindSign N p0 p1 H = some r) (hc0 : Cl Q H) (q_p0 : Q p0) : Rg Q H r.2 := by
  unfold F_Lexer_behindSign at hF
  have hm := Rg.rf hc0
  obtain ⟨q100, hG⟩ := ck_s hF; clear hF
  obtain ⟨v102, H103, z101, hF⟩ := bC_s hG; clear hG
  have gz_48 := (g_Lexer_byteAt z101 hm.1 q_p0)
  replace hm : Rg Q H H103 := hm.tr gz_48
  have s_49 : Sa H H103 := (m_Lexer_byteAt z101)
  obtain ⟨x104, -, hG⟩ := bnd_g hF; clear hF
  rcases ite_s hG with ⟨q_50, hF⟩ | ⟨q_50, hF⟩
  · clear hG
    exact hm.tr (gB_Lexer_behindSign_27 q_p0 hF hm.1)
  · clear hG
    obtain ⟨v107, H108, z106, hG⟩ := bC_s hF; clear hF
    have gz_51 := (g_Lexer_byteAt z106 hm.1 q_p0)
    replace hm : Rg Q H H108 := hm.tr gz_51
    have s_52 : Sa H H108 := (s_49).tr (m_Lexer_byteAt z106)
    exact hm.tr (gB_Lexer_behindSign_27 q_p0 hG hm.1)
set_option maxRecDepth 20000 in
set_option maxHeartbeats 2000000 in
theorem g_Lexer_behindToken {N : Nat} {Q : Nat → Prop} {p0 : Nat} {p1 : Int32} {H : Hp} {r : Int32 × Hp} (hF : F_Lexer_behindToken N p0 p1 H = some r) (hc0 : Cl Q H) (q_p0 : Q p0) : Rg Q H r.2 := by
  unfold F_Lexer_behindToken at hF
  have hm := Rg.rf hc0
  obtain ⟨q43, hG⟩ := ck_s hF; clear hF
  obtain ⟨v45, H46, z44, hF⟩ := bC_s hG; clear hG
  have gz_15 := (g_Lexer_byteAt z44 hm.1 q_p0)
  replace hm : Rg Q H H46 := hm.tr gz_15
  have s_16 : Sa H H46 := (m_Lexer_byteAt z44)
  obtain ⟨v48, H49, z47, hG⟩ := bC_s hF; clear hF
  have gz_17 := (g_Lexer_isLetter z47 hm.1)
  replace hm : Rg Q H H49 := hm.tr gz_17
  have s_18 : Sa H H49 := (s_16).tr (m_Lexer_isLetter z47)
  rcases ite_s hG with ⟨q_19, hF⟩ | ⟨q_19, hF⟩
  · clear hG
    obtain ⟨v52, H53, z51, hG⟩ := bC_s hF; clear hF
    have gz_20 := (g_Lexer_isDigit z51 hm.1)
    replace hm : Rg Q H H53 := hm.tr gz_20
    have s_21 : Sa H H53 := (s_18).tr (m_Lexer_isDigit z51)
    rcases ite_s hG with ⟨q_22, hF⟩ | ⟨q_22, hF⟩
    · clear hG
      obtain ⟨v56, H57, z55, hG⟩ := bC_s hF; clear hF
      have gz_23 := (g_Lexer_behindSign z55 hm.1 q_p0)
      replace hm : Rg Q H H57 := hm.tr gz_23
      have s_24 : Sa H H57 := (s_21).tr (m_Lexer_behindSign z55)
      have hr := Option.some.inj hG; subst hr
      exact hm
    · clear hG
      obtain ⟨v59, H60, z58, hG⟩ := bC_s hF; clear hF
      have gz_25 := (g_Lexer_behindNumber z58 hm.1 q_p0)
      replace hm : Rg Q H H60 := hm.tr gz_25
      have s_26 : Sa H H60 := (s_21).tr (m_Lexer_behindNumber z58)
      have hr := Option.some.inj hG; subst hr
      exact hm
  · clear hG
    obtain ⟨v62, H63, z61, hG⟩ := bC_s hF; clear hF
    have gz_27 := (g_Lexer_behindName z61 hm.1 q_p0)
    replace hm : Rg Q H H63 := hm.tr gz_27
    have s_28 : Sa H H63 := (s_18).tr (m_Lexer_behindName z61)
    have hr := Option.some.inj hG; subst hr
    exact hm
set_option maxRecDepth 20000 in
set_option maxHeartbeats 2000000 in
theorem gB_Lexer_begin_103 {N : Nat} {Q : Nat → Prop} {p0 : Nat} (q_p0 : Q p0)  {H : Hp} {r : Unit × Hp} (hF : B_Lexer_begin_103 N p0  H = some r) (hc0 : Cl Q H) : Rg Q H r.2 := by
  unfold B_Lexer_begin_103 at hF
  have hm := Rg.rf hc0
  obtain ⟨q101, hG⟩ := ck_s hF; clear hF
  obtain ⟨H102, eH102, hF⟩ := bnd_g hG; clear hG
  replace hm : Rg Q H H102 := hm.tr (by rw [eH102]; exact Rg.sD hm.1 q_p0)
  have s_27 : Sa H H102 := by rw [eH102]; exact Sa.rf _
  obtain ⟨a103, e104, hG⟩ := rf_s hF; clear hF
  have qa103 : Q a103 := hm.1 _ _ _ q_p0 e104
  obtain ⟨n105, q106, hF⟩ := ar_s hG; clear hG
  rw [(s_27).1] at q106
  obtain ⟨q107, hG⟩ := ck_s hF; clear hF
  obtain ⟨x108, -, hF⟩ := bnd_g hG; clear hG
  obtain ⟨H109, eH109, hG⟩ := bnd_g hF; clear hF
  replace hm : Rg Q H H109 := hm.tr (by rw [eH109]; exact Rg.sD hm.1 q_p0)
  have s_28 : Sa H H109 := by rw [eH109]; exact s_27
  obtain ⟨a110, e111, hF⟩ := rf_s hG; clear hG
  have qa110 : Q a110 := hm.1 _ _ _ q_p0 e111
  obtain ⟨n112, q113, hG⟩ := ar_s hF; clear hF
  rw [(s_28).1] at q113
  obtain ⟨q114, hF⟩ := ck_s hG; clear hG
  obtain ⟨x115, -, hG⟩ := bnd_g hF; clear hF
  obtain ⟨H116, eH116, hF⟩ := bnd_g hG; clear hG
  replace hm : Rg Q H H116 := hm.tr (by rw [eH116]; exact Rg.sD hm.1 q_p0)
  have s_29 : Sa H H116 := by rw [eH116]; exact s_28
  have hr := Option.some.inj hF; subst hr
  exact hm
set_option maxRecDepth 20000 in
set_option maxHeartbeats 2000000 in
theorem gB_Lexer_begin_88 {N : Nat} {Q : Nat → Prop} {p0 : Nat} (q_p0 : Q p0) {l1 : Int32} {H : Hp} {r : Unit × Hp} (hF : B_Lexer_begin_88 N p0 l1 H = some r) (hc0 : Cl Q H) : Rg Q H r.2 := by
  unfold B_Lexer_begin_88 at hF
  have hm := Rg.rf hc0
  rcases ite_s hF with ⟨q_30, hG⟩ | ⟨q_30, hG⟩
  · clear hF
    exact hm.tr (gB_Lexer_begin_103 q_p0 hG hm.1)
  · clear hF
    obtain ⟨q118, hF⟩ := ck_s hG; clear hG
    obtain ⟨x119, -, hG⟩ := bnd_g hF; clear hF
    obtain ⟨v121, H122, z120, hF⟩ := bC_s hG; clear hG
    have gz_31 := (g_Lexer_note z120 hm.1 q_p0)
    replace hm : Rg Q H H122 := hm.tr gz_31
    have s_32 : Sa H H122 := (m_Lexer_note z120)
    exact hm.tr (gB_Lexer_begin_103 q_p0 hF hm.1)
set_option maxRecDepth 20000 in
set_option maxHeartbeats 2000000 in
theorem gB_Lexer_begin_81 {N : Nat} {Q : Nat → Prop} {p0 : Nat} {kq25 : Int32 → Int32 → Int32 → Hp → Option (Unit × Hp)} (q_p0 : Q p0) (hg25 : ∀ (l1 : Int32) (l2 : Int32) (l3 : Int32) (H : Hp) (r : Unit × Hp), kq25 l1 l2 l3 H = some r → Cl Q H → Rg Q H r.2) {l2 : Int32} {l3 : Int32} {w0 : Int32} {H : Hp} {r : Unit × Hp} (hF : B_Lexer_begin_81 N p0 kq25 l2 l3 w0 H = some r) (hc0 : Cl Q H) : Rg Q H r.2 := by
  unfold B_Lexer_begin_81 at hF
  have hm := Rg.rf hc0
  exact hm.tr (hg25 w0 l2 (l3 + 1) H r hF hm.1)
set_option maxRecDepth 20000 in
set_option maxHeartbeats 2000000 in
theorem gB_Lexer_begin_80 {N : Nat} {Q : Nat → Prop} {p0 : Nat} {kq25 : Int32 → Int32 → Int32 → Hp → Option (Unit × Hp)} (q_p0 : Q p0) (hg25 : ∀ (l1 : Int32) (l2 : Int32) (l3 : Int32) (H : Hp) (r : Unit × Hp), kq25 l1 l2 l3 H = some r → Cl Q H → Rg Q H r.2) {l2 : Int32} {l3 : Int32} {H : Hp} {r : Unit × Hp} (hF : B_Lexer_begin_80 N p0 kq25 l2 l3 H = some r) (hc0 : Cl Q H) : Rg Q H r.2 := by
  unfold B_Lexer_begin_80 at hF
  have hm := Rg.rf hc0
  exact hm.tr (gB_Lexer_begin_81 q_p0 hg25 hF hm.1)
set_option maxRecDepth 20000 in
set_option maxHeartbeats 2000000 in
theorem gB_Lexer_begin_25 {N : Nat} {Q : Nat → Prop} {p0 : Nat} (q_p0 : Q p0) : ∀ (n : Nat) (l1 : Int32) (l2 : Int32) (l3 : Int32) (H : Hp) (r : Unit × Hp), B_Lexer_begin_25 N p0 n l1 l2 l3 H = some r → Cl Q H → Rg Q H r.2 := by
  intro n
  induction n with
  | zero => intro l1 l2 l3 H r hF; rw [B_Lexer_begin_25] at hF; cases hF
  | succ n ih =>
    intro l1 l2 l3 H r hF hc0
    rw [B_Lexer_begin_25] at hF
    have hm := Rg.rf hc0
    rcases ite_s hF with ⟨q_33, hG⟩ | ⟨q_33, hG⟩
    · clear hF
      exact hm.tr (gB_Lexer_begin_88 q_p0 hG hm.1)
    · clear hF
      rcases ite_s hG with ⟨q_34, hF⟩ | ⟨q_34, hF⟩
      · clear hG
        exact hm.tr (gB_Lexer_begin_88 q_p0 hF hm.1)
      · clear hG
        obtain ⟨q125, hG⟩ := ck_s hF; clear hF
        obtain ⟨x126, -, hF⟩ := bnd_g hG; clear hG
        rcases ite_s hF with ⟨q_35, hG⟩ | ⟨q_35, hG⟩
        · clear hF
          exact hm.tr (gB_Lexer_begin_88 q_p0 hG hm.1)
        · clear hF
          obtain ⟨v129, H130, z128, hF⟩ := bC_s hG; clear hG
          have gz_36 := (g_Lexer_behindToken z128 hm.1 q_p0)
          replace hm : Rg Q H H130 := hm.tr gz_36
          have s_37 : Sa H H130 := (m_Lexer_behindToken z128)
          obtain ⟨v132, H133, z131, hG⟩ := bC_s hF; clear hF
          have gz_38 := (g_Lexer_behindBlanks z131 hm.1 q_p0)
          replace hm : Rg Q H H133 := hm.tr gz_38
          have s_39 : Sa H H133 := (s_37).tr (m_Lexer_behindBlanks z131)
          obtain ⟨x134, -, hF⟩ := bnd_g hG; clear hG
          rcases ite_s hF with ⟨q_40, hG⟩ | ⟨q_40, hG⟩
          · clear hF
            exact hm.tr (gB_Lexer_begin_80 q_p0 ih hG hm.1)
          · clear hF
            obtain ⟨a136, e137, hF⟩ := rf_s hG; clear hG
            have qa136 : Q a136 := hm.1 _ _ _ q_p0 e137
            obtain ⟨x138, -, hG⟩ := bnd_g hF; clear hF
            obtain ⟨n139, q140, hF⟩ := ar_s hG; clear hG
            rw [(s_39).1] at q140
            obtain ⟨q141, hG⟩ := ck_s hF; clear hF
            obtain ⟨x142, -, hF⟩ := bnd_g hG; clear hG
            rcases ite_s hF with ⟨q_41, hG⟩ | ⟨q_41, hG⟩
            · clear hF
              exact hm.tr (gB_Lexer_begin_80 q_p0 ih hG hm.1)
            · clear hF
              exact hm.tr (gB_Lexer_begin_81 q_p0 ih hG hm.1)
set_option maxRecDepth 20000 in
set_option maxHeartbeats 2000000 in
theorem g_Lexer_begin {N : Nat} {Q : Nat → Prop} {p0 : Nat} {H : Hp} {r : Unit × Hp} (hF : F_Lexer_begin N p0 H = some r) (hc0 : Cl Q H) (q_p0 : Q p0) : Rg Q H r.2 := by
  unfold F_Lexer_begin at hF
  have hm := Rg.rf hc0
  obtain ⟨q144, hG⟩ := ck_s hF; clear hF
  obtain ⟨H145, eH145, hF⟩ := bnd_g hG; clear hG
  replace hm : Rg Q H H145 := hm.tr (by rw [eH145]; exact Rg.sD hm.1 q_p0)
  have s_42 : Sa H H145 := by rw [eH145]; exact Sa.rf _
  obtain ⟨H146, eH146, hG⟩ := bnd_g hF; clear hF
  replace hm : Rg Q H H146 := hm.tr (by rw [eH146]; exact Rg.sD hm.1 q_p0)
  have s_43 : Sa H H146 := by rw [eH146]; exact s_42
  obtain ⟨H147, eH147, hF⟩ := bnd_g hG; clear hG
  replace hm : Rg Q H H147 := hm.tr (by rw [eH147]; exact Rg.sD hm.1 q_p0)
  have s_44 : Sa H H147 := by rw [eH147]; exact s_43
  obtain ⟨v149, H150, z148, hG⟩ := bC_s hF; clear hF
  have gz_45 := (g_Lexer_behindBlanks z148 hm.1 q_p0)
  replace hm : Rg Q H H150 := hm.tr gz_45
  have s_46 : Sa H H150 := (s_44).tr (m_Lexer_behindBlanks z148)
  exact hm.tr (gB_Lexer_begin_25 q_p0 N 1 v149 0 H150 r hG hm.1)
set_option maxRecDepth 20000 in
set_option maxHeartbeats 2000000 in
theorem g_Lexer_refuse {N : Nat} {Q : Nat → Prop} {p0 : Nat} {p1 : Int32} {p2 : Int32} {H : Hp} {r : (Ot Unit) × Hp} {B : Nat} (hn : ∀ a, B ≤ a → Q a) (hF : F_Lexer_refuse N p0 p1 p2 H = some r) (hc0 : Cl Q H) (hB : B ≤ H.sh.length) (q_p0 : Q p0) : Rg Q H r.2 ∧ (∀ x, r.1 = .inr x → Q x) := by
  unfold F_Lexer_refuse at hF
  have hm := Rg.rf hc0
  obtain ⟨q9, hG⟩ := ck_s hF; clear hF
  obtain ⟨H10, eH10, hF⟩ := bnd_g hG; clear hG
  replace hm : Rg Q H H10 := hm.tr (by rw [eH10]; exact Rg.sD hm.1 q_p0)
  have s_5 : Sa H H10 := by rw [eH10]; exact Sa.rf _
  replace hB : B ≤ H10.sh.length := by rw [eH10]; exact hB
  obtain ⟨H11, eH11, hG⟩ := bnd_g hF; clear hF
  replace hm : Rg Q H H11 := hm.tr (by rw [eH11]; exact Rg.sD hm.1 q_p0)
  have s_6 : Sa H H11 := by rw [eH11]; exact s_5
  replace hB : B ≤ H11.sh.length := by rw [eH11]; exact hB
  have hr := Option.some.inj hG; subst hr
  exact ⟨hm.tr (Rg.nx hm.1), (fun x e => by cases e; exact hn _ hB)⟩
set_option maxRecDepth 20000 in
set_option maxHeartbeats 2000000 in
theorem g_Lexer_advance {N : Nat} {Q : Nat → Prop} {p0 : Nat} {H : Hp} {r : Unit × Hp} (hF : F_Lexer_advance N p0 H = some r) (hc0 : Cl Q H) (q_p0 : Q p0) : Rg Q H r.2 := by
  unfold F_Lexer_advance at hF
  have hm := Rg.rf hc0
  obtain ⟨q45, hG⟩ := ck_s hF; clear hF
  obtain ⟨x46, -, hF⟩ := bnd_g hG; clear hG
  obtain ⟨x47, -, hG⟩ := bnd_g hF; clear hF
  rcases ite_s hG with ⟨q_8, hF⟩ | ⟨q_8, hF⟩
  · clear hG
    have hr := Option.some.inj hF; subst hr
    exact hm
  · clear hG
    obtain ⟨x49, -, hG⟩ := bnd_g hF; clear hF
    obtain ⟨H50, eH50, hF⟩ := bnd_g hG; clear hG
    replace hm : Rg Q H H50 := hm.tr (by rw [eH50]; exact Rg.sD hm.1 q_p0)
    have s_9 : Sa H H50 := by rw [eH50]; exact Sa.rf _
    obtain ⟨a51, e52, hG⟩ := rf_s hF; clear hF
    have qa51 : Q a51 := hm.1 _ _ _ q_p0 e52
    obtain ⟨x53, -, hF⟩ := bnd_g hG; clear hG
    obtain ⟨n54, q55, hG⟩ := ar_s hF; clear hF
    rw [(s_9).1] at q55
    obtain ⟨q56, hF⟩ := ck_s hG; clear hG
    obtain ⟨x57, -, hG⟩ := bnd_g hF; clear hF
    obtain ⟨H58, eH58, hF⟩ := bnd_g hG; clear hG
    replace hm : Rg Q H H58 := hm.tr (by rw [eH58]; exact Rg.sD hm.1 q_p0)
    have s_10 : Sa H H58 := by rw [eH58]; exact s_9
    obtain ⟨a59, e60, hG⟩ := rf_s hF; clear hF
    have qa59 : Q a59 := hm.1 _ _ _ q_p0 e60
    obtain ⟨x61, -, hF⟩ := bnd_g hG; clear hG
    obtain ⟨n62, q63, hG⟩ := ar_s hF; clear hF
    rw [(s_10).1] at q63
    obtain ⟨q64, hF⟩ := ck_s hG; clear hG
    obtain ⟨x65, -, hG⟩ := bnd_g hF; clear hF
    obtain ⟨H66, eH66, hF⟩ := bnd_g hG; clear hG
    replace hm : Rg Q H H66 := hm.tr (by rw [eH66]; exact Rg.sD hm.1 q_p0)
    have s_11 : Sa H H66 := by rw [eH66]; exact s_10
    have hr := Option.some.inj hF; subst hr
    exact hm
set_option maxRecDepth 20000 in
set_option maxHeartbeats 2000000 in
theorem gB_Reader_beginOne_20 {N : Nat} {Q : Nat → Prop} {p0 : Nat} {p1 : Int32} {p2 : Int32} {B : Nat} (hn : ∀ a, B ≤ a → Q a) (q_p0 : Q p0)  {H : Hp} {r : (Ot Unit) × Hp} (hF : B_Reader_beginOne_20 N p0 p1 p2  H = some r) (hc0 : Cl Q H) (hB : B ≤ H.sh.length) : Rg Q H r.2 ∧ (∀ x, r.1 = .inr x → Q x) := by
  unfold B_Reader_beginOne_20 at hF
  have hm := Rg.rf hc0
  obtain ⟨q41, hG⟩ := ck_s hF; clear hF
  obtain ⟨a42, e43, hF⟩ := rf_s hG; clear hG
  have qa42 : Q a42 := hm.1 _ _ _ q_p0 e43
  obtain ⟨q44, hG⟩ := ck_s hF; clear hF
  obtain ⟨v46, H47, z45, hF⟩ := bC_s hG; clear hG
  have gz_13 := (g_Lexer_advance z45 hm.1 qa42)
  replace hm : Rg Q H H47 := hm.tr gz_13
  replace hB : B ≤ H47.sh.length := Nat.le_trans hB ((m_Lexer_advance z45)).mo.len
  have s_14 : Sa H H47 := (m_Lexer_advance z45)
  have hr := Option.some.inj hF; subst hr
  exact ⟨hm, (fun x e => by cases e)⟩
set_option maxRecDepth 20000 in
set_option maxHeartbeats 2000000 in
theorem g_Reader_beginOne {N : Nat} {Q : Nat → Prop} {p0 : Nat} {p1 : Int32} {p2 : Int32} {H : Hp} {r : (Ot Unit) × Hp} {B : Nat} (hn : ∀ a, B ≤ a → Q a) (hF : F_Reader_beginOne N p0 p1 p2 H = some r) (hc0 : Cl Q H) (hB : B ≤ H.sh.length) (q_p0 : Q p0) : Rg Q H r.2 ∧ (∀ x, r.1 = .inr x → Q x) := by
  unfold F_Reader_beginOne at hF
  have hm := Rg.rf hc0
  rcases ite_s hF with ⟨q_15, hG⟩ | ⟨q_15, hG⟩
  · clear hF
    have gz := gB_Reader_beginOne_20 hn q_p0 hG hm.1 hB
    exact ⟨hm.tr gz.1, gz.2⟩
  · clear hF
    obtain ⟨q49, hF⟩ := ck_s hG; clear hG
    obtain ⟨a50, e51, hG⟩ := rf_s hF; clear hF
    have qa50 : Q a50 := hm.1 _ _ _ q_p0 e51
    obtain ⟨a52, e53, hF⟩ := rf_s hG; clear hG
    have qa52 : Q a52 := hm.1 _ _ _ q_p0 e53
    obtain ⟨q54, hG⟩ := ck_s hF; clear hF
    obtain ⟨x55, -, hF⟩ := bnd_g hG; clear hG
    obtain ⟨q56, hG⟩ := ck_s hF; clear hF
    refine bT_c hG (fun x60 H59 z57 er => ?_) (fun v58 H59 z57 hF => ?_)
    · subst er; have gz := (g_Lexer_refuse hn z57 hm.1 hB qa50); exact ⟨hm.tr gz.1, (fun x e => by cases e; exact gz.2 _ rfl)⟩
    clear hG
    have gz_16 := (g_Lexer_refuse hn z57 hm.1 hB qa50)
    replace hm : Rg Q H H59 := hm.tr gz_16.1
    replace hB : B ≤ H59.sh.length := Nat.le_trans hB ((m_Lexer_refuse z57)).len
    have mz_17 : Mo H H59 := (m_Lexer_refuse z57)
    have q_18 := (mz_17).get q49
    have q_19 := (mz_17).get q54
    have q_20 := (mz_17).get q56
    have gz := gB_Reader_beginOne_20 hn q_p0 hF hm.1 hB
    exact ⟨hm.tr gz.1, gz.2⟩
set_option maxRecDepth 20000 in
set_option maxHeartbeats 2000000 in
theorem gB_SU_compress2_3 {N : Nat} {Q : Nat → Prop} {p0 : Nat} {p2 : Nat} {p4 : Int32} (q_p0 : Q p0) (q_p2 : Q p2) : ∀ (n : Nat) (l1 : Int32) (l3 : Int32) (l5 : Int32) (H : Hp) (r : Int32 × Hp), B_SU_compress2_3 N p0 p2 p4 n l1 l3 l5 H = some r → Cl Q H → Rg Q H r.2 := by
  intro n
  induction n with
  | zero => intro l1 l3 l5 H r hF; rw [B_SU_compress2_3] at hF; cases hF
  | succ n ih =>
    intro l1 l3 l5 H r hF hc0
    rw [B_SU_compress2_3] at hF
    have hm := Rg.rf hc0
    rcases ite_s hF with ⟨q_5, hG⟩ | ⟨q_5, hG⟩
    · clear hF
      have hr := Option.some.inj hG; subst hr
      exact hm
    · clear hF
      obtain ⟨n22, q23, hF⟩ := ar_s hG; clear hG
      obtain ⟨q24, hG⟩ := ck_s hF; clear hF
      obtain ⟨x25, -, hF⟩ := bnd_g hG; clear hG
      rcases ite_s hF with ⟨q_6, hG⟩ | ⟨q_6, hG⟩
      · clear hF
        obtain ⟨n27, q28, hF⟩ := ar_s hG; clear hG
        obtain ⟨q29, hG⟩ := ck_s hF; clear hF
        obtain ⟨H30, eH30, hF⟩ := bnd_g hG; clear hG
        replace hm : Rg Q H H30 := hm.tr (by rw [eH30]; exact Rg.sD hm.1 q_p2)
        have s_7 : Sa H H30 := by rw [eH30]; exact Sa.rf _
        exact hm.tr (ih (l1 + 1) (l3 + 1) (l5 + 1) H30 r hF hm.1)
      · clear hF
        have hr := Option.some.inj hG; subst hr
        exact hm
set_option maxRecDepth 20000 in
set_option maxHeartbeats 2000000 in
theorem g_SU_compress2 {N : Nat} {Q : Nat → Prop} {p0 : Nat} {l1 : Int32} {p2 : Nat} {l3 : Int32} {p4 : Int32} {H : Hp} {r : Int32 × Hp} (hF : F_SU_compress2 N p0 l1 p2 l3 p4 H = some r) (hc0 : Cl Q H) (q_p0 : Q p0) (q_p2 : Q p2) : Rg Q H r.2 := by
  unfold F_SU_compress2 at hF
  have hm := Rg.rf hc0
  exact hm.tr (gB_SU_compress2_3 q_p0 q_p2 N l1 l3 0 H r hF hm.1)
set_option maxRecDepth 20000 in
set_option maxHeartbeats 2000000 in
theorem g_SU_compress {N : Nat} {Q : Nat → Prop} {p0 : Nat} {p1 : Int32} {p2 : Int32} {H : Hp} {r : (Option Nat) × Hp} {B : Nat} (hn : ∀ a, B ≤ a → Q a) (hF : F_SU_compress N p0 p1 p2 H = some r) (hc0 : Cl Q H) (hB : B ≤ H.sh.length) (q_p0 : Q p0) : Rg Q H r.2 ∧ (∀ a, r.1 = some a → Q a) := by
  unfold F_SU_compress at hF
  have hm := Rg.rf hc0
  obtain ⟨q17, hG⟩ := ck_s hF; clear hF
  obtain ⟨q18, hF⟩ := ck_s hG; clear hG
  obtain ⟨H19, eH19, hG⟩ := bnd_g hF; clear hF
  obtain ⟨a20, ea20, hF⟩ := bnd_g hG; clear hG
  have m_8 : Mo H H19 := by rw [eH19]; exact Mo.nw _ _ _
  have qa20 : Q a20 := by rw [ea20]; exact hn _ hB
  replace hm : Rg Q H H19 := hm.tr (by rw [eH19]; exact Rg.nw hm.1 (hn _ hB))
  replace hB : B ≤ H19.sh.length := Nat.le_trans hB (m_8).len
  obtain ⟨v22, H23, z21, hG⟩ := bC_s hF; clear hF
  have gz_9 := (g_SU_compress2 z21 hm.1 q_p0 qa20)
  replace hm : Rg Q H H23 := hm.tr gz_9
  replace hB : B ≤ H23.sh.length := Nat.le_trans hB ((m_SU_compress2 z21)).mo.len
  have s_10 : Sa H19 H23 := (m_SU_compress2 z21)
  rcases ite_s hG with ⟨q_11, hF⟩ | ⟨q_11, hF⟩
  · clear hG
    have hr := Option.some.inj hF; subst hr
    exact ⟨hm, (fun a e => by cases e; exact qa20)⟩
  · clear hG
    cases hF
set_option maxRecDepth 20000 in
set_option maxHeartbeats 2000000 in
theorem g_SU_coderFromArrayLen {N : Nat} {Q : Nat → Prop} {p0 : Nat} {p1 : Int32} {H : Hp} {r : Int32 × Hp} (hF : F_SU_coderFromArrayLen N p0 p1 H = some r) (hc0 : Cl Q H) (q_p0 : Q p0) : Rg Q H r.2 := by
  unfold F_SU_coderFromArrayLen at hF
  have hm := Rg.rf hc0
  obtain ⟨n11, q12, hG⟩ := ar_s hF; clear hF
  obtain ⟨x13, -, hF⟩ := bnd_g hG; clear hG
  obtain ⟨x14, -, hG⟩ := bnd_g hF; clear hF
  obtain ⟨q15, hF⟩ := ck_s hG; clear hG
  have hr := Option.some.inj hF; subst hr
  exact hm
set_option maxRecDepth 20000 in
set_option maxHeartbeats 2000000 in
theorem g_Str_init2 {N : Nat} {Q : Nat → Prop} {p0 : Nat} {p1 : Nat} {p2 : Int32} {p3 : Int32} {p4 : Nat} {H : Hp} {r : Unit × Hp} {B : Nat} (hn : ∀ a, B ≤ a → Q a) (hF : F_Str_init2 N p0 p1 p2 p3 p4 H = some r) (hc0 : Cl Q H) (hB : B ≤ H.sh.length) (q_p0 : Q p0) (q_p1 : Q p1) (q_p4 : Q p4) : Rg Q H r.2 := by
  unfold F_Str_init2 at hF
  have hm := Rg.rf hc0
  rcases ite_s hF with ⟨q_21, hG⟩ | ⟨q_21, hG⟩
  · clear hF
    obtain ⟨q38, hF⟩ := ck_s hG; clear hG
    obtain ⟨H39, eH39, hG⟩ := bnd_g hF; clear hF
    replace hm : Rg Q H H39 := hm.tr (by rw [eH39]; exact Rg.sP hm.1 q_p0 no_fl q38 rfl)
    have s_22 : Sa H H39 := by rw [eH39]; exact Sa.rf _
    replace hB : B ≤ H39.sh.length := by rw [eH39]; exact hB
    obtain ⟨H40, eH40, hF⟩ := bnd_g hG; clear hG
    replace hm : Rg Q H H40 := hm.tr (by rw [eH40]; exact Rg.sD hm.1 q_p0)
    have s_23 : Sa H H40 := by rw [eH40]; exact s_22
    replace hB : B ≤ H40.sh.length := by rw [eH40]; exact hB
    have hr := Option.some.inj hF; subst hr
    exact hm
  · clear hF
    rcases ite_s hG with ⟨q_24, hF⟩ | ⟨q_24, hF⟩
    · clear hG
      obtain ⟨q42, hG⟩ := ck_s hF; clear hF
      obtain ⟨H43, eH43, hF⟩ := bnd_g hG; clear hG
      replace hm : Rg Q H H43 := hm.tr (by rw [eH43]; exact Rg.sD hm.1 q_p0)
      have s_25 : Sa H H43 := by rw [eH43]; exact Sa.rf _
      replace hB : B ≤ H43.sh.length := by rw [eH43]; exact hB
      cases hF
    · clear hG
      obtain ⟨v45, H46, z44, hG⟩ := bC_s hF; clear hF
      have gz_26 := (g_SU_compress hn z44 hm.1 hB q_p1)
      replace hm : Rg Q H H46 := hm.tr gz_26.1
      replace hB : B ≤ H46.sh.length := Nat.le_trans hB ((m_SU_compress z44)).len
      have mz_27 : Mo H H46 := (m_SU_compress z44)
      obtain ⟨a47, ea47, hF⟩ := on_s hG; clear hG
      subst ea47
      have qa47 : Q a47 := gz_26.2 _ rfl
      obtain ⟨v49, H50, z48, hG⟩ := bC_s hF; clear hF
      have gz_28 := (g_SU_coderFromArrayLen z48 hm.1 qa47)
      replace hm : Rg Q H H50 := hm.tr gz_28
      replace hB : B ≤ H50.sh.length := Nat.le_trans hB ((m_SU_coderFromArrayLen z48)).mo.len
      have s_29 : Sa H46 H50 := (m_SU_coderFromArrayLen z48)
      obtain ⟨q51, hF⟩ := ck_s hG; clear hG
      rw [(s_29).1] at q51
      obtain ⟨q52, hG⟩ := ck_s hF; clear hF
      obtain ⟨H53, eH53, hF⟩ := bnd_g hG; clear hG
      replace hm : Rg Q H H53 := hm.tr (by rw [eH53]; exact Rg.sD hm.1 q_p0)
      have s_30 : Sa H46 H53 := by rw [eH53]; exact s_29
      replace hB : B ≤ H53.sh.length := by rw [eH53]; exact hB
      obtain ⟨H54, eH54, hG⟩ := bnd_g hF; clear hF
      replace hm : Rg Q H H54 := hm.tr (by rw [eH54]; exact Rg.sP hm.1 q_p0 (is_rf qa47) (by rw [(s_30).1]; exact q51) rfl)
      have s_31 : Sa H46 H54 := by rw [eH54]; exact s_30
      replace hB : B ≤ H54.sh.length := by rw [eH54]; exact hB
      have hr := Option.some.inj hG; subst hr
      exact hm
set_option maxRecDepth 20000 in
set_option maxHeartbeats 2000000 in
theorem g_Str_init2_Knull {N : Nat} {Q : Nat → Prop} {p0 : Nat} {p1 : Nat} {p2 : Int32} {p3 : Int32} {H : Hp} {r : Unit × Hp} {B : Nat} (hn : ∀ a, B ≤ a → Q a) (hF : F_Str_init2_Knull N p0 p1 p2 p3 H = some r) (hc0 : Cl Q H) (hB : B ≤ H.sh.length) (q_p0 : Q p0) (q_p1 : Q p1) : Rg Q H r.2 := by
  unfold F_Str_init2_Knull at hF
  have hm := Rg.rf hc0
  rcases ite_s hF with ⟨q_21, hG⟩ | ⟨q_21, hG⟩
  · clear hF
    obtain ⟨q38, hF⟩ := ck_s hG; clear hG
    obtain ⟨H39, eH39, hG⟩ := bnd_g hF; clear hF
    replace hm : Rg Q H H39 := hm.tr (by rw [eH39]; exact Rg.sP hm.1 q_p0 no_fl q38 rfl)
    have s_22 : Sa H H39 := by rw [eH39]; exact Sa.rf _
    replace hB : B ≤ H39.sh.length := by rw [eH39]; exact hB
    obtain ⟨H40, eH40, hF⟩ := bnd_g hG; clear hG
    replace hm : Rg Q H H40 := hm.tr (by rw [eH40]; exact Rg.sD hm.1 q_p0)
    have s_23 : Sa H H40 := by rw [eH40]; exact s_22
    replace hB : B ≤ H40.sh.length := by rw [eH40]; exact hB
    have hr := Option.some.inj hF; subst hr
    exact hm
  · clear hF
    rcases ite_s hG with ⟨q_24, hF⟩ | ⟨q_24, hF⟩
    · clear hG
      obtain ⟨q42, hG⟩ := ck_s hF; clear hF
      obtain ⟨H43, eH43, hF⟩ := bnd_g hG; clear hG
      replace hm : Rg Q H H43 := hm.tr (by rw [eH43]; exact Rg.sD hm.1 q_p0)
      have s_25 : Sa H H43 := by rw [eH43]; exact Sa.rf _
      replace hB : B ≤ H43.sh.length := by rw [eH43]; exact hB
      cases hF
    · clear hG
      obtain ⟨v45, H46, z44, hG⟩ := bC_s hF; clear hF
      have gz_26 := (g_SU_compress hn z44 hm.1 hB q_p1)
      replace hm : Rg Q H H46 := hm.tr gz_26.1
      replace hB : B ≤ H46.sh.length := Nat.le_trans hB ((m_SU_compress z44)).len
      have mz_27 : Mo H H46 := (m_SU_compress z44)
      obtain ⟨a47, ea47, hF⟩ := on_s hG; clear hG
      subst ea47
      have qa47 : Q a47 := gz_26.2 _ rfl
      obtain ⟨v49, H50, z48, hG⟩ := bC_s hF; clear hF
      have gz_28 := (g_SU_coderFromArrayLen z48 hm.1 qa47)
      replace hm : Rg Q H H50 := hm.tr gz_28
      replace hB : B ≤ H50.sh.length := Nat.le_trans hB ((m_SU_coderFromArrayLen z48)).mo.len
      have s_29 : Sa H46 H50 := (m_SU_coderFromArrayLen z48)
      obtain ⟨q51, hF⟩ := ck_s hG; clear hG
      rw [(s_29).1] at q51
      obtain ⟨q52, hG⟩ := ck_s hF; clear hF
      obtain ⟨H53, eH53, hF⟩ := bnd_g hG; clear hG
      replace hm : Rg Q H H53 := hm.tr (by rw [eH53]; exact Rg.sD hm.1 q_p0)
      have s_30 : Sa H46 H53 := by rw [eH53]; exact s_29
      replace hB : B ≤ H53.sh.length := by rw [eH53]; exact hB
      obtain ⟨H54, eH54, hG⟩ := bnd_g hF; clear hF
      replace hm : Rg Q H H54 := hm.tr (by rw [eH54]; exact Rg.sP hm.1 q_p0 (is_rf qa47) (by rw [(s_30).1]; exact q51) rfl)
      have s_31 : Sa H46 H54 := by rw [eH54]; exact s_30
      replace hB : B ≤ H54.sh.length := by rw [eH54]; exact hB
      have hr := Option.some.inj hG; subst hr
      exact hm
set_option maxRecDepth 20000 in
set_option maxHeartbeats 2000000 in
theorem g_Str_init {N : Nat} {Q : Nat → Prop} {p0 : Nat} {p1 : Nat} {H : Hp} {r : Unit × Hp} {B : Nat} (hn : ∀ a, B ≤ a → Q a) (hF : F_Str_init N p0 p1 H = some r) (hc0 : Cl Q H) (hB : B ≤ H.sh.length) (q_p0 : Q p0) (q_p1 : Q p1) : Rg Q H r.2 := by
  unfold F_Str_init at hF
  have hm := Rg.rf hc0
  obtain ⟨n11, q12, hG⟩ := ar_s hF; clear hF
  obtain ⟨v14, H15, z13, hF⟩ := bC_s hG; clear hG
  have gz_6 := (g_Str_init2_Knull hn z13 hm.1 hB q_p0 q_p1)
  replace hm : Rg Q H H15 := hm.tr gz_6
  replace hB : B ≤ H15.sh.length := Nat.le_trans hB ((m_Str_init2_Knull z13)).len
  have mz_7 : Mo H H15 := (m_Str_init2_Knull z13)
  have q_8 := (mz_7).get q12
  have hr := Option.some.inj hF; subst hr
  exact hm
set_option maxRecDepth 20000 in
set_option maxHeartbeats 2000000 in
theorem gB_Lexer_takeName_34 {N : Nat} {Q : Nat → Prop} {p0 : Nat} {B : Nat} (hn : ∀ a, B ≤ a → Q a) (q_p0 : Q p0) {w0 : Nat} {w1 : Int32} {H : Hp} {r : (Ot (Option Nat)) × Hp} (hF : B_Lexer_takeName_34 N p0 w0 w1 H = some r) (hc0 : Cl Q H) (hB : B ≤ H.sh.length) (q_w0 : Q w0) : Rg Q H r.2 ∧ (∀ a, r.1 = .inl (some a) → Q a) ∧ (∀ x, r.1 = .inr x → Q x) := by
  unfold B_Lexer_takeName_34 at hF
  have hm := Rg.rf hc0
  obtain ⟨q75, hG⟩ := ck_s hF; clear hF
  obtain ⟨H76, eH76, hF⟩ := bnd_g hG; clear hG
  replace hm : Rg Q H H76 := hm.tr (by rw [eH76]; exact Rg.sD hm.1 q_w0)
  have s_55 : Sa H H76 := by rw [eH76]; exact Sa.rf _
  replace hB : B ≤ H76.sh.length := by rw [eH76]; exact hB
  obtain ⟨q77, hG⟩ := ck_s hF; clear hF
  rw [(s_55).1] at q77
  obtain ⟨x78, -, hF⟩ := bnd_g hG; clear hG
  obtain ⟨H79, eH79, hG⟩ := bnd_g hF; clear hF
  replace hm : Rg Q H H79 := hm.tr (by rw [eH79]; exact Rg.sD hm.1 q_p0)
  have s_56 : Sa H H79 := by rw [eH79]; exact s_55
  replace hB : B ≤ H79.sh.length := by rw [eH79]; exact hB
  have hr := Option.some.inj hG; subst hr
  exact ⟨hm.tr (Rg.nx hm.1), (fun a e => by cases e), (fun x e => by cases e; exact hn _ hB)⟩
set_option maxRecDepth 20000 in
set_option maxHeartbeats 2000000 in
theorem gB_Lexer_takeName_20 {N : Nat} {Q : Nat → Prop} {p0 : Nat} {B : Nat} (hn : ∀ a, B ≤ a → Q a) (q_p0 : Q p0)  {H : Hp} {r : (Ot (Option Nat)) × Hp} (hF : B_Lexer_takeName_20 N p0  H = some r) (hc0 : Cl Q H) (hB : B ≤ H.sh.length) : Rg Q H r.2 ∧ (∀ a, r.1 = .inl (some a) → Q a) ∧ (∀ x, r.1 = .inr x → Q x) := by
  unfold B_Lexer_takeName_20 at hF
  have hm := Rg.rf hc0
  obtain ⟨q81, hG⟩ := ck_s hF; clear hF
  obtain ⟨x82, -, hF⟩ := bnd_g hG; clear hG
  rcases ite_s hF with ⟨q_57, hG⟩ | ⟨q_57, hG⟩
  · clear hF
    have gz := gB_Lexer_takeName_34 hn q_p0 hG hm.1 hB q_p0
    exact ⟨hm.tr gz.1, gz.2⟩
  · clear hF
    have gz := gB_Lexer_takeName_34 hn q_p0 hG hm.1 hB q_p0
    exact ⟨hm.tr gz.1, gz.2⟩
set_option maxRecDepth 20000 in
set_option maxHeartbeats 2000000 in
theorem gB_Lexer_takeName_122 {N : Nat} {Q : Nat → Prop} {p0 : Nat} {B : Nat} (hn : ∀ a, B ≤ a → Q a) (q_p0 : Q p0) {l1 : Nat} {H : Hp} {r : (Ot (Option Nat)) × Hp} (hF : B_Lexer_takeName_122 N p0 l1 H = some r) (hc0 : Cl Q H) (hB : B ≤ H.sh.length) (q_l1 : Q l1) : Rg Q H r.2 ∧ (∀ a, r.1 = .inl (some a) → Q a) ∧ (∀ x, r.1 = .inr x → Q x) := by
  unfold B_Lexer_takeName_122 at hF
  have hm := Rg.rf hc0
  obtain ⟨q84, hG⟩ := ck_s hF; clear hF
  obtain ⟨x85, -, hF⟩ := bnd_g hG; clear hG
  obtain ⟨x86, -, hG⟩ := bnd_g hF; clear hF
  obtain ⟨v88, H89, z87, hF⟩ := bC_s hG; clear hG
  have gz_58 := (g_Math_max z87 hm.1)
  replace hm : Rg Q H H89 := hm.tr gz_58
  replace hB : B ≤ H89.sh.length := Nat.le_trans hB ((m_Math_max z87)).mo.len
  have s_59 : Sa H H89 := (m_Math_max z87)
  obtain ⟨v91, H92, z90, hG⟩ := bC_s hF; clear hF
  have gz_60 := (g_Math_min z90 hm.1)
  replace hm : Rg Q H H92 := hm.tr gz_60
  replace hB : B ≤ H92.sh.length := Nat.le_trans hB ((m_Math_min z90)).mo.len
  have s_61 : Sa H H92 := (s_59).tr (m_Math_min z90)
  obtain ⟨H93, eH93, hF⟩ := bnd_g hG; clear hG
  replace hm : Rg Q H H93 := hm.tr (by rw [eH93]; exact Rg.sD hm.1 q_p0)
  have s_62 : Sa H H93 := by rw [eH93]; exact s_61
  replace hB : B ≤ H93.sh.length := by rw [eH93]; exact hB
  obtain ⟨a94, e95, hG⟩ := rf_s hF; clear hF
  have qa94 : Q a94 := hm.1 _ _ _ q_p0 e95
  obtain ⟨x96, -, hF⟩ := bnd_g hG; clear hG
  obtain ⟨n97, q98, hG⟩ := ar_s hF; clear hF
  rw [(s_62).1] at q98
  obtain ⟨q99, hF⟩ := ck_s hG; clear hG
  obtain ⟨x100, -, hG⟩ := bnd_g hF; clear hF
  obtain ⟨H101, eH101, hF⟩ := bnd_g hG; clear hG
  replace hm : Rg Q H H101 := hm.tr (by rw [eH101]; exact Rg.sD hm.1 q_p0)
  have s_63 : Sa H H101 := by rw [eH101]; exact s_62
  replace hB : B ≤ H101.sh.length := by rw [eH101]; exact hB
  obtain ⟨a102, e103, hG⟩ := rf_s hF; clear hF
  have qa102 : Q a102 := hm.1 _ _ _ q_p0 e103
  obtain ⟨x104, -, hF⟩ := bnd_g hG; clear hG
  obtain ⟨n105, q106, hG⟩ := ar_s hF; clear hF
  rw [(s_63).1] at q106
  obtain ⟨q107, hF⟩ := ck_s hG; clear hG
  obtain ⟨x108, -, hG⟩ := bnd_g hF; clear hF
  obtain ⟨H109, eH109, hF⟩ := bnd_g hG; clear hG
  replace hm : Rg Q H H109 := hm.tr (by rw [eH109]; exact Rg.sD hm.1 q_p0)
  have s_64 : Sa H H109 := by rw [eH109]; exact s_63
  replace hB : B ≤ H109.sh.length := by rw [eH109]; exact hB
  obtain ⟨H110, eH110, hG⟩ := bnd_g hF; clear hF
  obtain ⟨a111, ea111, hF⟩ := bnd_g hG; clear hG
  have m_65 : Mo H109 H110 := by rw [eH110]; exact Mo.nw _ _ _
  have qa111 : Q a111 := by rw [ea111]; exact hn _ hB
  replace hm : Rg Q H H110 := hm.tr (by rw [eH110]; exact Rg.nw hm.1 (hn _ hB))
  replace hB : B ≤ H110.sh.length := Nat.le_trans hB (m_65).len
  have q_66 := (m_65).get (by rw [(s_64).1]; exact q84)
  have q_67 := (m_65).get (by rw [(s_64).1]; exact q98)
  have q_68 := (m_65).get (by rw [(s_64).1]; exact q106)
  obtain ⟨v113, H114, z112, hG⟩ := bC_s hF; clear hF
  have gz_69 := (g_Str_init hn z112 hm.1 hB qa111 q_l1)
  replace hm : Rg Q H H114 := hm.tr gz_69
  replace hB : B ≤ H114.sh.length := Nat.le_trans hB ((m_Str_init z112)).len
  have mz_70 : Mo H110 H114 := (m_Str_init z112)
  have q_71 := (mz_70).get q_66
  have q_72 := (mz_70).get q_67
  have q_73 := (mz_70).get q_68
  have hr := Option.some.inj hG; subst hr
  exact ⟨hm, (fun a e => by cases e; exact qa111), (fun x e => by cases e)⟩
set_option maxRecDepth 20000 in
set_option maxHeartbeats 2000000 in
theorem gB_Lexer_takeName_78 {N : Nat} {Q : Nat → Prop} {p0 : Nat} {B : Nat} (hn : ∀ a, B ≤ a → Q a) (q_p0 : Q p0) : ∀ (n : Nat) (l1 : Nat) (l2 : Int32) (H : Hp) (r : (Ot (Option Nat)) × Hp), B_Lexer_takeName_78 N p0 n l1 l2 H = some r → Cl Q H → B ≤ H.sh.length → Q l1 → Rg Q H r.2 ∧ (∀ a, r.1 = .inl (some a) → Q a) ∧ (∀ x, r.1 = .inr x → Q x) := by
  intro n
  induction n with
  | zero => intro l1 l2 H r hF; rw [B_Lexer_takeName_78] at hF; cases hF
  | succ n ih =>
    intro l1 l2 H r hF hc0 hB q_l1
    rw [B_Lexer_takeName_78] at hF
    have hm := Rg.rf hc0
    obtain ⟨n115, q116, hG⟩ := ar_s hF; clear hF
    rcases ite_s hG with ⟨q_74, hF⟩ | ⟨q_74, hF⟩
    · clear hG
      have gz := gB_Lexer_takeName_122 hn q_p0 hF hm.1 hB q_l1
      exact ⟨hm.tr gz.1, gz.2⟩
    · clear hG
      obtain ⟨q118, hG⟩ := ck_s hF; clear hF
      obtain ⟨x119, -, hF⟩ := bnd_g hG; clear hG
      obtain ⟨x120, -, hG⟩ := bnd_g hF; clear hF
      rcases ite_s hG with ⟨q_75, hF⟩ | ⟨q_75, hF⟩
      · clear hG
        have gz := gB_Lexer_takeName_122 hn q_p0 hF hm.1 hB q_l1
        exact ⟨hm.tr gz.1, gz.2⟩
      · clear hG
        obtain ⟨a122, e123, hG⟩ := rf_s hF; clear hF
        have qa122 : Q a122 := hm.1 _ _ _ q_p0 e123
        obtain ⟨x124, -, hF⟩ := bnd_g hG; clear hG
        obtain ⟨n125, q126, hG⟩ := ar_s hF; clear hF
        obtain ⟨q127, hF⟩ := ck_s hG; clear hG
        obtain ⟨x128, -, hG⟩ := bnd_g hF; clear hF
        obtain ⟨q129, hF⟩ := ck_s hG; clear hG
        obtain ⟨H130, eH130, hG⟩ := bnd_g hF; clear hF
        replace hm : Rg Q H H130 := hm.tr (by rw [eH130]; exact Rg.sD hm.1 q_l1)
        have s_76 : Sa H H130 := by rw [eH130]; exact Sa.rf _
        replace hB : B ≤ H130.sh.length := by rw [eH130]; exact hB
        have gz := ih l1 (l2 + 1) H130 r hG hm.1 hB q_l1
        exact ⟨hm.tr gz.1, gz.2⟩
set_option maxRecDepth 20000 in
set_option maxHeartbeats 2000000 in
theorem g_Lexer_takeName {N : Nat} {Q : Nat → Prop} {p0 : Nat} {H : Hp} {r : (Ot (Option Nat)) × Hp} {B : Nat} (hn : ∀ a, B ≤ a → Q a) (hF : F_Lexer_takeName N p0 H = some r) (hc0 : Cl Q H) (hB : B ≤ H.sh.length) (q_p0 : Q p0) : Rg Q H r.2 ∧ (∀ a, r.1 = .inl (some a) → Q a) ∧ (∀ x, r.1 = .inr x → Q x) := by
  unfold F_Lexer_takeName at hF
  have hm := Rg.rf hc0
  obtain ⟨q131, hG⟩ := ck_s hF; clear hF
  obtain ⟨x132, -, hF⟩ := bnd_g hG; clear hG
  rcases ite_s hF with ⟨q_77, hG⟩ | ⟨q_77, hG⟩
  · clear hF
    obtain ⟨a134, e135, hF⟩ := rf_s hG; clear hG
    have qa134 : Q a134 := hm.1 _ _ _ q_p0 e135
    obtain ⟨x136, -, hG⟩ := bnd_g hF; clear hF
    obtain ⟨n137, q138, hF⟩ := ar_s hG; clear hG
    obtain ⟨q139, hG⟩ := ck_s hF; clear hF
    obtain ⟨x140, -, hF⟩ := bnd_g hG; clear hG
    rcases ite_s hF with ⟨q_78, hG⟩ | ⟨q_78, hG⟩
    · clear hF
      obtain ⟨a142, e143, hF⟩ := rf_s hG; clear hG
      have qa142 : Q a142 := hm.1 _ _ _ q_p0 e143
      obtain ⟨x144, -, hG⟩ := bnd_g hF; clear hF
      obtain ⟨n145, q146, hF⟩ := ar_s hG; clear hG
      obtain ⟨q147, hG⟩ := ck_s hF; clear hF
      obtain ⟨x148, -, hF⟩ := bnd_g hG; clear hG
      obtain ⟨v150, H151, z149, hG⟩ := bC_s hF; clear hF
      have gz_79 := (g_Math_min z149 hm.1)
      replace hm : Rg Q H H151 := hm.tr gz_79
      replace hB : B ≤ H151.sh.length := Nat.le_trans hB ((m_Math_min z149)).mo.len
      have s_80 : Sa H H151 := (m_Math_min z149)
      obtain ⟨v153, H154, z152, hF⟩ := bC_s hG; clear hG
      have gz_81 := (g_Math_max z152 hm.1)
      replace hm : Rg Q H H154 := hm.tr gz_81
      replace hB : B ≤ H154.sh.length := Nat.le_trans hB ((m_Math_max z152)).mo.len
      have s_82 : Sa H H154 := (s_80).tr (m_Math_max z152)
      obtain ⟨q155, hG⟩ := ck_s hF; clear hF
      obtain ⟨q156, hF⟩ := ck_s hG; clear hG
      obtain ⟨H157, eH157, hG⟩ := bnd_g hF; clear hF
      obtain ⟨a158, ea158, hF⟩ := bnd_g hG; clear hG
      have m_83 : Mo H154 H157 := by rw [eH157]; exact Mo.nw _ _ _
      have qa158 : Q a158 := by rw [ea158]; exact hn _ hB
      replace hm : Rg Q H H157 := hm.tr (by rw [eH157]; exact Rg.nw hm.1 (hn _ hB))
      replace hB : B ≤ H157.sh.length := Nat.le_trans hB (m_83).len
      have q_84 := (m_83).get (by rw [(s_82).1]; exact q131)
      have q_85 := (m_83).get (by rw [(s_82).1]; exact q138)
      have q_86 := (m_83).get (by rw [(s_82).1]; exact q146)
      have gz := gB_Lexer_takeName_78 hn q_p0 N a158 0 H157 r hF hm.1 hB qa158
      exact ⟨hm.tr gz.1, gz.2⟩
    · clear hF
      have gz := gB_Lexer_takeName_20 hn q_p0 hG hm.1 hB
      exact ⟨hm.tr gz.1, gz.2⟩
  · clear hF
    have gz := gB_Lexer_takeName_20 hn q_p0 hG hm.1 hB
    exact ⟨hm.tr gz.1, gz.2⟩
set_option maxRecDepth 20000 in
set_option maxHeartbeats 2000000 in
theorem gB_SL_equals_9 {N : Nat} {Q : Nat → Prop} {p0 : Nat} {p1 : Nat} (q_p0 : Q p0) (q_p1 : Q p1) : ∀ (n : Nat) (l2 : Int32) (H : Hp) (r : Int32 × Hp), B_SL_equals_9 N p0 p1 n l2 H = some r → Cl Q H → Rg Q H r.2 := by
  intro n
  induction n with
  | zero => intro l2 H r hF; rw [B_SL_equals_9] at hF; cases hF
  | succ n ih =>
    intro l2 H r hF hc0
    rw [B_SL_equals_9] at hF
    have hm := Rg.rf hc0
    obtain ⟨n31, q32, hG⟩ := ar_s hF; clear hF
    rcases ite_s hG with ⟨q_4, hF⟩ | ⟨q_4, hF⟩
    · clear hG
      have hr := Option.some.inj hF; subst hr
      exact hm
    · clear hG
      obtain ⟨q34, hG⟩ := ck_s hF; clear hF
      obtain ⟨x35, -, hF⟩ := bnd_g hG; clear hG
      obtain ⟨n36, q37, hG⟩ := ar_s hF; clear hF
      obtain ⟨q38, hF⟩ := ck_s hG; clear hG
      obtain ⟨x39, -, hG⟩ := bnd_g hF; clear hF
      rcases ite_s hG with ⟨q_5, hF⟩ | ⟨q_5, hF⟩
      · clear hG
        exact hm.tr (ih (l2 + 1) H r hF hm.1)
      · clear hG
        have hr := Option.some.inj hF; subst hr
        exact hm
set_option maxRecDepth 20000 in
set_option maxHeartbeats 2000000 in
theorem g_SL_equals {N : Nat} {Q : Nat → Prop} {p0 : Nat} {p1 : Nat} {H : Hp} {r : Int32 × Hp} (hF : F_SL_equals N p0 p1 H = some r) (hc0 : Cl Q H) (q_p0 : Q p0) (q_p1 : Q p1) : Rg Q H r.2 := by
  unfold F_SL_equals at hF
  have hm := Rg.rf hc0
  obtain ⟨n41, q42, hG⟩ := ar_s hF; clear hF
  obtain ⟨n43, q44, hF⟩ := ar_s hG; clear hG
  rcases ite_s hF with ⟨q_6, hG⟩ | ⟨q_6, hG⟩
  · clear hF
    exact hm.tr (gB_SL_equals_9 q_p0 q_p1 N 0 H r hG hm.1)
  · clear hF
    have hr := Option.some.inj hG; subst hr
    exact hm
set_option maxRecDepth 20000 in
set_option maxHeartbeats 2000000 in
theorem gB_Str_equals_36 {N : Nat} {Q : Nat → Prop} {p0 : Nat} {p1 : Nat} (q_p0 : Q p0) (q_p1 : Q p1) {l2 : Nat} {H : Hp} {r : Int32 × Hp} (hF : B_Str_equals_36 N p0 p1 l2 H = some r) (hc0 : Cl Q H) (q_l2 : Q l2) : Rg Q H r.2 := by
  unfold B_Str_equals_36 at hF
  have hm := Rg.rf hc0
  obtain ⟨q37, hG⟩ := ck_s hF; clear hF
  obtain ⟨a38, e39, hF⟩ := rf_s hG; clear hG
  have qa38 : Q a38 := hm.1 _ _ _ q_p0 e39
  obtain ⟨q40, hG⟩ := ck_s hF; clear hF
  obtain ⟨a41, e42, hF⟩ := rf_s hG; clear hG
  have qa41 : Q a41 := hm.1 _ _ _ q_l2 e42
  obtain ⟨v44, H45, z43, hG⟩ := bC_s hF; clear hF
  have gz_8 := (g_SL_equals z43 hm.1 qa38 qa41)
  replace hm : Rg Q H H45 := hm.tr gz_8
  have s_9 : Sa H H45 := (m_SL_equals z43)
  rcases ite_s hG with ⟨q_10, hF⟩ | ⟨q_10, hF⟩
  · clear hG
    have hr := Option.some.inj hF; subst hr
    exact hm
  · clear hG
    have hr := Option.some.inj hF; subst hr
    exact hm
set_option maxRecDepth 20000 in
set_option maxHeartbeats 2000000 in
theorem g_Str_equals {N : Nat} {Q : Nat → Prop} {p0 : Nat} {p1 : Nat} {H : Hp} {r : Int32 × Hp} (hF : F_Str_equals N p0 p1 H = some r) (hc0 : Cl Q H) (q_p0 : Q p0) (q_p1 : Q p1) : Rg Q H r.2 := by
  unfold F_Str_equals at hF
  have hm := Rg.rf hc0
  rcases ite_s hF with ⟨q_11, hG⟩ | ⟨q_11, hG⟩
  · clear hF
    have hr := Option.some.inj hG; subst hr
    exact hm
  · clear hF
    obtain ⟨q48, hF⟩ := ck_s hG; clear hG
    rcases ite_s hF with ⟨q_12, hG⟩ | ⟨q_12, hG⟩
    · clear hF
      have hr := Option.some.inj hG; subst hr
      exact hm
    · clear hF
      rcases ite_s hG with ⟨q_13, hF⟩ | ⟨q_13, hF⟩
      · clear hG
        exact hm.tr (gB_Str_equals_36 q_p0 q_p1 hF hm.1 q_p1)
      · clear hG
        obtain ⟨q51, hG⟩ := ck_s hF; clear hF
        obtain ⟨x52, -, hF⟩ := bnd_g hG; clear hG
        obtain ⟨x53, -, hG⟩ := bnd_g hF; clear hF
        rcases ite_s hG with ⟨q_14, hF⟩ | ⟨q_14, hF⟩
        · clear hG
          exact hm.tr (gB_Str_equals_36 q_p0 q_p1 hF hm.1 q_p1)
        · clear hG
          have hr := Option.some.inj hF; subst hr
          exact hm
set_option maxRecDepth 20000 in
set_option maxHeartbeats 2000000 in
theorem gB_Program_find_2 {N : Nat} {Q : Nat → Prop} {p0 : Nat} {p1 : Nat} (q_p0 : Q p0) (q_p1 : Q p1) : ∀ (n : Nat) (l2 : Int32) (H : Hp) (r : (Option Nat) × Hp), B_Program_find_2 N p0 p1 n l2 H = some r → Cl Q H → Rg Q H r.2 ∧ (∀ a, r.1 = some a → Q a) := by
  intro n
  induction n with
  | zero => intro l2 H r hF; rw [B_Program_find_2] at hF; cases hF
  | succ n ih =>
    intro l2 H r hF hc0
    rw [B_Program_find_2] at hF
    have hm := Rg.rf hc0
    obtain ⟨q51, hG⟩ := ck_s hF; clear hF
    obtain ⟨x52, -, hF⟩ := bnd_g hG; clear hG
    rcases ite_s hF with ⟨q_5, hG⟩ | ⟨q_5, hG⟩
    · clear hF
      have hr := Option.some.inj hG; subst hr
      exact ⟨hm, (fun a e => by cases e)⟩
    · clear hF
      obtain ⟨a54, e55, hF⟩ := rf_s hG; clear hG
      have qa54 : Q a54 := hm.1 _ _ _ q_p0 e55
      obtain ⟨n56, q57, hG⟩ := ar_s hF; clear hF
      obtain ⟨q58, hF⟩ := ck_s hG; clear hG
      obtain ⟨a59, e60, hG⟩ := rf_s hF; clear hF
      have qa59 : Q a59 := hm.1 _ _ _ qa54 e60
      obtain ⟨q61, hF⟩ := ck_s hG; clear hG
      obtain ⟨a62, e63, hG⟩ := rf_s hF; clear hF
      have qa62 : Q a62 := hm.1 _ _ _ qa59 e63
      obtain ⟨q64, hF⟩ := ck_s hG; clear hG
      obtain ⟨v66, H67, z65, hG⟩ := bC_s hF; clear hF
      have gz_6 := (g_Str_equals z65 hm.1 qa62 q_p1)
      replace hm : Rg Q H H67 := hm.tr gz_6
      have s_7 : Sa H H67 := (m_Str_equals z65)
      rcases ite_s hG with ⟨q_8, hF⟩ | ⟨q_8, hF⟩
      · clear hG
        have gz := ih (l2 + 1) H67 r hF hm.1
        exact ⟨hm.tr gz.1, gz.2⟩
      · clear hG
        obtain ⟨a69, e70, hG⟩ := rf_s hF; clear hF
        have qa69 : Q a69 := hm.1 _ _ _ q_p0 e70
        obtain ⟨n71, q72, hF⟩ := ar_s hG; clear hG
        rw [(s_7).1] at q72
        obtain ⟨q73, hG⟩ := ck_s hF; clear hF
        obtain ⟨a74, e75, hF⟩ := rf_s hG; clear hG
        have qa74 : Q a74 := hm.1 _ _ _ qa69 e75
        have hr := Option.some.inj hF; subst hr
        exact ⟨hm, (fun a e => by cases e; exact qa74)⟩
set_option maxRecDepth 20000 in
set_option maxHeartbeats 2000000 in
theorem g_Program_find {N : Nat} {Q : Nat → Prop} {p0 : Nat} {p1 : Nat} {H : Hp} {r : (Option Nat) × Hp} (hF : F_Program_find N p0 p1 H = some r) (hc0 : Cl Q H) (q_p0 : Q p0) (q_p1 : Q p1) : Rg Q H r.2 ∧ (∀ a, r.1 = some a → Q a) := by
  unfold F_Program_find at hF
  have hm := Rg.rf hc0
  have gz := gB_Program_find_2 q_p0 q_p1 N 0 H r hF hm.1
  exact ⟨hm.tr gz.1, gz.2⟩
set_option maxRecDepth 20000 in
set_option maxHeartbeats 2000000 in
theorem g_Named_tell {N : Nat} {Q : Nat → Prop} {p0 : Nat} {p1 : Nat} {p2 : Int32} {p3 : Int32} {p4 : Int32} {H : Hp} {r : Unit × Hp} (hF : F_Named_tell N p0 p1 p2 p3 p4 H = some r) (hc0 : Cl Q H) (q_p0 : Q p0) (q_p1 : Q p1) : Rg Q H r.2 := by
  unfold F_Named_tell at hF
  have hm := Rg.rf hc0
  obtain ⟨q11, hG⟩ := ck_s hF; clear hF
  obtain ⟨H12, eH12, hF⟩ := bnd_g hG; clear hG
  replace hm : Rg Q H H12 := hm.tr (by rw [eH12]; exact Rg.sP hm.1 q_p0 (is_rf q_p1) q11 rfl)
  have s_9 : Sa H H12 := by rw [eH12]; exact Sa.rf _
  obtain ⟨H13, eH13, hG⟩ := bnd_g hF; clear hF
  replace hm : Rg Q H H13 := hm.tr (by rw [eH13]; exact Rg.sD hm.1 q_p0)
  have s_10 : Sa H H13 := by rw [eH13]; exact s_9
  obtain ⟨H14, eH14, hF⟩ := bnd_g hG; clear hG
  replace hm : Rg Q H H14 := hm.tr (by rw [eH14]; exact Rg.sD hm.1 q_p0)
  have s_11 : Sa H H14 := by rw [eH14]; exact s_10
  obtain ⟨H15, eH15, hG⟩ := bnd_g hF; clear hF
  replace hm : Rg Q H H15 := hm.tr (by rw [eH15]; exact Rg.sD hm.1 q_p0)
  have s_12 : Sa H H15 := by rw [eH15]; exact s_11
  have hr := Option.some.inj hG; subst hr
  exact hm
set_option maxRecDepth 20000 in
set_option maxHeartbeats 2000000 in
theorem g_Program_tell {N : Nat} {Q : Nat → Prop} {p0 : Nat} {p1 : Nat} {p2 : Int32} {p3 : Int32} {p4 : Int32} {H : Hp} {r : Unit × Hp} (hF : F_Program_tell N p0 p1 p2 p3 p4 H = some r) (hc0 : Cl Q H) (q_p0 : Q p0) (q_p1 : Q p1) : Rg Q H r.2 := by
  unfold F_Program_tell at hF
  have hm := Rg.rf hc0
  obtain ⟨q35, hG⟩ := ck_s hF; clear hF
  obtain ⟨x36, -, hF⟩ := bnd_g hG; clear hG
  rcases ite_s hF with ⟨q_6, hG⟩ | ⟨q_6, hG⟩
  · clear hF
    have hr := Option.some.inj hG; subst hr
    exact hm
  · clear hF
    obtain ⟨a38, e39, hF⟩ := rf_s hG; clear hG
    have qa38 : Q a38 := hm.1 _ _ _ q_p0 e39
    obtain ⟨x40, -, hG⟩ := bnd_g hF; clear hF
    obtain ⟨n41, q42, hF⟩ := ar_s hG; clear hG
    obtain ⟨q43, hG⟩ := ck_s hF; clear hF
    obtain ⟨a44, e45, hF⟩ := rf_s hG; clear hG
    have qa44 : Q a44 := hm.1 _ _ _ qa38 e45
    obtain ⟨q46, hG⟩ := ck_s hF; clear hF
    obtain ⟨v48, H49, z47, hF⟩ := bC_s hG; clear hG
    have gz_7 := (g_Named_tell z47 hm.1 qa44 q_p1)
    replace hm : Rg Q H H49 := hm.tr gz_7
    have s_8 : Sa H H49 := (m_Named_tell z47)
    obtain ⟨x50, -, hG⟩ := bnd_g hF; clear hF
    obtain ⟨H51, eH51, hF⟩ := bnd_g hG; clear hG
    replace hm : Rg Q H H51 := hm.tr (by rw [eH51]; exact Rg.sD hm.1 q_p0)
    have s_9 : Sa H H51 := by rw [eH51]; exact s_8
    have hr := Option.some.inj hF; subst hr
    exact hm
set_option maxRecDepth 20000 in
set_option maxHeartbeats 2000000 in
theorem gB_Reader_declare_38 {N : Nat} {Q : Nat → Prop} {p0 : Nat} {p1 : Int32} {p2 : Int32} {B : Nat} (hn : ∀ a, B ≤ a → Q a) (q_p0 : Q p0) {l4 : Nat} {H : Hp} {r : (Ot (Option Nat)) × Hp} (hF : B_Reader_declare_38 N p0 p1 p2 l4 H = some r) (hc0 : Cl Q H) (hB : B ≤ H.sh.length) (q_l4 : Q l4) : Rg Q H r.2 ∧ (∀ a, r.1 = .inl (some a) → Q a) ∧ (∀ x, r.1 = .inr x → Q x) := by
  unfold B_Reader_declare_38 at hF
  have hm := Rg.rf hc0
  obtain ⟨q55, hG⟩ := ck_s hF; clear hF
  obtain ⟨a56, e57, hF⟩ := rf_s hG; clear hG
  have qa56 : Q a56 := hm.1 _ _ _ q_p0 e57
  obtain ⟨q58, hG⟩ := ck_s hF; clear hF
  obtain ⟨v60, H61, z59, hF⟩ := bC_s hG; clear hG
  have gz_34 := (g_Program_tell z59 hm.1 qa56 q_l4)
  replace hm : Rg Q H H61 := hm.tr gz_34
  replace hB : B ≤ H61.sh.length := Nat.le_trans hB ((m_Program_tell z59)).mo.len
  have s_35 : Sa H H61 := (m_Program_tell z59)
  have hr := Option.some.inj hF; subst hr
  exact ⟨hm, (fun a e => by cases e; exact q_l4), (fun x e => by cases e)⟩
set_option maxRecDepth 20000 in
set_option maxHeartbeats 2000000 in
theorem g_Reader_declare {N : Nat} {Q : Nat → Prop} {p0 : Nat} {p1 : Int32} {p2 : Int32} {H : Hp} {r : (Ot (Option Nat)) × Hp} {B : Nat} (hn : ∀ a, B ≤ a → Q a) (hF : F_Reader_declare N p0 p1 p2 H = some r) (hc0 : Cl Q H) (hB : B ≤ H.sh.length) (q_p0 : Q p0) : Rg Q H r.2 ∧ (∀ a, r.1 = .inl (some a) → Q a) ∧ (∀ x, r.1 = .inr x → Q x) := by
  unfold F_Reader_declare at hF
  have hm := Rg.rf hc0
  obtain ⟨q62, hG⟩ := ck_s hF; clear hF
  obtain ⟨a63, e64, hF⟩ := rf_s hG; clear hG
  have qa63 : Q a63 := hm.1 _ _ _ q_p0 e64
  obtain ⟨q65, hG⟩ := ck_s hF; clear hF
  obtain ⟨x66, -, hF⟩ := bnd_g hG; clear hG
  obtain ⟨a67, e68, hG⟩ := rf_s hF; clear hF
  have qa67 : Q a67 := hm.1 _ _ _ q_p0 e68
  obtain ⟨q69, hF⟩ := ck_s hG; clear hG
  refine bT_c hF (fun x73 H72 z70 er => ?_) (fun v71 H72 z70 hG => ?_)
  · subst er; have gz := (g_Lexer_takeName hn z70 hm.1 hB qa67); exact ⟨hm.tr gz.1, (fun a e => by cases e), (fun x e => by cases e; exact gz.2.2 _ rfl)⟩
  clear hF
  have gz_36 := (g_Lexer_takeName hn z70 hm.1 hB qa67)
  replace hm : Rg Q H H72 := hm.tr gz_36.1
  replace hB : B ≤ H72.sh.length := Nat.le_trans hB ((m_Lexer_takeName z70)).len
  have mz_37 : Mo H H72 := (m_Lexer_takeName z70)
  have q_38 := (mz_37).get q62
  have q_39 := (mz_37).get q65
  have q_40 := (mz_37).get q69
  obtain ⟨a74, ea74, hF⟩ := on_s hG; clear hG
  subst ea74
  have qa74 : Q a74 := gz_36.2.1 _ rfl
  obtain ⟨a75, e76, hG⟩ := rf_s hF; clear hF
  have qa75 : Q a75 := hm.1 _ _ _ q_p0 e76
  obtain ⟨q77, hF⟩ := ck_s hG; clear hG
  obtain ⟨v79, H80, z78, hG⟩ := bC_s hF; clear hF
  have gz_41 := (g_Program_find z78 hm.1 qa75 qa74)
  replace hm : Rg Q H H80 := hm.tr gz_41.1
  replace hB : B ≤ H80.sh.length := Nat.le_trans hB ((m_Program_find z78)).mo.len
  have s_42 : Sa H72 H80 := (m_Program_find z78)
  refine nl_c hG (fun ea81 hF => ?_) (fun a81 ea81 hF => ?_)
  · clear hG; subst ea81
    have gz := gB_Reader_declare_38 hn q_p0 hF hm.1 hB qa74
    exact ⟨hm.tr gz.1, gz.2⟩
  clear hG; subst ea81
  have qa81 : Q a81 := gz_41.2 _ rfl
  obtain ⟨a82, e83, hG⟩ := rf_s hF; clear hF
  have qa82 : Q a82 := hm.1 _ _ _ q_p0 e83
  obtain ⟨q84, hF⟩ := ck_s hG; clear hG
  rw [(s_42).1] at q84
  refine bT_c hF (fun x88 H87 z85 er => ?_) (fun v86 H87 z85 hG => ?_)
  · subst er; have gz := (g_Lexer_refuse hn z85 hm.1 hB qa82); exact ⟨hm.tr gz.1, (fun a e => by cases e), (fun x e => by cases e; exact gz.2 _ rfl)⟩
  clear hF
  have gz_43 := (g_Lexer_refuse hn z85 hm.1 hB qa82)
  replace hm : Rg Q H H87 := hm.tr gz_43.1
  replace hB : B ≤ H87.sh.length := Nat.le_trans hB ((m_Lexer_refuse z85)).len
  have mz_44 : Mo H80 H87 := (m_Lexer_refuse z85)
  have q_45 := (mz_44).get (by rw [(s_42).1]; exact q_38)
  have q_46 := (mz_44).get (by rw [(s_42).1]; exact q_39)
  have q_47 := (mz_44).get (by rw [(s_42).1]; exact q_40)
  have q_48 := (mz_44).get (by rw [(s_42).1]; exact q77)
  have q_49 := (mz_44).get (by rw [(s_42).1]; exact q84)
  have gz := gB_Reader_declare_38 hn q_p0 hG hm.1 hB qa74
  exact ⟨hm.tr gz.1, gz.2⟩
set_option maxRecDepth 20000 in
set_option maxHeartbeats 2000000 in
theorem g_Shapes_open {N : Nat} {Q : Nat → Prop} {p0 : Nat} {p1 : Nat} {H : Hp} {r : Unit × Hp} (hF : F_Shapes_open N p0 p1 H = some r) (hc0 : Cl Q H) (q_p0 : Q p0) (q_p1 : Q p1) : Rg Q H r.2 := by
  unfold F_Shapes_open at hF
  have hm := Rg.rf hc0
  obtain ⟨q73, hG⟩ := ck_s hF; clear hF
  obtain ⟨x74, -, hF⟩ := bnd_g hG; clear hG
  obtain ⟨a75, e76, hG⟩ := rf_s hF; clear hF
  have qa75 : Q a75 := hm.1 _ _ _ q_p0 e76
  obtain ⟨n77, q78, hF⟩ := ar_s hG; clear hG
  rcases ite_s hF with ⟨q_8, hG⟩ | ⟨q_8, hG⟩
  · clear hF
    have hr := Option.some.inj hG; subst hr
    exact hm
  · clear hF
    obtain ⟨a80, e81, hF⟩ := rf_s hG; clear hG
    have qa80 : Q a80 := hm.1 _ _ _ q_p0 e81
    obtain ⟨x82, -, hG⟩ := bnd_g hF; clear hF
    obtain ⟨n83, q84, hF⟩ := ar_s hG; clear hG
    obtain ⟨q85, hG⟩ := ck_s hF; clear hF
    obtain ⟨a86, e87, hF⟩ := rf_s hG; clear hG
    have qa86 : Q a86 := hm.1 _ _ _ qa80 e87
    obtain ⟨x88, -, hG⟩ := bnd_g hF; clear hF
    obtain ⟨q89, hF⟩ := ck_s hG; clear hG
    obtain ⟨v91, H92, z90, hG⟩ := bC_s hF; clear hF
    have gz_9 := (g_Named_tell z90 hm.1 qa86 q_p1)
    replace hm : Rg Q H H92 := hm.tr gz_9
    have s_10 : Sa H H92 := (m_Named_tell z90)
    obtain ⟨a93, e94, hF⟩ := rf_s hG; clear hG
    have qa93 : Q a93 := hm.1 _ _ _ q_p0 e94
    obtain ⟨x95, -, hG⟩ := bnd_g hF; clear hF
    obtain ⟨a96, e97, hF⟩ := rf_s hG; clear hG
    have qa96 : Q a96 := hm.1 _ _ _ q_p0 e97
    obtain ⟨x98, -, hG⟩ := bnd_g hF; clear hF
    obtain ⟨n99, q100, hF⟩ := ar_s hG; clear hG
    rw [(s_10).1] at q100
    obtain ⟨q101, hG⟩ := ck_s hF; clear hF
    obtain ⟨x102, -, hF⟩ := bnd_g hG; clear hG
    obtain ⟨n103, q104, hG⟩ := ar_s hF; clear hF
    rw [(s_10).1] at q104
    obtain ⟨q105, hF⟩ := ck_s hG; clear hG
    obtain ⟨H106, eH106, hG⟩ := bnd_g hF; clear hF
    replace hm : Rg Q H H106 := hm.tr (by rw [eH106]; exact Rg.sD hm.1 qa93)
    have s_11 : Sa H H106 := by rw [eH106]; exact s_10
    obtain ⟨x107, -, hF⟩ := bnd_g hG; clear hG
    obtain ⟨H108, eH108, hG⟩ := bnd_g hF; clear hF
    replace hm : Rg Q H H108 := hm.tr (by rw [eH108]; exact Rg.sD hm.1 q_p0)
    have s_12 : Sa H H108 := by rw [eH108]; exact s_11
    have hr := Option.some.inj hG; subst hr
    exact hm
set_option maxRecDepth 20000 in
set_option maxHeartbeats 2000000 in
theorem gB_Lexer_take_17 {N : Nat} {Q : Nat → Prop} {p0 : Nat} {p1 : Int32} {B : Nat} (hn : ∀ a, B ≤ a → Q a) (q_p0 : Q p0)  {H : Hp} {r : (Ot Unit) × Hp} (hF : B_Lexer_take_17 N p0 p1  H = some r) (hc0 : Cl Q H) (hB : B ≤ H.sh.length) : Rg Q H r.2 ∧ (∀ x, r.1 = .inr x → Q x) := by
  unfold B_Lexer_take_17 at hF
  have hm := Rg.rf hc0
  obtain ⟨q25, hG⟩ := ck_s hF; clear hF
  obtain ⟨v27, H28, z26, hF⟩ := bC_s hG; clear hG
  have gz_9 := (g_Lexer_advance z26 hm.1 q_p0)
  replace hm : Rg Q H H28 := hm.tr gz_9
  replace hB : B ≤ H28.sh.length := Nat.le_trans hB ((m_Lexer_advance z26)).mo.len
  have s_10 : Sa H H28 := (m_Lexer_advance z26)
  have hr := Option.some.inj hF; subst hr
  exact ⟨hm, (fun x e => by cases e)⟩
set_option maxRecDepth 20000 in
set_option maxHeartbeats 2000000 in
theorem g_Lexer_take {N : Nat} {Q : Nat → Prop} {p0 : Nat} {p1 : Int32} {H : Hp} {r : (Ot Unit) × Hp} {B : Nat} (hn : ∀ a, B ≤ a → Q a) (hF : F_Lexer_take N p0 p1 H = some r) (hc0 : Cl Q H) (hB : B ≤ H.sh.length) (q_p0 : Q p0) : Rg Q H r.2 ∧ (∀ x, r.1 = .inr x → Q x) := by
  unfold F_Lexer_take at hF
  have hm := Rg.rf hc0
  obtain ⟨q29, hG⟩ := ck_s hF; clear hF
  obtain ⟨x30, -, hF⟩ := bnd_g hG; clear hG
  rcases ite_s hF with ⟨q_11, hG⟩ | ⟨q_11, hG⟩
  · clear hF
    have gz := gB_Lexer_take_17 hn q_p0 hG hm.1 hB
    exact ⟨hm.tr gz.1, gz.2⟩
  · clear hF
    obtain ⟨x32, -, hF⟩ := bnd_g hG; clear hG
    refine bT_c hF (fun x36 H35 z33 er => ?_) (fun v34 H35 z33 hG => ?_)
    · subst er; have gz := (g_Lexer_refuse hn z33 hm.1 hB q_p0); exact ⟨hm.tr gz.1, (fun x e => by cases e; exact gz.2 _ rfl)⟩
    clear hF
    have gz_12 := (g_Lexer_refuse hn z33 hm.1 hB q_p0)
    replace hm : Rg Q H H35 := hm.tr gz_12.1
    replace hB : B ≤ H35.sh.length := Nat.le_trans hB ((m_Lexer_refuse z33)).len
    have mz_13 : Mo H H35 := (m_Lexer_refuse z33)
    have q_14 := (mz_13).get q29
    have gz := gB_Lexer_take_17 hn q_p0 hG hm.1 hB
    exact ⟨hm.tr gz.1, gz.2⟩
set_option maxRecDepth 20000 in
set_option maxHeartbeats 2000000 in
theorem gB_Shapes_sizeOf_12 {N : Nat} {Q : Nat → Prop} {p0 : Nat} {p1 : Int32} (q_p0 : Q p0)  {H : Hp} {r : Int32 × Hp} (hF : B_Shapes_sizeOf_12 N p0 p1  H = some r) (hc0 : Cl Q H) : Rg Q H r.2 := by
  unfold B_Shapes_sizeOf_12 at hF
  have hm := Rg.rf hc0
  have hr := Option.some.inj hF; subst hr
  exact hm
set_option maxRecDepth 20000 in
set_option maxHeartbeats 2000000 in
theorem g_Shapes_sizeOf {N : Nat} {Q : Nat → Prop} {p0 : Nat} {p1 : Int32} {H : Hp} {r : Int32 × Hp} (hF : F_Shapes_sizeOf N p0 p1 H = some r) (hc0 : Cl Q H) (q_p0 : Q p0) : Rg Q H r.2 := by
  unfold F_Shapes_sizeOf at hF
  have hm := Rg.rf hc0
  rcases ite_s hF with ⟨q_3, hG⟩ | ⟨q_3, hG⟩
  · clear hF
    exact hm.tr (gB_Shapes_sizeOf_12 q_p0 hG hm.1)
  · clear hF
    obtain ⟨q34, hF⟩ := ck_s hG; clear hG
    obtain ⟨x35, -, hG⟩ := bnd_g hF; clear hF
    rcases ite_s hG with ⟨q_4, hF⟩ | ⟨q_4, hF⟩
    · clear hG
      obtain ⟨a37, e38, hG⟩ := rf_s hF; clear hF
      have qa37 : Q a37 := hm.1 _ _ _ q_p0 e38
      obtain ⟨n39, q40, hF⟩ := ar_s hG; clear hG
      obtain ⟨q41, hG⟩ := ck_s hF; clear hF
      obtain ⟨x42, -, hF⟩ := bnd_g hG; clear hG
      obtain ⟨a43, e44, hG⟩ := rf_s hF; clear hF
      have qa43 : Q a43 := hm.1 _ _ _ q_p0 e44
      obtain ⟨n45, q46, hF⟩ := ar_s hG; clear hG
      obtain ⟨q47, hG⟩ := ck_s hF; clear hF
      obtain ⟨x48, -, hF⟩ := bnd_g hG; clear hG
      have hr := Option.some.inj hF; subst hr
      exact hm
    · clear hG
      exact hm.tr (gB_Shapes_sizeOf_12 q_p0 hF hm.1)
set_option maxRecDepth 20000 in
set_option maxHeartbeats 2000000 in
theorem g_Shapes_total {N : Nat} {Q : Nat → Prop} {p0 : Nat} {H : Hp} {r : Int32 × Hp} (hF : F_Shapes_total N p0 H = some r) (hc0 : Cl Q H) (q_p0 : Q p0) : Rg Q H r.2 := by
  unfold F_Shapes_total at hF
  have hm := Rg.rf hc0
  obtain ⟨q17, hG⟩ := ck_s hF; clear hF
  obtain ⟨a18, e19, hF⟩ := rf_s hG; clear hG
  have qa18 : Q a18 := hm.1 _ _ _ q_p0 e19
  obtain ⟨x20, -, hG⟩ := bnd_g hF; clear hF
  obtain ⟨n21, q22, hF⟩ := ar_s hG; clear hG
  obtain ⟨q23, hG⟩ := ck_s hF; clear hF
  obtain ⟨x24, -, hF⟩ := bnd_g hG; clear hG
  have hr := Option.some.inj hF; subst hr
  exact hm
set_option maxRecDepth 20000 in
set_option maxHeartbeats 2000000 in
theorem gB_Shapes_memberNamed_21 {N : Nat} {Q : Nat → Prop} {p0 : Nat} {p1 : Int32} {p2 : Nat} (q_p0 : Q p0) (q_p2 : Q p2) : ∀ (n : Nat) (l3 : Int32) (H : Hp) (r : Int32 × Hp), B_Shapes_memberNamed_21 N p0 p1 p2 n l3 H = some r → Cl Q H → Rg Q H r.2 := by
  intro n
  induction n with
  | zero => intro l3 H r hF; rw [B_Shapes_memberNamed_21] at hF; cases hF
  | succ n ih =>
    intro l3 H r hF hc0
    rw [B_Shapes_memberNamed_21] at hF
    have hm := Rg.rf hc0
    obtain ⟨q67, hG⟩ := ck_s hF; clear hF
    obtain ⟨a68, e69, hF⟩ := rf_s hG; clear hG
    have qa68 : Q a68 := hm.1 _ _ _ q_p0 e69
    obtain ⟨n70, q71, hG⟩ := ar_s hF; clear hF
    obtain ⟨q72, hF⟩ := ck_s hG; clear hG
    obtain ⟨x73, -, hG⟩ := bnd_g hF; clear hF
    rcases ite_s hG with ⟨q_7, hF⟩ | ⟨q_7, hF⟩
    · clear hG
      have hr := Option.some.inj hF; subst hr
      exact hm
    · clear hG
      obtain ⟨a75, e76, hG⟩ := rf_s hF; clear hF
      have qa75 : Q a75 := hm.1 _ _ _ q_p0 e76
      obtain ⟨n77, q78, hF⟩ := ar_s hG; clear hG
      obtain ⟨q79, hG⟩ := ck_s hF; clear hF
      obtain ⟨a80, e81, hF⟩ := rf_s hG; clear hG
      have qa80 : Q a80 := hm.1 _ _ _ qa75 e81
      obtain ⟨q82, hG⟩ := ck_s hF; clear hF
      obtain ⟨a83, e84, hF⟩ := rf_s hG; clear hG
      have qa83 : Q a83 := hm.1 _ _ _ qa80 e84
      obtain ⟨q85, hG⟩ := ck_s hF; clear hF
      obtain ⟨v87, H88, z86, hF⟩ := bC_s hG; clear hG
      have gz_8 := (g_Str_equals z86 hm.1 qa83 q_p2)
      replace hm : Rg Q H H88 := hm.tr gz_8
      have s_9 : Sa H H88 := (m_Str_equals z86)
      rcases ite_s hF with ⟨q_10, hG⟩ | ⟨q_10, hG⟩
      · clear hF
        exact hm.tr (ih (l3 + 1) H88 r hG hm.1)
      · clear hF
        have hr := Option.some.inj hG; subst hr
        exact hm
set_option maxRecDepth 20000 in
set_option maxHeartbeats 2000000 in
theorem g_Shapes_memberNamed {N : Nat} {Q : Nat → Prop} {p0 : Nat} {p1 : Int32} {p2 : Nat} {H : Hp} {r : Int32 × Hp} (hF : F_Shapes_memberNamed N p0 p1 p2 H = some r) (hc0 : Cl Q H) (q_p0 : Q p0) (q_p2 : Q p2) : Rg Q H r.2 := by
  unfold F_Shapes_memberNamed at hF
  have hm := Rg.rf hc0
  rcases ite_s hF with ⟨q_11, hG⟩ | ⟨q_11, hG⟩
  · clear hF
    have hr := Option.some.inj hG; subst hr
    exact hm
  · clear hF
    obtain ⟨q91, hF⟩ := ck_s hG; clear hG
    obtain ⟨x92, -, hG⟩ := bnd_g hF; clear hF
    rcases ite_s hG with ⟨q_12, hF⟩ | ⟨q_12, hF⟩
    · clear hG
      obtain ⟨a94, e95, hG⟩ := rf_s hF; clear hF
      have qa94 : Q a94 := hm.1 _ _ _ q_p0 e95
      obtain ⟨n96, q97, hF⟩ := ar_s hG; clear hG
      obtain ⟨q98, hG⟩ := ck_s hF; clear hF
      obtain ⟨x99, -, hF⟩ := bnd_g hG; clear hG
      exact hm.tr (gB_Shapes_memberNamed_21 q_p0 q_p2 N x99 H r hF hm.1)
    · clear hG
      have hr := Option.some.inj hF; subst hr
      exact hm
set_option maxRecDepth 20000 in
set_option maxHeartbeats 2000000 in
theorem g_Shapes_addMember {N : Nat} {Q : Nat → Prop} {p0 : Nat} {p1 : Nat} {p2 : Int32} {H : Hp} {r : Unit × Hp} (hF : F_Shapes_addMember N p0 p1 p2 H = some r) (hc0 : Cl Q H) (q_p0 : Q p0) (q_p1 : Q p1) : Rg Q H r.2 := by
  unfold F_Shapes_addMember at hF
  have hm := Rg.rf hc0
  obtain ⟨q81, hG⟩ := ck_s hF; clear hF
  obtain ⟨a82, e83, hF⟩ := rf_s hG; clear hG
  have qa82 : Q a82 := hm.1 _ _ _ q_p0 e83
  obtain ⟨x84, -, hG⟩ := bnd_g hF; clear hF
  obtain ⟨n85, q86, hF⟩ := ar_s hG; clear hG
  obtain ⟨q87, hG⟩ := ck_s hF; clear hF
  obtain ⟨x88, -, hF⟩ := bnd_g hG; clear hG
  obtain ⟨x89, -, hG⟩ := bnd_g hF; clear hF
  rcases ite_s hG with ⟨q_7, hF⟩ | ⟨q_7, hF⟩
  · clear hG
    have hr := Option.some.inj hF; subst hr
    exact hm
  · clear hG
    obtain ⟨a91, e92, hG⟩ := rf_s hF; clear hF
    have qa91 : Q a91 := hm.1 _ _ _ q_p0 e92
    obtain ⟨n93, q94, hF⟩ := ar_s hG; clear hG
    rcases ite_s hF with ⟨q_8, hG⟩ | ⟨q_8, hG⟩
    · clear hF
      have hr := Option.some.inj hG; subst hr
      exact hm
    · clear hF
      obtain ⟨a96, e97, hF⟩ := rf_s hG; clear hG
      have qa96 : Q a96 := hm.1 _ _ _ q_p0 e97
      obtain ⟨n98, q99, hG⟩ := ar_s hF; clear hF
      obtain ⟨q100, hF⟩ := ck_s hG; clear hG
      obtain ⟨a101, e102, hG⟩ := rf_s hF; clear hF
      have qa101 : Q a101 := hm.1 _ _ _ qa96 e102
      obtain ⟨a103, e104, hF⟩ := rf_s hG; clear hG
      have qa103 : Q a103 := hm.1 _ _ _ q_p0 e104
      obtain ⟨x105, -, hG⟩ := bnd_g hF; clear hF
      obtain ⟨n106, q107, hF⟩ := ar_s hG; clear hG
      obtain ⟨q108, hG⟩ := ck_s hF; clear hF
      obtain ⟨x109, -, hF⟩ := bnd_g hG; clear hG
      obtain ⟨q110, hG⟩ := ck_s hF; clear hF
      obtain ⟨v112, H113, z111, hF⟩ := bC_s hG; clear hG
      have gz_9 := (g_Named_tell z111 hm.1 qa101 q_p1)
      replace hm : Rg Q H H113 := hm.tr gz_9
      have s_10 : Sa H H113 := (m_Named_tell z111)
      obtain ⟨a114, e115, hG⟩ := rf_s hF; clear hF
      have qa114 : Q a114 := hm.1 _ _ _ q_p0 e115
      obtain ⟨x116, -, hF⟩ := bnd_g hG; clear hG
      obtain ⟨n117, q118, hG⟩ := ar_s hF; clear hF
      rw [(s_10).1] at q118
      obtain ⟨q119, hF⟩ := ck_s hG; clear hG
      obtain ⟨H120, eH120, hG⟩ := bnd_g hF; clear hF
      replace hm : Rg Q H H120 := hm.tr (by rw [eH120]; exact Rg.sD hm.1 qa114)
      have s_11 : Sa H H120 := by rw [eH120]; exact s_10
      have hr := Option.some.inj hG; subst hr
      exact hm
