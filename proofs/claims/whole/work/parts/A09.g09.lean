set_option maxRecDepth 20000 in
set_option maxHeartbeats 2000000 in
theorem gB_MText_emits_118 {N : Nat} {Q : Nat → Prop} {p0 : Nat} (q_p0 : Q p0)  {H : Hp} {r : Unit × Hp} (hF : B_MText_emits_118 N p0  H = some r) (hc0 : Cl Q H) : Rg Q H r.2 := by
  unfold B_MText_emits_118 at hF
  have hm := Rg.rf hc0
  obtain ⟨q159, hG⟩ := ck_s hF; clear hF
  obtain ⟨v161, H162, z160, hF⟩ := bC_s hG; clear hG
  have gz_39 := (g_MText_closes z160 hm.1 q_p0)
  replace hm : Rg Q H H162 := hm.tr gz_39
  have s_40 : Sa H H162 := (m_MText_closes z160)
  obtain ⟨v164, H165, z163, hG⟩ := bC_s hF; clear hF
  have gz_41 := (g_MText_takes z163 hm.1 q_p0)
  replace hm : Rg Q H H165 := hm.tr gz_41
  have s_42 : Sa H H165 := (s_40).tr (m_MText_takes z163)
  obtain ⟨v167, H168, z166, hF⟩ := bC_s hG; clear hG
  have gz_43 := (g_MText_wantsIn (hmo := moX_TextE 50) (gX_TextE 50) z166 hm.1 q_p0)
  replace hm : Rg Q H H168 := hm.tr gz_43
  have s_44 : Sa H H168 := (s_42).tr (m_MText_wantsIn (moX_TextE 50) z166)
  obtain ⟨v170, H171, z169, hG⟩ := bC_s hF; clear hF
  have gz_45 := (g_MText_takes z169 hm.1 q_p0)
  replace hm : Rg Q H H171 := hm.tr gz_45
  have s_46 : Sa H H171 := (s_44).tr (m_MText_takes z169)
  obtain ⟨v173, H174, z172, hF⟩ := bC_s hG; clear hG
  have gz_47 := (g_MText_wantsIn (hmo := moX_TextE 50) (gX_TextE 50) z172 hm.1 q_p0)
  replace hm : Rg Q H H174 := hm.tr gz_47
  have s_48 : Sa H H174 := (s_46).tr (m_MText_wantsIn (moX_TextE 50) z172)
  obtain ⟨v176, H177, z175, hG⟩ := bC_s hF; clear hF
  have gz_49 := (g_MText_takes z175 hm.1 q_p0)
  replace hm : Rg Q H H177 := hm.tr gz_49
  have s_50 : Sa H H177 := (s_48).tr (m_MText_takes z175)
  have hr := Option.some.inj hG; subst hr
  exact hm
set_option maxRecDepth 20000 in
set_option maxHeartbeats 2000000 in
theorem gB_MText_emits_90 {N : Nat} {Q : Nat → Prop} {p0 : Nat} (q_p0 : Q p0) {l1 : Int32} {l2 : Int32} {H : Hp} {r : Unit × Hp} (hF : B_MText_emits_90 N p0 l1 l2 H = some r) (hc0 : Cl Q H) : Rg Q H r.2 := by
  unfold B_MText_emits_90 at hF
  have hm := Rg.rf hc0
  obtain ⟨q178, hG⟩ := ck_s hF; clear hF
  obtain ⟨v180, H181, z179, hF⟩ := bC_s hG; clear hG
  have gz_51 := (g_MText_is z179 hm.1 q_p0)
  replace hm : Rg Q H H181 := hm.tr gz_51
  have s_52 : Sa H H181 := (m_MText_is z179)
  rcases ite_s hF with ⟨q_53, hG⟩ | ⟨q_53, hG⟩
  · clear hF
    exact hm.tr (gB_MText_emits_118 q_p0 hG hm.1)
  · clear hF
    obtain ⟨a183, e184, hF⟩ := rf_s hG; clear hG
    have qa183 : Q a183 := hm.1 _ _ _ q_p0 e184
    obtain ⟨n185, q186, hG⟩ := ar_s hF; clear hF
    rw [(s_52).1] at q186
    obtain ⟨q187, hF⟩ := ck_s hG; clear hG
    obtain ⟨x188, -, hG⟩ := bnd_g hF; clear hF
    rcases ite_s hG with ⟨q_54, hF⟩ | ⟨q_54, hF⟩
    · clear hG
      exact hm.tr (gB_MText_emits_118 q_p0 hF hm.1)
    · clear hG
      obtain ⟨x190, -, hG⟩ := bnd_g hF; clear hF
      obtain ⟨v192, H193, z191, hF⟩ := bC_s hG; clear hG
      have gz_55 := (g_MText_fails z191 hm.1 q_p0)
      replace hm : Rg Q H H193 := hm.tr gz_55
      have s_56 : Sa H H193 := (s_52).tr (m_MText_fails z191)
      exact hm.tr (gB_MText_emits_118 q_p0 hF hm.1)
set_option maxRecDepth 20000 in
set_option maxHeartbeats 2000000 in
theorem gB_MText_emits_77 {N : Nat} {Q : Nat → Prop} {p0 : Nat} {kq31 : Int32 → Int32 → Int32 → Hp → Option (Unit × Hp)} (q_p0 : Q p0) (hg31 : ∀ (l1 : Int32) (l2 : Int32) (l3 : Int32) (H : Hp) (r : Unit × Hp), kq31 l1 l2 l3 H = some r → Cl Q H → Rg Q H r.2) {l1 : Int32} {l2 : Int32} {H : Hp} {r : Unit × Hp} (hF : B_MText_emits_77 N p0 kq31 l1 l2 H = some r) (hc0 : Cl Q H) : Rg Q H r.2 := by
  unfold B_MText_emits_77 at hF
  have hm := Rg.rf hc0
  obtain ⟨q194, hG⟩ := ck_s hF; clear hF
  obtain ⟨v196, H197, z195, hF⟩ := bC_s hG; clear hG
  have gz_57 := (g_MText_accepts z195 hm.1 q_p0)
  replace hm : Rg Q H H197 := hm.tr gz_57
  have s_58 : Sa H H197 := (m_MText_accepts z195)
  exact hm.tr (hg31 l1 (l2 + 1) v196 H197 r hF hm.1)
set_option maxRecDepth 20000 in
set_option maxHeartbeats 2000000 in
theorem gB_MText_emits_31 {N : Nat} {Q : Nat → Prop} {p0 : Nat} (q_p0 : Q p0) : ∀ (n : Nat) (l1 : Int32) (l2 : Int32) (l3 : Int32) (H : Hp) (r : Unit × Hp), B_MText_emits_31 N p0 n l1 l2 l3 H = some r → Cl Q H → Rg Q H r.2 := by
  intro n
  induction n with
  | zero => intro l1 l2 l3 H r hF; rw [B_MText_emits_31] at hF; cases hF
  | succ n ih =>
    intro l1 l2 l3 H r hF hc0
    rw [B_MText_emits_31] at hF
    have hm := Rg.rf hc0
    obtain ⟨q198, hG⟩ := ck_s hF; clear hF
    obtain ⟨x199, -, hF⟩ := bnd_g hG; clear hG
    rcases ite_s hF with ⟨q_59, hG⟩ | ⟨q_59, hG⟩
    · clear hF
      rcases ite_s hG with ⟨q_60, hF⟩ | ⟨q_60, hF⟩
      · clear hG
        exact hm.tr (gB_MText_emits_90 q_p0 hF hm.1)
      · clear hG
        obtain ⟨a202, e203, hG⟩ := rf_s hF; clear hF
        have qa202 : Q a202 := hm.1 _ _ _ q_p0 e203
        obtain ⟨n204, q205, hF⟩ := ar_s hG; clear hG
        obtain ⟨q206, hG⟩ := ck_s hF; clear hF
        obtain ⟨x207, -, hF⟩ := bnd_g hG; clear hG
        rcases ite_s hF with ⟨q_61, hG⟩ | ⟨q_61, hG⟩
        · clear hF
          obtain ⟨v210, H211, z209, hF⟩ := bC_s hG; clear hG
          have gz_62 := ((gX_TextE 50).1 _ _ _ z209 hm.1 q_p0)
          replace hm : Rg Q H H211 := hm.tr gz_62
          have s_63 : Sa H H211 := ((moX_TextE 50).1 _ _ _ z209)
          exact hm.tr (gB_MText_emits_77 q_p0 ih hF hm.1)
        · clear hF
          obtain ⟨a212, e213, hF⟩ := rf_s hG; clear hG
          have qa212 : Q a212 := hm.1 _ _ _ q_p0 e213
          obtain ⟨n214, q215, hG⟩ := ar_s hF; clear hF
          obtain ⟨q216, hF⟩ := ck_s hG; clear hG
          obtain ⟨x217, -, hG⟩ := bnd_g hF; clear hF
          obtain ⟨v219, H220, z218, hF⟩ := bC_s hG; clear hG
          have gz_64 := (g_MText_plain z218 hm.1)
          replace hm : Rg Q H H220 := hm.tr gz_64
          have s_65 : Sa H H220 := (m_MText_plain z218)
          obtain ⟨v222, H223, z221, hG⟩ := bC_s hF; clear hF
          have gz_66 := (g_MText_wants (hmo := moX_TextE 50) (gX_TextE 50) z221 hm.1 q_p0)
          replace hm : Rg Q H H223 := hm.tr gz_66
          have s_67 : Sa H H223 := (s_65).tr (m_MText_wants (moX_TextE 50) z221)
          exact hm.tr (gB_MText_emits_77 q_p0 ih hG hm.1)
    · clear hF
      exact hm.tr (gB_MText_emits_90 q_p0 hG hm.1)
set_option maxRecDepth 20000 in
set_option maxHeartbeats 2000000 in
theorem gB_MText_emits_30 {N : Nat} {Q : Nat → Prop} {p0 : Nat} (q_p0 : Q p0) {l1 : Int32} {l2 : Int32} {w0 : Int32} {H : Hp} {r : Unit × Hp} (hF : B_MText_emits_30 N p0 l1 l2 w0 H = some r) (hc0 : Cl Q H) : Rg Q H r.2 := by
  unfold B_MText_emits_30 at hF
  have hm := Rg.rf hc0
  exact hm.tr (gB_MText_emits_31 q_p0 N l1 l2 w0 H r hF hm.1)
set_option maxRecDepth 20000 in
set_option maxHeartbeats 2000000 in
theorem g_MText_emits {N : Nat} {Q : Nat → Prop} {p0 : Nat} {H : Hp} {r : Unit × Hp} (hF : F_MText_emits N p0 H = some r) (hc0 : Cl Q H) (q_p0 : Q p0) : Rg Q H r.2 := by
  unfold F_MText_emits at hF
  have hm := Rg.rf hc0
  obtain ⟨q224, hG⟩ := ck_s hF; clear hF
  obtain ⟨v226, H227, z225, hF⟩ := bC_s hG; clear hG
  have gz_68 := (g_MText_name z225 hm.1 q_p0)
  replace hm : Rg Q H H227 := hm.tr gz_68
  have s_69 : Sa H H227 := (m_MText_name z225)
  obtain ⟨v229, H230, z228, hG⟩ := bC_s hF; clear hF
  have gz_70 := (g_MText_numberOf z228 hm.1 q_p0)
  replace hm : Rg Q H H230 := hm.tr gz_70
  have s_71 : Sa H H230 := (s_69).tr (m_MText_numberOf z228)
  obtain ⟨v232, H233, z231, hF⟩ := bC_s hG; clear hG
  have gz_72 := (g_MText_opens z231 hm.1 q_p0)
  replace hm : Rg Q H H233 := hm.tr gz_72
  have s_73 : Sa H H233 := (s_71).tr (m_MText_opens z231)
  obtain ⟨v235, H236, z234, hG⟩ := bC_s hF; clear hF
  have gz_74 := (g_MText_is z234 hm.1 q_p0)
  replace hm : Rg Q H H236 := hm.tr gz_74
  have s_75 : Sa H H236 := (s_73).tr (m_MText_is z234)
  rcases ite_s hG with ⟨q_76, hF⟩ | ⟨q_76, hF⟩
  · clear hG
    exact hm.tr (gB_MText_emits_30 q_p0 hF hm.1)
  · clear hG
    exact hm.tr (gB_MText_emits_30 q_p0 hF hm.1)
set_option maxRecDepth 20000 in
set_option maxHeartbeats 2000000 in
theorem gB_MText_commands_104 {N : Nat} {Q : Nat → Prop} {p0 : Nat} {p1 : Int32} (q_p0 : Q p0)  {H : Hp} {r : Unit × Hp} (hF : B_MText_commands_104 N p0 p1  H = some r) (hc0 : Cl Q H) : Rg Q H r.2 := by
  unfold B_MText_commands_104 at hF
  have hm := Rg.rf hc0
  obtain ⟨q107, hG⟩ := ck_s hF; clear hF
  obtain ⟨v109, H110, z108, hF⟩ := bC_s hG; clear hG
  have gz_31 := (g_MText_takes z108 hm.1 q_p0)
  replace hm : Rg Q H H110 := hm.tr gz_31
  have s_32 : Sa H H110 := (m_MText_takes z108)
  have hr := Option.some.inj hF; subst hr
  exact hm
set_option maxRecDepth 20000 in
set_option maxHeartbeats 2000000 in
theorem gB_MText_commands_49 {N : Nat} {Q : Nat → Prop} {p0 : Nat} {p1 : Int32} (q_p0 : Q p0)  {H : Hp} {r : Unit × Hp} (hF : B_MText_commands_49 N p0 p1  H = some r) (hc0 : Cl Q H) : Rg Q H r.2 := by
  unfold B_MText_commands_49 at hF
  have hm := Rg.rf hc0
  obtain ⟨q111, hG⟩ := ck_s hF; clear hF
  obtain ⟨v113, H114, z112, hF⟩ := bC_s hG; clear hG
  have gz_33 := (g_MText_name z112 hm.1 q_p0)
  replace hm : Rg Q H H114 := hm.tr gz_33
  have s_34 : Sa H H114 := (m_MText_name z112)
  obtain ⟨v116, H117, z115, hG⟩ := bC_s hF; clear hF
  have gz_35 := (g_MText_numberOf z115 hm.1 q_p0)
  replace hm : Rg Q H H117 := hm.tr gz_35
  have s_36 : Sa H H117 := (s_34).tr (m_MText_numberOf z115)
  rcases ite_s hG with ⟨q_37, hF⟩ | ⟨q_37, hF⟩
  · clear hG
    obtain ⟨v120, H121, z119, hG⟩ := bC_s hF; clear hF
    have gz_38 := (g_MText_takes z119 hm.1 q_p0)
    replace hm : Rg Q H H121 := hm.tr gz_38
    have s_39 : Sa H H121 := (s_36).tr (m_MText_takes z119)
    obtain ⟨v123, H124, z122, hF⟩ := bC_s hG; clear hG
    have gz_40 := (g_MText_memberName z122 hm.1 q_p0)
    replace hm : Rg Q H H124 := hm.tr gz_40
    have s_41 : Sa H H124 := (s_39).tr (m_MText_memberName z122)
    obtain ⟨v126, H127, z125, hG⟩ := bC_s hF; clear hF
    have gz_42 := (g_MText_takes z125 hm.1 q_p0)
    replace hm : Rg Q H H127 := hm.tr gz_42
    have s_43 : Sa H H127 := (s_41).tr (m_MText_takes z125)
    obtain ⟨x128, -, hF⟩ := bnd_g hG; clear hG
    rcases ite_s hF with ⟨q_44, hG⟩ | ⟨q_44, hG⟩
    · clear hF
      obtain ⟨a130, e131, hF⟩ := rf_s hG; clear hG
      have qa130 : Q a130 := hm.1 _ _ _ q_p0 e131
      obtain ⟨n132, q133, hG⟩ := ar_s hF; clear hF
      rw [(s_43).1] at q133
      obtain ⟨q134, hF⟩ := ck_s hG; clear hG
      obtain ⟨x135, -, hG⟩ := bnd_g hF; clear hF
      obtain ⟨v137, H138, z136, hF⟩ := bC_s hG; clear hG
      have gz_45 := (g_MText_plain z136 hm.1)
      replace hm : Rg Q H H138 := hm.tr gz_45
      have s_46 : Sa H H138 := (s_43).tr (m_MText_plain z136)
      obtain ⟨v140, H141, z139, hG⟩ := bC_s hF; clear hF
      have gz_47 := (g_MText_wants (hmo := moX_TextE 50) (gX_TextE 50) z139 hm.1 q_p0)
      replace hm : Rg Q H H141 := hm.tr gz_47
      have s_48 : Sa H H141 := (s_46).tr (m_MText_wants (moX_TextE 50) z139)
      exact hm.tr (gB_MText_commands_104 q_p0 hG hm.1)
    · clear hF
      exact hm.tr (gB_MText_commands_104 q_p0 hG hm.1)
  · clear hG
    exact hm.tr (gB_MText_commands_104 q_p0 hF hm.1)
set_option maxRecDepth 20000 in
set_option maxHeartbeats 2000000 in
theorem gB_MText_commands_28 {N : Nat} {Q : Nat → Prop} {p0 : Nat} {p1 : Int32} (q_p0 : Q p0)  {H : Hp} {r : Unit × Hp} (hF : B_MText_commands_28 N p0 p1  H = some r) (hc0 : Cl Q H) : Rg Q H r.2 := by
  unfold B_MText_commands_28 at hF
  have hm := Rg.rf hc0
  rcases ite_s hF with ⟨q_49, hG⟩ | ⟨q_49, hG⟩
  · clear hF
    exact hm.tr (gB_MText_commands_49 q_p0 hG hm.1)
  · clear hF
    rcases ite_s hG with ⟨q_50, hF⟩ | ⟨q_50, hF⟩
    · clear hG
      exact hm.tr (gB_MText_commands_49 q_p0 hF hm.1)
    · clear hG
      rcases ite_s hF with ⟨q_51, hG⟩ | ⟨q_51, hG⟩
      · clear hF
        exact hm.tr (gB_MText_commands_49 q_p0 hG hm.1)
      · clear hF
        exact hm.tr (gB_MText_commands_104 q_p0 hG hm.1)
set_option maxRecDepth 20000 in
set_option maxHeartbeats 2000000 in
theorem g_MText_commands {N : Nat} {Q : Nat → Prop} {p0 : Nat} {p1 : Int32} {H : Hp} {r : Unit × Hp} (hF : F_MText_commands N p0 p1 H = some r) (hc0 : Cl Q H) (q_p0 : Q p0) : Rg Q H r.2 := by
  unfold F_MText_commands at hF
  have hm := Rg.rf hc0
  rcases ite_s hF with ⟨q_52, hG⟩ | ⟨q_52, hG⟩
  · clear hF
    obtain ⟨q146, hF⟩ := ck_s hG; clear hG
    obtain ⟨v148, H149, z147, hG⟩ := bC_s hF; clear hF
    have gz_53 := (g_MText_opens z147 hm.1 q_p0)
    replace hm : Rg Q H H149 := hm.tr gz_53
    have s_54 : Sa H H149 := (m_MText_opens z147)
    obtain ⟨v151, H152, z150, hF⟩ := bC_s hG; clear hG
    have gz_55 := ((gX_TextE 50).1 _ _ _ z150 hm.1 q_p0)
    replace hm : Rg Q H H152 := hm.tr gz_55
    have s_56 : Sa H H152 := (s_54).tr ((moX_TextE 50).1 _ _ _ z150)
    obtain ⟨v154, H155, z153, hG⟩ := bC_s hF; clear hF
    have gz_57 := (g_MText_closes z153 hm.1 q_p0)
    replace hm : Rg Q H H155 := hm.tr gz_57
    have s_58 : Sa H H155 := (s_56).tr (m_MText_closes z153)
    exact hm.tr (gB_MText_commands_28 q_p0 hG hm.1)
  · clear hF
    obtain ⟨q156, hF⟩ := ck_s hG; clear hG
    obtain ⟨v158, H159, z157, hG⟩ := bC_s hF; clear hF
    have gz_59 := (g_MText_wantsIn (hmo := moX_TextE 50) (gX_TextE 50) z157 hm.1 q_p0)
    replace hm : Rg Q H H159 := hm.tr gz_59
    have s_60 : Sa H H159 := (m_MText_wantsIn (moX_TextE 50) z157)
    exact hm.tr (gB_MText_commands_28 q_p0 hG hm.1)
def rg_TextS (Q : Nat → Prop) (o : Orc_TextS) : Prop :=
  (∀ (a0 : Nat) (H : Hp) (r : Unit × Hp), o a0 H = some r → Cl Q H → Q a0 → Rg Q H r.2)
set_option maxRecDepth 20000 in
set_option maxHeartbeats 2000000 in
theorem gB_MText_block_13 {N : Nat} {Q : Nat → Prop} {o : Orc_TextS} {hmo : mo_TextS o} (hgo : rg_TextS Q o) {p0 : Nat} (q_p0 : Q p0)  {H : Hp} {r : Unit × Hp} (hF : B_MText_block_13 N o p0  H = some r) (hc0 : Cl Q H) : Rg Q H r.2 := by
  unfold B_MText_block_13 at hF
  have hm := Rg.rf hc0
  obtain ⟨q29, hG⟩ := ck_s hF; clear hF
  obtain ⟨v31, H32, z30, hF⟩ := bC_s hG; clear hG
  have gz_10 := (hgo _ _ _ z30 hm.1 q_p0)
  replace hm : Rg Q H H32 := hm.tr gz_10
  have s_11 : Sa H H32 := (hmo _ _ _ z30)
  obtain ⟨x33, -, hG⟩ := bnd_g hF; clear hF
  obtain ⟨H34, eH34, hF⟩ := bnd_g hG; clear hG
  replace hm : Rg Q H H34 := hm.tr (by rw [eH34]; exact Rg.sD hm.1 q_p0)
  have s_12 : Sa H H34 := by rw [eH34]; exact s_11
  have hr := Option.some.inj hF; subst hr
  exact hm
set_option maxRecDepth 20000 in
set_option maxHeartbeats 2000000 in
theorem g_MText_block {N : Nat} {Q : Nat → Prop} {o : Orc_TextS} {hmo : mo_TextS o} (hgo : rg_TextS Q o) {p0 : Nat} {H : Hp} {r : Unit × Hp} (hF : F_MText_block N o p0 H = some r) (hc0 : Cl Q H) (q_p0 : Q p0) : Rg Q H r.2 := by
  unfold F_MText_block at hF
  have hm := Rg.rf hc0
  obtain ⟨q35, hG⟩ := ck_s hF; clear hF
  obtain ⟨v37, H38, z36, hF⟩ := bC_s hG; clear hG
  have gz_13 := (g_MText_is z36 hm.1 q_p0)
  replace hm : Rg Q H H38 := hm.tr gz_13
  have s_14 : Sa H H38 := (m_MText_is z36)
  rcases ite_s hF with ⟨q_15, hG⟩ | ⟨q_15, hG⟩
  · clear hF
    exact hm.tr (gB_MText_block_13 (hmo := hmo) hgo q_p0 hG hm.1)
  · clear hF
    obtain ⟨v41, H42, z40, hF⟩ := bC_s hG; clear hG
    have gz_16 := (g_MText_deeper z40 hm.1 q_p0)
    replace hm : Rg Q H H42 := hm.tr gz_16
    have s_17 : Sa H H42 := (s_14).tr (m_MText_deeper z40)
    exact hm.tr (gB_MText_block_13 (hmo := hmo) hgo q_p0 hF hm.1)
set_option maxRecDepth 20000 in
set_option maxHeartbeats 2000000 in
theorem g_MText_hears {N : Nat} {Q : Nat → Prop} {o : Orc_TextS} {hmo : mo_TextS o} (hgo : rg_TextS Q o) {p0 : Nat} {H : Hp} {r : Unit × Hp} (hF : F_MText_hears N o p0 H = some r) (hc0 : Cl Q H) (q_p0 : Q p0) : Rg Q H r.2 := by
  unfold F_MText_hears at hF
  have hm := Rg.rf hc0
  obtain ⟨q29, hG⟩ := ck_s hF; clear hF
  obtain ⟨v31, H32, z30, hF⟩ := bC_s hG; clear hG
  have gz_11 := (g_MText_name z30 hm.1 q_p0)
  replace hm : Rg Q H H32 := hm.tr gz_11
  have s_12 : Sa H H32 := (m_MText_name z30)
  obtain ⟨v34, H35, z33, hG⟩ := bC_s hF; clear hF
  have gz_13 := (g_MText_numberOf z33 hm.1 q_p0)
  replace hm : Rg Q H H35 := hm.tr gz_13
  have s_14 : Sa H H35 := (s_12).tr (m_MText_numberOf z33)
  obtain ⟨x36, -, hF⟩ := bnd_g hG; clear hG
  obtain ⟨x37, -, hG⟩ := bnd_g hF; clear hF
  obtain ⟨H38, eH38, hF⟩ := bnd_g hG; clear hG
  replace hm : Rg Q H H38 := hm.tr (by rw [eH38]; exact Rg.sD hm.1 q_p0)
  have s_15 : Sa H H38 := by rw [eH38]; exact s_14
  obtain ⟨v40, H41, z39, hG⟩ := bC_s hF; clear hF
  have gz_16 := (g_MText_block (hmo := hmo) hgo z39 hm.1 q_p0)
  replace hm : Rg Q H H41 := hm.tr gz_16
  have s_17 : Sa H H41 := (s_15).tr (m_MText_block hmo z39)
  obtain ⟨H42, eH42, hF⟩ := bnd_g hG; clear hG
  replace hm : Rg Q H H42 := hm.tr (by rw [eH42]; exact Rg.sD hm.1 q_p0)
  have s_18 : Sa H H42 := by rw [eH42]; exact s_17
  have hr := Option.some.inj hF; subst hr
  exact hm
set_option maxRecDepth 20000 in
set_option maxHeartbeats 2000000 in
theorem gB_MText_goes_165 {N : Nat} {Q : Nat → Prop} {o : Orc_TextS} {hmo : mo_TextS o} (hgo : rg_TextS Q o) {p0 : Nat} (q_p0 : Q p0) {l1 : Int32} {H : Hp} {r : Unit × Hp} (hF : B_MText_goes_165 N o p0 l1 H = some r) (hc0 : Cl Q H) : Rg Q H r.2 := by
  unfold B_MText_goes_165 at hF
  have hm := Rg.rf hc0
  obtain ⟨q201, hG⟩ := ck_s hF; clear hF
  obtain ⟨x202, -, hF⟩ := bnd_g hG; clear hG
  obtain ⟨v204, H205, z203, hG⟩ := bC_s hF; clear hF
  have gz_34 := (g_MText_tells z203 hm.1 q_p0)
  replace hm : Rg Q H H205 := hm.tr gz_34
  have s_35 : Sa H H205 := (m_MText_tells z203)
  obtain ⟨v207, H208, z206, hF⟩ := bC_s hG; clear hG
  have gz_36 := (g_MText_block (hmo := hmo) hgo z206 hm.1 q_p0)
  replace hm : Rg Q H H208 := hm.tr gz_36
  have s_37 : Sa H H208 := (s_35).tr (m_MText_block hmo z206)
  obtain ⟨H209, eH209, hG⟩ := bnd_g hF; clear hF
  replace hm : Rg Q H H209 := hm.tr (by rw [eH209]; exact Rg.sD hm.1 q_p0)
  have s_38 : Sa H H209 := by rw [eH209]; exact s_37
  have hr := Option.some.inj hG; subst hr
  exact hm
set_option maxRecDepth 20000 in
set_option maxHeartbeats 2000000 in
theorem gB_MText_goes_142 {N : Nat} {Q : Nat → Prop} {o : Orc_TextS} {hmo : mo_TextS o} (hgo : rg_TextS Q o) {p0 : Nat} (q_p0 : Q p0) {l1 : Int32} {H : Hp} {r : Unit × Hp} (hF : B_MText_goes_142 N o p0 l1 H = some r) (hc0 : Cl Q H) : Rg Q H r.2 := by
  unfold B_MText_goes_142 at hF
  have hm := Rg.rf hc0
  obtain ⟨q210, hG⟩ := ck_s hF; clear hF
  obtain ⟨x211, -, hF⟩ := bnd_g hG; clear hG
  obtain ⟨H212, eH212, hG⟩ := bnd_g hF; clear hF
  replace hm : Rg Q H H212 := hm.tr (by rw [eH212]; exact Rg.sD hm.1 q_p0)
  have s_39 : Sa H H212 := by rw [eH212]; exact Sa.rf _
  obtain ⟨v214, H215, z213, hF⟩ := bC_s hG; clear hG
  have gz_40 := (g_MText_opens z213 hm.1 q_p0)
  replace hm : Rg Q H H215 := hm.tr gz_40
  have s_41 : Sa H H215 := (s_39).tr (m_MText_opens z213)
  obtain ⟨v217, H218, z216, hG⟩ := bC_s hF; clear hF
  have gz_42 := (g_MText_wants (hmo := moX_TextE 50) (gX_TextE 50) z216 hm.1 q_p0)
  replace hm : Rg Q H H218 := hm.tr gz_42
  have s_43 : Sa H H218 := (s_41).tr (m_MText_wants (moX_TextE 50) z216)
  obtain ⟨v220, H221, z219, hF⟩ := bC_s hG; clear hG
  have gz_44 := (g_MText_closes z219 hm.1 q_p0)
  replace hm : Rg Q H H221 := hm.tr gz_44
  have s_45 : Sa H H221 := (s_43).tr (m_MText_closes z219)
  exact hm.tr (gB_MText_goes_165 (hmo := hmo) hgo q_p0 hF hm.1)
set_option maxRecDepth 20000 in
set_option maxHeartbeats 2000000 in
theorem gB_MText_goes_128 {N : Nat} {Q : Nat → Prop} {o : Orc_TextS} {hmo : mo_TextS o} (hgo : rg_TextS Q o) {p0 : Nat} (q_p0 : Q p0) {l1 : Int32} {w0 : Int32} {H : Hp} {r : Unit × Hp} (hF : B_MText_goes_128 N o p0 l1 w0 H = some r) (hc0 : Cl Q H) : Rg Q H r.2 := by
  unfold B_MText_goes_128 at hF
  have hm := Rg.rf hc0
  rcases ite_s hF with ⟨q_46, hG⟩ | ⟨q_46, hG⟩
  · clear hF
    obtain ⟨q223, hF⟩ := ck_s hG; clear hG
    obtain ⟨x224, -, hG⟩ := bnd_g hF; clear hF
    obtain ⟨v226, H227, z225, hF⟩ := bC_s hG; clear hG
    have gz_47 := (g_MText_fails z225 hm.1 q_p0)
    replace hm : Rg Q H H227 := hm.tr gz_47
    have s_48 : Sa H H227 := (m_MText_fails z225)
    exact hm.tr (gB_MText_goes_142 (hmo := hmo) hgo q_p0 hF hm.1)
  · clear hF
    exact hm.tr (gB_MText_goes_142 (hmo := hmo) hgo q_p0 hG hm.1)
set_option maxRecDepth 20000 in
set_option maxHeartbeats 2000000 in
theorem gB_MText_goes_127 {N : Nat} {Q : Nat → Prop} {o : Orc_TextS} {hmo : mo_TextS o} (hgo : rg_TextS Q o) {p0 : Nat} (q_p0 : Q p0) {l1 : Int32} {H : Hp} {r : Unit × Hp} (hF : B_MText_goes_127 N o p0 l1 H = some r) (hc0 : Cl Q H) : Rg Q H r.2 := by
  unfold B_MText_goes_127 at hF
  have hm := Rg.rf hc0
  exact hm.tr (gB_MText_goes_128 (hmo := hmo) hgo q_p0 hF hm.1)
set_option maxRecDepth 20000 in
set_option maxHeartbeats 2000000 in
theorem gB_MText_goes_67 {N : Nat} {Q : Nat → Prop} {o : Orc_TextS} {hmo : mo_TextS o} (hgo : rg_TextS Q o) {p0 : Nat} (q_p0 : Q p0) {l1 : Int32} {l2 : Int32} {w0 : Int32} {H : Hp} {r : Unit × Hp} (hF : B_MText_goes_67 N o p0 l1 l2 w0 H = some r) (hc0 : Cl Q H) : Rg Q H r.2 := by
  unfold B_MText_goes_67 at hF
  have hm := Rg.rf hc0
  rcases ite_s hF with ⟨q_49, hG⟩ | ⟨q_49, hG⟩
  · clear hF
    exact hm.tr (gB_MText_goes_127 (hmo := hmo) hgo q_p0 hG hm.1)
  · clear hF
    obtain ⟨q229, hF⟩ := ck_s hG; clear hG
    obtain ⟨a230, e231, hG⟩ := rf_s hF; clear hF
    have qa230 : Q a230 := hm.1 _ _ _ q_p0 e231
    obtain ⟨n232, q233, hF⟩ := ar_s hG; clear hG
    obtain ⟨q234, hG⟩ := ck_s hF; clear hF
    obtain ⟨x235, -, hF⟩ := bnd_g hG; clear hG
    obtain ⟨a236, e237, hG⟩ := rf_s hF; clear hF
    have qa236 : Q a236 := hm.1 _ _ _ q_p0 e237
    obtain ⟨n238, q239, hF⟩ := ar_s hG; clear hG
    obtain ⟨q240, hG⟩ := ck_s hF; clear hF
    obtain ⟨x241, -, hF⟩ := bnd_g hG; clear hG
    rcases ite_s hF with ⟨q_50, hG⟩ | ⟨q_50, hG⟩
    · clear hF
      exact hm.tr (gB_MText_goes_127 (hmo := hmo) hgo q_p0 hG hm.1)
    · clear hF
      obtain ⟨a243, e244, hF⟩ := rf_s hG; clear hG
      have qa243 : Q a243 := hm.1 _ _ _ q_p0 e244
      obtain ⟨a245, e246, hG⟩ := rf_s hF; clear hF
      have qa245 : Q a245 := hm.1 _ _ _ q_p0 e246
      obtain ⟨n247, q248, hF⟩ := ar_s hG; clear hG
      obtain ⟨q249, hG⟩ := ck_s hF; clear hF
      obtain ⟨x250, -, hF⟩ := bnd_g hG; clear hG
      obtain ⟨n251, q252, hG⟩ := ar_s hF; clear hF
      obtain ⟨q253, hF⟩ := ck_s hG; clear hG
      obtain ⟨x254, -, hG⟩ := bnd_g hF; clear hF
      rcases ite_s hG with ⟨q_51, hF⟩ | ⟨q_51, hF⟩
      · clear hG
        obtain ⟨a256, e257, hG⟩ := rf_s hF; clear hF
        have qa256 : Q a256 := hm.1 _ _ _ q_p0 e257
        obtain ⟨a258, e259, hF⟩ := rf_s hG; clear hG
        have qa258 : Q a258 := hm.1 _ _ _ q_p0 e259
        obtain ⟨n260, q261, hG⟩ := ar_s hF; clear hF
        obtain ⟨q262, hF⟩ := ck_s hG; clear hG
        obtain ⟨x263, -, hG⟩ := bnd_g hF; clear hF
        obtain ⟨n264, q265, hF⟩ := ar_s hG; clear hG
        obtain ⟨q266, hG⟩ := ck_s hF; clear hF
        obtain ⟨x267, -, hF⟩ := bnd_g hG; clear hG
        rcases ite_s hF with ⟨q_52, hG⟩ | ⟨q_52, hG⟩
        · clear hF
          exact hm.tr (gB_MText_goes_128 (hmo := hmo) hgo q_p0 hG hm.1)
        · clear hF
          exact hm.tr (gB_MText_goes_127 (hmo := hmo) hgo q_p0 hG hm.1)
      · clear hG
        exact hm.tr (gB_MText_goes_127 (hmo := hmo) hgo q_p0 hF hm.1)
set_option maxRecDepth 20000 in
set_option maxHeartbeats 2000000 in
theorem g_MText_goes {N : Nat} {Q : Nat → Prop} {o : Orc_TextS} {hmo : mo_TextS o} (hgo : rg_TextS Q o) {p0 : Nat} {H : Hp} {r : Unit × Hp} (hF : F_MText_goes N o p0 H = some r) (hc0 : Cl Q H) (q_p0 : Q p0) : Rg Q H r.2 := by
  unfold F_MText_goes at hF
  have hm := Rg.rf hc0
  obtain ⟨q269, hG⟩ := ck_s hF; clear hF
  obtain ⟨v271, H272, z270, hF⟩ := bC_s hG; clear hG
  have gz_53 := (g_MText_localName z270 hm.1 q_p0)
  replace hm : Rg Q H H272 := hm.tr gz_53
  have s_54 : Sa H H272 := (m_MText_localName z270)
  obtain ⟨v274, H275, z273, hG⟩ := bC_s hF; clear hF
  have gz_55 := (g_MText_takes z273 hm.1 q_p0)
  replace hm : Rg Q H H275 := hm.tr gz_55
  have s_56 : Sa H H275 := (s_54).tr (m_MText_takes z273)
  obtain ⟨v277, H278, z276, hF⟩ := bC_s hG; clear hG
  have gz_57 := (g_MText_name z276 hm.1 q_p0)
  replace hm : Rg Q H H278 := hm.tr gz_57
  have s_58 : Sa H H278 := (s_56).tr (m_MText_name z276)
  obtain ⟨v280, H281, z279, hG⟩ := bC_s hF; clear hF
  have gz_59 := (g_MText_numberOf z279 hm.1 q_p0)
  replace hm : Rg Q H H281 := hm.tr gz_59
  have s_60 : Sa H H281 := (s_58).tr (m_MText_numberOf z279)
  obtain ⟨v283, H284, z282, hF⟩ := bC_s hG; clear hG
  have gz_61 := (g_MText_is z282 hm.1 q_p0)
  replace hm : Rg Q H H284 := hm.tr gz_61
  have s_62 : Sa H H284 := (s_60).tr (m_MText_is z282)
  rcases ite_s hF with ⟨q_63, hG⟩ | ⟨q_63, hG⟩
  · clear hF
    exact hm.tr (gB_MText_goes_165 (hmo := hmo) hgo q_p0 hG hm.1)
  · clear hF
    obtain ⟨a286, e287, hF⟩ := rf_s hG; clear hG
    have qa286 : Q a286 := hm.1 _ _ _ q_p0 e287
    obtain ⟨x288, -, hG⟩ := bnd_g hF; clear hF
    obtain ⟨n289, q290, hF⟩ := ar_s hG; clear hG
    rw [(s_62).1] at q290
    obtain ⟨q291, hG⟩ := ck_s hF; clear hF
    obtain ⟨x292, -, hF⟩ := bnd_g hG; clear hG
    obtain ⟨a293, e294, hG⟩ := rf_s hF; clear hF
    have qa293 : Q a293 := hm.1 _ _ _ q_p0 e294
    obtain ⟨x295, -, hF⟩ := bnd_g hG; clear hG
    obtain ⟨n296, q297, hG⟩ := ar_s hF; clear hF
    rw [(s_62).1] at q297
    obtain ⟨q298, hF⟩ := ck_s hG; clear hG
    obtain ⟨x299, -, hG⟩ := bnd_g hF; clear hF
    rcases ite_s hG with ⟨q_64, hF⟩ | ⟨q_64, hF⟩
    · clear hG
      exact hm.tr (gB_MText_goes_67 (hmo := hmo) hgo q_p0 hF hm.1)
    · clear hG
      exact hm.tr (gB_MText_goes_67 (hmo := hmo) hgo q_p0 hF hm.1)
set_option maxRecDepth 20000 in
set_option maxHeartbeats 2000000 in
theorem g_MText_statement {N : Nat} {Q : Nat → Prop} {o : Orc_TextS} {hmo : mo_TextS o} (hgo : rg_TextS Q o) {p0 : Nat} {H : Hp} {r : Unit × Hp} (hF : F_MText_statement N o p0 H = some r) (hc0 : Cl Q H) (q_p0 : Q p0) : Rg Q H r.2 := by
  unfold F_MText_statement at hF
  have hm := Rg.rf hc0
  obtain ⟨q199, hG⟩ := ck_s hF; clear hF
  obtain ⟨a200, e201, hF⟩ := rf_s hG; clear hG
  have qa200 : Q a200 := hm.1 _ _ _ q_p0 e201
  obtain ⟨x202, -, hG⟩ := bnd_g hF; clear hF
  obtain ⟨n203, q204, hF⟩ := ar_s hG; clear hG
  obtain ⟨q205, hG⟩ := ck_s hF; clear hF
  obtain ⟨x206, -, hF⟩ := bnd_g hG; clear hG
  rcases ite_s hF with ⟨q_74, hG⟩ | ⟨q_74, hG⟩
  · clear hF
    obtain ⟨v209, H210, z208, hF⟩ := bC_s hG; clear hG
    have gz_75 := (g_MText_assigns z208 hm.1 q_p0)
    replace hm : Rg Q H H210 := hm.tr gz_75
    have s_76 : Sa H H210 := (m_MText_assigns z208)
    have hr := Option.some.inj hF; subst hr
    exact hm
  · clear hF
    obtain ⟨x211, -, hF⟩ := bnd_g hG; clear hG
    obtain ⟨x212, -, hG⟩ := bnd_g hF; clear hF
    obtain ⟨H213, eH213, hF⟩ := bnd_g hG; clear hG
    replace hm : Rg Q H H213 := hm.tr (by rw [eH213]; exact Rg.sD hm.1 q_p0)
    have s_77 : Sa H H213 := by rw [eH213]; exact Sa.rf _
    rcases ite_s hF with ⟨q_78, hG⟩ | ⟨q_78, hG⟩
    · clear hF
      obtain ⟨v216, H217, z215, hF⟩ := bC_s hG; clear hG
      have gz_79 := (g_MText_localName z215 hm.1 q_p0)
      replace hm : Rg Q H H217 := hm.tr gz_79
      have s_80 : Sa H H217 := (s_77).tr (m_MText_localName z215)
      obtain ⟨v219, H220, z218, hG⟩ := bC_s hF; clear hF
      have gz_81 := (g_MText_takes z218 hm.1 q_p0)
      replace hm : Rg Q H H220 := hm.tr gz_81
      have s_82 : Sa H H220 := (s_80).tr (m_MText_takes z218)
      obtain ⟨v222, H223, z221, hF⟩ := bC_s hG; clear hG
      have gz_83 := ((gX_TextE 50).1 _ _ _ z221 hm.1 q_p0)
      replace hm : Rg Q H H223 := hm.tr gz_83
      have s_84 : Sa H H223 := (s_82).tr ((moX_TextE 50).1 _ _ _ z221)
      obtain ⟨v225, H226, z224, hG⟩ := bC_s hF; clear hF
      have gz_85 := (g_MText_tells z224 hm.1 q_p0)
      replace hm : Rg Q H H226 := hm.tr gz_85
      have s_86 : Sa H H226 := (s_84).tr (m_MText_tells z224)
      obtain ⟨v228, H229, z227, hF⟩ := bC_s hG; clear hG
      have gz_87 := (g_MText_takes z227 hm.1 q_p0)
      replace hm : Rg Q H H229 := hm.tr gz_87
      have s_88 : Sa H H229 := (s_86).tr (m_MText_takes z227)
      have hr := Option.some.inj hF; subst hr
      exact hm
    clear hF
    rcases ite_s hG with ⟨q_89, hF⟩ | ⟨q_89, hF⟩
    · clear hG
      obtain ⟨v232, H233, z231, hG⟩ := bC_s hF; clear hF
      have gz_90 := (g_MText_wants (hmo := moX_TextE 50) (gX_TextE 50) z231 hm.1 q_p0)
      replace hm : Rg Q H H233 := hm.tr gz_90
      have s_91 : Sa H H233 := (s_77).tr (m_MText_wants (moX_TextE 50) z231)
      obtain ⟨v235, H236, z234, hF⟩ := bC_s hG; clear hG
      have gz_92 := (g_MText_block (hmo := hmo) hgo z234 hm.1 q_p0)
      replace hm : Rg Q H H236 := hm.tr gz_92
      have s_93 : Sa H H236 := (s_91).tr (m_MText_block hmo z234)
      obtain ⟨v238, H239, z237, hG⟩ := bC_s hF; clear hF
      have gz_94 := (g_MText_accepts z237 hm.1 q_p0)
      replace hm : Rg Q H H239 := hm.tr gz_94
      have s_95 : Sa H H239 := (s_93).tr (m_MText_accepts z237)
      rcases ite_s hG with ⟨q_96, hF⟩ | ⟨q_96, hF⟩
      · clear hG
        have hr := Option.some.inj hF; subst hr
        exact hm
      · clear hG
        obtain ⟨v242, H243, z241, hG⟩ := bC_s hF; clear hF
        have gz_97 := (g_MText_block (hmo := hmo) hgo z241 hm.1 q_p0)
        replace hm : Rg Q H H243 := hm.tr gz_97
        have s_98 : Sa H H243 := (s_95).tr (m_MText_block hmo z241)
        have hr := Option.some.inj hG; subst hr
        exact hm
    clear hG
    rcases ite_s hF with ⟨q_99, hG⟩ | ⟨q_99, hG⟩
    · clear hF
      obtain ⟨v246, H247, z245, hF⟩ := bC_s hG; clear hG
      have gz_100 := (g_MText_wants (hmo := moX_TextE 50) (gX_TextE 50) z245 hm.1 q_p0)
      replace hm : Rg Q H H247 := hm.tr gz_100
      have s_101 : Sa H H247 := (s_77).tr (m_MText_wants (moX_TextE 50) z245)
      obtain ⟨v249, H250, z248, hG⟩ := bC_s hF; clear hF
      have gz_102 := (g_MText_block (hmo := hmo) hgo z248 hm.1 q_p0)
      replace hm : Rg Q H H250 := hm.tr gz_102
      have s_103 : Sa H H250 := (s_101).tr (m_MText_block hmo z248)
      have hr := Option.some.inj hG; subst hr
      exact hm
    clear hF
    rcases ite_s hG with ⟨q_104, hF⟩ | ⟨q_104, hF⟩
    · clear hG
      obtain ⟨v253, H254, z252, hG⟩ := bC_s hF; clear hF
      have gz_105 := (g_MText_goes (hmo := hmo) hgo z252 hm.1 q_p0)
      replace hm : Rg Q H H254 := hm.tr gz_105
      have s_106 : Sa H H254 := (s_77).tr (m_MText_goes hmo z252)
      have hr := Option.some.inj hG; subst hr
      exact hm
    clear hG
    rcases ite_s hF with ⟨q_107, hG⟩ | ⟨q_107, hG⟩
    · clear hF
      obtain ⟨v257, H258, z256, hF⟩ := bC_s hG; clear hG
      have gz_108 := (g_MText_hears (hmo := hmo) hgo z256 hm.1 q_p0)
      replace hm : Rg Q H H258 := hm.tr gz_108
      have s_109 : Sa H H258 := (s_77).tr (m_MText_hears hmo z256)
      have hr := Option.some.inj hF; subst hr
      exact hm
    clear hF
    rcases ite_s hG with ⟨q_110, hF⟩ | ⟨q_110, hF⟩
    · clear hG
      obtain ⟨v261, H262, z260, hG⟩ := bC_s hF; clear hF
      have gz_111 := (g_MText_spawns z260 hm.1 q_p0)
      replace hm : Rg Q H H262 := hm.tr gz_111
      have s_112 : Sa H H262 := (s_77).tr (m_MText_spawns z260)
      have hr := Option.some.inj hG; subst hr
      exact hm
    clear hG
    rcases ite_s hF with ⟨q_113, hG⟩ | ⟨q_113, hG⟩
    · clear hF
      obtain ⟨v265, H266, z264, hF⟩ := bC_s hG; clear hG
      have gz_114 := (g_MText_commands z264 hm.1 q_p0)
      replace hm : Rg Q H H266 := hm.tr gz_114
      have s_115 : Sa H H266 := (s_77).tr (m_MText_commands z264)
      have hr := Option.some.inj hF; subst hr
      exact hm
    clear hF
    rcases ite_s hG with ⟨q_116, hF⟩ | ⟨q_116, hF⟩
    · clear hG
      obtain ⟨v269, H270, z268, hG⟩ := bC_s hF; clear hF
      have gz_117 := (g_MText_commands z268 hm.1 q_p0)
      replace hm : Rg Q H H270 := hm.tr gz_117
      have s_118 : Sa H H270 := (s_77).tr (m_MText_commands z268)
      have hr := Option.some.inj hG; subst hr
      exact hm
    clear hG
    rcases ite_s hF with ⟨q_119, hG⟩ | ⟨q_119, hG⟩
    · clear hF
      obtain ⟨v273, H274, z272, hF⟩ := bC_s hG; clear hG
      have gz_120 := (g_MText_commands z272 hm.1 q_p0)
      replace hm : Rg Q H H274 := hm.tr gz_120
      have s_121 : Sa H H274 := (s_77).tr (m_MText_commands z272)
      have hr := Option.some.inj hF; subst hr
      exact hm
    clear hF
    rcases ite_s hG with ⟨q_122, hF⟩ | ⟨q_122, hF⟩
    · clear hG
      obtain ⟨v277, H278, z276, hG⟩ := bC_s hF; clear hF
      have gz_123 := (g_MText_commands z276 hm.1 q_p0)
      replace hm : Rg Q H H278 := hm.tr gz_123
      have s_124 : Sa H H278 := (s_77).tr (m_MText_commands z276)
      have hr := Option.some.inj hG; subst hr
      exact hm
    clear hG
    rcases ite_s hF with ⟨q_125, hG⟩ | ⟨q_125, hG⟩
    · clear hF
      obtain ⟨v281, H282, z280, hF⟩ := bC_s hG; clear hG
      have gz_126 := (g_MText_emits z280 hm.1 q_p0)
      replace hm : Rg Q H H282 := hm.tr gz_126
      have s_127 : Sa H H282 := (s_77).tr (m_MText_emits z280)
      have hr := Option.some.inj hF; subst hr
      exact hm
    clear hF
    rcases ite_s hG with ⟨q_128, hF⟩ | ⟨q_128, hF⟩
    · clear hG
      obtain ⟨v285, H286, z284, hG⟩ := bC_s hF; clear hF
      have gz_129 := (g_MText_commands z284 hm.1 q_p0)
      replace hm : Rg Q H H286 := hm.tr gz_129
      have s_130 : Sa H H286 := (s_77).tr (m_MText_commands z284)
      have hr := Option.some.inj hG; subst hr
      exact hm
    clear hG
    rcases ite_s hF with ⟨q_131, hG⟩ | ⟨q_131, hG⟩
    · clear hF
      obtain ⟨v289, H290, z288, hF⟩ := bC_s hG; clear hG
      have gz_132 := (g_MText_takes z288 hm.1 q_p0)
      replace hm : Rg Q H H290 := hm.tr gz_132
      have s_133 : Sa H H290 := (s_77).tr (m_MText_takes z288)
      have hr := Option.some.inj hF; subst hr
      exact hm
    clear hF
    obtain ⟨H291, eH291, hF⟩ := bnd_g hG; clear hG
    replace hm : Rg Q H H291 := hm.tr (by rw [eH291]; exact Rg.sD hm.1 q_p0)
    have s_134 : Sa H H291 := by rw [eH291]; exact s_77
    obtain ⟨x292, -, hG⟩ := bnd_g hF; clear hF
    obtain ⟨v294, H295, z293, hF⟩ := bC_s hG; clear hG
    have gz_135 := (g_MText_fails z293 hm.1 q_p0)
    replace hm : Rg Q H H295 := hm.tr gz_135
    have s_136 : Sa H H295 := (s_134).tr (m_MText_fails z293)
    have hr := Option.some.inj hF; subst hr
    exact hm
set_option maxRecDepth 20000 in
set_option maxHeartbeats 2000000 in
theorem gB_MText_statements_39 {N : Nat} {Q : Nat → Prop} {o : Orc_TextS} {hmo : mo_TextS o} (hgo : rg_TextS Q o) {p0 : Nat} (q_p0 : Q p0) {l1 : Int32} {l2 : Int32} {H : Hp} {r : Unit × Hp} (hF : B_MText_statements_39 N o p0 l1 l2 H = some r) (hc0 : Cl Q H) : Rg Q H r.2 := by
  unfold B_MText_statements_39 at hF
  have hm := Rg.rf hc0
  obtain ⟨q57, hG⟩ := ck_s hF; clear hF
  obtain ⟨a58, e59, hF⟩ := rf_s hG; clear hG
  have qa58 : Q a58 := hm.1 _ _ _ q_p0 e59
  obtain ⟨x60, -, hG⟩ := bnd_g hF; clear hF
  obtain ⟨n61, q62, hF⟩ := ar_s hG; clear hG
  obtain ⟨q63, hG⟩ := ck_s hF; clear hF
  obtain ⟨H64, eH64, hF⟩ := bnd_g hG; clear hG
  replace hm : Rg Q H H64 := hm.tr (by rw [eH64]; exact Rg.sD hm.1 qa58)
  have s_15 : Sa H H64 := by rw [eH64]; exact Sa.rf _
  obtain ⟨v66, H67, z65, hG⟩ := bC_s hF; clear hF
  have gz_16 := (g_MText_takes z65 hm.1 q_p0)
  replace hm : Rg Q H H67 := hm.tr gz_16
  have s_17 : Sa H H67 := (s_15).tr (m_MText_takes z65)
  obtain ⟨H68, eH68, hF⟩ := bnd_g hG; clear hG
  replace hm : Rg Q H H68 := hm.tr (by rw [eH68]; exact Rg.sD hm.1 q_p0)
  have s_18 : Sa H H68 := by rw [eH68]; exact s_17
  have hr := Option.some.inj hF; subst hr
  exact hm
set_option maxRecDepth 20000 in
set_option maxHeartbeats 2000000 in
theorem gB_MText_statements_16 {N : Nat} {Q : Nat → Prop} {o : Orc_TextS} {hmo : mo_TextS o} (hgo : rg_TextS Q o) {p0 : Nat} (q_p0 : Q p0) : ∀ (n : Nat) (l1 : Int32) (l2 : Int32) (H : Hp) (r : Unit × Hp), B_MText_statements_16 N o p0 n l1 l2 H = some r → Cl Q H → Rg Q H r.2 := by
  intro n
  induction n with
  | zero => intro l1 l2 H r hF; rw [B_MText_statements_16] at hF; cases hF
  | succ n ih =>
    intro l1 l2 H r hF hc0
    rw [B_MText_statements_16] at hF
    have hm := Rg.rf hc0
    obtain ⟨q69, hG⟩ := ck_s hF; clear hF
    obtain ⟨x70, -, hF⟩ := bnd_g hG; clear hG
    rcases ite_s hF with ⟨q_19, hG⟩ | ⟨q_19, hG⟩
    · clear hF
      obtain ⟨v73, H74, z72, hF⟩ := bC_s hG; clear hG
      have gz_20 := (g_MText_is z72 hm.1 q_p0)
      replace hm : Rg Q H H74 := hm.tr gz_20
      have s_21 : Sa H H74 := (m_MText_is z72)
      rcases ite_s hF with ⟨q_22, hG⟩ | ⟨q_22, hG⟩
      · clear hF
        obtain ⟨v77, H78, z76, hF⟩ := bC_s hG; clear hG
        have gz_23 := (g_MText_statement (hmo := hmo) hgo z76 hm.1 q_p0)
        replace hm : Rg Q H H78 := hm.tr gz_23
        have s_24 : Sa H H78 := (s_21).tr (m_MText_statement hmo z76)
        exact hm.tr (ih l1 l2 H78 r hF hm.1)
      · clear hF
        exact hm.tr (gB_MText_statements_39 (hmo := hmo) hgo q_p0 hG hm.1)
    · clear hF
      exact hm.tr (gB_MText_statements_39 (hmo := hmo) hgo q_p0 hG hm.1)
set_option maxRecDepth 20000 in
set_option maxHeartbeats 2000000 in
theorem g_MText_statements {N : Nat} {Q : Nat → Prop} {o : Orc_TextS} {hmo : mo_TextS o} (hgo : rg_TextS Q o) {p0 : Nat} {H : Hp} {r : Unit × Hp} (hF : F_MText_statements N o p0 H = some r) (hc0 : Cl Q H) (q_p0 : Q p0) : Rg Q H r.2 := by
  unfold F_MText_statements at hF
  have hm := Rg.rf hc0
  obtain ⟨q79, hG⟩ := ck_s hF; clear hF
  obtain ⟨x80, -, hF⟩ := bnd_g hG; clear hG
  obtain ⟨x81, -, hG⟩ := bnd_g hF; clear hF
  obtain ⟨v83, H84, z82, hF⟩ := bC_s hG; clear hG
  have gz_25 := (g_MText_takes z82 hm.1 q_p0)
  replace hm : Rg Q H H84 := hm.tr gz_25
  have s_26 : Sa H H84 := (m_MText_takes z82)
  exact hm.tr (gB_MText_statements_16 (hmo := hmo) hgo q_p0 N x80 x81 H84 r hF hm.1)
theorem gX_TextS {N : Nat} {Q : Nat → Prop} : ∀ d, rg_TextS Q (X_TextS N d) := by
  intro d
  induction d with
  | zero => exact (fun _ _ _ hz => absurd (show none = some _ from hz) (by simp))
  | succ d ih => exact (fun _ _ _ hz hc qa0 => g_MText_statements (hmo := moX_TextS d) ih hz hc qa0)
set_option maxRecDepth 20000 in
set_option maxHeartbeats 2000000 in
theorem gB_MText_system_198 {N : Nat} {Q : Nat → Prop} {p0 : Nat} (q_p0 : Q p0) {l1 : Int32} {w0 : Nat} {w1 : Int32} {w2 : Int32} {H : Hp} {r : Unit × Hp} (hF : B_MText_system_198 N p0 l1 w0 w1 w2 H = some r) (hc0 : Cl Q H) (q_w0 : Q w0) : Rg Q H r.2 := by
  unfold B_MText_system_198 at hF
  have hm := Rg.rf hc0
  obtain ⟨n225, q226, hG⟩ := ar_s hF; clear hF
  obtain ⟨q227, hF⟩ := ck_s hG; clear hG
  obtain ⟨H228, eH228, hG⟩ := bnd_g hF; clear hF
  replace hm : Rg Q H H228 := hm.tr (by rw [eH228]; exact Rg.sD hm.1 q_w0)
  have s_52 : Sa H H228 := by rw [eH228]; exact Sa.rf _
  obtain ⟨q229, hF⟩ := ck_s hG; clear hG
  rw [(s_52).1] at q229
  obtain ⟨a230, e231, hG⟩ := rf_s hF; clear hF
  have qa230 : Q a230 := hm.1 _ _ _ q_p0 e231
  obtain ⟨x232, -, hF⟩ := bnd_g hG; clear hG
  obtain ⟨n233, q234, hG⟩ := ar_s hF; clear hF
  rw [(s_52).1] at q234
  obtain ⟨q235, hF⟩ := ck_s hG; clear hG
  obtain ⟨H236, eH236, hG⟩ := bnd_g hF; clear hF
  replace hm : Rg Q H H236 := hm.tr (by rw [eH236]; exact Rg.sD hm.1 qa230)
  have s_53 : Sa H H236 := by rw [eH236]; exact s_52
  obtain ⟨v238, H239, z237, hF⟩ := bC_s hG; clear hG
  have gz_54 := ((gX_TextS 24) _ _ _ z237 hm.1 q_p0)
  replace hm : Rg Q H H239 := hm.tr gz_54
  have s_55 : Sa H H239 := (s_53).tr ((moX_TextS 24) _ _ _ z237)
  have hr := Option.some.inj hF; subst hr
  exact hm
set_option maxRecDepth 20000 in
set_option maxHeartbeats 2000000 in
theorem gB_MText_system_163 {N : Nat} {Q : Nat → Prop} {p0 : Nat} (q_p0 : Q p0) {l1 : Int32} {l3 : Int32} {w0 : Nat} {w1 : Int32} {w2 : Int32} {H : Hp} {r : Unit × Hp} (hF : B_MText_system_163 N p0 l1 l3 w0 w1 w2 H = some r) (hc0 : Cl Q H) (q_w0 : Q w0) : Rg Q H r.2 := by
  unfold B_MText_system_163 at hF
  have hm := Rg.rf hc0
  obtain ⟨n240, q241, hG⟩ := ar_s hF; clear hF
  obtain ⟨q242, hF⟩ := ck_s hG; clear hG
  obtain ⟨H243, eH243, hG⟩ := bnd_g hF; clear hF
  replace hm : Rg Q H H243 := hm.tr (by rw [eH243]; exact Rg.sD hm.1 q_w0)
  have s_56 : Sa H H243 := by rw [eH243]; exact Sa.rf _
  obtain ⟨q244, hF⟩ := ck_s hG; clear hG
  rw [(s_56).1] at q244
  obtain ⟨a245, e246, hG⟩ := rf_s hF; clear hF
  have qa245 : Q a245 := hm.1 _ _ _ q_p0 e246
  obtain ⟨v248, H249, z247, hF⟩ := bC_s hG; clear hG
  have gz_57 := (g_MText_accepts z247 hm.1 q_p0)
  replace hm : Rg Q H H249 := hm.tr gz_57
  have s_58 : Sa H H249 := (s_56).tr (m_MText_accepts z247)
  rcases ite_s hF with ⟨q_59, hG⟩ | ⟨q_59, hG⟩
  · clear hF
    exact hm.tr (gB_MText_system_198 q_p0 hG hm.1 qa245)
  · clear hF
    obtain ⟨a251, e252, hF⟩ := rf_s hG; clear hG
    have qa251 : Q a251 := hm.1 _ _ _ q_p0 e252
    obtain ⟨n253, q254, hG⟩ := ar_s hF; clear hF
    rw [(s_58).1] at q254
    obtain ⟨q255, hF⟩ := ck_s hG; clear hG
    obtain ⟨x256, -, hG⟩ := bnd_g hF; clear hF
    obtain ⟨v258, H259, z257, hF⟩ := bC_s hG; clear hG
    have gz_60 := (g_MText_names z257 hm.1 q_p0)
    replace hm : Rg Q H H259 := hm.tr gz_60
    have s_61 : Sa H H259 := (s_58).tr (m_MText_names z257)
    exact hm.tr (gB_MText_system_198 q_p0 hF hm.1 qa245)
set_option maxRecDepth 20000 in
set_option maxHeartbeats 2000000 in
theorem gB_MText_system_132 {N : Nat} {Q : Nat → Prop} {p0 : Nat} (q_p0 : Q p0) {l1 : Int32} {l3 : Int32} {w0 : Nat} {w1 : Int32} {w2 : Int32} {H : Hp} {r : Unit × Hp} (hF : B_MText_system_132 N p0 l1 l3 w0 w1 w2 H = some r) (hc0 : Cl Q H) (q_w0 : Q w0) : Rg Q H r.2 := by
  unfold B_MText_system_132 at hF
  have hm := Rg.rf hc0
  obtain ⟨n260, q261, hG⟩ := ar_s hF; clear hF
  obtain ⟨q262, hF⟩ := ck_s hG; clear hG
  obtain ⟨H263, eH263, hG⟩ := bnd_g hF; clear hF
  replace hm : Rg Q H H263 := hm.tr (by rw [eH263]; exact Rg.sD hm.1 q_w0)
  have s_62 : Sa H H263 := by rw [eH263]; exact Sa.rf _
  obtain ⟨q264, hF⟩ := ck_s hG; clear hG
  rw [(s_62).1] at q264
  obtain ⟨a265, e266, hG⟩ := rf_s hF; clear hF
  have qa265 : Q a265 := hm.1 _ _ _ q_p0 e266
  obtain ⟨v268, H269, z267, hF⟩ := bC_s hG; clear hG
  have gz_63 := (g_MText_accepts z267 hm.1 q_p0)
  replace hm : Rg Q H H269 := hm.tr gz_63
  have s_64 : Sa H H269 := (s_62).tr (m_MText_accepts z267)
  rcases ite_s hF with ⟨q_65, hG⟩ | ⟨q_65, hG⟩
  · clear hF
    exact hm.tr (gB_MText_system_163 q_p0 hG hm.1 qa265)
  · clear hF
    obtain ⟨a271, e272, hF⟩ := rf_s hG; clear hG
    have qa271 : Q a271 := hm.1 _ _ _ q_p0 e272
    obtain ⟨n273, q274, hG⟩ := ar_s hF; clear hF
    rw [(s_64).1] at q274
    obtain ⟨q275, hF⟩ := ck_s hG; clear hG
    obtain ⟨x276, -, hG⟩ := bnd_g hF; clear hF
    obtain ⟨v278, H279, z277, hF⟩ := bC_s hG; clear hG
    have gz_66 := (g_MText_names z277 hm.1 q_p0)
    replace hm : Rg Q H H279 := hm.tr gz_66
    have s_67 : Sa H H279 := (s_64).tr (m_MText_names z277)
    exact hm.tr (gB_MText_system_163 q_p0 hF hm.1 qa265)
set_option maxRecDepth 20000 in
set_option maxHeartbeats 2000000 in
theorem gB_MText_system_82 {N : Nat} {Q : Nat → Prop} {p0 : Nat} (q_p0 : Q p0) {l1 : Int32} {l3 : Int32} {w0 : Nat} {w1 : Int32} {w2 : Int32} {H : Hp} {r : Unit × Hp} (hF : B_MText_system_82 N p0 l1 l3 w0 w1 w2 H = some r) (hc0 : Cl Q H) (q_w0 : Q w0) : Rg Q H r.2 := by
  unfold B_MText_system_82 at hF
  have hm := Rg.rf hc0
  obtain ⟨n280, q281, hG⟩ := ar_s hF; clear hF
  obtain ⟨q282, hF⟩ := ck_s hG; clear hG
  obtain ⟨H283, eH283, hG⟩ := bnd_g hF; clear hF
  replace hm : Rg Q H H283 := hm.tr (by rw [eH283]; exact Rg.sD hm.1 q_w0)
  have s_68 : Sa H H283 := by rw [eH283]; exact Sa.rf _
  obtain ⟨q284, hF⟩ := ck_s hG; clear hG
  rw [(s_68).1] at q284
  obtain ⟨v286, H287, z285, hG⟩ := bC_s hF; clear hF
  have gz_69 := (g_MText_takes z285 hm.1 q_p0)
  replace hm : Rg Q H H287 := hm.tr gz_69
  have s_70 : Sa H H287 := (s_68).tr (m_MText_takes z285)
  obtain ⟨a288, e289, hF⟩ := rf_s hG; clear hG
  have qa288 : Q a288 := hm.1 _ _ _ q_p0 e289
  obtain ⟨v291, H292, z290, hG⟩ := bC_s hF; clear hF
  have gz_71 := (g_MText_names z290 hm.1 q_p0)
  replace hm : Rg Q H H292 := hm.tr gz_71
  have s_72 : Sa H H292 := (s_70).tr (m_MText_names z290)
  obtain ⟨n293, q294, hF⟩ := ar_s hG; clear hG
  rw [(s_72).1] at q294
  obtain ⟨q295, hG⟩ := ck_s hF; clear hF
  obtain ⟨H296, eH296, hF⟩ := bnd_g hG; clear hG
  replace hm : Rg Q H H296 := hm.tr (by rw [eH296]; exact Rg.sD hm.1 qa288)
  have s_73 : Sa H H296 := by rw [eH296]; exact s_72
  obtain ⟨a297, e298, hG⟩ := rf_s hF; clear hF
  have qa297 : Q a297 := hm.1 _ _ _ q_p0 e298
  obtain ⟨v300, H301, z299, hF⟩ := bC_s hG; clear hG
  have gz_74 := (g_MText_accepts z299 hm.1 q_p0)
  replace hm : Rg Q H H301 := hm.tr gz_74
  have s_75 : Sa H H301 := (s_73).tr (m_MText_accepts z299)
  rcases ite_s hF with ⟨q_76, hG⟩ | ⟨q_76, hG⟩
  · clear hF
    exact hm.tr (gB_MText_system_132 q_p0 hG hm.1 qa297)
  · clear hF
    obtain ⟨a303, e304, hF⟩ := rf_s hG; clear hG
    have qa303 : Q a303 := hm.1 _ _ _ q_p0 e304
    obtain ⟨n305, q306, hG⟩ := ar_s hF; clear hF
    rw [(s_75).1] at q306
    obtain ⟨q307, hF⟩ := ck_s hG; clear hG
    obtain ⟨x308, -, hG⟩ := bnd_g hF; clear hF
    obtain ⟨v310, H311, z309, hF⟩ := bC_s hG; clear hG
    have gz_77 := (g_MText_names z309 hm.1 q_p0)
    replace hm : Rg Q H H311 := hm.tr gz_77
    have s_78 : Sa H H311 := (s_75).tr (m_MText_names z309)
    exact hm.tr (gB_MText_system_132 q_p0 hF hm.1 qa297)
set_option maxRecDepth 20000 in
set_option maxHeartbeats 2000000 in
theorem g_MText_system {N : Nat} {Q : Nat → Prop} {p0 : Nat} {H : Hp} {r : Unit × Hp} (hF : F_MText_system N p0 H = some r) (hc0 : Cl Q H) (q_p0 : Q p0) : Rg Q H r.2 := by
  unfold F_MText_system at hF
  have hm := Rg.rf hc0
  obtain ⟨q312, hG⟩ := ck_s hF; clear hF
  obtain ⟨x313, -, hF⟩ := bnd_g hG; clear hG
  obtain ⟨v315, H316, z314, hG⟩ := bC_s hF; clear hF
  have gz_79 := (g_MText_begins z314 hm.1 q_p0)
  replace hm : Rg Q H H316 := hm.tr gz_79
  have s_80 : Sa H H316 := (m_MText_begins z314)
  obtain ⟨x317, -, hF⟩ := bnd_g hG; clear hG
  obtain ⟨v319, H320, z318, hG⟩ := bC_s hF; clear hF
  have gz_81 := (g_MText_told z318 hm.1 q_p0)
  replace hm : Rg Q H H320 := hm.tr gz_81
  have s_82 : Sa H H320 := (s_80).tr (m_MText_told z318)
  obtain ⟨x321, -, hF⟩ := bnd_g hG; clear hG
  rcases ite_s hF with ⟨q_83, hG⟩ | ⟨q_83, hG⟩
  · clear hF
    obtain ⟨x323, -, hF⟩ := bnd_g hG; clear hG
    obtain ⟨H324, eH324, hG⟩ := bnd_g hF; clear hF
    replace hm : Rg Q H H324 := hm.tr (by rw [eH324]; exact Rg.sD hm.1 q_p0)
    have s_84 : Sa H H324 := by rw [eH324]; exact s_82
    obtain ⟨H325, eH325, hF⟩ := bnd_g hG; clear hG
    replace hm : Rg Q H H325 := hm.tr (by rw [eH325]; exact Rg.sD hm.1 q_p0)
    have s_85 : Sa H H325 := by rw [eH325]; exact s_84
    obtain ⟨H326, eH326, hG⟩ := bnd_g hF; clear hF
    replace hm : Rg Q H H326 := hm.tr (by rw [eH326]; exact Rg.sD hm.1 q_p0)
    have s_86 : Sa H H326 := by rw [eH326]; exact s_85
    obtain ⟨H327, eH327, hF⟩ := bnd_g hG; clear hG
    replace hm : Rg Q H H327 := hm.tr (by rw [eH327]; exact Rg.sD hm.1 q_p0)
    have s_87 : Sa H H327 := by rw [eH327]; exact s_86
    obtain ⟨a328, e329, hG⟩ := rf_s hF; clear hF
    have qa328 : Q a328 := hm.1 _ _ _ q_p0 e329
    obtain ⟨v331, H332, z330, hF⟩ := bC_s hG; clear hG
    have gz_88 := (g_MText_accepts z330 hm.1 q_p0)
    replace hm : Rg Q H H332 := hm.tr gz_88
    have s_89 : Sa H H332 := (s_87).tr (m_MText_accepts z330)
    rcases ite_s hF with ⟨q_90, hG⟩ | ⟨q_90, hG⟩
    · clear hF
      exact hm.tr (gB_MText_system_82 q_p0 hG hm.1 qa328)
    · clear hF
      obtain ⟨v335, H336, z334, hF⟩ := bC_s hG; clear hG
      have gz_91 := (g_MText_systemNames z334 hm.1 q_p0)
      replace hm : Rg Q H H336 := hm.tr gz_91
      have s_92 : Sa H H336 := (s_89).tr (m_MText_systemNames z334)
      exact hm.tr (gB_MText_system_82 q_p0 hF hm.1 qa328)
  · clear hF
    have hr := Option.some.inj hG; subst hr
    exact hm
set_option maxRecDepth 20000 in
set_option maxHeartbeats 2000000 in
theorem gB_MText_groupsThem_132 {N : Nat} {Q : Nat → Prop} {p0 : Nat} {kq6 : Int32 → Int32 → Int32 → Hp → Option (Unit × Hp)} (q_p0 : Q p0) (hg6 : ∀ (l1 : Int32) (l2 : Int32) (l3 : Int32) (H : Hp) (r : Unit × Hp), kq6 l1 l2 l3 H = some r → Cl Q H → Rg Q H r.2) {l1 : Int32} {l2 : Int32} {l3 : Int32} {H : Hp} {r : Unit × Hp} (hF : B_MText_groupsThem_132 N p0 kq6 l1 l2 l3 H = some r) (hc0 : Cl Q H) : Rg Q H r.2 := by
  unfold B_MText_groupsThem_132 at hF
  have hm := Rg.rf hc0
  obtain ⟨q143, hG⟩ := ck_s hF; clear hF
  obtain ⟨a144, e145, hF⟩ := rf_s hG; clear hG
  have qa144 : Q a144 := hm.1 _ _ _ q_p0 e145
  obtain ⟨n146, q147, hG⟩ := ar_s hF; clear hF
  obtain ⟨q148, hF⟩ := ck_s hG; clear hG
  obtain ⟨H149, eH149, hG⟩ := bnd_g hF; clear hF
  replace hm : Rg Q H H149 := hm.tr (by rw [eH149]; exact Rg.sD hm.1 qa144)
  have s_10 : Sa H H149 := by rw [eH149]; exact Sa.rf _
  exact hm.tr (hg6 l1 l2 (l3 + 1) H149 r hG hm.1)
set_option maxRecDepth 20000 in
set_option maxHeartbeats 2000000 in
theorem gB_MText_groupsThem_114 {N : Nat} {Q : Nat → Prop} {p0 : Nat} {kq6 : Int32 → Int32 → Int32 → Hp → Option (Unit × Hp)} {kq20 : Int32 → Int32 → Int32 → Int32 → Int32 → Hp → Option (Unit × Hp)} (q_p0 : Q p0) (hg6 : ∀ (l1 : Int32) (l2 : Int32) (l3 : Int32) (H : Hp) (r : Unit × Hp), kq6 l1 l2 l3 H = some r → Cl Q H → Rg Q H r.2) (hg20 : ∀ (l1 : Int32) (l2 : Int32) (l3 : Int32) (l4 : Int32) (l5 : Int32) (H : Hp) (r : Unit × Hp), kq20 l1 l2 l3 l4 l5 H = some r → Cl Q H → Rg Q H r.2) {l1 : Int32} {l2 : Int32} {l3 : Int32} {l5 : Int32} {w0 : Int32} {H : Hp} {r : Unit × Hp} (hF : B_MText_groupsThem_114 N p0 kq6 kq20 l1 l2 l3 l5 w0 H = some r) (hc0 : Cl Q H) : Rg Q H r.2 := by
  unfold B_MText_groupsThem_114 at hF
  have hm := Rg.rf hc0
  exact hm.tr (hg20 l1 l2 l3 w0 (l5 + 1) H r hF hm.1)
set_option maxRecDepth 20000 in
set_option maxHeartbeats 2000000 in
theorem gB_MText_groupsThem_113 {N : Nat} {Q : Nat → Prop} {p0 : Nat} {kq6 : Int32 → Int32 → Int32 → Hp → Option (Unit × Hp)} {kq20 : Int32 → Int32 → Int32 → Int32 → Int32 → Hp → Option (Unit × Hp)} (q_p0 : Q p0) (hg6 : ∀ (l1 : Int32) (l2 : Int32) (l3 : Int32) (H : Hp) (r : Unit × Hp), kq6 l1 l2 l3 H = some r → Cl Q H → Rg Q H r.2) (hg20 : ∀ (l1 : Int32) (l2 : Int32) (l3 : Int32) (l4 : Int32) (l5 : Int32) (H : Hp) (r : Unit × Hp), kq20 l1 l2 l3 l4 l5 H = some r → Cl Q H → Rg Q H r.2) {l1 : Int32} {l2 : Int32} {l3 : Int32} {l5 : Int32} {H : Hp} {r : Unit × Hp} (hF : B_MText_groupsThem_113 N p0 kq6 kq20 l1 l2 l3 l5 H = some r) (hc0 : Cl Q H) : Rg Q H r.2 := by
  unfold B_MText_groupsThem_113 at hF
  have hm := Rg.rf hc0
  exact hm.tr (gB_MText_groupsThem_114 q_p0 hg6 hg20 hF hm.1)
set_option maxRecDepth 20000 in
set_option maxHeartbeats 2000000 in
theorem gB_MText_groupsThem_20 {N : Nat} {Q : Nat → Prop} {p0 : Nat} {kq6 : Int32 → Int32 → Int32 → Hp → Option (Unit × Hp)} (q_p0 : Q p0) (hg6 : ∀ (l1 : Int32) (l2 : Int32) (l3 : Int32) (H : Hp) (r : Unit × Hp), kq6 l1 l2 l3 H = some r → Cl Q H → Rg Q H r.2) : ∀ (n : Nat) (l1 : Int32) (l2 : Int32) (l3 : Int32) (l4 : Int32) (l5 : Int32) (H : Hp) (r : Unit × Hp), B_MText_groupsThem_20 N p0 kq6 n l1 l2 l3 l4 l5 H = some r → Cl Q H → Rg Q H r.2 := by
  intro n
  induction n with
  | zero => intro l1 l2 l3 l4 l5 H r hF; rw [B_MText_groupsThem_20] at hF; cases hF
  | succ n ih =>
    intro l1 l2 l3 l4 l5 H r hF hc0
    rw [B_MText_groupsThem_20] at hF
    have hm := Rg.rf hc0
    rcases ite_s hF with ⟨q_11, hG⟩ | ⟨q_11, hG⟩
    · clear hF
      rcases ite_s hG with ⟨q_12, hF⟩ | ⟨q_12, hF⟩
      · clear hG
        exact hm.tr (gB_MText_groupsThem_132 q_p0 hg6 hF hm.1)
      · clear hG
        exact hm.tr (gB_MText_groupsThem_132 q_p0 hg6 hF hm.1)
    · clear hF
      rcases ite_s hG with ⟨q_13, hF⟩ | ⟨q_13, hF⟩
      · clear hG
        exact hm.tr (gB_MText_groupsThem_113 q_p0 hg6 ih hF hm.1)
      · clear hG
        obtain ⟨q153, hG⟩ := ck_s hF; clear hF
        obtain ⟨a154, e155, hF⟩ := rf_s hG; clear hG
        have qa154 : Q a154 := hm.1 _ _ _ q_p0 e155
        obtain ⟨n156, q157, hG⟩ := ar_s hF; clear hF
        obtain ⟨q158, hF⟩ := ck_s hG; clear hG
        obtain ⟨x159, -, hG⟩ := bnd_g hF; clear hF
        rcases ite_s hG with ⟨q_14, hF⟩ | ⟨q_14, hF⟩
        · clear hG
          obtain ⟨a161, e162, hG⟩ := rf_s hF; clear hF
          have qa161 : Q a161 := hm.1 _ _ _ q_p0 e162
          obtain ⟨n163, q164, hF⟩ := ar_s hG; clear hG
          obtain ⟨q165, hG⟩ := ck_s hF; clear hF
          obtain ⟨x166, -, hF⟩ := bnd_g hG; clear hG
          obtain ⟨a167, e168, hG⟩ := rf_s hF; clear hF
          have qa167 : Q a167 := hm.1 _ _ _ q_p0 e168
          obtain ⟨n169, q170, hF⟩ := ar_s hG; clear hG
          obtain ⟨q171, hG⟩ := ck_s hF; clear hF
          obtain ⟨x172, -, hF⟩ := bnd_g hG; clear hG
          obtain ⟨a173, e174, hG⟩ := rf_s hF; clear hF
          have qa173 : Q a173 := hm.1 _ _ _ q_p0 e174
          obtain ⟨n175, q176, hF⟩ := ar_s hG; clear hG
          obtain ⟨q177, hG⟩ := ck_s hF; clear hF
          obtain ⟨x178, -, hF⟩ := bnd_g hG; clear hG
          obtain ⟨a179, e180, hG⟩ := rf_s hF; clear hF
          have qa179 : Q a179 := hm.1 _ _ _ q_p0 e180
          obtain ⟨n181, q182, hF⟩ := ar_s hG; clear hG
          obtain ⟨q183, hG⟩ := ck_s hF; clear hF
          obtain ⟨x184, -, hF⟩ := bnd_g hG; clear hG
          rcases ite_s hF with ⟨q_15, hG⟩ | ⟨q_15, hG⟩
          · clear hF
            obtain ⟨a186, e187, hF⟩ := rf_s hG; clear hG
            have qa186 : Q a186 := hm.1 _ _ _ q_p0 e187
            obtain ⟨n188, q189, hG⟩ := ar_s hF; clear hF
            obtain ⟨q190, hF⟩ := ck_s hG; clear hG
            obtain ⟨x191, -, hG⟩ := bnd_g hF; clear hF
            obtain ⟨a192, e193, hF⟩ := rf_s hG; clear hG
            have qa192 : Q a192 := hm.1 _ _ _ q_p0 e193
            obtain ⟨n194, q195, hG⟩ := ar_s hF; clear hF
            obtain ⟨q196, hF⟩ := ck_s hG; clear hG
            obtain ⟨x197, -, hG⟩ := bnd_g hF; clear hF
            obtain ⟨a198, e199, hF⟩ := rf_s hG; clear hG
            have qa198 : Q a198 := hm.1 _ _ _ q_p0 e199
            obtain ⟨n200, q201, hG⟩ := ar_s hF; clear hF
            obtain ⟨q202, hF⟩ := ck_s hG; clear hG
            obtain ⟨x203, -, hG⟩ := bnd_g hF; clear hF
            obtain ⟨a204, e205, hF⟩ := rf_s hG; clear hG
            have qa204 : Q a204 := hm.1 _ _ _ q_p0 e205
            obtain ⟨n206, q207, hG⟩ := ar_s hF; clear hF
            obtain ⟨q208, hF⟩ := ck_s hG; clear hG
            obtain ⟨x209, -, hG⟩ := bnd_g hF; clear hF
            rcases ite_s hG with ⟨q_16, hF⟩ | ⟨q_16, hF⟩
            · clear hG
              exact hm.tr (gB_MText_groupsThem_114 q_p0 hg6 ih hF hm.1)
            · clear hG
              exact hm.tr (gB_MText_groupsThem_113 q_p0 hg6 ih hF hm.1)
          · clear hF
            exact hm.tr (gB_MText_groupsThem_113 q_p0 hg6 ih hG hm.1)
        · clear hG
          exact hm.tr (gB_MText_groupsThem_113 q_p0 hg6 ih hF hm.1)
set_option maxRecDepth 20000 in
set_option maxHeartbeats 2000000 in
theorem gB_MText_groupsThem_6 {N : Nat} {Q : Nat → Prop} {p0 : Nat} (q_p0 : Q p0) : ∀ (n : Nat) (l1 : Int32) (l2 : Int32) (l3 : Int32) (H : Hp) (r : Unit × Hp), B_MText_groupsThem_6 N p0 n l1 l2 l3 H = some r → Cl Q H → Rg Q H r.2 := by
  intro n
  induction n with
  | zero => intro l1 l2 l3 H r hF; rw [B_MText_groupsThem_6] at hF; cases hF
  | succ n ih =>
    intro l1 l2 l3 H r hF hc0
    rw [B_MText_groupsThem_6] at hF
    have hm := Rg.rf hc0
    obtain ⟨q211, hG⟩ := ck_s hF; clear hF
    obtain ⟨x212, -, hF⟩ := bnd_g hG; clear hG
    rcases ite_s hF with ⟨q_17, hG⟩ | ⟨q_17, hG⟩
    · clear hF
      have hr := Option.some.inj hG; subst hr
      exact hm
    · clear hF
      exact hm.tr (gB_MText_groupsThem_20 q_p0 ih N l1 l2 l3 1 l2 H r hG hm.1)
set_option maxRecDepth 20000 in
set_option maxHeartbeats 2000000 in
theorem g_MText_groupsThem {N : Nat} {Q : Nat → Prop} {p0 : Nat} {H : Hp} {r : Unit × Hp} (hF : F_MText_groupsThem N p0 H = some r) (hc0 : Cl Q H) (q_p0 : Q p0) : Rg Q H r.2 := by
  unfold F_MText_groupsThem at hF
  have hm := Rg.rf hc0
  exact hm.tr (gB_MText_groupsThem_6 q_p0 N 0 0 0 H r hF hm.1)
set_option maxRecDepth 20000 in
set_option maxHeartbeats 2000000 in
theorem gB_MText_reads_145 {N : Nat} {Q : Nat → Prop} {p0 : Nat} {p1 : Nat} {p2 : Int32} (q_p0 : Q p0) (q_p1 : Q p1)  {H : Hp} {r : Unit × Hp} (hF : B_MText_reads_145 N p0 p1 p2  H = some r) (hc0 : Cl Q H) : Rg Q H r.2 := by
  unfold B_MText_reads_145 at hF
  have hm := Rg.rf hc0
  obtain ⟨q127, hG⟩ := ck_s hF; clear hF
  obtain ⟨x128, -, hF⟩ := bnd_g hG; clear hG
  rcases ite_s hF with ⟨q_40, hG⟩ | ⟨q_40, hG⟩
  · clear hF
    obtain ⟨v131, H132, z130, hF⟩ := bC_s hG; clear hG
    have gz_41 := (g_MText_groupsThem z130 hm.1 q_p0)
    replace hm : Rg Q H H132 := hm.tr gz_41
    have s_42 : Sa H H132 := (m_MText_groupsThem z130)
    have hr := Option.some.inj hF; subst hr
    exact hm
  · clear hF
    have hr := Option.some.inj hG; subst hr
    exact hm
set_option maxRecDepth 20000 in
set_option maxHeartbeats 2000000 in
theorem gB_MText_reads_142 {N : Nat} {Q : Nat → Prop} {p0 : Nat} {p1 : Nat} {p2 : Int32} {kq53 : Hp → Option (Unit × Hp)} (q_p0 : Q p0) (q_p1 : Q p1) (hg53 : ∀  (H : Hp) (r : Unit × Hp), kq53  H = some r → Cl Q H → Rg Q H r.2)  {H : Hp} {r : Unit × Hp} (hF : B_MText_reads_142 N p0 p1 p2 kq53  H = some r) (hc0 : Cl Q H) : Rg Q H r.2 := by
  unfold B_MText_reads_142 at hF
  have hm := Rg.rf hc0
  exact hm.tr (hg53  H r hF hm.1)
set_option maxRecDepth 20000 in
set_option maxHeartbeats 2000000 in
theorem gB_MText_reads_53 {N : Nat} {Q : Nat → Prop} {p0 : Nat} {p1 : Nat} {p2 : Int32} (q_p0 : Q p0) (q_p1 : Q p1) : ∀ (n : Nat)  (H : Hp) (r : Unit × Hp), B_MText_reads_53 N p0 p1 p2 n  H = some r → Cl Q H → Rg Q H r.2 := by
  intro n
  induction n with
  | zero => intro  H r hF; rw [B_MText_reads_53] at hF; cases hF
  | succ n ih =>
    intro  H r hF hc0
    rw [B_MText_reads_53] at hF
    have hm := Rg.rf hc0
    obtain ⟨q133, hG⟩ := ck_s hF; clear hF
    obtain ⟨x134, -, hF⟩ := bnd_g hG; clear hG
    rcases ite_s hF with ⟨q_43, hG⟩ | ⟨q_43, hG⟩
    · clear hF
      obtain ⟨a136, e137, hF⟩ := rf_s hG; clear hG
      have qa136 : Q a136 := hm.1 _ _ _ q_p0 e137
      obtain ⟨x138, -, hG⟩ := bnd_g hF; clear hF
      obtain ⟨n139, q140, hF⟩ := ar_s hG; clear hG
      obtain ⟨q141, hG⟩ := ck_s hF; clear hF
      obtain ⟨x142, -, hF⟩ := bnd_g hG; clear hG
      rcases ite_s hF with ⟨q_44, hG⟩ | ⟨q_44, hG⟩
      · clear hF
        exact hm.tr (gB_MText_reads_145 q_p0 q_p1 hG hm.1)
      · clear hF
        obtain ⟨a144, e145, hF⟩ := rf_s hG; clear hG
        have qa144 : Q a144 := hm.1 _ _ _ q_p0 e145
        obtain ⟨x146, -, hG⟩ := bnd_g hF; clear hF
        obtain ⟨n147, q148, hF⟩ := ar_s hG; clear hG
        obtain ⟨q149, hG⟩ := ck_s hF; clear hF
        obtain ⟨x150, -, hF⟩ := bnd_g hG; clear hG
        obtain ⟨x151, -, hG⟩ := bnd_g hF; clear hF
        rcases ite_s hG with ⟨q_45, hF⟩ | ⟨q_45, hF⟩
        · clear hG
          obtain ⟨v154, H155, z153, hG⟩ := bC_s hF; clear hF
          have gz_46 := (g_MText_component z153 hm.1 q_p0)
          replace hm : Rg Q H H155 := hm.tr gz_46
          have s_47 : Sa H H155 := (m_MText_component z153)
          exact hm.tr (gB_MText_reads_142 q_p0 q_p1 ih hG hm.1)
        · clear hG
          rcases ite_s hF with ⟨q_48, hG⟩ | ⟨q_48, hG⟩
          · clear hF
            obtain ⟨v158, H159, z157, hF⟩ := bC_s hG; clear hG
            have gz_49 := (g_MText_event z157 hm.1 q_p0)
            replace hm : Rg Q H H159 := hm.tr gz_49
            have s_50 : Sa H H159 := (m_MText_event z157)
            exact hm.tr (gB_MText_reads_142 q_p0 q_p1 ih hF hm.1)
          · clear hF
            rcases ite_s hG with ⟨q_51, hF⟩ | ⟨q_51, hF⟩
            · clear hG
              obtain ⟨v162, H163, z161, hG⟩ := bC_s hF; clear hF
              have gz_52 := (g_MText_prefab z161 hm.1 q_p0)
              replace hm : Rg Q H H163 := hm.tr gz_52
              have s_53 : Sa H H163 := (m_MText_prefab z161)
              exact hm.tr (gB_MText_reads_142 q_p0 q_p1 ih hG hm.1)
            · clear hG
              rcases ite_s hF with ⟨q_54, hG⟩ | ⟨q_54, hG⟩
              · clear hF
                obtain ⟨v166, H167, z165, hF⟩ := bC_s hG; clear hG
                have gz_55 := (g_MText_system z165 hm.1 q_p0)
                replace hm : Rg Q H H167 := hm.tr gz_55
                have s_56 : Sa H H167 := (m_MText_system z165)
                exact hm.tr (gB_MText_reads_142 q_p0 q_p1 ih hF hm.1)
              · clear hF
                obtain ⟨x168, -, hF⟩ := bnd_g hG; clear hG
                obtain ⟨v170, H171, z169, hG⟩ := bC_s hF; clear hF
                have gz_57 := (g_MText_fails z169 hm.1 q_p0)
                replace hm : Rg Q H H171 := hm.tr gz_57
                have s_58 : Sa H H171 := (m_MText_fails z169)
                exact hm.tr (gB_MText_reads_142 q_p0 q_p1 ih hG hm.1)
    · clear hF
      exact hm.tr (gB_MText_reads_145 q_p0 q_p1 hG hm.1)
set_option maxRecDepth 20000 in
set_option maxHeartbeats 2000000 in
theorem g_MText_reads {N : Nat} {Q : Nat → Prop} {p0 : Nat} {p1 : Nat} {p2 : Int32} {H : Hp} {r : Unit × Hp} (hF : F_MText_reads N p0 p1 p2 H = some r) (hc0 : Cl Q H) (q_p0 : Q p0) (q_p1 : Q p1) : Rg Q H r.2 := by
  unfold F_MText_reads at hF
  have hm := Rg.rf hc0
  obtain ⟨q172, hG⟩ := ck_s hF; clear hF
  obtain ⟨v174, H175, z173, hF⟩ := bC_s hG; clear hG
  have gz_59 := (g_MText_scans z173 hm.1 q_p0 q_p1)
  replace hm : Rg Q H H175 := hm.tr gz_59
  have s_60 : Sa H H175 := (m_MText_scans z173)
  obtain ⟨H176, eH176, hG⟩ := bnd_g hF; clear hF
  replace hm : Rg Q H H176 := hm.tr (by rw [eH176]; exact Rg.sD hm.1 q_p0)
  have s_61 : Sa H H176 := by rw [eH176]; exact s_60
  obtain ⟨H177, eH177, hF⟩ := bnd_g hG; clear hG
  replace hm : Rg Q H H177 := hm.tr (by rw [eH177]; exact Rg.sD hm.1 q_p0)
  have s_62 : Sa H H177 := by rw [eH177]; exact s_61
  obtain ⟨H178, eH178, hG⟩ := bnd_g hF; clear hF
  replace hm : Rg Q H H178 := hm.tr (by rw [eH178]; exact Rg.sD hm.1 q_p0)
  have s_63 : Sa H H178 := by rw [eH178]; exact s_62
  obtain ⟨H179, eH179, hF⟩ := bnd_g hG; clear hG
  replace hm : Rg Q H H179 := hm.tr (by rw [eH179]; exact Rg.sD hm.1 q_p0)
  have s_64 : Sa H H179 := by rw [eH179]; exact s_63
  obtain ⟨H180, eH180, hG⟩ := bnd_g hF; clear hF
  replace hm : Rg Q H H180 := hm.tr (by rw [eH180]; exact Rg.sD hm.1 q_p0)
  have s_65 : Sa H H180 := by rw [eH180]; exact s_64
  obtain ⟨a181, e182, hF⟩ := rf_s hG; clear hG
  have qa181 : Q a181 := hm.1 _ _ _ q_p0 e182
  obtain ⟨n183, q184, hG⟩ := ar_s hF; clear hF
  rw [(s_65).1] at q184
  obtain ⟨q185, hF⟩ := ck_s hG; clear hG
  obtain ⟨H186, eH186, hG⟩ := bnd_g hF; clear hF
  replace hm : Rg Q H H186 := hm.tr (by rw [eH186]; exact Rg.sD hm.1 qa181)
  have s_66 : Sa H H186 := by rw [eH186]; exact s_65
  obtain ⟨H187, eH187, hF⟩ := bnd_g hG; clear hG
  replace hm : Rg Q H H187 := hm.tr (by rw [eH187]; exact Rg.sD hm.1 q_p0)
  have s_67 : Sa H H187 := by rw [eH187]; exact s_66
  obtain ⟨H188, eH188, hG⟩ := bnd_g hF; clear hF
  replace hm : Rg Q H H188 := hm.tr (by rw [eH188]; exact Rg.sD hm.1 q_p0)
  have s_68 : Sa H H188 := by rw [eH188]; exact s_67
  obtain ⟨H189, eH189, hF⟩ := bnd_g hG; clear hG
  replace hm : Rg Q H H189 := hm.tr (by rw [eH189]; exact Rg.sD hm.1 q_p0)
  have s_69 : Sa H H189 := by rw [eH189]; exact s_68
  exact hm.tr (gB_MText_reads_53 q_p0 q_p1 N  H189 r hF hm.1)
set_option maxRecDepth 20000 in
set_option maxHeartbeats 2000000 in
theorem gB_M_reads_67 {N : Nat} {Q : Nat → Prop} {p0 : Nat} (q_p0 : Q p0) {w0 : Nat} {w1 : Int32} {H : Hp} {r : Int32 × Hp} (hF : B_M_reads_67 N p0 w0 w1 H = some r) (hc0 : Cl Q H) (q_w0 : Q w0) : Rg Q H r.2 := by
  unfold B_M_reads_67 at hF
  have hm := Rg.rf hc0
  obtain ⟨q81, hG⟩ := ck_s hF; clear hF
  obtain ⟨H82, eH82, hF⟩ := bnd_g hG; clear hG
  replace hm : Rg Q H H82 := hm.tr (by rw [eH82]; exact Rg.sD hm.1 q_w0)
  have s_12 : Sa H H82 := by rw [eH82]; exact Sa.rf _
  obtain ⟨q83, hG⟩ := ck_s hF; clear hF
  rw [(s_12).1] at q83
  obtain ⟨a84, e85, hF⟩ := rf_s hG; clear hG
  have qa84 : Q a84 := hm.1 _ _ _ q_p0 e85
  obtain ⟨q86, hG⟩ := ck_s hF; clear hF
  rw [(s_12).1] at q86
  obtain ⟨x87, -, hF⟩ := bnd_g hG; clear hG
  rcases ite_s hF with ⟨q_13, hG⟩ | ⟨q_13, hG⟩
  · clear hF
    have hr := Option.some.inj hG; subst hr
    exact hm
  · clear hF
    have hr := Option.some.inj hG; subst hr
    exact hm
set_option maxRecDepth 20000 in
set_option maxHeartbeats 2000000 in
theorem gB_M_reads_42 {N : Nat} {Q : Nat → Prop} {p0 : Nat} (q_p0 : Q p0) {w0 : Nat} {w1 : Int32} {H : Hp} {r : Int32 × Hp} (hF : B_M_reads_42 N p0 w0 w1 H = some r) (hc0 : Cl Q H) (q_w0 : Q w0) : Rg Q H r.2 := by
  unfold B_M_reads_42 at hF
  have hm := Rg.rf hc0
  obtain ⟨q89, hG⟩ := ck_s hF; clear hF
  obtain ⟨H90, eH90, hF⟩ := bnd_g hG; clear hG
  replace hm : Rg Q H H90 := hm.tr (by rw [eH90]; exact Rg.sD hm.1 q_w0)
  have s_14 : Sa H H90 := by rw [eH90]; exact Sa.rf _
  obtain ⟨q91, hG⟩ := ck_s hF; clear hF
  rw [(s_14).1] at q91
  obtain ⟨a92, e93, hF⟩ := rf_s hG; clear hG
  have qa92 : Q a92 := hm.1 _ _ _ q_p0 e93
  obtain ⟨q94, hG⟩ := ck_s hF; clear hF
  rw [(s_14).1] at q94
  obtain ⟨x95, -, hF⟩ := bnd_g hG; clear hG
  rcases ite_s hF with ⟨q_15, hG⟩ | ⟨q_15, hG⟩
  · clear hF
    exact hm.tr (gB_M_reads_67 q_p0 hG hm.1 q_p0)
  · clear hF
    obtain ⟨a97, e98, hF⟩ := rf_s hG; clear hG
    have qa97 : Q a97 := hm.1 _ _ _ q_p0 e98
    obtain ⟨q99, hG⟩ := ck_s hF; clear hF
    rw [(s_14).1] at q99
    obtain ⟨x100, -, hF⟩ := bnd_g hG; clear hG
    exact hm.tr (gB_M_reads_67 q_p0 hF hm.1 q_p0)
set_option maxRecDepth 20000 in
set_option maxHeartbeats 2000000 in
theorem g_M_reads {N : Nat} {Q : Nat → Prop} {p0 : Nat} {H : Hp} {r : Int32 × Hp} (hF : F_M_reads N p0 H = some r) (hc0 : Cl Q H) (q_p0 : Q p0) : Rg Q H r.2 := by
  unfold F_M_reads at hF
  have hm := Rg.rf hc0
  obtain ⟨q101, hG⟩ := ck_s hF; clear hF
  obtain ⟨a102, e103, hF⟩ := rf_s hG; clear hG
  have qa102 : Q a102 := hm.1 _ _ _ q_p0 e103
  obtain ⟨a104, e105, hG⟩ := rf_s hF; clear hF
  have qa104 : Q a104 := hm.1 _ _ _ q_p0 e105
  obtain ⟨x106, -, hF⟩ := bnd_g hG; clear hG
  obtain ⟨q107, hG⟩ := ck_s hF; clear hF
  obtain ⟨v109, H110, z108, hF⟩ := bC_s hG; clear hG
  have gz_16 := (g_MText_reads z108 hm.1 qa102 qa104)
  replace hm : Rg Q H H110 := hm.tr gz_16
  have s_17 : Sa H H110 := (m_MText_reads z108)
  obtain ⟨H111, eH111, hG⟩ := bnd_g hF; clear hF
  replace hm : Rg Q H H111 := hm.tr (by rw [eH111]; exact Rg.sD hm.1 q_p0)
  have s_18 : Sa H H111 := by rw [eH111]; exact s_17
  obtain ⟨a112, e113, hF⟩ := rf_s hG; clear hG
  have qa112 : Q a112 := hm.1 _ _ _ q_p0 e113
  obtain ⟨q114, hG⟩ := ck_s hF; clear hF
  rw [(s_18).1] at q114
  obtain ⟨x115, -, hF⟩ := bnd_g hG; clear hG
  rcases ite_s hF with ⟨q_19, hG⟩ | ⟨q_19, hG⟩
  · clear hF
    exact hm.tr (gB_M_reads_42 q_p0 hG hm.1 q_p0)
  · clear hF
    obtain ⟨a117, e118, hF⟩ := rf_s hG; clear hG
    have qa117 : Q a117 := hm.1 _ _ _ q_p0 e118
    obtain ⟨q119, hG⟩ := ck_s hF; clear hF
    rw [(s_18).1] at q119
    obtain ⟨x120, -, hF⟩ := bnd_g hG; clear hG
    exact hm.tr (gB_M_reads_42 q_p0 hF hm.1 q_p0)
set_option maxRecDepth 20000 in
set_option maxHeartbeats 2000000 in
theorem g_M_takes {N : Nat} {Q : Nat → Prop} {p0 : Nat} {H : Hp} {r : Unit × Hp} (hF : F_M_takes N p0 H = some r) (hc0 : Cl Q H) (q_p0 : Q p0) : Rg Q H r.2 := by
  unfold F_M_takes at hF
  have hm := Rg.rf hc0
  obtain ⟨q17, hG⟩ := ck_s hF; clear hF
  obtain ⟨a18, e19, hF⟩ := rf_s hG; clear hG
  have qa18 : Q a18 := hm.1 _ _ _ q_p0 e19
  obtain ⟨a20, e21, hG⟩ := rf_s hF; clear hF
  have qa20 : Q a20 := hm.1 _ _ _ q_p0 e21
  obtain ⟨H22, eH22, hF⟩ := bnd_g hG; clear hG
  replace hm : Rg Q H H22 := hm.tr (by rw [eH22]; exact Rg.sP hm.1 q_p0 (is_rf qa20) q17 rfl)
  have s_7 : Sa H H22 := by rw [eH22]; exact Sa.rf _
  obtain ⟨H23, eH23, hG⟩ := bnd_g hF; clear hF
  replace hm : Rg Q H H23 := hm.tr (by rw [eH23]; exact Rg.sP hm.1 q_p0 (is_rf qa18) (by rw [(s_7).1]; exact q17) rfl)
  have s_8 : Sa H H23 := by rw [eH23]; exact s_7
  obtain ⟨H24, eH24, hF⟩ := bnd_g hG; clear hG
  replace hm : Rg Q H H24 := hm.tr (by rw [eH24]; exact Rg.sD hm.1 q_p0)
  have s_9 : Sa H H24 := by rw [eH24]; exact s_8
  have hr := Option.some.inj hF; subst hr
  exact hm
set_option maxRecDepth 20000 in
set_option maxHeartbeats 2000000 in
theorem gB_MWorld_moves_39 {N : Nat} {Q : Nat → Prop} {p0 : Nat} {p1 : Nat} {p2 : Int32} {p3 : Int32} (q_p0 : Q p0) (q_p1 : Q p1) : ∀ (n : Nat) (l4 : Int32) (H : Hp) (r : Unit × Hp), B_MWorld_moves_39 N p0 p1 p2 p3 n l4 H = some r → Cl Q H → Rg Q H r.2 := by
  intro n
  induction n with
  | zero => intro l4 H r hF; rw [B_MWorld_moves_39] at hF; cases hF
  | succ n ih =>
    intro l4 H r hF hc0
    rw [B_MWorld_moves_39] at hF
    have hm := Rg.rf hc0
    rcases ite_s hF with ⟨q_10, hG⟩ | ⟨q_10, hG⟩
    · clear hF
      have hr := Option.some.inj hG; subst hr
      exact hm
    · clear hF
      obtain ⟨q108, hF⟩ := ck_s hG; clear hG
      obtain ⟨a109, e110, hG⟩ := rf_s hF; clear hF
      have qa109 : Q a109 := hm.1 _ _ _ q_p0 e110
      obtain ⟨q111, hF⟩ := ck_s hG; clear hG
      obtain ⟨a112, e113, hG⟩ := rf_s hF; clear hF
      have qa112 : Q a112 := hm.1 _ _ _ q_p1 e113
      obtain ⟨n114, q115, hF⟩ := ar_s hG; clear hG
      obtain ⟨q116, hG⟩ := ck_s hF; clear hF
      obtain ⟨x117, -, hF⟩ := bnd_g hG; clear hG
      obtain ⟨n118, q119, hG⟩ := ar_s hF; clear hF
      obtain ⟨q120, hF⟩ := ck_s hG; clear hG
      obtain ⟨H121, eH121, hG⟩ := bnd_g hF; clear hF
      replace hm : Rg Q H H121 := hm.tr (by rw [eH121]; exact Rg.sD hm.1 qa109)
      have s_11 : Sa H H121 := by rw [eH121]; exact Sa.rf _
      exact hm.tr (ih (l4 + 1) H121 r hG hm.1)
set_option maxRecDepth 20000 in
set_option maxHeartbeats 2000000 in
theorem g_MWorld_moves {N : Nat} {Q : Nat → Prop} {p0 : Nat} {p1 : Nat} {p2 : Int32} {p3 : Int32} {H : Hp} {r : Unit × Hp} (hF : F_MWorld_moves N p0 p1 p2 p3 H = some r) (hc0 : Cl Q H) (q_p0 : Q p0) (q_p1 : Q p1) : Rg Q H r.2 := by
  unfold F_MWorld_moves at hF
  have hm := Rg.rf hc0
  obtain ⟨q122, hG⟩ := ck_s hF; clear hF
  obtain ⟨a123, e124, hF⟩ := rf_s hG; clear hG
  have qa123 : Q a123 := hm.1 _ _ _ q_p0 e124
  obtain ⟨q125, hG⟩ := ck_s hF; clear hF
  obtain ⟨a126, e127, hF⟩ := rf_s hG; clear hG
  have qa126 : Q a126 := hm.1 _ _ _ q_p1 e127
  obtain ⟨n128, q129, hG⟩ := ar_s hF; clear hF
  obtain ⟨q130, hF⟩ := ck_s hG; clear hG
  obtain ⟨x131, -, hG⟩ := bnd_g hF; clear hF
  obtain ⟨n132, q133, hF⟩ := ar_s hG; clear hG
  obtain ⟨q134, hG⟩ := ck_s hF; clear hF
  obtain ⟨H135, eH135, hF⟩ := bnd_g hG; clear hG
  replace hm : Rg Q H H135 := hm.tr (by rw [eH135]; exact Rg.sD hm.1 qa123)
  have s_12 : Sa H H135 := by rw [eH135]; exact Sa.rf _
  obtain ⟨a136, e137, hG⟩ := rf_s hF; clear hF
  have qa136 : Q a136 := hm.1 _ _ _ q_p0 e137
  obtain ⟨a138, e139, hF⟩ := rf_s hG; clear hG
  have qa138 : Q a138 := hm.1 _ _ _ q_p1 e139
  obtain ⟨n140, q141, hG⟩ := ar_s hF; clear hF
  rw [(s_12).1] at q141
  obtain ⟨q142, hF⟩ := ck_s hG; clear hG
  obtain ⟨x143, -, hG⟩ := bnd_g hF; clear hF
  obtain ⟨n144, q145, hF⟩ := ar_s hG; clear hG
  rw [(s_12).1] at q145
  obtain ⟨q146, hG⟩ := ck_s hF; clear hF
  obtain ⟨H147, eH147, hF⟩ := bnd_g hG; clear hG
  replace hm : Rg Q H H147 := hm.tr (by rw [eH147]; exact Rg.sD hm.1 qa136)
  have s_13 : Sa H H147 := by rw [eH147]; exact s_12
  obtain ⟨a148, e149, hG⟩ := rf_s hF; clear hF
  have qa148 : Q a148 := hm.1 _ _ _ q_p0 e149
  obtain ⟨a150, e151, hF⟩ := rf_s hG; clear hG
  have qa150 : Q a150 := hm.1 _ _ _ q_p1 e151
  obtain ⟨n152, q153, hG⟩ := ar_s hF; clear hF
  rw [(s_13).1] at q153
  obtain ⟨q154, hF⟩ := ck_s hG; clear hG
  obtain ⟨x155, -, hG⟩ := bnd_g hF; clear hF
  obtain ⟨n156, q157, hF⟩ := ar_s hG; clear hG
  rw [(s_13).1] at q157
  obtain ⟨q158, hG⟩ := ck_s hF; clear hF
  obtain ⟨H159, eH159, hF⟩ := bnd_g hG; clear hG
  replace hm : Rg Q H H159 := hm.tr (by rw [eH159]; exact Rg.sD hm.1 qa148)
  have s_14 : Sa H H159 := by rw [eH159]; exact s_13
  exact hm.tr (gB_MWorld_moves_39 q_p0 q_p1 N 0 H159 r hF hm.1)
set_option maxRecDepth 20000 in
set_option maxHeartbeats 2000000 in
theorem gB_MWorld_copies_178 {N : Nat} {Q : Nat → Prop} {p0 : Nat} {p1 : Nat} (q_p0 : Q p0) (q_p1 : Q p1) : ∀ (n : Nat) (l2 : Int32) (H : Hp) (r : Unit × Hp), B_MWorld_copies_178 N p0 p1 n l2 H = some r → Cl Q H → Rg Q H r.2 := by
  intro n
  induction n with
  | zero => intro l2 H r hF; rw [B_MWorld_copies_178] at hF; cases hF
  | succ n ih =>
    intro l2 H r hF hc0
    rw [B_MWorld_copies_178] at hF
    have hm := Rg.rf hc0
    obtain ⟨q191, hG⟩ := ck_s hF; clear hF
    obtain ⟨x192, -, hF⟩ := bnd_g hG; clear hG
    rcases ite_s hF with ⟨q_35, hG⟩ | ⟨q_35, hG⟩
    · clear hF
      have hr := Option.some.inj hG; subst hr
      exact hm
    · clear hF
      obtain ⟨v195, H196, z194, hF⟩ := bC_s hG; clear hG
      have gz_36 := (g_MWorld_moves z194 hm.1 q_p0 q_p1)
      replace hm : Rg Q H H196 := hm.tr gz_36
      have s_37 : Sa H H196 := (m_MWorld_moves z194)
      exact hm.tr (ih (l2 + 1) H196 r hF hm.1)
set_option maxRecDepth 20000 in
set_option maxHeartbeats 2000000 in
theorem gB_MWorld_copies_151 {N : Nat} {Q : Nat → Prop} {p0 : Nat} {p1 : Nat} (q_p0 : Q p0) (q_p1 : Q p1) : ∀ (n : Nat) (l2 : Int32) (H : Hp) (r : Unit × Hp), B_MWorld_copies_151 N p0 p1 n l2 H = some r → Cl Q H → Rg Q H r.2 := by
  intro n
  induction n with
  | zero => intro l2 H r hF; rw [B_MWorld_copies_151] at hF; cases hF
  | succ n ih =>
    intro l2 H r hF hc0
    rw [B_MWorld_copies_151] at hF
    have hm := Rg.rf hc0
    rcases ite_s hF with ⟨q_38, hG⟩ | ⟨q_38, hG⟩
    · clear hF
      exact hm.tr (gB_MWorld_copies_178 q_p0 q_p1 N 0 H r hG hm.1)
    · clear hF
      obtain ⟨q198, hF⟩ := ck_s hG; clear hG
      obtain ⟨a199, e200, hG⟩ := rf_s hF; clear hF
      have qa199 : Q a199 := hm.1 _ _ _ q_p0 e200
      obtain ⟨q201, hF⟩ := ck_s hG; clear hG
      obtain ⟨a202, e203, hG⟩ := rf_s hF; clear hF
      have qa202 : Q a202 := hm.1 _ _ _ q_p1 e203
      obtain ⟨n204, q205, hF⟩ := ar_s hG; clear hG
      obtain ⟨q206, hG⟩ := ck_s hF; clear hF
      obtain ⟨x207, -, hF⟩ := bnd_g hG; clear hG
      obtain ⟨n208, q209, hG⟩ := ar_s hF; clear hF
      obtain ⟨q210, hF⟩ := ck_s hG; clear hG
      obtain ⟨H211, eH211, hG⟩ := bnd_g hF; clear hF
      replace hm : Rg Q H H211 := hm.tr (by rw [eH211]; exact Rg.sD hm.1 qa199)
      have s_39 : Sa H H211 := by rw [eH211]; exact Sa.rf _
      exact hm.tr (ih (l2 + 1) H211 r hG hm.1)
set_option maxRecDepth 20000 in
set_option maxHeartbeats 2000000 in
theorem gB_MWorld_copies_100 {N : Nat} {Q : Nat → Prop} {p0 : Nat} {p1 : Nat} (q_p0 : Q p0) (q_p1 : Q p1) : ∀ (n : Nat) (l2 : Int32) (H : Hp) (r : Unit × Hp), B_MWorld_copies_100 N p0 p1 n l2 H = some r → Cl Q H → Rg Q H r.2 := by
  intro n
  induction n with
  | zero => intro l2 H r hF; rw [B_MWorld_copies_100] at hF; cases hF
  | succ n ih =>
    intro l2 H r hF hc0
    rw [B_MWorld_copies_100] at hF
    have hm := Rg.rf hc0
    rcases ite_s hF with ⟨q_40, hG⟩ | ⟨q_40, hG⟩
    · clear hF
      exact hm.tr (gB_MWorld_copies_151 q_p0 q_p1 N 0 H r hG hm.1)
    · clear hF
      obtain ⟨q213, hF⟩ := ck_s hG; clear hG
      obtain ⟨a214, e215, hG⟩ := rf_s hF; clear hF
      have qa214 : Q a214 := hm.1 _ _ _ q_p0 e215
      obtain ⟨q216, hF⟩ := ck_s hG; clear hG
      obtain ⟨a217, e218, hG⟩ := rf_s hF; clear hF
      have qa217 : Q a217 := hm.1 _ _ _ q_p1 e218
      obtain ⟨n219, q220, hF⟩ := ar_s hG; clear hG
      obtain ⟨q221, hG⟩ := ck_s hF; clear hF
      obtain ⟨x222, -, hF⟩ := bnd_g hG; clear hG
      obtain ⟨n223, q224, hG⟩ := ar_s hF; clear hF
      obtain ⟨q225, hF⟩ := ck_s hG; clear hG
      obtain ⟨H226, eH226, hG⟩ := bnd_g hF; clear hF
      replace hm : Rg Q H H226 := hm.tr (by rw [eH226]; exact Rg.sD hm.1 qa214)
      have s_41 : Sa H H226 := by rw [eH226]; exact Sa.rf _
      obtain ⟨a227, e228, hF⟩ := rf_s hG; clear hG
      have qa227 : Q a227 := hm.1 _ _ _ q_p0 e228
      obtain ⟨a229, e230, hG⟩ := rf_s hF; clear hF
      have qa229 : Q a229 := hm.1 _ _ _ q_p1 e230
      obtain ⟨n231, q232, hF⟩ := ar_s hG; clear hG
      rw [(s_41).1] at q232
      obtain ⟨q233, hG⟩ := ck_s hF; clear hF
      obtain ⟨x234, -, hF⟩ := bnd_g hG; clear hG
      obtain ⟨n235, q236, hG⟩ := ar_s hF; clear hF
      rw [(s_41).1] at q236
      obtain ⟨q237, hF⟩ := ck_s hG; clear hG
      obtain ⟨H238, eH238, hG⟩ := bnd_g hF; clear hF
      replace hm : Rg Q H H238 := hm.tr (by rw [eH238]; exact Rg.sD hm.1 qa227)
      have s_42 : Sa H H238 := by rw [eH238]; exact s_41
      obtain ⟨a239, e240, hF⟩ := rf_s hG; clear hG
      have qa239 : Q a239 := hm.1 _ _ _ q_p0 e240
      obtain ⟨a241, e242, hG⟩ := rf_s hF; clear hF
      have qa241 : Q a241 := hm.1 _ _ _ q_p1 e242
      obtain ⟨n243, q244, hF⟩ := ar_s hG; clear hG
      rw [(s_42).1] at q244
      obtain ⟨q245, hG⟩ := ck_s hF; clear hF
      obtain ⟨x246, -, hF⟩ := bnd_g hG; clear hG
      obtain ⟨n247, q248, hG⟩ := ar_s hF; clear hF
      rw [(s_42).1] at q248
      obtain ⟨q249, hF⟩ := ck_s hG; clear hG
      obtain ⟨H250, eH250, hG⟩ := bnd_g hF; clear hF
      replace hm : Rg Q H H250 := hm.tr (by rw [eH250]; exact Rg.sD hm.1 qa239)
      have s_43 : Sa H H250 := by rw [eH250]; exact s_42
      exact hm.tr (ih (l2 + 1) H250 r hG hm.1)
set_option maxRecDepth 20000 in
set_option maxHeartbeats 2000000 in
theorem gB_MWorld_copies_74 {N : Nat} {Q : Nat → Prop} {p0 : Nat} {p1 : Nat} (q_p0 : Q p0) (q_p1 : Q p1) : ∀ (n : Nat) (l2 : Int32) (H : Hp) (r : Unit × Hp), B_MWorld_copies_74 N p0 p1 n l2 H = some r → Cl Q H → Rg Q H r.2 := by
  intro n
  induction n with
  | zero => intro l2 H r hF; rw [B_MWorld_copies_74] at hF; cases hF
  | succ n ih =>
    intro l2 H r hF hc0
    rw [B_MWorld_copies_74] at hF
    have hm := Rg.rf hc0
    rcases ite_s hF with ⟨q_44, hG⟩ | ⟨q_44, hG⟩
    · clear hF
      exact hm.tr (gB_MWorld_copies_100 q_p0 q_p1 N 0 H r hG hm.1)
    · clear hF
      obtain ⟨q252, hF⟩ := ck_s hG; clear hG
      obtain ⟨a253, e254, hG⟩ := rf_s hF; clear hF
      have qa253 : Q a253 := hm.1 _ _ _ q_p0 e254
      obtain ⟨q255, hF⟩ := ck_s hG; clear hG
      obtain ⟨a256, e257, hG⟩ := rf_s hF; clear hF
      have qa256 : Q a256 := hm.1 _ _ _ q_p1 e257
      obtain ⟨n258, q259, hF⟩ := ar_s hG; clear hG
      obtain ⟨q260, hG⟩ := ck_s hF; clear hF
      obtain ⟨x261, -, hF⟩ := bnd_g hG; clear hG
      obtain ⟨n262, q263, hG⟩ := ar_s hF; clear hF
      obtain ⟨q264, hF⟩ := ck_s hG; clear hG
      obtain ⟨H265, eH265, hG⟩ := bnd_g hF; clear hF
      replace hm : Rg Q H H265 := hm.tr (by rw [eH265]; exact Rg.sD hm.1 qa253)
      have s_45 : Sa H H265 := by rw [eH265]; exact Sa.rf _
      exact hm.tr (ih (l2 + 1) H265 r hG hm.1)
set_option maxRecDepth 20000 in
set_option maxHeartbeats 2000000 in
theorem g_MWorld_copies {N : Nat} {Q : Nat → Prop} {p0 : Nat} {p1 : Nat} {H : Hp} {r : Unit × Hp} (hF : F_MWorld_copies N p0 p1 H = some r) (hc0 : Cl Q H) (q_p0 : Q p0) (q_p1 : Q p1) : Rg Q H r.2 := by
  unfold F_MWorld_copies at hF
  have hm := Rg.rf hc0
  obtain ⟨q266, hG⟩ := ck_s hF; clear hF
  obtain ⟨x267, -, hF⟩ := bnd_g hG; clear hG
  obtain ⟨q268, hG⟩ := ck_s hF; clear hF
  obtain ⟨H269, eH269, hF⟩ := bnd_g hG; clear hG
  replace hm : Rg Q H H269 := hm.tr (by rw [eH269]; exact Rg.sD hm.1 q_p0)
  have s_46 : Sa H H269 := by rw [eH269]; exact Sa.rf _
  obtain ⟨x270, -, hG⟩ := bnd_g hF; clear hF
  obtain ⟨H271, eH271, hF⟩ := bnd_g hG; clear hG
  replace hm : Rg Q H H271 := hm.tr (by rw [eH271]; exact Rg.sD hm.1 q_p0)
  have s_47 : Sa H H271 := by rw [eH271]; exact s_46
  obtain ⟨x272, -, hG⟩ := bnd_g hF; clear hF
  obtain ⟨H273, eH273, hF⟩ := bnd_g hG; clear hG
  replace hm : Rg Q H H273 := hm.tr (by rw [eH273]; exact Rg.sD hm.1 q_p0)
  have s_48 : Sa H H273 := by rw [eH273]; exact s_47
  obtain ⟨x274, -, hG⟩ := bnd_g hF; clear hF
  obtain ⟨H275, eH275, hF⟩ := bnd_g hG; clear hG
  replace hm : Rg Q H H275 := hm.tr (by rw [eH275]; exact Rg.sD hm.1 q_p0)
  have s_49 : Sa H H275 := by rw [eH275]; exact s_48
  obtain ⟨x276, -, hG⟩ := bnd_g hF; clear hF
  obtain ⟨H277, eH277, hF⟩ := bnd_g hG; clear hG
  replace hm : Rg Q H H277 := hm.tr (by rw [eH277]; exact Rg.sD hm.1 q_p0)
  have s_50 : Sa H H277 := by rw [eH277]; exact s_49
  obtain ⟨x278, -, hG⟩ := bnd_g hF; clear hF
  obtain ⟨H279, eH279, hF⟩ := bnd_g hG; clear hG
  replace hm : Rg Q H H279 := hm.tr (by rw [eH279]; exact Rg.sD hm.1 q_p0)
  have s_51 : Sa H H279 := by rw [eH279]; exact s_50
  obtain ⟨x280, -, hG⟩ := bnd_g hF; clear hF
  obtain ⟨H281, eH281, hF⟩ := bnd_g hG; clear hG
  replace hm : Rg Q H H281 := hm.tr (by rw [eH281]; exact Rg.sD hm.1 q_p0)
  have s_52 : Sa H H281 := by rw [eH281]; exact s_51
  obtain ⟨x282, -, hG⟩ := bnd_g hF; clear hF
  obtain ⟨H283, eH283, hF⟩ := bnd_g hG; clear hG
  replace hm : Rg Q H H283 := hm.tr (by rw [eH283]; exact Rg.sD hm.1 q_p0)
  have s_53 : Sa H H283 := by rw [eH283]; exact s_52
  obtain ⟨x284, -, hG⟩ := bnd_g hF; clear hF
  obtain ⟨H285, eH285, hF⟩ := bnd_g hG; clear hG
  replace hm : Rg Q H H285 := hm.tr (by rw [eH285]; exact Rg.sD hm.1 q_p0)
  have s_54 : Sa H H285 := by rw [eH285]; exact s_53
  exact hm.tr (gB_MWorld_copies_74 q_p0 q_p1 N 0 H285 r hF hm.1)
set_option maxRecDepth 20000 in
set_option maxHeartbeats 2000000 in
theorem gB_M_forgets_24 {N : Nat} {Q : Nat → Prop} {p0 : Nat} (q_p0 : Q p0) : ∀ (n : Nat) (l1 : Int32) (H : Hp) (r : Unit × Hp), B_M_forgets_24 N p0 n l1 H = some r → Cl Q H → Rg Q H r.2 := by
  intro n
  induction n with
  | zero => intro l1 H r hF; rw [B_M_forgets_24] at hF; cases hF
  | succ n ih =>
    intro l1 H r hF hc0
    rw [B_M_forgets_24] at hF
    have hm := Rg.rf hc0
    rcases ite_s hF with ⟨q_7, hG⟩ | ⟨q_7, hG⟩
    · clear hF
      have hr := Option.some.inj hG; subst hr
      exact hm
    · clear hF
      obtain ⟨q34, hF⟩ := ck_s hG; clear hG
      obtain ⟨a35, e36, hG⟩ := rf_s hF; clear hF
      have qa35 : Q a35 := hm.1 _ _ _ q_p0 e36
      obtain ⟨n37, q38, hF⟩ := ar_s hG; clear hG
      obtain ⟨q39, hG⟩ := ck_s hF; clear hF
      obtain ⟨H40, eH40, hF⟩ := bnd_g hG; clear hG
      replace hm : Rg Q H H40 := hm.tr (by rw [eH40]; exact Rg.sD hm.1 qa35)
      have s_8 : Sa H H40 := by rw [eH40]; exact Sa.rf _
      exact hm.tr (ih (l1 + 1) H40 r hF hm.1)
set_option maxRecDepth 20000 in
set_option maxHeartbeats 2000000 in
theorem gB_M_forgets_2 {N : Nat} {Q : Nat → Prop} {p0 : Nat} (q_p0 : Q p0) : ∀ (n : Nat) (l1 : Int32) (H : Hp) (r : Unit × Hp), B_M_forgets_2 N p0 n l1 H = some r → Cl Q H → Rg Q H r.2 := by
  intro n
  induction n with
  | zero => intro l1 H r hF; rw [B_M_forgets_2] at hF; cases hF
  | succ n ih =>
    intro l1 H r hF hc0
    rw [B_M_forgets_2] at hF
    have hm := Rg.rf hc0
    rcases ite_s hF with ⟨q_9, hG⟩ | ⟨q_9, hG⟩
    · clear hF
      exact hm.tr (gB_M_forgets_24 q_p0 N 0 H r hG hm.1)
    · clear hF
      obtain ⟨q42, hF⟩ := ck_s hG; clear hG
      obtain ⟨a43, e44, hG⟩ := rf_s hF; clear hF
      have qa43 : Q a43 := hm.1 _ _ _ q_p0 e44
      obtain ⟨n45, q46, hF⟩ := ar_s hG; clear hG
      obtain ⟨q47, hG⟩ := ck_s hF; clear hF
      obtain ⟨H48, eH48, hF⟩ := bnd_g hG; clear hG
      replace hm : Rg Q H H48 := hm.tr (by rw [eH48]; exact Rg.sD hm.1 qa43)
      have s_10 : Sa H H48 := by rw [eH48]; exact Sa.rf _
      exact hm.tr (ih (l1 + 1) H48 r hF hm.1)
set_option maxRecDepth 20000 in
set_option maxHeartbeats 2000000 in
theorem g_M_forgets {N : Nat} {Q : Nat → Prop} {p0 : Nat} {H : Hp} {r : Unit × Hp} (hF : F_M_forgets N p0 H = some r) (hc0 : Cl Q H) (q_p0 : Q p0) : Rg Q H r.2 := by
  unfold F_M_forgets at hF
  have hm := Rg.rf hc0
  exact hm.tr (gB_M_forgets_2 q_p0 N 0 H r hF hm.1)
set_option maxRecDepth 20000 in
set_option maxHeartbeats 2000000 in
theorem g_M_text {N : Nat} {Q : Nat → Prop} {p0 : Nat} {p1 : Int32} {H : Hp} {r : Int32 × Hp} (hF : F_M_text N p0 p1 H = some r) (hc0 : Cl Q H) (q_p0 : Q p0) : Rg Q H r.2 := by
  unfold F_M_text at hF
  have hm := Rg.rf hc0
  obtain ⟨q75, hG⟩ := ck_s hF; clear hF
  obtain ⟨H76, eH76, hF⟩ := bnd_g hG; clear hG
  replace hm : Rg Q H H76 := hm.tr (by rw [eH76]; exact Rg.sD hm.1 q_p0)
  have s_20 : Sa H H76 := by rw [eH76]; exact Sa.rf _
  obtain ⟨v78, H79, z77, hG⟩ := bC_s hF; clear hF
  have gz_21 := (g_M_reads z77 hm.1 q_p0)
  replace hm : Rg Q H H79 := hm.tr gz_21
  have s_22 : Sa H H79 := (s_20).tr (m_M_reads z77)
  rcases ite_s hG with ⟨q_23, hF⟩ | ⟨q_23, hF⟩
  · clear hG
    obtain ⟨x81, -, hG⟩ := bnd_g hF; clear hF
    have hr := Option.some.inj hG; subst hr
    exact hm
  · clear hG
    obtain ⟨v83, H84, z82, hG⟩ := bC_s hF; clear hF
    have gz_24 := (g_M_takes z82 hm.1 q_p0)
    replace hm : Rg Q H H84 := hm.tr gz_24
    have s_25 : Sa H H84 := (s_22).tr (m_M_takes z82)
    obtain ⟨a85, e86, hF⟩ := rf_s hG; clear hG
    have qa85 : Q a85 := hm.1 _ _ _ q_p0 e86
    obtain ⟨q87, hG⟩ := ck_s hF; clear hF
    rw [(s_25).1] at q87
    obtain ⟨v89, H90, z88, hF⟩ := bC_s hG; clear hG
    have gz_26 := (g_MWorld_begin z88 hm.1 qa85)
    replace hm : Rg Q H H90 := hm.tr gz_26
    have s_27 : Sa H H90 := (s_25).tr (m_MWorld_begin z88)
    obtain ⟨a91, e92, hG⟩ := rf_s hF; clear hF
    have qa91 : Q a91 := hm.1 _ _ _ q_p0 e92
    obtain ⟨q93, hF⟩ := ck_s hG; clear hG
    rw [(s_27).1] at q93
    obtain ⟨H94, eH94, hG⟩ := bnd_g hF; clear hF
    replace hm : Rg Q H H94 := hm.tr (by rw [eH94]; exact Rg.sD hm.1 qa91)
    have s_28 : Sa H H94 := by rw [eH94]; exact s_27
    obtain ⟨a95, e96, hF⟩ := rf_s hG; clear hG
    have qa95 : Q a95 := hm.1 _ _ _ q_p0 e96
    obtain ⟨a97, e98, hG⟩ := rf_s hF; clear hF
    have qa97 : Q a97 := hm.1 _ _ _ q_p0 e98
    obtain ⟨q99, hF⟩ := ck_s hG; clear hG
    rw [(s_28).1] at q99
    obtain ⟨v101, H102, z100, hG⟩ := bC_s hF; clear hF
    have gz_29 := (g_MWorld_copies z100 hm.1 qa95 qa97)
    replace hm : Rg Q H H102 := hm.tr gz_29
    have s_30 : Sa H H102 := (s_28).tr (m_MWorld_copies z100)
    obtain ⟨v104, H105, z103, hF⟩ := bC_s hG; clear hG
    have gz_31 := (g_M_forgets z103 hm.1 q_p0)
    replace hm : Rg Q H H105 := hm.tr gz_31
    have s_32 : Sa H H105 := (s_30).tr (m_M_forgets z103)
    obtain ⟨H106, eH106, hG⟩ := bnd_g hF; clear hF
    replace hm : Rg Q H H106 := hm.tr (by rw [eH106]; exact Rg.sD hm.1 q_p0)
    have s_33 : Sa H H106 := by rw [eH106]; exact s_32
    obtain ⟨H107, eH107, hF⟩ := bnd_g hG; clear hG
    replace hm : Rg Q H H107 := hm.tr (by rw [eH107]; exact Rg.sD hm.1 q_p0)
    have s_34 : Sa H H107 := by rw [eH107]; exact s_33
    obtain ⟨a108, e109, hG⟩ := rf_s hF; clear hF
    have qa108 : Q a108 := hm.1 _ _ _ q_p0 e109
    obtain ⟨q110, hF⟩ := ck_s hG; clear hG
    rw [(s_34).1] at q110
    obtain ⟨x111, -, hG⟩ := bnd_g hF; clear hF
    have hr := Option.some.inj hG; subst hr
    exact hm
set_option maxRecDepth 20000 in
set_option maxHeartbeats 2000000 in
theorem g_M_fault {N : Nat} {Q : Nat → Prop} {p0 : Nat} {p1 : Int32} {H : Hp} {r : Int32 × Hp} (hF : F_M_fault N p0 p1 H = some r) (hc0 : Cl Q H) (q_p0 : Q p0) : Rg Q H r.2 := by
  unfold F_M_fault at hF
  have hm := Rg.rf hc0
  obtain ⟨q13, hG⟩ := ck_s hF; clear hF
  obtain ⟨H14, eH14, hF⟩ := bnd_g hG; clear hG
  replace hm : Rg Q H H14 := hm.tr (by rw [eH14]; exact Rg.sD hm.1 q_p0)
  have s_5 : Sa H H14 := by rw [eH14]; exact Sa.rf _
  rcases ite_s hF with ⟨q_6, hG⟩ | ⟨q_6, hG⟩
  · clear hF
    obtain ⟨x16, -, hF⟩ := bnd_g hG; clear hG
    have hr := Option.some.inj hF; subst hr
    exact hm
  · clear hF
    rcases ite_s hG with ⟨q_7, hF⟩ | ⟨q_7, hF⟩
    · clear hG
      obtain ⟨x18, -, hG⟩ := bnd_g hF; clear hF
      have hr := Option.some.inj hG; subst hr
      exact hm
    · clear hG
      have hr := Option.some.inj hF; subst hr
      exact hm
set_option maxRecDepth 20000 in
set_option maxHeartbeats 2000000 in
theorem g_M_isQuiet {N : Nat} {Q : Nat → Prop} {p0 : Nat} {H : Hp} {r : Int32 × Hp} (hF : F_M_isQuiet N p0 H = some r) (hc0 : Cl Q H) (q_p0 : Q p0) : Rg Q H r.2 := by
  unfold F_M_isQuiet at hF
  have hm := Rg.rf hc0
  obtain ⟨q21, hG⟩ := ck_s hF; clear hF
  obtain ⟨a22, e23, hF⟩ := rf_s hG; clear hG
  have qa22 : Q a22 := hm.1 _ _ _ q_p0 e23
  obtain ⟨q24, hG⟩ := ck_s hF; clear hF
  obtain ⟨x25, -, hF⟩ := bnd_g hG; clear hG
  obtain ⟨a26, e27, hG⟩ := rf_s hF; clear hF
  have qa26 : Q a26 := hm.1 _ _ _ q_p0 e27
  obtain ⟨q28, hF⟩ := ck_s hG; clear hG
  obtain ⟨x29, -, hG⟩ := bnd_g hF; clear hF
  rcases ite_s hG with ⟨q_2, hF⟩ | ⟨q_2, hF⟩
  · clear hG
    have hr := Option.some.inj hF; subst hr
    exact hm
  · clear hG
    have hr := Option.some.inj hF; subst hr
    exact hm
set_option maxRecDepth 20000 in
set_option maxHeartbeats 2000000 in
theorem gB_MText_thing_47 {N : Nat} {Q : Nat → Prop} {p0 : Nat} {p1 : Nat} {p2 : Int32} {p3 : Int32} {kq3 : Int32 → Hp → Option (Int32 × Hp)} (q_p0 : Q p0) (q_p1 : Q p1) (hg3 : ∀ (l4 : Int32) (H : Hp) (r : Int32 × Hp), kq3 l4 H = some r → Cl Q H → Rg Q H r.2) {l4 : Int32} {H : Hp} {r : Int32 × Hp} (hF : B_MText_thing_47 N p0 p1 p2 p3 kq3 l4 H = some r) (hc0 : Cl Q H) : Rg Q H r.2 := by
  unfold B_MText_thing_47 at hF
  have hm := Rg.rf hc0
  exact hm.tr (hg3 (l4 + 1) H r hF hm.1)
set_option maxRecDepth 20000 in
set_option maxHeartbeats 2000000 in
theorem gB_MText_thing_3 {N : Nat} {Q : Nat → Prop} {p0 : Nat} {p1 : Nat} {p2 : Int32} {p3 : Int32} (q_p0 : Q p0) (q_p1 : Q p1) : ∀ (n : Nat) (l4 : Int32) (H : Hp) (r : Int32 × Hp), B_MText_thing_3 N p0 p1 p2 p3 n l4 H = some r → Cl Q H → Rg Q H r.2 := by
  intro n
  induction n with
  | zero => intro l4 H r hF; rw [B_MText_thing_3] at hF; cases hF
  | succ n ih =>
    intro l4 H r hF hc0
    rw [B_MText_thing_3] at hF
    have hm := Rg.rf hc0
    obtain ⟨q53, hG⟩ := ck_s hF; clear hF
    obtain ⟨x54, -, hF⟩ := bnd_g hG; clear hG
    rcases ite_s hF with ⟨q_6, hG⟩ | ⟨q_6, hG⟩
    · clear hF
      have hr := Option.some.inj hG; subst hr
      exact hm
    · clear hF
      obtain ⟨a56, e57, hF⟩ := rf_s hG; clear hG
      have qa56 : Q a56 := hm.1 _ _ _ q_p0 e57
      obtain ⟨n58, q59, hG⟩ := ar_s hF; clear hF
      obtain ⟨q60, hF⟩ := ck_s hG; clear hG
      obtain ⟨x61, -, hG⟩ := bnd_g hF; clear hF
      rcases ite_s hG with ⟨q_7, hF⟩ | ⟨q_7, hF⟩
      · clear hG
        obtain ⟨a63, e64, hG⟩ := rf_s hF; clear hF
        have qa63 : Q a63 := hm.1 _ _ _ q_p0 e64
        obtain ⟨n65, q66, hF⟩ := ar_s hG; clear hG
        obtain ⟨q67, hG⟩ := ck_s hF; clear hF
        obtain ⟨x68, -, hF⟩ := bnd_g hG; clear hG
        obtain ⟨v70, H71, z69, hG⟩ := bC_s hF; clear hF
        have gz_8 := (g_MText_isSame z69 hm.1 q_p0 q_p1)
        replace hm : Rg Q H H71 := hm.tr gz_8
        have s_9 : Sa H H71 := (m_MText_isSame z69)
        rcases ite_s hG with ⟨q_10, hF⟩ | ⟨q_10, hF⟩
        · clear hG
          exact hm.tr (gB_MText_thing_47 q_p0 q_p1 ih hF hm.1)
        · clear hG
          obtain ⟨a73, e74, hG⟩ := rf_s hF; clear hF
          have qa73 : Q a73 := hm.1 _ _ _ q_p0 e74
          obtain ⟨n75, q76, hF⟩ := ar_s hG; clear hG
          rw [(s_9).1] at q76
          obtain ⟨q77, hG⟩ := ck_s hF; clear hF
          obtain ⟨x78, -, hF⟩ := bnd_g hG; clear hG
          have hr := Option.some.inj hF; subst hr
          exact hm
      · clear hG
        exact hm.tr (gB_MText_thing_47 q_p0 q_p1 ih hF hm.1)
set_option maxRecDepth 20000 in
set_option maxHeartbeats 2000000 in
theorem g_MText_thing {N : Nat} {Q : Nat → Prop} {p0 : Nat} {p1 : Nat} {p2 : Int32} {p3 : Int32} {H : Hp} {r : Int32 × Hp} (hF : F_MText_thing N p0 p1 p2 p3 H = some r) (hc0 : Cl Q H) (q_p0 : Q p0) (q_p1 : Q p1) : Rg Q H r.2 := by
  unfold F_MText_thing at hF
  have hm := Rg.rf hc0
  exact hm.tr (gB_MText_thing_3 q_p0 q_p1 N 0 H r hF hm.1)
set_option maxRecDepth 20000 in
set_option maxHeartbeats 2000000 in
theorem gB_M_changed_17 {N : Nat} {Q : Nat → Prop} {p0 : Int32} {p1 : Int32} {p2 : Int32}  {H : Hp} {r : Int32 × Hp} (hF : B_M_changed_17 N p0 p1 p2  H = some r) (hc0 : Cl Q H) : Rg Q H r.2 := by
  unfold B_M_changed_17 at hF
  have hm := Rg.rf hc0
  obtain ⟨v34, H35, z33, hG⟩ := bC_s hF; clear hF
  have gz_14 := (g_M_first z33 hm.1)
  replace hm : Rg Q H H35 := hm.tr gz_14
  have s_15 : Sa H H35 := (m_M_first z33)
  have hr := Option.some.inj hG; subst hr
  exact hm
set_option maxRecDepth 20000 in
set_option maxHeartbeats 2000000 in
theorem gB_M_changed_69 {N : Nat} {Q : Nat → Prop} {p0 : Int32} {p1 : Int32} {p2 : Int32} {w0 : Int32} {w1 : Int64} {H : Hp} {r : Int32 × Hp} (hF : B_M_changed_69 N p0 p1 p2 w0 w1 H = some r) (hc0 : Cl Q H) : Rg Q H r.2 := by
  unfold B_M_changed_69 at hF
  have hm := Rg.rf hc0
  obtain ⟨v37, H38, z36, hG⟩ := bC_s hF; clear hF
  have gz_16 := (g_M_held z36 hm.1)
  replace hm : Rg Q H H38 := hm.tr gz_16
  have s_17 : Sa H H38 := (m_M_held z36)
  have hr := Option.some.inj hG; subst hr
  exact hm
set_option maxRecDepth 20000 in
set_option maxHeartbeats 2000000 in
theorem g_M_changed {N : Nat} {Q : Nat → Prop} {p0 : Int32} {p1 : Int32} {p2 : Int32} {H : Hp} {r : Int32 × Hp} (hF : F_M_changed N p0 p1 p2 H = some r) (hc0 : Cl Q H) : Rg Q H r.2 := by
  unfold F_M_changed at hF
  have hm := Rg.rf hc0
  rcases ite_s hF with ⟨q_18, hG⟩ | ⟨q_18, hG⟩
  · clear hF
    have hr := Option.some.inj hG; subst hr
    exact hm
  · clear hF
    rcases ite_s hG with ⟨q_19, hF⟩ | ⟨q_19, hF⟩
    · clear hG
      exact hm.tr (gB_M_changed_17 hF hm.1)
    · clear hG
      rcases ite_s hF with ⟨q_20, hG⟩ | ⟨q_20, hG⟩
      · clear hF
        exact hm.tr (gB_M_changed_17 hG hm.1)
      · clear hF
        rcases ite_s hG with ⟨q_21, hF⟩ | ⟨q_21, hF⟩
        · clear hG
          obtain ⟨v44, H45, z43, hG⟩ := bC_s hF; clear hF
          have gz_22 := (g_M_held z43 hm.1)
          replace hm : Rg Q H H45 := hm.tr gz_22
          have s_23 : Sa H H45 := (m_M_held z43)
          have hr := Option.some.inj hG; subst hr
          exact hm
        · clear hG
          rcases ite_s hF with ⟨q_24, hG⟩ | ⟨q_24, hG⟩
          · clear hF
            rcases ite_s hG with ⟨q_25, hF⟩ | ⟨q_25, hF⟩
            · clear hG
              have hr := Option.some.inj hF; subst hr
              exact hm
            · clear hG
              have hr := Option.some.inj hF; subst hr
              exact hm
          · clear hF
            rcases ite_s hG with ⟨q_26, hF⟩ | ⟨q_26, hF⟩
            · clear hG
              exact hm.tr (gB_M_changed_69 hF hm.1)
            · clear hG
              exact hm.tr (gB_M_changed_69 hF hm.1)
set_option maxRecDepth 20000 in
set_option maxHeartbeats 2000000 in
theorem gB_MText_isLike_71 {N : Nat} {Q : Nat → Prop} {p0 : Nat} {p1 : Int32} {p2 : Nat} {p3 : Int32} {kq25 : Int32 → Int32 → Hp → Option (Int32 × Hp)} (q_p0 : Q p0) (q_p2 : Q p2) (hg25 : ∀ (l4 : Int32) (l5 : Int32) (H : Hp) (r : Int32 × Hp), kq25 l4 l5 H = some r → Cl Q H → Rg Q H r.2) {l5 : Int32} {w0 : Int32} {H : Hp} {r : Int32 × Hp} (hF : B_MText_isLike_71 N p0 p1 p2 p3 kq25 l5 w0 H = some r) (hc0 : Cl Q H) : Rg Q H r.2 := by
  unfold B_MText_isLike_71 at hF
  have hm := Rg.rf hc0
  exact hm.tr (hg25 w0 (l5 + 1) H r hF hm.1)
set_option maxRecDepth 20000 in
set_option maxHeartbeats 2000000 in
theorem gB_MText_isLike_25 {N : Nat} {Q : Nat → Prop} {p0 : Nat} {p1 : Int32} {p2 : Nat} {p3 : Int32} (q_p0 : Q p0) (q_p2 : Q p2) : ∀ (n : Nat) (l4 : Int32) (l5 : Int32) (H : Hp) (r : Int32 × Hp), B_MText_isLike_25 N p0 p1 p2 p3 n l4 l5 H = some r → Cl Q H → Rg Q H r.2 := by
  intro n
  induction n with
  | zero => intro l4 l5 H r hF; rw [B_MText_isLike_25] at hF; cases hF
  | succ n ih =>
    intro l4 l5 H r hF hc0
    rw [B_MText_isLike_25] at hF
    have hm := Rg.rf hc0
    obtain ⟨q81, hG⟩ := ck_s hF; clear hF
    obtain ⟨a82, e83, hF⟩ := rf_s hG; clear hG
    have qa82 : Q a82 := hm.1 _ _ _ q_p0 e83
    obtain ⟨n84, q85, hG⟩ := ar_s hF; clear hF
    obtain ⟨q86, hF⟩ := ck_s hG; clear hG
    obtain ⟨x87, -, hG⟩ := bnd_g hF; clear hF
    rcases ite_s hG with ⟨q_5, hF⟩ | ⟨q_5, hF⟩
    · clear hG
      obtain ⟨q89, hG⟩ := ck_s hF; clear hF
      have hr := Option.some.inj hG; subst hr
      exact hm
    · clear hG
      rcases ite_s hF with ⟨q_6, hG⟩ | ⟨q_6, hG⟩
      · clear hF
        obtain ⟨q91, hF⟩ := ck_s hG; clear hG
        have hr := Option.some.inj hF; subst hr
        exact hm
      · clear hF
        obtain ⟨a92, e93, hF⟩ := rf_s hG; clear hG
        have qa92 : Q a92 := hm.1 _ _ _ q_p0 e93
        obtain ⟨n94, q95, hG⟩ := ar_s hF; clear hF
        obtain ⟨q96, hF⟩ := ck_s hG; clear hG
        obtain ⟨x97, -, hG⟩ := bnd_g hF; clear hF
        obtain ⟨q98, hF⟩ := ck_s hG; clear hG
        obtain ⟨a99, e100, hG⟩ := rf_s hF; clear hF
        have qa99 : Q a99 := hm.1 _ _ _ q_p2 e100
        obtain ⟨n101, q102, hF⟩ := ar_s hG; clear hG
        obtain ⟨q103, hG⟩ := ck_s hF; clear hF
        obtain ⟨x104, -, hF⟩ := bnd_g hG; clear hG
        rcases ite_s hF with ⟨q_7, hG⟩ | ⟨q_7, hG⟩
        · clear hF
          exact hm.tr (gB_MText_isLike_71 q_p0 q_p2 ih hG hm.1)
        · clear hF
          exact hm.tr (gB_MText_isLike_71 q_p0 q_p2 ih hG hm.1)
set_option maxRecDepth 20000 in
set_option maxHeartbeats 2000000 in
theorem gB_MText_isLike_20 {N : Nat} {Q : Nat → Prop} {p0 : Nat} {p1 : Int32} {p2 : Nat} {p3 : Int32} (q_p0 : Q p0) (q_p2 : Q p2) {w0 : Int32} {H : Hp} {r : Int32 × Hp} (hF : B_MText_isLike_20 N p0 p1 p2 p3 w0 H = some r) (hc0 : Cl Q H) : Rg Q H r.2 := by
  unfold B_MText_isLike_20 at hF
  have hm := Rg.rf hc0
  exact hm.tr (gB_MText_isLike_25 q_p0 q_p2 N w0 0 H r hF hm.1)
set_option maxRecDepth 20000 in
set_option maxHeartbeats 2000000 in
theorem g_MText_isLike {N : Nat} {Q : Nat → Prop} {p0 : Nat} {p1 : Int32} {p2 : Nat} {p3 : Int32} {H : Hp} {r : Int32 × Hp} (hF : F_MText_isLike N p0 p1 p2 p3 H = some r) (hc0 : Cl Q H) (q_p0 : Q p0) (q_p2 : Q p2) : Rg Q H r.2 := by
  unfold F_MText_isLike at hF
  have hm := Rg.rf hc0
  obtain ⟨q106, hG⟩ := ck_s hF; clear hF
  obtain ⟨a107, e108, hF⟩ := rf_s hG; clear hG
  have qa107 : Q a107 := hm.1 _ _ _ q_p0 e108
  obtain ⟨n109, q110, hG⟩ := ar_s hF; clear hF
  obtain ⟨q111, hF⟩ := ck_s hG; clear hG
  obtain ⟨x112, -, hG⟩ := bnd_g hF; clear hF
  obtain ⟨q113, hF⟩ := ck_s hG; clear hG
  obtain ⟨a114, e115, hG⟩ := rf_s hF; clear hF
  have qa114 : Q a114 := hm.1 _ _ _ q_p2 e115
  obtain ⟨n116, q117, hF⟩ := ar_s hG; clear hG
  obtain ⟨q118, hG⟩ := ck_s hF; clear hF
  obtain ⟨x119, -, hF⟩ := bnd_g hG; clear hG
  rcases ite_s hF with ⟨q_8, hG⟩ | ⟨q_8, hG⟩
  · clear hF
    exact hm.tr (gB_MText_isLike_20 q_p0 q_p2 hG hm.1)
  · clear hF
    exact hm.tr (gB_MText_isLike_20 q_p0 q_p2 hG hm.1)
set_option maxRecDepth 20000 in
set_option maxHeartbeats 2000000 in
theorem gB_MWorld_pends_45 {N : Nat} {Q : Nat → Prop} {p0 : Nat} {p1 : Int32} {p2 : Int32} {p3 : Int32} {p4 : Nat} {p5 : Int32} (q_p0 : Q p0) (q_p4 : Q p4) : ∀ (n : Nat) (l6 : Int32) (H : Hp) (r : Int32 × Hp), B_MWorld_pends_45 N p0 p1 p2 p3 p4 p5 n l6 H = some r → Cl Q H → Rg Q H r.2 := by
  intro n
  induction n with
  | zero => intro l6 H r hF; rw [B_MWorld_pends_45] at hF; cases hF
  | succ n ih =>
    intro l6 H r hF hc0
    rw [B_MWorld_pends_45] at hF
    have hm := Rg.rf hc0
    rcases ite_s hF with ⟨q_13, hG⟩ | ⟨q_13, hG⟩
    · clear hF
      obtain ⟨q82, hF⟩ := ck_s hG; clear hG
      obtain ⟨x83, -, hG⟩ := bnd_g hF; clear hF
      obtain ⟨H84, eH84, hF⟩ := bnd_g hG; clear hG
      replace hm : Rg Q H H84 := hm.tr (by rw [eH84]; exact Rg.sD hm.1 q_p0)
      have s_14 : Sa H H84 := by rw [eH84]; exact Sa.rf _
      have hr := Option.some.inj hF; subst hr
      exact hm
    · clear hF
      obtain ⟨q85, hF⟩ := ck_s hG; clear hG
      obtain ⟨a86, e87, hG⟩ := rf_s hF; clear hF
      have qa86 : Q a86 := hm.1 _ _ _ q_p0 e87
      obtain ⟨x88, -, hF⟩ := bnd_g hG; clear hG
      obtain ⟨n89, q90, hG⟩ := ar_s hF; clear hF
      obtain ⟨q91, hF⟩ := ck_s hG; clear hG
      obtain ⟨x92, -, hG⟩ := bnd_g hF; clear hF
      obtain ⟨n93, q94, hF⟩ := ar_s hG; clear hG
      obtain ⟨q95, hG⟩ := ck_s hF; clear hF
      obtain ⟨H96, eH96, hF⟩ := bnd_g hG; clear hG
      replace hm : Rg Q H H96 := hm.tr (by rw [eH96]; exact Rg.sD hm.1 qa86)
      have s_15 : Sa H H96 := by rw [eH96]; exact Sa.rf _
      exact hm.tr (ih (l6 + 1) H96 r hF hm.1)
set_option maxRecDepth 20000 in
set_option maxHeartbeats 2000000 in
theorem g_MWorld_pends {N : Nat} {Q : Nat → Prop} {p0 : Nat} {p1 : Int32} {p2 : Int32} {p3 : Int32} {p4 : Nat} {p5 : Int32} {H : Hp} {r : Int32 × Hp} (hF : F_MWorld_pends N p0 p1 p2 p3 p4 p5 H = some r) (hc0 : Cl Q H) (q_p0 : Q p0) (q_p4 : Q p4) : Rg Q H r.2 := by
  unfold F_MWorld_pends at hF
  have hm := Rg.rf hc0
  obtain ⟨q97, hG⟩ := ck_s hF; clear hF
  obtain ⟨x98, -, hF⟩ := bnd_g hG; clear hG
  rcases ite_s hF with ⟨q_16, hG⟩ | ⟨q_16, hG⟩
  · clear hF
    have hr := Option.some.inj hG; subst hr
    exact hm
  · clear hF
    obtain ⟨a100, e101, hF⟩ := rf_s hG; clear hG
    have qa100 : Q a100 := hm.1 _ _ _ q_p0 e101
    obtain ⟨x102, -, hG⟩ := bnd_g hF; clear hF
    obtain ⟨n103, q104, hF⟩ := ar_s hG; clear hG
    obtain ⟨q105, hG⟩ := ck_s hF; clear hF
    obtain ⟨H106, eH106, hF⟩ := bnd_g hG; clear hG
    replace hm : Rg Q H H106 := hm.tr (by rw [eH106]; exact Rg.sD hm.1 qa100)
    have s_17 : Sa H H106 := by rw [eH106]; exact Sa.rf _
    obtain ⟨a107, e108, hG⟩ := rf_s hF; clear hF
    have qa107 : Q a107 := hm.1 _ _ _ q_p0 e108
    obtain ⟨x109, -, hF⟩ := bnd_g hG; clear hG
    obtain ⟨n110, q111, hG⟩ := ar_s hF; clear hF
    rw [(s_17).1] at q111
    obtain ⟨q112, hF⟩ := ck_s hG; clear hG
    obtain ⟨H113, eH113, hG⟩ := bnd_g hF; clear hF
    replace hm : Rg Q H H113 := hm.tr (by rw [eH113]; exact Rg.sD hm.1 qa107)
    have s_18 : Sa H H113 := by rw [eH113]; exact s_17
    obtain ⟨a114, e115, hF⟩ := rf_s hG; clear hG
    have qa114 : Q a114 := hm.1 _ _ _ q_p0 e115
    obtain ⟨x116, -, hG⟩ := bnd_g hF; clear hF
    obtain ⟨n117, q118, hF⟩ := ar_s hG; clear hG
    rw [(s_18).1] at q118
    obtain ⟨q119, hG⟩ := ck_s hF; clear hF
    obtain ⟨H120, eH120, hF⟩ := bnd_g hG; clear hG
    replace hm : Rg Q H H120 := hm.tr (by rw [eH120]; exact Rg.sD hm.1 qa114)
    have s_19 : Sa H H120 := by rw [eH120]; exact s_18
    exact hm.tr (gB_MWorld_pends_45 q_p0 q_p4 N 0 H120 r hF hm.1)
set_option maxRecDepth 20000 in
set_option maxHeartbeats 2000000 in
theorem gB_M_carries_359 {N : Nat} {Q : Nat → Prop} {p0 : Nat} {kq270 : Nat → Nat → Int32 → Hp → Option (Unit × Hp)} (q_p0 : Q p0) (hg270 : ∀ (l1 : Nat) (l2 : Nat) (l3 : Int32) (H : Hp) (r : Unit × Hp), kq270 l1 l2 l3 H = some r → Cl Q H → Q l1 → Q l2 → Rg Q H r.2) {l1 : Nat} {l2 : Nat} {l3 : Int32} {H : Hp} {r : Unit × Hp} (hF : B_M_carries_359 N p0 kq270 l1 l2 l3 H = some r) (hc0 : Cl Q H) (q_l1 : Q l1) (q_l2 : Q l2) : Rg Q H r.2 := by
  unfold B_M_carries_359 at hF
  have hm := Rg.rf hc0
  exact hm.tr (hg270 l1 l2 (l3 + 1) H r hF hm.1 q_l1 q_l2)
set_option maxRecDepth 20000 in
set_option maxHeartbeats 2000000 in
theorem gB_M_carries_270 {N : Nat} {Q : Nat → Prop} {p0 : Nat} (q_p0 : Q p0) : ∀ (n : Nat) (l1 : Nat) (l2 : Nat) (l3 : Int32) (H : Hp) (r : Unit × Hp), B_M_carries_270 N p0 n l1 l2 l3 H = some r → Cl Q H → Q l1 → Q l2 → Rg Q H r.2 := by
  intro n
  induction n with
  | zero => intro l1 l2 l3 H r hF; rw [B_M_carries_270] at hF; cases hF
  | succ n ih =>
    intro l1 l2 l3 H r hF hc0 q_l1 q_l2
    rw [B_M_carries_270] at hF
    have hm := Rg.rf hc0
    obtain ⟨q431, hG⟩ := ck_s hF; clear hF
    obtain ⟨x432, -, hF⟩ := bnd_g hG; clear hG
    rcases ite_s hF with ⟨q_37, hG⟩ | ⟨q_37, hG⟩
    · clear hF
      have hr := Option.some.inj hG; subst hr
      exact hm
    · clear hF
      obtain ⟨q434, hF⟩ := ck_s hG; clear hG
      obtain ⟨a435, e436, hG⟩ := rf_s hF; clear hF
      have qa435 : Q a435 := hm.1 _ _ _ q_p0 e436
      obtain ⟨a437, e438, hF⟩ := rf_s hG; clear hG
      have qa437 : Q a437 := hm.1 _ _ _ q_p0 e438
      obtain ⟨a439, e440, hG⟩ := rf_s hF; clear hF
      have qa439 : Q a439 := hm.1 _ _ _ q_p0 e440
      obtain ⟨q441, hF⟩ := ck_s hG; clear hG
      obtain ⟨a442, e443, hG⟩ := rf_s hF; clear hF
      have qa442 : Q a442 := hm.1 _ _ _ qa439 e443
      obtain ⟨a444, e445, hF⟩ := rf_s hG; clear hG
      have qa444 : Q a444 := hm.1 _ _ _ q_l1 e445
      obtain ⟨n446, q447, hG⟩ := ar_s hF; clear hF
      obtain ⟨q448, hF⟩ := ck_s hG; clear hG
      obtain ⟨x449, -, hG⟩ := bnd_g hF; clear hF
      obtain ⟨n450, q451, hF⟩ := ar_s hG; clear hG
      obtain ⟨q452, hG⟩ := ck_s hF; clear hF
      obtain ⟨x453, -, hF⟩ := bnd_g hG; clear hG
      obtain ⟨q454, hG⟩ := ck_s hF; clear hF
      obtain ⟨v456, H457, z455, hF⟩ := bC_s hG; clear hG
      have gz_38 := (g_MText_thing z455 hm.1 qa435 qa437)
      replace hm : Rg Q H H457 := hm.tr gz_38
      have s_39 : Sa H H457 := (m_MText_thing z455)
      rcases ite_s hF with ⟨q_40, hG⟩ | ⟨q_40, hG⟩
      · clear hF
        exact hm.tr (gB_M_carries_359 q_p0 ih hG hm.1 q_l1 q_l2)
      · clear hF
        obtain ⟨a459, e460, hF⟩ := rf_s hG; clear hG
        have qa459 : Q a459 := hm.1 _ _ _ q_p0 e460
        obtain ⟨a461, e462, hG⟩ := rf_s hF; clear hF
        have qa461 : Q a461 := hm.1 _ _ _ q_p0 e462
        obtain ⟨a463, e464, hF⟩ := rf_s hG; clear hG
        have qa463 : Q a463 := hm.1 _ _ _ q_l1 e464
        obtain ⟨n465, q466, hG⟩ := ar_s hF; clear hF
        rw [(s_39).1] at q466
        obtain ⟨q467, hF⟩ := ck_s hG; clear hG
        obtain ⟨x468, -, hG⟩ := bnd_g hF; clear hF
        obtain ⟨q469, hF⟩ := ck_s hG; clear hG
        rw [(s_39).1] at q469
        obtain ⟨v471, H472, z470, hG⟩ := bC_s hF; clear hF
        have gz_41 := (g_MText_isLike z470 hm.1 qa459 qa461)
        replace hm : Rg Q H H472 := hm.tr gz_41
        have s_42 : Sa H H472 := (s_39).tr (m_MText_isLike z470)
        rcases ite_s hG with ⟨q_43, hF⟩ | ⟨q_43, hF⟩
        · clear hG
          exact hm.tr (gB_M_carries_359 q_p0 ih hF hm.1 q_l1 q_l2)
        · clear hG
          obtain ⟨a474, e475, hG⟩ := rf_s hF; clear hF
          have qa474 : Q a474 := hm.1 _ _ _ q_l1 e475
          obtain ⟨n476, q477, hF⟩ := ar_s hG; clear hG
          rw [(s_42).1] at q477
          obtain ⟨q478, hG⟩ := ck_s hF; clear hF
          obtain ⟨x479, -, hF⟩ := bnd_g hG; clear hG
          obtain ⟨a480, e481, hG⟩ := rf_s hF; clear hF
          have qa480 : Q a480 := hm.1 _ _ _ q_l1 e481
          obtain ⟨n482, q483, hF⟩ := ar_s hG; clear hG
          rw [(s_42).1] at q483
          obtain ⟨q484, hG⟩ := ck_s hF; clear hF
          obtain ⟨x485, -, hF⟩ := bnd_g hG; clear hG
          obtain ⟨a486, e487, hG⟩ := rf_s hF; clear hF
          have qa486 : Q a486 := hm.1 _ _ _ q_l1 e487
          obtain ⟨q488, hF⟩ := ck_s hG; clear hG
          rw [(s_42).1] at q488
          obtain ⟨v490, H491, z489, hG⟩ := bC_s hF; clear hF
          have gz_44 := (g_MWorld_pends z489 hm.1 q_l2 qa486)
          replace hm : Rg Q H H491 := hm.tr gz_44
          have s_45 : Sa H H491 := (s_42).tr (m_MWorld_pends z489)
          exact hm.tr (gB_M_carries_359 q_p0 ih hG hm.1 q_l1 q_l2)
set_option maxRecDepth 20000 in
set_option maxHeartbeats 2000000 in
theorem gB_M_carries_257 {N : Nat} {Q : Nat → Prop} {p0 : Nat} {kq22 : Nat → Nat → Int32 → Hp → Option (Unit × Hp)} (q_p0 : Q p0) (hg22 : ∀ (l1 : Nat) (l2 : Nat) (l3 : Int32) (H : Hp) (r : Unit × Hp), kq22 l1 l2 l3 H = some r → Cl Q H → Q l1 → Q l2 → Rg Q H r.2) {l1 : Nat} {l2 : Nat} {l3 : Int32} {H : Hp} {r : Unit × Hp} (hF : B_M_carries_257 N p0 kq22 l1 l2 l3 H = some r) (hc0 : Cl Q H) (q_l1 : Q l1) (q_l2 : Q l2) : Rg Q H r.2 := by
  unfold B_M_carries_257 at hF
  have hm := Rg.rf hc0
  exact hm.tr (hg22 l1 l2 (l3 + 1) H r hF hm.1 q_l1 q_l2)
set_option maxRecDepth 20000 in
set_option maxHeartbeats 2000000 in
theorem gB_M_carries_251 {N : Nat} {Q : Nat → Prop} {p0 : Nat} {kq22 : Nat → Nat → Int32 → Hp → Option (Unit × Hp)} {kq39 : Nat → Nat → Int32 → Int32 → Hp → Option (Unit × Hp)} (q_p0 : Q p0) (hg22 : ∀ (l1 : Nat) (l2 : Nat) (l3 : Int32) (H : Hp) (r : Unit × Hp), kq22 l1 l2 l3 H = some r → Cl Q H → Q l1 → Q l2 → Rg Q H r.2) (hg39 : ∀ (l1 : Nat) (l2 : Nat) (l3 : Int32) (l4 : Int32) (H : Hp) (r : Unit × Hp), kq39 l1 l2 l3 l4 H = some r → Cl Q H → Q l1 → Q l2 → Rg Q H r.2) {l1 : Nat} {l2 : Nat} {l3 : Int32} {l4 : Int32} {H : Hp} {r : Unit × Hp} (hF : B_M_carries_251 N p0 kq22 kq39 l1 l2 l3 l4 H = some r) (hc0 : Cl Q H) (q_l1 : Q l1) (q_l2 : Q l2) : Rg Q H r.2 := by
  unfold B_M_carries_251 at hF
  have hm := Rg.rf hc0
  exact hm.tr (hg39 l1 l2 l3 (l4 + 1) H r hF hm.1 q_l1 q_l2)
set_option maxRecDepth 20000 in
set_option maxHeartbeats 2000000 in
theorem gB_M_carries_244 {N : Nat} {Q : Nat → Prop} {p0 : Nat} {kq22 : Nat → Nat → Int32 → Hp → Option (Unit × Hp)} {kq39 : Nat → Nat → Int32 → Int32 → Hp → Option (Unit × Hp)} {kq135 : Nat → Nat → Int32 → Int32 → Int32 → Int32 → Hp → Option (Unit × Hp)} (q_p0 : Q p0) (hg22 : ∀ (l1 : Nat) (l2 : Nat) (l3 : Int32) (H : Hp) (r : Unit × Hp), kq22 l1 l2 l3 H = some r → Cl Q H → Q l1 → Q l2 → Rg Q H r.2) (hg39 : ∀ (l1 : Nat) (l2 : Nat) (l3 : Int32) (l4 : Int32) (H : Hp) (r : Unit × Hp), kq39 l1 l2 l3 l4 H = some r → Cl Q H → Q l1 → Q l2 → Rg Q H r.2) (hg135 : ∀ (l1 : Nat) (l2 : Nat) (l3 : Int32) (l4 : Int32) (l5 : Int32) (l6 : Int32) (H : Hp) (r : Unit × Hp), kq135 l1 l2 l3 l4 l5 l6 H = some r → Cl Q H → Q l1 → Q l2 → Rg Q H r.2) {l1 : Nat} {l2 : Nat} {l3 : Int32} {l4 : Int32} {l5 : Int32} {l6 : Int32} {w0 : Nat} {w1 : Int32} {w2 : Int32} {H : Hp} {r : Unit × Hp} (hF : B_M_carries_244 N p0 kq22 kq39 kq135 l1 l2 l3 l4 l5 l6 w0 w1 w2 H = some r) (hc0 : Cl Q H) (q_l1 : Q l1) (q_l2 : Q l2) (q_w0 : Q w0) : Rg Q H r.2 := by
  unfold B_M_carries_244 at hF
  have hm := Rg.rf hc0
  obtain ⟨n492, q493, hG⟩ := ar_s hF; clear hF
  obtain ⟨q494, hF⟩ := ck_s hG; clear hG
  obtain ⟨H495, eH495, hG⟩ := bnd_g hF; clear hF
  replace hm : Rg Q H H495 := hm.tr (by rw [eH495]; exact Rg.sD hm.1 q_w0)
  have s_46 : Sa H H495 := by rw [eH495]; exact Sa.rf _
  exact hm.tr (hg135 l1 l2 l3 l4 l5 (l6 + 1) H495 r hG hm.1 q_l1 q_l2)
set_option maxRecDepth 20000 in
set_option maxHeartbeats 2000000 in
theorem gB_M_carries_135 {N : Nat} {Q : Nat → Prop} {p0 : Nat} {kq22 : Nat → Nat → Int32 → Hp → Option (Unit × Hp)} {kq39 : Nat → Nat → Int32 → Int32 → Hp → Option (Unit × Hp)} (q_p0 : Q p0) (hg22 : ∀ (l1 : Nat) (l2 : Nat) (l3 : Int32) (H : Hp) (r : Unit × Hp), kq22 l1 l2 l3 H = some r → Cl Q H → Q l1 → Q l2 → Rg Q H r.2) (hg39 : ∀ (l1 : Nat) (l2 : Nat) (l3 : Int32) (l4 : Int32) (H : Hp) (r : Unit × Hp), kq39 l1 l2 l3 l4 H = some r → Cl Q H → Q l1 → Q l2 → Rg Q H r.2) : ∀ (n : Nat) (l1 : Nat) (l2 : Nat) (l3 : Int32) (l4 : Int32) (l5 : Int32) (l6 : Int32) (H : Hp) (r : Unit × Hp), B_M_carries_135 N p0 kq22 kq39 n l1 l2 l3 l4 l5 l6 H = some r → Cl Q H → Q l1 → Q l2 → Rg Q H r.2 := by
  intro n
  induction n with
  | zero => intro l1 l2 l3 l4 l5 l6 H r hF; rw [B_M_carries_135] at hF; cases hF
  | succ n ih =>
    intro l1 l2 l3 l4 l5 l6 H r hF hc0 q_l1 q_l2
    rw [B_M_carries_135] at hF
    have hm := Rg.rf hc0
    obtain ⟨q496, hG⟩ := ck_s hF; clear hF
    obtain ⟨a497, e498, hF⟩ := rf_s hG; clear hG
    have qa497 : Q a497 := hm.1 _ _ _ q_p0 e498
    obtain ⟨q499, hG⟩ := ck_s hF; clear hF
    obtain ⟨a500, e501, hF⟩ := rf_s hG; clear hG
    have qa500 : Q a500 := hm.1 _ _ _ qa497 e501
    obtain ⟨n502, q503, hG⟩ := ar_s hF; clear hF
    obtain ⟨q504, hF⟩ := ck_s hG; clear hG
    obtain ⟨x505, -, hG⟩ := bnd_g hF; clear hF
    rcases ite_s hG with ⟨q_47, hF⟩ | ⟨q_47, hF⟩
    · clear hG
      exact hm.tr (gB_M_carries_251 q_p0 hg22 hg39 hF hm.1 q_l1 q_l2)
    · clear hG
      obtain ⟨a507, e508, hG⟩ := rf_s hF; clear hF
      have qa507 : Q a507 := hm.1 _ _ _ q_p0 e508
      obtain ⟨a509, e510, hF⟩ := rf_s hG; clear hG
      have qa509 : Q a509 := hm.1 _ _ _ q_p0 e510
      obtain ⟨a511, e512, hG⟩ := rf_s hF; clear hF
      have qa511 : Q a511 := hm.1 _ _ _ q_p0 e512
      obtain ⟨q513, hF⟩ := ck_s hG; clear hG
      obtain ⟨a514, e515, hG⟩ := rf_s hF; clear hF
      have qa514 : Q a514 := hm.1 _ _ _ qa511 e515
      obtain ⟨n516, q517, hF⟩ := ar_s hG; clear hG
      obtain ⟨q518, hG⟩ := ck_s hF; clear hF
      obtain ⟨x519, -, hF⟩ := bnd_g hG; clear hG
      obtain ⟨q520, hG⟩ := ck_s hF; clear hF
      obtain ⟨v522, H523, z521, hF⟩ := bC_s hG; clear hG
      have gz_48 := (g_MText_member z521 hm.1 qa507 qa509)
      replace hm : Rg Q H H523 := hm.tr gz_48
      have s_49 : Sa H H523 := (m_MText_member z521)
      obtain ⟨q524, hG⟩ := ck_s hF; clear hF
      rw [(s_49).1] at q524
      obtain ⟨a525, e526, hF⟩ := rf_s hG; clear hG
      have qa525 : Q a525 := hm.1 _ _ _ q_l2 e526
      rcases ite_s hF with ⟨q_50, hG⟩ | ⟨q_50, hG⟩
      · clear hF
        obtain ⟨a528, e529, hF⟩ := rf_s hG; clear hG
        have qa528 : Q a528 := hm.1 _ _ _ q_p0 e529
        obtain ⟨q530, hG⟩ := ck_s hF; clear hF
        rw [(s_49).1] at q530
        obtain ⟨a531, e532, hF⟩ := rf_s hG; clear hG
        have qa531 : Q a531 := hm.1 _ _ _ qa528 e532
        obtain ⟨n533, q534, hG⟩ := ar_s hF; clear hF
        rw [(s_49).1] at q534
        obtain ⟨q535, hF⟩ := ck_s hG; clear hG
        obtain ⟨x536, -, hG⟩ := bnd_g hF; clear hF
        obtain ⟨a537, e538, hF⟩ := rf_s hG; clear hG
        have qa537 : Q a537 := hm.1 _ _ _ q_p0 e538
        obtain ⟨q539, hG⟩ := ck_s hF; clear hF
        rw [(s_49).1] at q539
        obtain ⟨a540, e541, hF⟩ := rf_s hG; clear hG
        have qa540 : Q a540 := hm.1 _ _ _ qa537 e541
        obtain ⟨n542, q543, hG⟩ := ar_s hF; clear hF
        rw [(s_49).1] at q543
        obtain ⟨q544, hF⟩ := ck_s hG; clear hG
        obtain ⟨x545, -, hG⟩ := bnd_g hF; clear hF
        obtain ⟨q546, hF⟩ := ck_s hG; clear hG
        rw [(s_49).1] at q546
        obtain ⟨a547, e548, hG⟩ := rf_s hF; clear hF
        have qa547 : Q a547 := hm.1 _ _ _ q_l1 e548
        obtain ⟨n549, q550, hF⟩ := ar_s hG; clear hG
        rw [(s_49).1] at q550
        obtain ⟨q551, hG⟩ := ck_s hF; clear hF
        obtain ⟨x552, -, hF⟩ := bnd_g hG; clear hG
        obtain ⟨v554, H555, z553, hG⟩ := bC_s hF; clear hF
        have gz_51 := (g_M_changed z553 hm.1)
        replace hm : Rg Q H H555 := hm.tr gz_51
        have s_52 : Sa H H555 := (s_49).tr (m_M_changed z553)
        exact hm.tr (gB_M_carries_244 q_p0 hg22 hg39 ih hG hm.1 q_l1 q_l2 qa525)
      · clear hF
        obtain ⟨a556, e557, hF⟩ := rf_s hG; clear hG
        have qa556 : Q a556 := hm.1 _ _ _ q_p0 e557
        obtain ⟨q558, hG⟩ := ck_s hF; clear hF
        rw [(s_49).1] at q558
        obtain ⟨a559, e560, hF⟩ := rf_s hG; clear hG
        have qa559 : Q a559 := hm.1 _ _ _ qa556 e560
        obtain ⟨n561, q562, hG⟩ := ar_s hF; clear hF
        rw [(s_49).1] at q562
        obtain ⟨q563, hF⟩ := ck_s hG; clear hG
        obtain ⟨x564, -, hG⟩ := bnd_g hF; clear hF
        obtain ⟨v566, H567, z565, hF⟩ := bC_s hG; clear hG
        have gz_53 := (g_M_first z565 hm.1)
        replace hm : Rg Q H H567 := hm.tr gz_53
        have s_54 : Sa H H567 := (s_49).tr (m_M_first z565)
        exact hm.tr (gB_M_carries_244 q_p0 hg22 hg39 ih hF hm.1 q_l1 q_l2 qa525)
set_option maxRecDepth 20000 in
set_option maxHeartbeats 2000000 in
theorem gB_M_carries_100 {N : Nat} {Q : Nat → Prop} {p0 : Nat} {kq22 : Nat → Nat → Int32 → Hp → Option (Unit × Hp)} {kq39 : Nat → Nat → Int32 → Int32 → Hp → Option (Unit × Hp)} (q_p0 : Q p0) (hg22 : ∀ (l1 : Nat) (l2 : Nat) (l3 : Int32) (H : Hp) (r : Unit × Hp), kq22 l1 l2 l3 H = some r → Cl Q H → Q l1 → Q l2 → Rg Q H r.2) (hg39 : ∀ (l1 : Nat) (l2 : Nat) (l3 : Int32) (l4 : Int32) (H : Hp) (r : Unit × Hp), kq39 l1 l2 l3 l4 H = some r → Cl Q H → Q l1 → Q l2 → Rg Q H r.2) {l1 : Nat} {l2 : Nat} {l3 : Int32} {l4 : Int32} {w0 : Int32} {H : Hp} {r : Unit × Hp} (hF : B_M_carries_100 N p0 kq22 kq39 l1 l2 l3 l4 w0 H = some r) (hc0 : Cl Q H) (q_l1 : Q l1) (q_l2 : Q l2) : Rg Q H r.2 := by
  unfold B_M_carries_100 at hF
  have hm := Rg.rf hc0
  rcases ite_s hF with ⟨q_55, hG⟩ | ⟨q_55, hG⟩
  · clear hF
    obtain ⟨q569, hF⟩ := ck_s hG; clear hG
    obtain ⟨a570, e571, hG⟩ := rf_s hF; clear hF
    have qa570 : Q a570 := hm.1 _ _ _ q_l2 e571
    obtain ⟨n572, q573, hF⟩ := ar_s hG; clear hG
    obtain ⟨q574, hG⟩ := ck_s hF; clear hF
    obtain ⟨x575, -, hF⟩ := bnd_g hG; clear hG
    obtain ⟨q576, hG⟩ := ck_s hF; clear hF
    obtain ⟨H577, eH577, hF⟩ := bnd_g hG; clear hG
    replace hm : Rg Q H H577 := hm.tr (by rw [eH577]; exact Rg.sD hm.1 qa570)
    have s_56 : Sa H H577 := by rw [eH577]; exact Sa.rf _
    obtain ⟨q578, hG⟩ := ck_s hF; clear hF
    rw [(s_56).1] at q578
    obtain ⟨a579, e580, hF⟩ := rf_s hG; clear hG
    have qa579 : Q a579 := hm.1 _ _ _ q_p0 e580
    obtain ⟨q581, hG⟩ := ck_s hF; clear hF
    rw [(s_56).1] at q581
    obtain ⟨a582, e583, hF⟩ := rf_s hG; clear hG
    have qa582 : Q a582 := hm.1 _ _ _ qa579 e583
    obtain ⟨n584, q585, hG⟩ := ar_s hF; clear hF
    rw [(s_56).1] at q585
    obtain ⟨q586, hF⟩ := ck_s hG; clear hG
    obtain ⟨x587, -, hG⟩ := bnd_g hF; clear hF
    exact hm.tr (gB_M_carries_135 q_p0 hg22 hg39 N l1 l2 l3 l4 w0 x587 H577 r hG hm.1 q_l1 q_l2)
  · clear hF
    exact hm.tr (gB_M_carries_251 q_p0 hg22 hg39 hG hm.1 q_l1 q_l2)
set_option maxRecDepth 20000 in
set_option maxHeartbeats 2000000 in
theorem gB_M_carries_39 {N : Nat} {Q : Nat → Prop} {p0 : Nat} {kq22 : Nat → Nat → Int32 → Hp → Option (Unit × Hp)} (q_p0 : Q p0) (hg22 : ∀ (l1 : Nat) (l2 : Nat) (l3 : Int32) (H : Hp) (r : Unit × Hp), kq22 l1 l2 l3 H = some r → Cl Q H → Q l1 → Q l2 → Rg Q H r.2) : ∀ (n : Nat) (l1 : Nat) (l2 : Nat) (l3 : Int32) (l4 : Int32) (H : Hp) (r : Unit × Hp), B_M_carries_39 N p0 kq22 n l1 l2 l3 l4 H = some r → Cl Q H → Q l1 → Q l2 → Rg Q H r.2 := by
  intro n
  induction n with
  | zero => intro l1 l2 l3 l4 H r hF; rw [B_M_carries_39] at hF; cases hF
  | succ n ih =>
    intro l1 l2 l3 l4 H r hF hc0 q_l1 q_l2
    rw [B_M_carries_39] at hF
    have hm := Rg.rf hc0
    obtain ⟨q588, hG⟩ := ck_s hF; clear hF
    obtain ⟨a589, e590, hF⟩ := rf_s hG; clear hG
    have qa589 : Q a589 := hm.1 _ _ _ q_l1 e590
    obtain ⟨n591, q592, hG⟩ := ar_s hF; clear hF
    obtain ⟨q593, hF⟩ := ck_s hG; clear hG
    obtain ⟨x594, -, hG⟩ := bnd_g hF; clear hF
    rcases ite_s hG with ⟨q_57, hF⟩ | ⟨q_57, hF⟩
    · clear hG
      exact hm.tr (gB_M_carries_257 q_p0 hg22 hF hm.1 q_l1 q_l2)
    · clear hG
      obtain ⟨q596, hG⟩ := ck_s hF; clear hF
      obtain ⟨a597, e598, hF⟩ := rf_s hG; clear hG
      have qa597 : Q a597 := hm.1 _ _ _ q_p0 e598
      obtain ⟨q599, hG⟩ := ck_s hF; clear hF
      obtain ⟨x600, -, hF⟩ := bnd_g hG; clear hG
      rcases ite_s hF with ⟨q_58, hG⟩ | ⟨q_58, hG⟩
      · clear hF
        exact hm.tr (gB_M_carries_257 q_p0 hg22 hG hm.1 q_l1 q_l2)
      · clear hF
        obtain ⟨a602, e603, hF⟩ := rf_s hG; clear hG
        have qa602 : Q a602 := hm.1 _ _ _ q_l1 e603
        obtain ⟨n604, q605, hG⟩ := ar_s hF; clear hF
        obtain ⟨q606, hF⟩ := ck_s hG; clear hG
        obtain ⟨x607, -, hG⟩ := bnd_g hF; clear hF
        rcases ite_s hG with ⟨q_59, hF⟩ | ⟨q_59, hF⟩
        · clear hG
          exact hm.tr (gB_M_carries_100 q_p0 hg22 ih hF hm.1 q_l1 q_l2)
        · clear hG
          obtain ⟨a609, e610, hG⟩ := rf_s hF; clear hF
          have qa609 : Q a609 := hm.1 _ _ _ q_p0 e610
          obtain ⟨a611, e612, hF⟩ := rf_s hG; clear hG
          have qa611 : Q a611 := hm.1 _ _ _ q_p0 e612
          obtain ⟨a613, e614, hG⟩ := rf_s hF; clear hF
          have qa613 : Q a613 := hm.1 _ _ _ q_p0 e614
          obtain ⟨q615, hF⟩ := ck_s hG; clear hG
          obtain ⟨a616, e617, hG⟩ := rf_s hF; clear hF
          have qa616 : Q a616 := hm.1 _ _ _ qa613 e617
          obtain ⟨n618, q619, hF⟩ := ar_s hG; clear hG
          obtain ⟨q620, hG⟩ := ck_s hF; clear hF
          obtain ⟨x621, -, hF⟩ := bnd_g hG; clear hG
          obtain ⟨q622, hG⟩ := ck_s hF; clear hF
          obtain ⟨v624, H625, z623, hF⟩ := bC_s hG; clear hG
          have gz_60 := (g_MText_thing z623 hm.1 qa609 qa611)
          replace hm : Rg Q H H625 := hm.tr gz_60
          have s_61 : Sa H H625 := (m_MText_thing z623)
          exact hm.tr (gB_M_carries_100 q_p0 hg22 ih hF hm.1 q_l1 q_l2)
set_option maxRecDepth 20000 in
set_option maxHeartbeats 2000000 in
theorem gB_M_carries_22 {N : Nat} {Q : Nat → Prop} {p0 : Nat} (q_p0 : Q p0) : ∀ (n : Nat) (l1 : Nat) (l2 : Nat) (l3 : Int32) (H : Hp) (r : Unit × Hp), B_M_carries_22 N p0 n l1 l2 l3 H = some r → Cl Q H → Q l1 → Q l2 → Rg Q H r.2 := by
  intro n
  induction n with
  | zero => intro l1 l2 l3 H r hF; rw [B_M_carries_22] at hF; cases hF
  | succ n ih =>
    intro l1 l2 l3 H r hF hc0 q_l1 q_l2
    rw [B_M_carries_22] at hF
    have hm := Rg.rf hc0
    rcases ite_s hF with ⟨q_62, hG⟩ | ⟨q_62, hG⟩
    · clear hF
      obtain ⟨q627, hF⟩ := ck_s hG; clear hG
      obtain ⟨H628, eH628, hG⟩ := bnd_g hF; clear hF
      replace hm : Rg Q H H628 := hm.tr (by rw [eH628]; exact Rg.sD hm.1 q_l2)
      have s_63 : Sa H H628 := by rw [eH628]; exact Sa.rf _
      exact hm.tr (gB_M_carries_270 q_p0 N l1 l2 0 H628 r hG hm.1 q_l1 q_l2)
    · clear hF
      obtain ⟨q629, hF⟩ := ck_s hG; clear hG
      obtain ⟨a630, e631, hG⟩ := rf_s hF; clear hF
      have qa630 : Q a630 := hm.1 _ _ _ q_l2 e631
      obtain ⟨n632, q633, hF⟩ := ar_s hG; clear hG
      obtain ⟨q634, hG⟩ := ck_s hF; clear hF
      obtain ⟨H635, eH635, hF⟩ := bnd_g hG; clear hG
      replace hm : Rg Q H H635 := hm.tr (by rw [eH635]; exact Rg.sD hm.1 qa630)
      have s_64 : Sa H H635 := by rw [eH635]; exact Sa.rf _
      exact hm.tr (gB_M_carries_39 q_p0 ih N l1 l2 l3 0 H635 r hF hm.1 q_l1 q_l2)
set_option maxRecDepth 20000 in
set_option maxHeartbeats 2000000 in
theorem g_M_carries {N : Nat} {Q : Nat → Prop} {p0 : Nat} {H : Hp} {r : Unit × Hp} (hF : F_M_carries N p0 H = some r) (hc0 : Cl Q H) (q_p0 : Q p0) : Rg Q H r.2 := by
  unfold F_M_carries at hF
  have hm := Rg.rf hc0
  obtain ⟨q636, hG⟩ := ck_s hF; clear hF
  obtain ⟨a637, e638, hF⟩ := rf_s hG; clear hG
  have qa637 : Q a637 := hm.1 _ _ _ q_p0 e638
  obtain ⟨a639, e640, hG⟩ := rf_s hF; clear hF
  have qa639 : Q a639 := hm.1 _ _ _ q_p0 e640
  obtain ⟨q641, hF⟩ := ck_s hG; clear hG
  obtain ⟨v643, H644, z642, hG⟩ := bC_s hF; clear hF
  have gz_65 := (g_MWorld_copies z642 hm.1 qa639 qa637)
  replace hm : Rg Q H H644 := hm.tr gz_65
  have s_66 : Sa H H644 := (m_MWorld_copies z642)
  obtain ⟨H645, eH645, hF⟩ := bnd_g hG; clear hG
  replace hm : Rg Q H H645 := hm.tr (by rw [eH645]; exact Rg.sD hm.1 qa639)
  have s_67 : Sa H H645 := by rw [eH645]; exact s_66
  exact hm.tr (gB_M_carries_22 q_p0 N a637 a639 0 H645 r hF hm.1 qa637 qa639)
set_option maxRecDepth 20000 in
set_option maxHeartbeats 2000000 in
theorem g_M_swap {N : Nat} {Q : Nat → Prop} {p0 : Nat} {H : Hp} {r : Int32 × Hp} (hF : F_M_swap N p0 H = some r) (hc0 : Cl Q H) (q_p0 : Q p0) : Rg Q H r.2 := by
  unfold F_M_swap at hF
  have hm := Rg.rf hc0
  obtain ⟨q71, hG⟩ := ck_s hF; clear hF
  obtain ⟨H72, eH72, hF⟩ := bnd_g hG; clear hG
  replace hm : Rg Q H H72 := hm.tr (by rw [eH72]; exact Rg.sD hm.1 q_p0)
  have s_19 : Sa H H72 := by rw [eH72]; exact Sa.rf _
  obtain ⟨v74, H75, z73, hG⟩ := bC_s hF; clear hF
  have gz_20 := (g_M_isQuiet z73 hm.1 q_p0)
  replace hm : Rg Q H H75 := hm.tr gz_20
  have s_21 : Sa H H75 := (s_19).tr (m_M_isQuiet z73)
  rcases ite_s hG with ⟨q_22, hF⟩ | ⟨q_22, hF⟩
  · clear hG
    have hr := Option.some.inj hF; subst hr
    exact hm
  · clear hG
    obtain ⟨v78, H79, z77, hG⟩ := bC_s hF; clear hF
    have gz_23 := (g_M_reads z77 hm.1 q_p0)
    replace hm : Rg Q H H79 := hm.tr gz_23
    have s_24 : Sa H H79 := (s_21).tr (m_M_reads z77)
    rcases ite_s hG with ⟨q_25, hF⟩ | ⟨q_25, hF⟩
    · clear hG
      obtain ⟨x81, -, hG⟩ := bnd_g hF; clear hF
      have hr := Option.some.inj hG; subst hr
      exact hm
    · clear hG
      obtain ⟨v83, H84, z82, hG⟩ := bC_s hF; clear hF
      have gz_26 := (g_M_carries z82 hm.1 q_p0)
      replace hm : Rg Q H H84 := hm.tr gz_26
      have s_27 : Sa H H84 := (s_24).tr (m_M_carries z82)
      obtain ⟨v86, H87, z85, hF⟩ := bC_s hG; clear hG
      have gz_28 := (g_M_takes z85 hm.1 q_p0)
      replace hm : Rg Q H H87 := hm.tr gz_28
      have s_29 : Sa H H87 := (s_27).tr (m_M_takes z85)
      obtain ⟨a88, e89, hG⟩ := rf_s hF; clear hF
      have qa88 : Q a88 := hm.1 _ _ _ q_p0 e89
      obtain ⟨a90, e91, hF⟩ := rf_s hG; clear hG
      have qa90 : Q a90 := hm.1 _ _ _ q_p0 e91
      obtain ⟨H92, eH92, hG⟩ := bnd_g hF; clear hF
      replace hm : Rg Q H H92 := hm.tr (by rw [eH92]; exact Rg.sP hm.1 q_p0 (is_rf qa90) (by rw [(s_29).1]; exact q71) rfl)
      have s_30 : Sa H H92 := by rw [eH92]; exact s_29
      obtain ⟨H93, eH93, hF⟩ := bnd_g hG; clear hG
      replace hm : Rg Q H H93 := hm.tr (by rw [eH93]; exact Rg.sP hm.1 q_p0 (is_rf qa88) (by rw [(s_30).1]; exact q71) rfl)
      have s_31 : Sa H H93 := by rw [eH93]; exact s_30
      obtain ⟨a94, e95, hG⟩ := rf_s hF; clear hF
      have qa94 : Q a94 := hm.1 _ _ _ q_p0 e95
      obtain ⟨a96, e97, hF⟩ := rf_s hG; clear hG
      have qa96 : Q a96 := hm.1 _ _ _ q_p0 e97
      obtain ⟨q98, hG⟩ := ck_s hF; clear hF
      rw [(s_31).1] at q98
      obtain ⟨v100, H101, z99, hF⟩ := bC_s hG; clear hG
      have gz_32 := (g_MWorld_copies z99 hm.1 qa94 qa96)
      replace hm : Rg Q H H101 := hm.tr gz_32
      have s_33 : Sa H H101 := (s_31).tr (m_MWorld_copies z99)
      obtain ⟨a102, e103, hG⟩ := rf_s hF; clear hF
      have qa102 : Q a102 := hm.1 _ _ _ q_p0 e103
      obtain ⟨q104, hF⟩ := ck_s hG; clear hG
      rw [(s_33).1] at q104
      obtain ⟨x105, -, hG⟩ := bnd_g hF; clear hF
      have hr := Option.some.inj hG; subst hr
      exact hm
set_option maxRecDepth 20000 in
set_option maxHeartbeats 2000000 in
theorem gB_M_workers_38 {N : Nat} {Q : Nat → Prop} {p0 : Nat} {p1 : Int32} {kq4 : Int32 → Int32 → Hp → Option (Int32 × Hp)} (q_p0 : Q p0) (hg4 : ∀ (l2 : Int32) (l3 : Int32) (H : Hp) (r : Int32 × Hp), kq4 l2 l3 H = some r → Cl Q H → Rg Q H r.2) {l3 : Int32} {w0 : Int32} {w1 : Int32} {H : Hp} {r : Int32 × Hp} (hF : B_M_workers_38 N p0 p1 kq4 l3 w0 w1 H = some r) (hc0 : Cl Q H) : Rg Q H r.2 := by
  unfold B_M_workers_38 at hF
  have hm := Rg.rf hc0
  exact hm.tr (hg4 (w0 + w1) (l3 + 1) H r hF hm.1)
set_option maxRecDepth 20000 in
set_option maxHeartbeats 2000000 in
theorem gB_M_workers_37 {N : Nat} {Q : Nat → Prop} {p0 : Nat} {p1 : Int32} {kq4 : Int32 → Int32 → Hp → Option (Int32 × Hp)} (q_p0 : Q p0) (hg4 : ∀ (l2 : Int32) (l3 : Int32) (H : Hp) (r : Int32 × Hp), kq4 l2 l3 H = some r → Cl Q H → Rg Q H r.2) {l3 : Int32} {w0 : Int32} {H : Hp} {r : Int32 × Hp} (hF : B_M_workers_37 N p0 p1 kq4 l3 w0 H = some r) (hc0 : Cl Q H) : Rg Q H r.2 := by
  unfold B_M_workers_37 at hF
  have hm := Rg.rf hc0
  exact hm.tr (gB_M_workers_38 q_p0 hg4 hF hm.1)
set_option maxRecDepth 20000 in
set_option maxHeartbeats 2000000 in
theorem gB_M_workers_33 {N : Nat} {Q : Nat → Prop} {p0 : Nat} {p1 : Int32} {kq4 : Int32 → Int32 → Hp → Option (Int32 × Hp)} (q_p0 : Q p0) (hg4 : ∀ (l2 : Int32) (l3 : Int32) (H : Hp) (r : Int32 × Hp), kq4 l2 l3 H = some r → Cl Q H → Rg Q H r.2) {l3 : Int32} {w0 : Int32} {H : Hp} {r : Int32 × Hp} (hF : B_M_workers_33 N p0 p1 kq4 l3 w0 H = some r) (hc0 : Cl Q H) : Rg Q H r.2 := by
  unfold B_M_workers_33 at hF
  have hm := Rg.rf hc0
  exact hm.tr (gB_M_workers_38 q_p0 hg4 hF hm.1)
set_option maxRecDepth 20000 in
set_option maxHeartbeats 2000000 in
theorem gB_M_workers_4 {N : Nat} {Q : Nat → Prop} {p0 : Nat} {p1 : Int32} (q_p0 : Q p0) : ∀ (n : Nat) (l2 : Int32) (l3 : Int32) (H : Hp) (r : Int32 × Hp), B_M_workers_4 N p0 p1 n l2 l3 H = some r → Cl Q H → Rg Q H r.2 := by
  intro n
  induction n with
  | zero => intro l2 l3 H r hF; rw [B_M_workers_4] at hF; cases hF
  | succ n ih =>
    intro l2 l3 H r hF hc0
    rw [B_M_workers_4] at hF
    have hm := Rg.rf hc0
    rcases ite_s hF with ⟨q_5, hG⟩ | ⟨q_5, hG⟩
    · clear hF
      have hr := Option.some.inj hG; subst hr
      exact hm
    · clear hF
      obtain ⟨q36, hF⟩ := ck_s hG; clear hG
      obtain ⟨a37, e38, hG⟩ := rf_s hF; clear hF
      have qa37 : Q a37 := hm.1 _ _ _ q_p0 e38
      obtain ⟨n39, q40, hF⟩ := ar_s hG; clear hG
      obtain ⟨q41, hG⟩ := ck_s hF; clear hF
      obtain ⟨x42, -, hF⟩ := bnd_g hG; clear hG
      rcases ite_s hF with ⟨q_6, hG⟩ | ⟨q_6, hG⟩
      · clear hF
        exact hm.tr (gB_M_workers_37 q_p0 ih hG hm.1)
      · clear hF
        rcases ite_s hG with ⟨q_7, hF⟩ | ⟨q_7, hF⟩
        · clear hG
          obtain ⟨a45, e46, hG⟩ := rf_s hF; clear hF
          have qa45 : Q a45 := hm.1 _ _ _ q_p0 e46
          obtain ⟨n47, q48, hF⟩ := ar_s hG; clear hG
          obtain ⟨q49, hG⟩ := ck_s hF; clear hF
          obtain ⟨x50, -, hF⟩ := bnd_g hG; clear hG
          rcases ite_s hF with ⟨q_8, hG⟩ | ⟨q_8, hG⟩
          · clear hF
            exact hm.tr (gB_M_workers_33 q_p0 ih hG hm.1)
          · clear hF
            exact hm.tr (gB_M_workers_37 q_p0 ih hG hm.1)
        · clear hG
          exact hm.tr (gB_M_workers_33 q_p0 ih hF hm.1)
set_option maxRecDepth 20000 in
set_option maxHeartbeats 2000000 in
theorem g_M_workers {N : Nat} {Q : Nat → Prop} {p0 : Nat} {p1 : Int32} {H : Hp} {r : Int32 × Hp} (hF : F_M_workers N p0 p1 H = some r) (hc0 : Cl Q H) (q_p0 : Q p0) : Rg Q H r.2 := by
  unfold F_M_workers at hF
  have hm := Rg.rf hc0
  exact hm.tr (gB_M_workers_4 q_p0 N 0 0 H r hF hm.1)
set_option maxRecDepth 20000 in
set_option maxHeartbeats 2000000 in
theorem g_M_slot {N : Nat} {Q : Nat → Prop} {p0 : Nat} {p1 : Int32} {p2 : Int32} {H : Hp} {r : Int32 × Hp} (hF : F_M_slot N p0 p1 p2 H = some r) (hc0 : Cl Q H) (q_p0 : Q p0) : Rg Q H r.2 := by
  unfold F_M_slot at hF
  have hm := Rg.rf hc0
  have hr := Option.some.inj hF; subst hr
  exact hm
