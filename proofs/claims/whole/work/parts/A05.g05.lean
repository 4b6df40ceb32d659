set_option maxRecDepth 20000 in
set_option maxHeartbeats 2000000 in
theorem g_Row_draw {N : Nat} {Q : Nat → Prop} {p0 : Nat} {p1 : Int32} {H : Hp} {r : Unit × Hp} (hF : F_Row_draw N p0 p1 H = some r) (hc0 : Cl Q H) (q_p0 : Q p0) : Rg Q H r.2 := by
  unfold F_Row_draw at hF
  have hm := Rg.rf hc0
  rcases ite_s hF with ⟨q_18, hG⟩ | ⟨q_18, hG⟩
  · clear hF
    obtain ⟨q82, hF⟩ := ck_s hG; clear hG
    obtain ⟨a83, e84, hG⟩ := rf_s hF; clear hF
    have qa83 : Q a83 := hm.1 _ _ _ q_p0 e84
    obtain ⟨q85, hF⟩ := ck_s hG; clear hG
    obtain ⟨x86, -, hG⟩ := bnd_g hF; clear hF
    obtain ⟨a87, e88, hF⟩ := rf_s hG; clear hG
    have qa87 : Q a87 := hm.1 _ _ _ q_p0 e88
    obtain ⟨q89, hG⟩ := ck_s hF; clear hF
    obtain ⟨x90, -, hF⟩ := bnd_g hG; clear hG
    obtain ⟨v92, H93, z91, hG⟩ := bC_s hF; clear hF
    have gz_19 := (g_Row_stirred z91 hm.1)
    replace hm : Rg Q H H93 := hm.tr gz_19
    have s_20 : Sa H H93 := (m_Row_stirred z91)
    obtain ⟨a94, e95, hF⟩ := rf_s hG; clear hG
    have qa94 : Q a94 := hm.1 _ _ _ q_p0 e95
    obtain ⟨x96, -, hG⟩ := bnd_g hF; clear hF
    obtain ⟨q97, hF⟩ := ck_s hG; clear hG
    rw [(s_20).1] at q97
    obtain ⟨v99, H100, z98, hG⟩ := bC_s hF; clear hF
    have gz_21 := (g_World_numberAt z98 hm.1 qa94)
    replace hm : Rg Q H H100 := hm.tr gz_21
    have s_22 : Sa H H100 := (s_20).tr (m_World_numberAt z98)
    obtain ⟨v102, H103, z101, hF⟩ := bC_s hG; clear hG
    have gz_23 := (g_Row_stirred z101 hm.1)
    replace hm : Rg Q H H103 := hm.tr gz_23
    have s_24 : Sa H H103 := (s_22).tr (m_Row_stirred z101)
    obtain ⟨x104, -, hG⟩ := bnd_g hF; clear hF
    obtain ⟨v106, H107, z105, hF⟩ := bC_s hG; clear hG
    have gz_25 := (g_Row_stirred z105 hm.1)
    replace hm : Rg Q H H107 := hm.tr gz_25
    have s_26 : Sa H H107 := (s_24).tr (m_Row_stirred z105)
    obtain ⟨x108, -, hG⟩ := bnd_g hF; clear hF
    obtain ⟨v110, H111, z109, hF⟩ := bC_s hG; clear hG
    have gz_27 := (g_Row_stirred z109 hm.1)
    replace hm : Rg Q H H111 := hm.tr gz_27
    have s_28 : Sa H H111 := (s_26).tr (m_Row_stirred z109)
    obtain ⟨x112, -, hG⟩ := bnd_g hF; clear hF
    obtain ⟨H113, eH113, hF⟩ := bnd_g hG; clear hG
    replace hm : Rg Q H H113 := hm.tr (by rw [eH113]; exact Rg.sD hm.1 q_p0)
    have s_29 : Sa H H113 := by rw [eH113]; exact s_28
    obtain ⟨q114, hG⟩ := ck_s hF; clear hF
    obtain ⟨x115, -, hF⟩ := bnd_g hG; clear hG
    obtain ⟨v117, H118, z116, hG⟩ := bC_s hF; clear hF
    have gz_30 := (g_Row_push z116 hm.1 q_p0)
    replace hm : Rg Q H H118 := hm.tr gz_30
    have s_31 : Sa H H118 := (s_29).tr (m_Row_push z116)
    have hr := Option.some.inj hG; subst hr
    exact hm
  · clear hF
    obtain ⟨q119, hF⟩ := ck_s hG; clear hG
    obtain ⟨H120, eH120, hG⟩ := bnd_g hF; clear hF
    replace hm : Rg Q H H120 := hm.tr (by rw [eH120]; exact Rg.sD hm.1 q_p0)
    have s_32 : Sa H H120 := by rw [eH120]; exact Sa.rf _
    have hr := Option.some.inj hG; subst hr
    exact hm
set_option maxRecDepth 20000 in
set_option maxHeartbeats 2000000 in
theorem gB_Row_value_270 {N : Nat} {Q : Nat → Prop} {p0 : Nat} {p1 : Int32} (q_p0 : Q p0) {w0 : Nat} {w1 : Int32} {H : Hp} {r : Unit × Hp} (hF : B_Row_value_270 N p0 p1 w0 w1 H = some r) (hc0 : Cl Q H) (q_w0 : Q w0) : Rg Q H r.2 := by
  unfold B_Row_value_270 at hF
  have hm := Rg.rf hc0
  obtain ⟨q423, hG⟩ := ck_s hF; clear hF
  obtain ⟨v425, H426, z424, hF⟩ := bC_s hG; clear hG
  have gz_94 := (g_Row_push z424 hm.1 q_w0)
  replace hm : Rg Q H H426 := hm.tr gz_94
  have s_95 : Sa H H426 := (m_Row_push z424)
  have hr := Option.some.inj hF; subst hr
  exact hm
set_option maxRecDepth 20000 in
set_option maxHeartbeats 2000000 in
theorem gB_Row_value_269 {N : Nat} {Q : Nat → Prop} {p0 : Nat} {p1 : Int32} (q_p0 : Q p0) {w0 : Nat} {H : Hp} {r : Unit × Hp} (hF : B_Row_value_269 N p0 p1 w0 H = some r) (hc0 : Cl Q H) (q_w0 : Q w0) : Rg Q H r.2 := by
  unfold B_Row_value_269 at hF
  have hm := Rg.rf hc0
  exact hm.tr (gB_Row_value_270 q_p0 hF hm.1 q_w0)
set_option maxRecDepth 20000 in
set_option maxHeartbeats 2000000 in
theorem gB_Row_value_307 {N : Nat} {Q : Nat → Prop} {p0 : Nat} {p1 : Int32} (q_p0 : Q p0) {w0 : Nat} {w1 : Int32} {H : Hp} {r : Unit × Hp} (hF : B_Row_value_307 N p0 p1 w0 w1 H = some r) (hc0 : Cl Q H) (q_w0 : Q w0) : Rg Q H r.2 := by
  unfold B_Row_value_307 at hF
  have hm := Rg.rf hc0
  obtain ⟨q427, hG⟩ := ck_s hF; clear hF
  obtain ⟨v429, H430, z428, hF⟩ := bC_s hG; clear hG
  have gz_96 := (g_Row_push z428 hm.1 q_w0)
  replace hm : Rg Q H H430 := hm.tr gz_96
  have s_97 : Sa H H430 := (m_Row_push z428)
  have hr := Option.some.inj hF; subst hr
  exact hm
set_option maxRecDepth 20000 in
set_option maxHeartbeats 2000000 in
theorem gB_Row_value_344 {N : Nat} {Q : Nat → Prop} {p0 : Nat} {p1 : Int32} (q_p0 : Q p0) {w0 : Nat} {w1 : Int32} {H : Hp} {r : Unit × Hp} (hF : B_Row_value_344 N p0 p1 w0 w1 H = some r) (hc0 : Cl Q H) (q_w0 : Q w0) : Rg Q H r.2 := by
  unfold B_Row_value_344 at hF
  have hm := Rg.rf hc0
  obtain ⟨q431, hG⟩ := ck_s hF; clear hF
  obtain ⟨v433, H434, z432, hF⟩ := bC_s hG; clear hG
  have gz_98 := (g_Row_push z432 hm.1 q_w0)
  replace hm : Rg Q H H434 := hm.tr gz_98
  have s_99 : Sa H H434 := (m_Row_push z432)
  have hr := Option.some.inj hF; subst hr
  exact hm
set_option maxRecDepth 20000 in
set_option maxHeartbeats 2000000 in
theorem g_Row_value {N : Nat} {Q : Nat → Prop} {p0 : Nat} {p1 : Int32} {H : Hp} {r : Unit × Hp} (hF : F_Row_value N p0 p1 H = some r) (hc0 : Cl Q H) (q_p0 : Q p0) : Rg Q H r.2 := by
  unfold F_Row_value at hF
  have hm := Rg.rf hc0
  rcases ite_s hF with ⟨q_100, hG⟩ | ⟨q_100, hG⟩
  · clear hF
    obtain ⟨q436, hF⟩ := ck_s hG; clear hG
    obtain ⟨v438, H439, z437, hG⟩ := bC_s hF; clear hF
    have gz_101 := (g_Row_nextCode z437 hm.1 q_p0)
    replace hm : Rg Q H H439 := hm.tr gz_101
    have s_102 : Sa H H439 := (m_Row_nextCode z437)
    obtain ⟨v441, H442, z440, hF⟩ := bC_s hG; clear hG
    have gz_103 := (g_Row_push z440 hm.1 q_p0)
    replace hm : Rg Q H H442 := hm.tr gz_103
    have s_104 : Sa H H442 := (s_102).tr (m_Row_push z440)
    have hr := Option.some.inj hF; subst hr
    exact hm
  clear hF
  rcases ite_s hG with ⟨q_105, hF⟩ | ⟨q_105, hF⟩
  · clear hG
    obtain ⟨q444, hG⟩ := ck_s hF; clear hF
    obtain ⟨a445, e446, hF⟩ := rf_s hG; clear hG
    have qa445 : Q a445 := hm.1 _ _ _ q_p0 e446
    obtain ⟨x447, -, hG⟩ := bnd_g hF; clear hF
    obtain ⟨q448, hF⟩ := ck_s hG; clear hG
    obtain ⟨v450, H451, z449, hG⟩ := bC_s hF; clear hF
    have gz_106 := (g_World_numberAt z449 hm.1 qa445)
    replace hm : Rg Q H H451 := hm.tr gz_106
    have s_107 : Sa H H451 := (m_World_numberAt z449)
    obtain ⟨v453, H454, z452, hF⟩ := bC_s hG; clear hG
    have gz_108 := (g_Row_push z452 hm.1 q_p0)
    replace hm : Rg Q H H454 := hm.tr gz_108
    have s_109 : Sa H H454 := (s_107).tr (m_Row_push z452)
    have hr := Option.some.inj hF; subst hr
    exact hm
  clear hG
  rcases ite_s hF with ⟨q_110, hG⟩ | ⟨q_110, hG⟩
  · clear hF
    obtain ⟨q456, hF⟩ := ck_s hG; clear hG
    obtain ⟨a457, e458, hG⟩ := rf_s hF; clear hF
    have qa457 : Q a457 := hm.1 _ _ _ q_p0 e458
    obtain ⟨q459, hF⟩ := ck_s hG; clear hG
    obtain ⟨x460, -, hG⟩ := bnd_g hF; clear hF
    obtain ⟨v462, H463, z461, hF⟩ := bC_s hG; clear hG
    have gz_111 := (g_Row_push z461 hm.1 q_p0)
    replace hm : Rg Q H H463 := hm.tr gz_111
    have s_112 : Sa H H463 := (m_Row_push z461)
    have hr := Option.some.inj hF; subst hr
    exact hm
  clear hF
  rcases ite_s hG with ⟨q_113, hF⟩ | ⟨q_113, hF⟩
  · clear hG
    obtain ⟨q465, hG⟩ := ck_s hF; clear hF
    obtain ⟨a466, e467, hF⟩ := rf_s hG; clear hG
    have qa466 : Q a466 := hm.1 _ _ _ q_p0 e467
    obtain ⟨v469, H470, z468, hG⟩ := bC_s hF; clear hF
    have gz_114 := (g_Row_nextCode z468 hm.1 q_p0)
    replace hm : Rg Q H H470 := hm.tr gz_114
    have s_115 : Sa H H470 := (m_Row_nextCode z468)
    obtain ⟨n471, q472, hF⟩ := ar_s hG; clear hG
    rw [(s_115).1] at q472
    obtain ⟨q473, hG⟩ := ck_s hF; clear hF
    obtain ⟨x474, -, hF⟩ := bnd_g hG; clear hG
    obtain ⟨v476, H477, z475, hG⟩ := bC_s hF; clear hF
    have gz_116 := (g_Row_push z475 hm.1 q_p0)
    replace hm : Rg Q H H477 := hm.tr gz_116
    have s_117 : Sa H H477 := (s_115).tr (m_Row_push z475)
    have hr := Option.some.inj hG; subst hr
    exact hm
  clear hG
  rcases ite_s hF with ⟨q_118, hG⟩ | ⟨q_118, hG⟩
  · clear hF
    obtain ⟨q479, hF⟩ := ck_s hG; clear hG
    obtain ⟨a480, e481, hG⟩ := rf_s hF; clear hF
    have qa480 : Q a480 := hm.1 _ _ _ q_p0 e481
    obtain ⟨v483, H484, z482, hF⟩ := bC_s hG; clear hG
    have gz_119 := (g_Row_nextCode z482 hm.1 q_p0)
    replace hm : Rg Q H H484 := hm.tr gz_119
    have s_120 : Sa H H484 := (m_Row_nextCode z482)
    obtain ⟨v486, H487, z485, hG⟩ := bC_s hF; clear hF
    have gz_121 := (g_Row_pop z485 hm.1 q_p0)
    replace hm : Rg Q H H487 := hm.tr gz_121
    have s_122 : Sa H H487 := (s_120).tr (m_Row_pop z485)
    obtain ⟨n488, q489, hF⟩ := ar_s hG; clear hG
    rw [(s_122).1] at q489
    obtain ⟨q490, hG⟩ := ck_s hF; clear hF
    obtain ⟨H491, eH491, hF⟩ := bnd_g hG; clear hG
    replace hm : Rg Q H H491 := hm.tr (by rw [eH491]; exact Rg.sD hm.1 qa480)
    have s_123 : Sa H H491 := by rw [eH491]; exact s_122
    have hr := Option.some.inj hF; subst hr
    exact hm
  clear hF
  rcases ite_s hG with ⟨q_124, hF⟩ | ⟨q_124, hF⟩
  · clear hG
    obtain ⟨q493, hG⟩ := ck_s hF; clear hF
    obtain ⟨a494, e495, hF⟩ := rf_s hG; clear hG
    have qa494 : Q a494 := hm.1 _ _ _ q_p0 e495
    obtain ⟨x496, -, hG⟩ := bnd_g hF; clear hF
    obtain ⟨v498, H499, z497, hF⟩ := bC_s hG; clear hG
    have gz_125 := (g_Row_nextCode z497 hm.1 q_p0)
    replace hm : Rg Q H H499 := hm.tr gz_125
    have s_126 : Sa H H499 := (m_Row_nextCode z497)
    obtain ⟨q500, hG⟩ := ck_s hF; clear hF
    rw [(s_126).1] at q500
    obtain ⟨v502, H503, z501, hF⟩ := bC_s hG; clear hG
    have gz_127 := (g_World_read z501 hm.1 qa494)
    replace hm : Rg Q H H503 := hm.tr gz_127
    have s_128 : Sa H H503 := (s_126).tr (m_World_read z501)
    obtain ⟨v505, H506, z504, hG⟩ := bC_s hF; clear hF
    have gz_129 := (g_Row_push z504 hm.1 q_p0)
    replace hm : Rg Q H H506 := hm.tr gz_129
    have s_130 : Sa H H506 := (s_128).tr (m_Row_push z504)
    have hr := Option.some.inj hG; subst hr
    exact hm
  clear hG
  rcases ite_s hF with ⟨q_131, hG⟩ | ⟨q_131, hG⟩
  · clear hF
    obtain ⟨q508, hF⟩ := ck_s hG; clear hG
    obtain ⟨a509, e510, hG⟩ := rf_s hF; clear hF
    have qa509 : Q a509 := hm.1 _ _ _ q_p0 e510
    obtain ⟨x511, -, hF⟩ := bnd_g hG; clear hG
    obtain ⟨v513, H514, z512, hG⟩ := bC_s hF; clear hF
    have gz_132 := (g_Row_nextCode z512 hm.1 q_p0)
    replace hm : Rg Q H H514 := hm.tr gz_132
    have s_133 : Sa H H514 := (m_Row_nextCode z512)
    obtain ⟨v516, H517, z515, hF⟩ := bC_s hG; clear hG
    have gz_134 := (g_Row_pop z515 hm.1 q_p0)
    replace hm : Rg Q H H517 := hm.tr gz_134
    have s_135 : Sa H H517 := (s_133).tr (m_Row_pop z515)
    obtain ⟨q518, hG⟩ := ck_s hF; clear hF
    rw [(s_135).1] at q518
    obtain ⟨v520, H521, z519, hF⟩ := bC_s hG; clear hG
    have gz_136 := (g_World_write z519 hm.1 qa509)
    replace hm : Rg Q H H521 := hm.tr gz_136
    have s_137 : Sa H H521 := (s_135).tr (m_World_write z519)
    have hr := Option.some.inj hF; subst hr
    exact hm
  clear hF
  rcases ite_s hG with ⟨q_138, hF⟩ | ⟨q_138, hF⟩
  · clear hG
    obtain ⟨q523, hG⟩ := ck_s hF; clear hF
    obtain ⟨a524, e525, hF⟩ := rf_s hG; clear hG
    have qa524 : Q a524 := hm.1 _ _ _ q_p0 e525
    obtain ⟨v527, H528, z526, hG⟩ := bC_s hF; clear hF
    have gz_139 := (g_Row_nextCode z526 hm.1 q_p0)
    replace hm : Rg Q H H528 := hm.tr gz_139
    have s_140 : Sa H H528 := (m_Row_nextCode z526)
    obtain ⟨n529, q530, hF⟩ := ar_s hG; clear hG
    rw [(s_140).1] at q530
    obtain ⟨q531, hG⟩ := ck_s hF; clear hF
    obtain ⟨x532, -, hF⟩ := bnd_g hG; clear hG
    obtain ⟨x533, -, hG⟩ := bnd_g hF; clear hF
    obtain ⟨a534, e535, hF⟩ := rf_s hG; clear hG
    have qa534 : Q a534 := hm.1 _ _ _ q_p0 e535
    obtain ⟨q536, hG⟩ := ck_s hF; clear hF
    rw [(s_140).1] at q536
    obtain ⟨a537, e538, hF⟩ := rf_s hG; clear hG
    have qa537 : Q a537 := hm.1 _ _ _ qa534 e538
    obtain ⟨v540, H541, z539, hG⟩ := bC_s hF; clear hF
    have gz_141 := (g_Row_nextCode z539 hm.1 q_p0)
    replace hm : Rg Q H H541 := hm.tr gz_141
    have s_142 : Sa H H541 := (s_140).tr (m_Row_nextCode z539)
    obtain ⟨n542, q543, hF⟩ := ar_s hG; clear hG
    rw [(s_142).1] at q543
    obtain ⟨q544, hG⟩ := ck_s hF; clear hF
    obtain ⟨x545, -, hF⟩ := bnd_g hG; clear hG
    obtain ⟨v547, H548, z546, hG⟩ := bC_s hF; clear hF
    have gz_143 := (g_Row_push z546 hm.1 q_p0)
    replace hm : Rg Q H H548 := hm.tr gz_143
    have s_144 : Sa H H548 := (s_142).tr (m_Row_push z546)
    have hr := Option.some.inj hG; subst hr
    exact hm
  clear hG
  rcases ite_s hF with ⟨q_145, hG⟩ | ⟨q_145, hG⟩
  · clear hF
    obtain ⟨q550, hF⟩ := ck_s hG; clear hG
    obtain ⟨a551, e552, hG⟩ := rf_s hF; clear hF
    have qa551 : Q a551 := hm.1 _ _ _ q_p0 e552
    obtain ⟨v554, H555, z553, hF⟩ := bC_s hG; clear hG
    have gz_146 := (g_Row_pop z553 hm.1 q_p0)
    replace hm : Rg Q H H555 := hm.tr gz_146
    have s_147 : Sa H H555 := (m_Row_pop z553)
    obtain ⟨q556, hG⟩ := ck_s hF; clear hF
    rw [(s_147).1] at q556
    obtain ⟨v558, H559, z557, hF⟩ := bC_s hG; clear hG
    have gz_148 := (g_World_placeOf z557 hm.1 qa551)
    replace hm : Rg Q H H559 := hm.tr gz_148
    have s_149 : Sa H H559 := (s_147).tr (m_World_placeOf z557)
    obtain ⟨v561, H562, z560, hG⟩ := bC_s hF; clear hF
    have gz_150 := (g_Row_far z560 hm.1 q_p0)
    replace hm : Rg Q H H562 := hm.tr gz_150
    have s_151 : Sa H H562 := (s_149).tr (m_Row_far z560)
    have hr := Option.some.inj hG; subst hr
    exact hm
  clear hF
  rcases ite_s hG with ⟨q_152, hF⟩ | ⟨q_152, hF⟩
  · clear hG
    obtain ⟨q564, hG⟩ := ck_s hF; clear hF
    obtain ⟨v566, H567, z565, hF⟩ := bC_s hG; clear hG
    have gz_153 := (g_Row_pop z565 hm.1 q_p0)
    replace hm : Rg Q H H567 := hm.tr gz_153
    have s_154 : Sa H H567 := (m_Row_pop z565)
    rcases ite_s hF with ⟨q_155, hG⟩ | ⟨q_155, hG⟩
    · clear hF
      exact hm.tr (gB_Row_value_269 q_p0 hG hm.1 q_p0)
    · clear hF
      obtain ⟨a569, e570, hF⟩ := rf_s hG; clear hG
      have qa569 : Q a569 := hm.1 _ _ _ q_p0 e570
      obtain ⟨n571, q572, hG⟩ := ar_s hF; clear hF
      rw [(s_154).1] at q572
      rcases ite_s hG with ⟨q_156, hF⟩ | ⟨q_156, hF⟩
      · clear hG
        exact hm.tr (gB_Row_value_269 q_p0 hF hm.1 q_p0)
      · clear hG
        obtain ⟨a574, e575, hG⟩ := rf_s hF; clear hF
        have qa574 : Q a574 := hm.1 _ _ _ q_p0 e575
        obtain ⟨n576, q577, hF⟩ := ar_s hG; clear hG
        rw [(s_154).1] at q577
        obtain ⟨q578, hG⟩ := ck_s hF; clear hF
        obtain ⟨x579, -, hF⟩ := bnd_g hG; clear hG
        exact hm.tr (gB_Row_value_270 q_p0 hF hm.1 q_p0)
  clear hG
  rcases ite_s hF with ⟨q_157, hG⟩ | ⟨q_157, hG⟩
  · clear hF
    obtain ⟨q581, hF⟩ := ck_s hG; clear hG
    obtain ⟨v583, H584, z582, hG⟩ := bC_s hF; clear hF
    have gz_158 := (g_Row_pop z582 hm.1 q_p0)
    replace hm : Rg Q H H584 := hm.tr gz_158
    have s_159 : Sa H H584 := (m_Row_pop z582)
    obtain ⟨v586, H587, z585, hF⟩ := bC_s hG; clear hG
    have gz_160 := (g_Row_draw z585 hm.1 q_p0)
    replace hm : Rg Q H H587 := hm.tr gz_160
    have s_161 : Sa H H587 := (s_159).tr (m_Row_draw z585)
    have hr := Option.some.inj hF; subst hr
    exact hm
  clear hF
  rcases ite_s hG with ⟨q_162, hF⟩ | ⟨q_162, hF⟩
  · clear hG
    obtain ⟨q589, hG⟩ := ck_s hF; clear hF
    obtain ⟨a590, e591, hF⟩ := rf_s hG; clear hG
    have qa590 : Q a590 := hm.1 _ _ _ q_p0 e591
    obtain ⟨v593, H594, z592, hG⟩ := bC_s hF; clear hF
    have gz_163 := (g_Row_pop z592 hm.1 q_p0)
    replace hm : Rg Q H H594 := hm.tr gz_163
    have s_164 : Sa H H594 := (m_Row_pop z592)
    obtain ⟨q595, hF⟩ := ck_s hG; clear hG
    rw [(s_164).1] at q595
    obtain ⟨v597, H598, z596, hG⟩ := bC_s hF; clear hF
    have gz_165 := (g_World_placeOf z596 hm.1 qa590)
    replace hm : Rg Q H H598 := hm.tr gz_165
    have s_166 : Sa H H598 := (s_164).tr (m_World_placeOf z596)
    rcases ite_s hG with ⟨q_167, hF⟩ | ⟨q_167, hF⟩
    · clear hG
      exact hm.tr (gB_Row_value_307 q_p0 hF hm.1 q_p0)
    · clear hG
      exact hm.tr (gB_Row_value_307 q_p0 hF hm.1 q_p0)
  clear hG
  rcases ite_s hF with ⟨q_168, hG⟩ | ⟨q_168, hG⟩
  · clear hF
    obtain ⟨q601, hF⟩ := ck_s hG; clear hG
    obtain ⟨a602, e603, hG⟩ := rf_s hF; clear hF
    have qa602 : Q a602 := hm.1 _ _ _ q_p0 e603
    obtain ⟨a604, e605, hF⟩ := rf_s hG; clear hG
    have qa604 : Q a604 := hm.1 _ _ _ q_p0 e605
    obtain ⟨v607, H608, z606, hG⟩ := bC_s hF; clear hF
    have gz_169 := (g_Row_pop z606 hm.1 q_p0)
    replace hm : Rg Q H H608 := hm.tr gz_169
    have s_170 : Sa H H608 := (m_Row_pop z606)
    obtain ⟨q609, hF⟩ := ck_s hG; clear hG
    rw [(s_170).1] at q609
    obtain ⟨v611, H612, z610, hG⟩ := bC_s hF; clear hF
    have gz_171 := (g_World_placeOf z610 hm.1 qa604)
    replace hm : Rg Q H H612 := hm.tr gz_171
    have s_172 : Sa H H612 := (s_170).tr (m_World_placeOf z610)
    obtain ⟨v614, H615, z613, hF⟩ := bC_s hG; clear hG
    have gz_173 := (g_Row_nextCode z613 hm.1 q_p0)
    replace hm : Rg Q H H615 := hm.tr gz_173
    have s_174 : Sa H H615 := (s_172).tr (m_Row_nextCode z613)
    obtain ⟨q616, hG⟩ := ck_s hF; clear hF
    rw [(s_174).1] at q616
    obtain ⟨v618, H619, z617, hF⟩ := bC_s hG; clear hG
    have gz_175 := (g_World_owns z617 hm.1 qa602)
    replace hm : Rg Q H H619 := hm.tr gz_175
    have s_176 : Sa H H619 := (s_174).tr (m_World_owns z617)
    rcases ite_s hF with ⟨q_177, hG⟩ | ⟨q_177, hG⟩
    · clear hF
      exact hm.tr (gB_Row_value_344 q_p0 hG hm.1 q_p0)
    · clear hF
      exact hm.tr (gB_Row_value_344 q_p0 hG hm.1 q_p0)
  clear hF
  obtain ⟨q621, hF⟩ := ck_s hG; clear hG
  obtain ⟨v623, H624, z622, hG⟩ := bC_s hF; clear hF
  have gz_178 := (g_Row_pop z622 hm.1 q_p0)
  replace hm : Rg Q H H624 := hm.tr gz_178
  have s_179 : Sa H H624 := (m_Row_pop z622)
  obtain ⟨v626, H627, z625, hF⟩ := bC_s hG; clear hG
  have gz_180 := (g_Math_min z625 hm.1)
  replace hm : Rg Q H H627 := hm.tr gz_180
  have s_181 : Sa H H627 := (s_179).tr (m_Math_min z625)
  obtain ⟨v629, H630, z628, hG⟩ := bC_s hF; clear hF
  have gz_182 := (g_Math_max z628 hm.1)
  replace hm : Rg Q H H630 := hm.tr gz_182
  have s_183 : Sa H H630 := (s_181).tr (m_Math_max z628)
  obtain ⟨v632, H633, z631, hF⟩ := bC_s hG; clear hG
  have gz_184 := (g_Row_push z631 hm.1 q_p0)
  replace hm : Rg Q H H633 := hm.tr gz_184
  have s_185 : Sa H H633 := (s_183).tr (m_Row_push z631)
  have hr := Option.some.inj hF; subst hr
  exact hm
set_option maxRecDepth 20000 in
set_option maxHeartbeats 2000000 in
theorem g_Row_compared {N : Nat} {Q : Nat → Prop} {p0 : Int32} {p1 : Int32} {p2 : Int32} {H : Hp} {r : Int32 × Hp} (hF : F_Row_compared N p0 p1 p2 H = some r) (hc0 : Cl Q H) : Rg Q H r.2 := by
  unfold F_Row_compared at hF
  have hm := Rg.rf hc0
  rcases ite_s hF with ⟨q_12, hG⟩ | ⟨q_12, hG⟩
  · clear hF
    rcases ite_s hG with ⟨q_13, hF⟩ | ⟨q_13, hF⟩
    · clear hG
      have hr := Option.some.inj hF; subst hr
      exact hm
    · clear hG
      have hr := Option.some.inj hF; subst hr
      exact hm
  clear hF
  rcases ite_s hG with ⟨q_14, hF⟩ | ⟨q_14, hF⟩
  · clear hG
    rcases ite_s hF with ⟨q_15, hG⟩ | ⟨q_15, hG⟩
    · clear hF
      have hr := Option.some.inj hG; subst hr
      exact hm
    · clear hF
      have hr := Option.some.inj hG; subst hr
      exact hm
  clear hG
  rcases ite_s hF with ⟨q_16, hG⟩ | ⟨q_16, hG⟩
  · clear hF
    rcases ite_s hG with ⟨q_17, hF⟩ | ⟨q_17, hF⟩
    · clear hG
      have hr := Option.some.inj hF; subst hr
      exact hm
    · clear hG
      have hr := Option.some.inj hF; subst hr
      exact hm
  clear hF
  rcases ite_s hG with ⟨q_18, hF⟩ | ⟨q_18, hF⟩
  · clear hG
    rcases ite_s hF with ⟨q_19, hG⟩ | ⟨q_19, hG⟩
    · clear hF
      have hr := Option.some.inj hG; subst hr
      exact hm
    · clear hF
      have hr := Option.some.inj hG; subst hr
      exact hm
  clear hG
  rcases ite_s hF with ⟨q_20, hG⟩ | ⟨q_20, hG⟩
  · clear hF
    rcases ite_s hG with ⟨q_21, hF⟩ | ⟨q_21, hF⟩
    · clear hG
      have hr := Option.some.inj hF; subst hr
      exact hm
    · clear hG
      have hr := Option.some.inj hF; subst hr
      exact hm
  clear hF
  rcases ite_s hG with ⟨q_22, hF⟩ | ⟨q_22, hF⟩
  · clear hG
    have hr := Option.some.inj hF; subst hr
    exact hm
  · clear hG
    have hr := Option.some.inj hF; subst hr
    exact hm
set_option maxRecDepth 20000 in
set_option maxHeartbeats 2000000 in
theorem gB_Row_ints_32 {N : Nat} {Q : Nat → Prop} {p0 : Nat} {p1 : Int32} (q_p0 : Q p0) {w0 : Nat} {w1 : Int32} {H : Hp} {r : Unit × Hp} (hF : B_Row_ints_32 N p0 p1 w0 w1 H = some r) (hc0 : Cl Q H) (q_w0 : Q w0) : Rg Q H r.2 := by
  unfold B_Row_ints_32 at hF
  have hm := Rg.rf hc0
  obtain ⟨q109, hG⟩ := ck_s hF; clear hF
  obtain ⟨v111, H112, z110, hF⟩ := bC_s hG; clear hG
  have gz_37 := (g_Row_push z110 hm.1 q_w0)
  replace hm : Rg Q H H112 := hm.tr gz_37
  have s_38 : Sa H H112 := (m_Row_push z110)
  have hr := Option.some.inj hF; subst hr
  exact hm
set_option maxRecDepth 20000 in
set_option maxHeartbeats 2000000 in
theorem gB_Row_ints_17 {N : Nat} {Q : Nat → Prop} {p0 : Nat} {p1 : Int32} (q_p0 : Q p0) {l2 : Int32} {H : Hp} {r : Unit × Hp} (hF : B_Row_ints_17 N p0 p1 l2 H = some r) (hc0 : Cl Q H) : Rg Q H r.2 := by
  unfold B_Row_ints_17 at hF
  have hm := Rg.rf hc0
  rcases ite_s hF with ⟨q_39, hG⟩ | ⟨q_39, hG⟩
  · clear hF
    exact hm.tr (gB_Row_ints_32 q_p0 hG hm.1 q_p0)
  · clear hF
    exact hm.tr (gB_Row_ints_32 q_p0 hG hm.1 q_p0)
set_option maxRecDepth 20000 in
set_option maxHeartbeats 2000000 in
theorem gB_Row_ints_88 {N : Nat} {Q : Nat → Prop} {p0 : Nat} {p1 : Int32} (q_p0 : Q p0) {l2 : Int32} {l3 : Int32} {H : Hp} {r : Unit × Hp} (hF : B_Row_ints_88 N p0 p1 l2 l3 H = some r) (hc0 : Cl Q H) : Rg Q H r.2 := by
  unfold B_Row_ints_88 at hF
  have hm := Rg.rf hc0
  rcases ite_s hF with ⟨q_40, hG⟩ | ⟨q_40, hG⟩
  · clear hF
    obtain ⟨q115, hF⟩ := ck_s hG; clear hG
    obtain ⟨v117, H118, z116, hG⟩ := bC_s hF; clear hF
    have gz_41 := (g_Row_push z116 hm.1 q_p0)
    replace hm : Rg Q H H118 := hm.tr gz_41
    have s_42 : Sa H H118 := (m_Row_push z116)
    have hr := Option.some.inj hG; subst hr
    exact hm
  clear hF
  rcases ite_s hG with ⟨q_43, hF⟩ | ⟨q_43, hF⟩
  · clear hG
    obtain ⟨q120, hG⟩ := ck_s hF; clear hF
    obtain ⟨v122, H123, z121, hF⟩ := bC_s hG; clear hG
    have gz_44 := (g_Row_push z121 hm.1 q_p0)
    replace hm : Rg Q H H123 := hm.tr gz_44
    have s_45 : Sa H H123 := (m_Row_push z121)
    have hr := Option.some.inj hF; subst hr
    exact hm
  clear hG
  rcases ite_s hF with ⟨q_46, hG⟩ | ⟨q_46, hG⟩
  · clear hF
    obtain ⟨q125, hF⟩ := ck_s hG; clear hG
    obtain ⟨v127, H128, z126, hG⟩ := bC_s hF; clear hF
    have gz_47 := (g_Row_push z126 hm.1 q_p0)
    replace hm : Rg Q H H128 := hm.tr gz_47
    have s_48 : Sa H H128 := (m_Row_push z126)
    have hr := Option.some.inj hG; subst hr
    exact hm
  clear hF
  rcases ite_s hG with ⟨q_49, hF⟩ | ⟨q_49, hF⟩
  · clear hG
    obtain ⟨q130, hG⟩ := ck_s hF; clear hF
    obtain ⟨q131, hF⟩ := ck_s hG; clear hG
    obtain ⟨v133, H134, z132, hG⟩ := bC_s hF; clear hF
    have gz_50 := (g_Row_push z132 hm.1 q_p0)
    replace hm : Rg Q H H134 := hm.tr gz_50
    have s_51 : Sa H H134 := (m_Row_push z132)
    have hr := Option.some.inj hG; subst hr
    exact hm
  clear hG
  obtain ⟨q135, hG⟩ := ck_s hF; clear hF
  obtain ⟨q136, hF⟩ := ck_s hG; clear hG
  obtain ⟨v138, H139, z137, hG⟩ := bC_s hF; clear hF
  have gz_52 := (g_Row_push z137 hm.1 q_p0)
  replace hm : Rg Q H H139 := hm.tr gz_52
  have s_53 : Sa H H139 := (m_Row_push z137)
  have hr := Option.some.inj hG; subst hr
  exact hm
set_option maxRecDepth 20000 in
set_option maxHeartbeats 2000000 in
theorem gB_Row_ints_62 {N : Nat} {Q : Nat → Prop} {p0 : Nat} {p1 : Int32} (q_p0 : Q p0) {w0 : Nat} {w1 : Int32} {H : Hp} {r : Unit × Hp} (hF : B_Row_ints_62 N p0 p1 w0 w1 H = some r) (hc0 : Cl Q H) (q_w0 : Q w0) : Rg Q H r.2 := by
  unfold B_Row_ints_62 at hF
  have hm := Rg.rf hc0
  obtain ⟨q140, hG⟩ := ck_s hF; clear hF
  obtain ⟨v142, H143, z141, hF⟩ := bC_s hG; clear hG
  have gz_54 := (g_Row_push z141 hm.1 q_w0)
  replace hm : Rg Q H H143 := hm.tr gz_54
  have s_55 : Sa H H143 := (m_Row_push z141)
  have hr := Option.some.inj hF; subst hr
  exact hm
set_option maxRecDepth 20000 in
set_option maxHeartbeats 2000000 in
theorem g_Row_ints {N : Nat} {Q : Nat → Prop} {p0 : Nat} {p1 : Int32} {H : Hp} {r : Unit × Hp} (hF : F_Row_ints N p0 p1 H = some r) (hc0 : Cl Q H) (q_p0 : Q p0) : Rg Q H r.2 := by
  unfold F_Row_ints at hF
  have hm := Rg.rf hc0
  obtain ⟨q144, hG⟩ := ck_s hF; clear hF
  obtain ⟨v146, H147, z145, hF⟩ := bC_s hG; clear hG
  have gz_56 := (g_Row_pop z145 hm.1 q_p0)
  replace hm : Rg Q H H147 := hm.tr gz_56
  have s_57 : Sa H H147 := (m_Row_pop z145)
  rcases ite_s hF with ⟨q_58, hG⟩ | ⟨q_58, hG⟩
  · clear hF
    exact hm.tr (gB_Row_ints_17 q_p0 hG hm.1)
  · clear hF
    rcases ite_s hG with ⟨q_59, hF⟩ | ⟨q_59, hF⟩
    · clear hG
      exact hm.tr (gB_Row_ints_17 q_p0 hF hm.1)
    · clear hG
      obtain ⟨v151, H152, z150, hG⟩ := bC_s hF; clear hF
      have gz_60 := (g_Row_pop z150 hm.1 q_p0)
      replace hm : Rg Q H H152 := hm.tr gz_60
      have s_61 : Sa H H152 := (s_57).tr (m_Row_pop z150)
      rcases ite_s hG with ⟨q_62, hF⟩ | ⟨q_62, hF⟩
      · clear hG
        rcases ite_s hF with ⟨q_63, hG⟩ | ⟨q_63, hG⟩
        · clear hF
          rcases ite_s hG with ⟨q_64, hF⟩ | ⟨q_64, hF⟩
          · clear hG
            obtain ⟨H156, eH156, hG⟩ := bnd_g hF; clear hF
            replace hm : Rg Q H H156 := hm.tr (by rw [eH156]; exact Rg.sD hm.1 q_p0)
            have s_65 : Sa H H156 := by rw [eH156]; exact s_61
            have hr := Option.some.inj hG; subst hr
            exact hm
          · clear hG
            rcases ite_s hF with ⟨q_66, hG⟩ | ⟨q_66, hG⟩
            · clear hF
              obtain ⟨H158, eH158, hF⟩ := bnd_g hG; clear hG
              replace hm : Rg Q H H158 := hm.tr (by rw [eH158]; exact Rg.sD hm.1 q_p0)
              have s_67 : Sa H H158 := by rw [eH158]; exact s_61
              have hr := Option.some.inj hF; subst hr
              exact hm
            · clear hF
              exact hm.tr (gB_Row_ints_88 q_p0 hG hm.1)
        · clear hF
          exact hm.tr (gB_Row_ints_88 q_p0 hG hm.1)
      · clear hG
        obtain ⟨v160, H161, z159, hG⟩ := bC_s hF; clear hF
        have gz_68 := (g_Row_compared z159 hm.1)
        replace hm : Rg Q H H161 := hm.tr gz_68
        have s_69 : Sa H H161 := (s_61).tr (m_Row_compared z159)
        rcases ite_s hG with ⟨q_70, hF⟩ | ⟨q_70, hF⟩
        · clear hG
          exact hm.tr (gB_Row_ints_62 q_p0 hF hm.1 q_p0)
        · clear hG
          exact hm.tr (gB_Row_ints_62 q_p0 hF hm.1 q_p0)
set_option maxRecDepth 20000 in
set_option maxHeartbeats 2000000 in
theorem g_Math_floorDiv {N : Nat} {Q : Nat → Prop} {p0 : Int64} {p2 : Int64} {H : Hp} {r : Int64 × Hp} (hF : F_Math_floorDiv N p0 p2 H = some r) (hc0 : Cl Q H) : Rg Q H r.2 := by
  unfold F_Math_floorDiv at hF
  have hm := Rg.rf hc0
  obtain ⟨q7, hG⟩ := ck_s hF; clear hF
  rcases ite_s hG with ⟨q_3, hF⟩ | ⟨q_3, hF⟩
  · clear hG
    have hr := Option.some.inj hF; subst hr
    exact hm
  · clear hG
    rcases ite_s hF with ⟨q_4, hG⟩ | ⟨q_4, hG⟩
    · clear hF
      have hr := Option.some.inj hG; subst hr
      exact hm
    · clear hF
      have hr := Option.some.inj hG; subst hr
      exact hm
set_option maxRecDepth 20000 in
set_option maxHeartbeats 2000000 in
theorem gB_Row_rounded_81 {N : Nat} {Q : Nat → Prop} {p0 : Int64} {p2 : Int64} {l8 : Int64} {w0 : Int32} {H : Hp} {r : Int64 × Hp} (hF : B_Row_rounded_81 N p0 p2 l8 w0 H = some r) (hc0 : Cl Q H) : Rg Q H r.2 := by
  unfold B_Row_rounded_81 at hF
  have hm := Rg.rf hc0
  rcases ite_s hF with ⟨q_11, hG⟩ | ⟨q_11, hG⟩
  · clear hF
    have hr := Option.some.inj hG; subst hr
    exact hm
  · clear hF
    have hr := Option.some.inj hG; subst hr
    exact hm
set_option maxRecDepth 20000 in
set_option maxHeartbeats 2000000 in
theorem gB_Row_rounded_76 {N : Nat} {Q : Nat → Prop} {p0 : Int64} {p2 : Int64} {l8 : Int64} {H : Hp} {r : Int64 × Hp} (hF : B_Row_rounded_76 N p0 p2 l8 H = some r) (hc0 : Cl Q H) : Rg Q H r.2 := by
  unfold B_Row_rounded_76 at hF
  have hm := Rg.rf hc0
  exact hm.tr (gB_Row_rounded_81 hF hm.1)
set_option maxRecDepth 20000 in
set_option maxHeartbeats 2000000 in
theorem gB_Row_rounded_80 {N : Nat} {Q : Nat → Prop} {p0 : Int64} {p2 : Int64} {l8 : Int64} {H : Hp} {r : Int64 × Hp} (hF : B_Row_rounded_80 N p0 p2 l8 H = some r) (hc0 : Cl Q H) : Rg Q H r.2 := by
  unfold B_Row_rounded_80 at hF
  have hm := Rg.rf hc0
  exact hm.tr (gB_Row_rounded_81 hF hm.1)
set_option maxRecDepth 20000 in
set_option maxHeartbeats 2000000 in
theorem gB_Row_rounded_20 {N : Nat} {Q : Nat → Prop} {p0 : Int64} {p2 : Int64} {w0 : Int64} {H : Hp} {r : Int64 × Hp} (hF : B_Row_rounded_20 N p0 p2 w0 H = some r) (hc0 : Cl Q H) : Rg Q H r.2 := by
  unfold B_Row_rounded_20 at hF
  have hm := Rg.rf hc0
  obtain ⟨v29, H30, z28, hG⟩ := bC_s hF; clear hF
  have gz_12 := (g_Math_abs z28 hm.1)
  replace hm : Rg Q H H30 := hm.tr gz_12
  have s_13 : Sa H H30 := (m_Math_abs z28)
  obtain ⟨v32, H33, z31, hF⟩ := bC_s hG; clear hG
  have gz_14 := (g_Math_floorDiv z31 hm.1)
  replace hm : Rg Q H H33 := hm.tr gz_14
  have s_15 : Sa H H33 := (s_13).tr (m_Math_floorDiv z31)
  obtain ⟨x34, -, hG⟩ := bnd_g hF; clear hF
  rcases ite_s hG with ⟨q_16, hF⟩ | ⟨q_16, hF⟩
  · clear hG
    exact hm.tr (gB_Row_rounded_76 hF hm.1)
  · clear hG
    rcases ite_s hF with ⟨q_17, hG⟩ | ⟨q_17, hG⟩
    · clear hF
      rcases ite_s hG with ⟨q_18, hF⟩ | ⟨q_18, hF⟩
      · clear hG
        exact hm.tr (gB_Row_rounded_76 hF hm.1)
      · clear hG
        exact hm.tr (gB_Row_rounded_80 hF hm.1)
    · clear hF
      exact hm.tr (gB_Row_rounded_80 hG hm.1)
set_option maxRecDepth 20000 in
set_option maxHeartbeats 2000000 in
theorem g_Row_rounded {N : Nat} {Q : Nat → Prop} {p0 : Int64} {p2 : Int64} {H : Hp} {r : Int64 × Hp} (hF : F_Row_rounded N p0 p2 H = some r) (hc0 : Cl Q H) : Rg Q H r.2 := by
  unfold F_Row_rounded at hF
  have hm := Rg.rf hc0
  rcases ite_s hF with ⟨q_19, hG⟩ | ⟨q_19, hG⟩
  · clear hF
    have hr := Option.some.inj hG; subst hr
    exact hm
  · clear hF
    rcases ite_s hG with ⟨q_20, hF⟩ | ⟨q_20, hF⟩
    · clear hG
      exact hm.tr (gB_Row_rounded_20 hF hm.1)
    · clear hG
      exact hm.tr (gB_Row_rounded_20 hF hm.1)
set_option maxRecDepth 20000 in
set_option maxHeartbeats 2000000 in
theorem gB_Row_rootOf_32 {N : Nat} {Q : Nat → Prop} {p0 : Int64} {kq6 : Int64 → Int32 → Hp → Option (Int64 × Hp)} (hg6 : ∀ (l2 : Int64) (l4 : Int32) (H : Hp) (r : Int64 × Hp), kq6 l2 l4 H = some r → Cl Q H → Rg Q H r.2) {l2 : Int64} {l4 : Int32} {H : Hp} {r : Int64 × Hp} (hF : B_Row_rootOf_32 N p0 kq6 l2 l4 H = some r) (hc0 : Cl Q H) : Rg Q H r.2 := by
  unfold B_Row_rootOf_32 at hF
  have hm := Rg.rf hc0
  exact hm.tr (hg6 l2 (l4 + (-1)) H r hF hm.1)
set_option maxRecDepth 20000 in
set_option maxHeartbeats 2000000 in
theorem gB_Row_rootOf_6 {N : Nat} {Q : Nat → Prop} {p0 : Int64} : ∀ (n : Nat) (l2 : Int64) (l4 : Int32) (H : Hp) (r : Int64 × Hp), B_Row_rootOf_6 N p0 n l2 l4 H = some r → Cl Q H → Rg Q H r.2 := by
  intro n
  induction n with
  | zero => intro l2 l4 H r hF; rw [B_Row_rootOf_6] at hF; cases hF
  | succ n ih =>
    intro l2 l4 H r hF hc0
    rw [B_Row_rootOf_6] at hF
    have hm := Rg.rf hc0
    rcases ite_s hF with ⟨q_3, hG⟩ | ⟨q_3, hG⟩
    · clear hF
      have hr := Option.some.inj hG; subst hr
      exact hm
    · clear hF
      obtain ⟨x8, -, hF⟩ := bnd_g hG; clear hG
      rcases ite_s hF with ⟨q_4, hG⟩ | ⟨q_4, hG⟩
      · clear hF
        exact hm.tr (gB_Row_rootOf_32 ih hG hm.1)
      · clear hF
        exact hm.tr (gB_Row_rootOf_32 ih hG hm.1)
set_option maxRecDepth 20000 in
set_option maxHeartbeats 2000000 in
theorem g_Row_rootOf {N : Nat} {Q : Nat → Prop} {p0 : Int64} {H : Hp} {r : Int64 × Hp} (hF : F_Row_rootOf N p0 H = some r) (hc0 : Cl Q H) : Rg Q H r.2 := by
  unfold F_Row_rootOf at hF
  have hm := Rg.rf hc0
  exact hm.tr (gB_Row_rootOf_6 N 0 23 H r hF hm.1)
set_option maxRecDepth 20000 in
set_option maxHeartbeats 2000000 in
theorem gB_Row_fixes_182 {N : Nat} {Q : Nat → Prop} {p0 : Nat} {p1 : Int32} (q_p0 : Q p0) {l4 : Int64} {H : Hp} {r : Unit × Hp} (hF : B_Row_fixes_182 N p0 p1 l4 H = some r) (hc0 : Cl Q H) : Rg Q H r.2 := by
  unfold B_Row_fixes_182 at hF
  have hm := Rg.rf hc0
  obtain ⟨v110, H111, z109, hG⟩ := bC_s hF; clear hF
  have gz_36 := (g_Math_min2 z109 hm.1)
  replace hm : Rg Q H H111 := hm.tr gz_36
  have s_37 : Sa H H111 := (m_Math_min2 z109)
  obtain ⟨v113, H114, z112, hF⟩ := bC_s hG; clear hG
  have gz_38 := (g_Math_max2 z112 hm.1)
  replace hm : Rg Q H H114 := hm.tr gz_38
  have s_39 : Sa H H114 := (s_37).tr (m_Math_max2 z112)
  obtain ⟨q115, hG⟩ := ck_s hF; clear hF
  rw [(s_39).1] at q115
  obtain ⟨v117, H118, z116, hF⟩ := bC_s hG; clear hG
  have gz_40 := (g_Row_push z116 hm.1 q_p0)
  replace hm : Rg Q H H118 := hm.tr gz_40
  have s_41 : Sa H H118 := (s_39).tr (m_Row_push z116)
  have hr := Option.some.inj hF; subst hr
  exact hm
set_option maxRecDepth 20000 in
set_option maxHeartbeats 2000000 in
theorem gB_Row_fixes_124 {N : Nat} {Q : Nat → Prop} {p0 : Nat} {p1 : Int32} (q_p0 : Q p0) {l2 : Int64} {l4 : Int64} {w0 : Nat} {w1 : Int32} {H : Hp} {r : Unit × Hp} (hF : B_Row_fixes_124 N p0 p1 l2 l4 w0 w1 H = some r) (hc0 : Cl Q H) (q_w0 : Q w0) : Rg Q H r.2 := by
  unfold B_Row_fixes_124 at hF
  have hm := Rg.rf hc0
  obtain ⟨q119, hG⟩ := ck_s hF; clear hF
  obtain ⟨H120, eH120, hF⟩ := bnd_g hG; clear hG
  replace hm : Rg Q H H120 := hm.tr (by rw [eH120]; exact Rg.sD hm.1 q_w0)
  have s_42 : Sa H H120 := by rw [eH120]; exact Sa.rf _
  obtain ⟨v122, H123, z121, hG⟩ := bC_s hF; clear hF
  have gz_43 := (g_Row_rounded z121 hm.1)
  replace hm : Rg Q H H123 := hm.tr gz_43
  have s_44 : Sa H H123 := (s_42).tr (m_Row_rounded z121)
  exact hm.tr (gB_Row_fixes_182 q_p0 hG hm.1)
set_option maxRecDepth 20000 in
set_option maxHeartbeats 2000000 in
theorem gB_Row_fixes_150 {N : Nat} {Q : Nat → Prop} {p0 : Nat} {p1 : Int32} (q_p0 : Q p0) {l2 : Int64} {w0 : Nat} {w1 : Int32} {H : Hp} {r : Unit × Hp} (hF : B_Row_fixes_150 N p0 p1 l2 w0 w1 H = some r) (hc0 : Cl Q H) (q_w0 : Q w0) : Rg Q H r.2 := by
  unfold B_Row_fixes_150 at hF
  have hm := Rg.rf hc0
  obtain ⟨q124, hG⟩ := ck_s hF; clear hF
  obtain ⟨H125, eH125, hF⟩ := bnd_g hG; clear hG
  replace hm : Rg Q H H125 := hm.tr (by rw [eH125]; exact Rg.sD hm.1 q_w0)
  have s_45 : Sa H H125 := by rw [eH125]; exact Sa.rf _
  obtain ⟨v127, H128, z126, hG⟩ := bC_s hF; clear hF
  have gz_46 := (g_Row_rootOf z126 hm.1)
  replace hm : Rg Q H H128 := hm.tr gz_46
  have s_47 : Sa H H128 := (s_45).tr (m_Row_rootOf z126)
  exact hm.tr (gB_Row_fixes_182 q_p0 hG hm.1)
set_option maxRecDepth 20000 in
set_option maxHeartbeats 2000000 in
theorem g_Row_fixes {N : Nat} {Q : Nat → Prop} {p0 : Nat} {p1 : Int32} {H : Hp} {r : Unit × Hp} (hF : F_Row_fixes N p0 p1 H = some r) (hc0 : Cl Q H) (q_p0 : Q p0) : Rg Q H r.2 := by
  unfold F_Row_fixes at hF
  have hm := Rg.rf hc0
  obtain ⟨q129, hG⟩ := ck_s hF; clear hF
  obtain ⟨v131, H132, z130, hF⟩ := bC_s hG; clear hG
  have gz_48 := (g_Row_pop z130 hm.1 q_p0)
  replace hm : Rg Q H H132 := hm.tr gz_48
  have s_49 : Sa H H132 := (m_Row_pop z130)
  obtain ⟨x133, -, hG⟩ := bnd_g hF; clear hF
  rcases ite_s hG with ⟨q_50, hF⟩ | ⟨q_50, hF⟩
  · clear hG
    exact hm.tr (gB_Row_fixes_182 q_p0 hF hm.1)
  clear hG
  rcases ite_s hF with ⟨q_51, hG⟩ | ⟨q_51, hG⟩
  · clear hF
    obtain ⟨v137, H138, z136, hF⟩ := bC_s hG; clear hG
    have gz_52 := (g_Row_pop z136 hm.1 q_p0)
    replace hm : Rg Q H H138 := hm.tr gz_52
    have s_53 : Sa H H138 := (s_49).tr (m_Row_pop z136)
    obtain ⟨x139, -, hG⟩ := bnd_g hF; clear hF
    exact hm.tr (gB_Row_fixes_182 q_p0 hG hm.1)
  clear hF
  rcases ite_s hG with ⟨q_54, hF⟩ | ⟨q_54, hF⟩
  · clear hG
    obtain ⟨v142, H143, z141, hG⟩ := bC_s hF; clear hF
    have gz_55 := (g_Row_pop z141 hm.1 q_p0)
    replace hm : Rg Q H H143 := hm.tr gz_55
    have s_56 : Sa H H143 := (s_49).tr (m_Row_pop z141)
    obtain ⟨x144, -, hF⟩ := bnd_g hG; clear hG
    exact hm.tr (gB_Row_fixes_182 q_p0 hF hm.1)
  clear hG
  rcases ite_s hF with ⟨q_57, hG⟩ | ⟨q_57, hG⟩
  · clear hF
    obtain ⟨v147, H148, z146, hF⟩ := bC_s hG; clear hG
    have gz_58 := (g_Row_pop z146 hm.1 q_p0)
    replace hm : Rg Q H H148 := hm.tr gz_58
    have s_59 : Sa H H148 := (s_49).tr (m_Row_pop z146)
    obtain ⟨v150, H151, z149, hG⟩ := bC_s hF; clear hF
    have gz_60 := (g_Row_rounded z149 hm.1)
    replace hm : Rg Q H H151 := hm.tr gz_60
    have s_61 : Sa H H151 := (s_59).tr (m_Row_rounded z149)
    exact hm.tr (gB_Row_fixes_182 q_p0 hG hm.1)
  clear hF
  rcases ite_s hG with ⟨q_62, hF⟩ | ⟨q_62, hF⟩
  · clear hG
    obtain ⟨v154, H155, z153, hG⟩ := bC_s hF; clear hF
    have gz_63 := (g_Row_pop z153 hm.1 q_p0)
    replace hm : Rg Q H H155 := hm.tr gz_63
    have s_64 : Sa H H155 := (s_49).tr (m_Row_pop z153)
    obtain ⟨x156, -, hF⟩ := bnd_g hG; clear hG
    rcases ite_s hF with ⟨q_65, hG⟩ | ⟨q_65, hG⟩
    · clear hF
      exact hm.tr (gB_Row_fixes_124 q_p0 hG hm.1 q_p0)
    · clear hF
      exact hm.tr (gB_Row_fixes_124 q_p0 hG hm.1 q_p0)
  clear hG
  rcases ite_s hF with ⟨q_66, hG⟩ | ⟨q_66, hG⟩
  · clear hF
    rcases ite_s hG with ⟨q_67, hF⟩ | ⟨q_67, hF⟩
    · clear hG
      exact hm.tr (gB_Row_fixes_150 q_p0 hF hm.1 q_p0)
    · clear hG
      exact hm.tr (gB_Row_fixes_150 q_p0 hF hm.1 q_p0)
  clear hF
  rcases ite_s hG with ⟨q_68, hF⟩ | ⟨q_68, hF⟩
  · clear hG
    obtain ⟨x161, -, hG⟩ := bnd_g hF; clear hF
    exact hm.tr (gB_Row_fixes_182 q_p0 hG hm.1)
  clear hG
  obtain ⟨x162, -, hG⟩ := bnd_g hF; clear hF
  exact hm.tr (gB_Row_fixes_182 q_p0 hG hm.1)
set_option maxRecDepth 20000 in
set_option maxHeartbeats 2000000 in
theorem g_World_noteFailure {N : Nat} {Q : Nat → Prop} {p0 : Nat} {p1 : Int32} {p2 : Int32} {p3 : Int32} {H : Hp} {r : Unit × Hp} (hF : F_World_noteFailure N p0 p1 p2 p3 H = some r) (hc0 : Cl Q H) (q_p0 : Q p0) : Rg Q H r.2 := by
  unfold F_World_noteFailure at hF
  have hm := Rg.rf hc0
  obtain ⟨q17, hG⟩ := ck_s hF; clear hF
  obtain ⟨x18, -, hF⟩ := bnd_g hG; clear hG
  obtain ⟨H19, eH19, hG⟩ := bnd_g hF; clear hF
  replace hm : Rg Q H H19 := hm.tr (by rw [eH19]; exact Rg.sD hm.1 q_p0)
  have s_10 : Sa H H19 := by rw [eH19]; exact Sa.rf _
  obtain ⟨x20, -, hF⟩ := bnd_g hG; clear hG
  rcases ite_s hF with ⟨q_11, hG⟩ | ⟨q_11, hG⟩
  · clear hF
    obtain ⟨H22, eH22, hF⟩ := bnd_g hG; clear hG
    replace hm : Rg Q H H22 := hm.tr (by rw [eH22]; exact Rg.sD hm.1 q_p0)
    have s_12 : Sa H H22 := by rw [eH22]; exact s_10
    obtain ⟨H23, eH23, hG⟩ := bnd_g hF; clear hF
    replace hm : Rg Q H H23 := hm.tr (by rw [eH23]; exact Rg.sD hm.1 q_p0)
    have s_13 : Sa H H23 := by rw [eH23]; exact s_12
    obtain ⟨H24, eH24, hF⟩ := bnd_g hG; clear hG
    replace hm : Rg Q H H24 := hm.tr (by rw [eH24]; exact Rg.sD hm.1 q_p0)
    have s_14 : Sa H H24 := by rw [eH24]; exact s_13
    have hr := Option.some.inj hF; subst hr
    exact hm
  · clear hF
    have hr := Option.some.inj hG; subst hr
    exact hm
set_option maxRecDepth 20000 in
set_option maxHeartbeats 2000000 in
theorem gB_Row_runRow_183 {N : Nat} {Q : Nat → Prop} {p0 : Nat} {p1 : Int32} {p2 : Int32} {B : Nat} (hn : ∀ a, B ≤ a → Q a) (q_p0 : Q p0)  {H : Hp} {r : Unit × Hp} (hF : B_Row_runRow_183 N p0 p1 p2  H = some r) (hc0 : Cl Q H) (hB : B ≤ H.sh.length) : Rg Q H r.2 := by
  unfold B_Row_runRow_183 at hF
  have hm := Rg.rf hc0
  obtain ⟨q247, hG⟩ := ck_s hF; clear hF
  obtain ⟨x248, -, hF⟩ := bnd_g hG; clear hG
  rcases ite_s hF with ⟨q_52, hG⟩ | ⟨q_52, hG⟩
  · clear hF
    have hr := Option.some.inj hG; subst hr
    exact hm
  · clear hF
    obtain ⟨a250, e251, hF⟩ := rf_s hG; clear hG
    have qa250 : Q a250 := hm.1 _ _ _ q_p0 e251
    obtain ⟨a252, e253, hG⟩ := rf_s hF; clear hF
    have qa252 : Q a252 := hm.1 _ _ _ q_p0 e253
    obtain ⟨q254, hF⟩ := ck_s hG; clear hG
    obtain ⟨a255, e256, hG⟩ := rf_s hF; clear hF
    have qa255 : Q a255 := hm.1 _ _ _ qa252 e256
    obtain ⟨x257, -, hF⟩ := bnd_g hG; clear hG
    obtain ⟨a258, e259, hG⟩ := rf_s hF; clear hF
    have qa258 : Q a258 := hm.1 _ _ _ q_p0 e259
    obtain ⟨q260, hF⟩ := ck_s hG; clear hG
    obtain ⟨x261, -, hG⟩ := bnd_g hF; clear hF
    obtain ⟨a262, e263, hF⟩ := rf_s hG; clear hG
    have qa262 : Q a262 := hm.1 _ _ _ q_p0 e263
    obtain ⟨q264, hG⟩ := ck_s hF; clear hF
    obtain ⟨x265, -, hF⟩ := bnd_g hG; clear hG
    obtain ⟨n266, q267, hG⟩ := ar_s hF; clear hF
    obtain ⟨n268, q269, hF⟩ := ar_s hG; clear hG
    obtain ⟨q270, hG⟩ := ck_s hF; clear hF
    obtain ⟨q271, hF⟩ := ck_s hG; clear hG
    obtain ⟨q272, hG⟩ := ck_s hF; clear hF
    obtain ⟨q273, hF⟩ := ck_s hG; clear hG
    obtain ⟨q274, hG⟩ := ck_s hF; clear hF
    obtain ⟨H275, eH275, hF⟩ := bnd_g hG; clear hG
    replace hm : Rg Q H H275 := hm.tr (by rw [eH275]; exact Rg.cpy hm.1 qa255)
    have s_53 : Sa H H275 := by rw [eH275]; exact Sa.rf _
    replace hB : B ≤ H275.sh.length := by rw [eH275]; exact hB
    obtain ⟨x276, -, hG⟩ := bnd_g hF; clear hF
    obtain ⟨x277, -, hF⟩ := bnd_g hG; clear hG
    obtain ⟨H278, eH278, hG⟩ := bnd_g hF; clear hF
    replace hm : Rg Q H H278 := hm.tr (by rw [eH278]; exact Rg.sD hm.1 q_p0)
    have s_54 : Sa H H278 := by rw [eH278]; exact s_53
    replace hB : B ≤ H278.sh.length := by rw [eH278]; exact hB
    obtain ⟨a279, e280, hF⟩ := rf_s hG; clear hG
    have qa279 : Q a279 := hm.1 _ _ _ q_p0 e280
    obtain ⟨x281, -, hG⟩ := bnd_g hF; clear hF
    obtain ⟨a282, e283, hF⟩ := rf_s hG; clear hG
    have qa282 : Q a282 := hm.1 _ _ _ q_p0 e283
    obtain ⟨x284, -, hG⟩ := bnd_g hF; clear hF
    obtain ⟨q285, hF⟩ := ck_s hG; clear hG
    rw [(s_54).1] at q285
    obtain ⟨v287, H288, z286, hG⟩ := bC_s hF; clear hF
    have gz_55 := (g_World_numberAt z286 hm.1 qa282)
    replace hm : Rg Q H H288 := hm.tr gz_55
    replace hB : B ≤ H288.sh.length := Nat.le_trans hB ((m_World_numberAt z286)).mo.len
    have s_56 : Sa H H288 := (s_54).tr (m_World_numberAt z286)
    obtain ⟨x289, -, hF⟩ := bnd_g hG; clear hG
    obtain ⟨q290, hG⟩ := ck_s hF; clear hF
    rw [(s_56).1] at q290
    obtain ⟨v292, H293, z291, hF⟩ := bC_s hG; clear hG
    have gz_57 := (g_World_noteFailure z291 hm.1 qa279)
    replace hm : Rg Q H H293 := hm.tr gz_57
    replace hB : B ≤ H293.sh.length := Nat.le_trans hB ((m_World_noteFailure z291)).mo.len
    have s_58 : Sa H H293 := (s_56).tr (m_World_noteFailure z291)
    have hr := Option.some.inj hF; subst hr
    exact hm
set_option maxRecDepth 20000 in
set_option maxHeartbeats 2000000 in
theorem gB_Row_runRow_172 {N : Nat} {Q : Nat → Prop} {p0 : Nat} {p1 : Int32} {p2 : Int32} {kq93 : Int32 → Int32 → Hp → Option (Unit × Hp)} {B : Nat} (hn : ∀ a, B ≤ a → Q a) (q_p0 : Q p0) (hg93 : ∀ (l3 : Int32) (l4 : Int32) (H : Hp) (r : Unit × Hp), kq93 l3 l4 H = some r → Cl Q H → B ≤ H.sh.length → Rg Q H r.2) {l4 : Int32} {H : Hp} {r : Unit × Hp} (hF : B_Row_runRow_172 N p0 p1 p2 kq93 l4 H = some r) (hc0 : Cl Q H) (hB : B ≤ H.sh.length) : Rg Q H r.2 := by
  unfold B_Row_runRow_172 at hF
  have hm := Rg.rf hc0
  obtain ⟨q294, hG⟩ := ck_s hF; clear hF
  obtain ⟨v296, H297, z295, hF⟩ := bC_s hG; clear hG
  have gz_59 := (g_Row_nextCode z295 hm.1 q_p0)
  replace hm : Rg Q H H297 := hm.tr gz_59
  replace hB : B ≤ H297.sh.length := Nat.le_trans hB ((m_Row_nextCode z295)).mo.len
  have s_60 : Sa H H297 := (m_Row_nextCode z295)
  exact hm.tr (hg93 v296 (l4 + 1) H297 r hF hm.1 hB)
set_option maxRecDepth 20000 in
set_option maxHeartbeats 2000000 in
theorem gB_Row_runRow_93 {N : Nat} {Q : Nat → Prop} {p0 : Nat} {p1 : Int32} {p2 : Int32} {B : Nat} (hn : ∀ a, B ≤ a → Q a) (q_p0 : Q p0) : ∀ (n : Nat) (l3 : Int32) (l4 : Int32) (H : Hp) (r : Unit × Hp), B_Row_runRow_93 N p0 p1 p2 n l3 l4 H = some r → Cl Q H → B ≤ H.sh.length → Rg Q H r.2 := by
  intro n
  induction n with
  | zero => intro l3 l4 H r hF; rw [B_Row_runRow_93] at hF; cases hF
  | succ n ih =>
    intro l3 l4 H r hF hc0 hB
    rw [B_Row_runRow_93] at hF
    have hm := Rg.rf hc0
    rcases ite_s hF with ⟨q_61, hG⟩ | ⟨q_61, hG⟩
    · clear hF
      exact hm.tr (gB_Row_runRow_183 hn q_p0 hG hm.1 hB)
    · clear hF
      rcases ite_s hG with ⟨q_62, hF⟩ | ⟨q_62, hF⟩
      · clear hG
        exact hm.tr (gB_Row_runRow_183 hn q_p0 hF hm.1 hB)
      · clear hG
        obtain ⟨q300, hG⟩ := ck_s hF; clear hF
        obtain ⟨x301, -, hF⟩ := bnd_g hG; clear hG
        rcases ite_s hF with ⟨q_63, hG⟩ | ⟨q_63, hG⟩
        · clear hF
          rcases ite_s hG with ⟨q_64, hF⟩ | ⟨q_64, hF⟩
          · clear hG
            rcases ite_s hF with ⟨q_65, hG⟩ | ⟨q_65, hG⟩
            · clear hF
              rcases ite_s hG with ⟨q_66, hF⟩ | ⟨q_66, hF⟩
              · clear hG
                rcases ite_s hF with ⟨q_67, hG⟩ | ⟨q_67, hG⟩
                · clear hF
                  obtain ⟨v308, H309, z307, hF⟩ := bC_s hG; clear hG
                  have gz_68 := (g_Row_fixes z307 hm.1 q_p0)
                  replace hm : Rg Q H H309 := hm.tr gz_68
                  replace hB : B ≤ H309.sh.length := Nat.le_trans hB ((m_Row_fixes z307)).mo.len
                  have s_69 : Sa H H309 := (m_Row_fixes z307)
                  exact hm.tr (gB_Row_runRow_172 hn q_p0 ih hF hm.1 hB)
                · clear hF
                  obtain ⟨v311, H312, z310, hF⟩ := bC_s hG; clear hG
                  have gz_70 := (g_Row_ints z310 hm.1 q_p0)
                  replace hm : Rg Q H H312 := hm.tr gz_70
                  replace hB : B ≤ H312.sh.length := Nat.le_trans hB ((m_Row_ints z310)).mo.len
                  have s_71 : Sa H H312 := (m_Row_ints z310)
                  exact hm.tr (gB_Row_runRow_172 hn q_p0 ih hF hm.1 hB)
              · clear hG
                obtain ⟨v314, H315, z313, hG⟩ := bC_s hF; clear hF
                have gz_72 := (g_Row_value z313 hm.1 q_p0)
                replace hm : Rg Q H H315 := hm.tr gz_72
                replace hB : B ≤ H315.sh.length := Nat.le_trans hB ((m_Row_value z313)).mo.len
                have s_73 : Sa H H315 := (m_Row_value z313)
                exact hm.tr (gB_Row_runRow_172 hn q_p0 ih hG hm.1 hB)
            · clear hF
              obtain ⟨v317, H318, z316, hF⟩ := bC_s hG; clear hG
              have gz_74 := (g_Row_command hn z316 hm.1 hB q_p0)
              replace hm : Rg Q H H318 := hm.tr gz_74
              replace hB : B ≤ H318.sh.length := Nat.le_trans hB ((m_Row_command z316)).len
              have mz_75 : Mo H H318 := (m_Row_command z316)
              have q_76 := (mz_75).get q300
              exact hm.tr (gB_Row_runRow_172 hn q_p0 ih hF hm.1 hB)
          · clear hG
            obtain ⟨v320, H321, z319, hG⟩ := bC_s hF; clear hF
            have gz_77 := (g_Row_control z319 hm.1 q_p0)
            replace hm : Rg Q H H321 := hm.tr gz_77
            replace hB : B ≤ H321.sh.length := Nat.le_trans hB ((m_Row_control z319)).mo.len
            have s_78 : Sa H H321 := (m_Row_control z319)
            exact hm.tr (gB_Row_runRow_172 hn q_p0 ih hG hm.1 hB)
        · clear hF
          exact hm.tr (gB_Row_runRow_183 hn q_p0 hG hm.1 hB)
set_option maxRecDepth 20000 in
set_option maxHeartbeats 2000000 in
theorem g_Row_runRow {N : Nat} {Q : Nat → Prop} {p0 : Nat} {p1 : Int32} {p2 : Int32} {H : Hp} {r : Unit × Hp} {B : Nat} (hn : ∀ a, B ≤ a → Q a) (hF : F_Row_runRow N p0 p1 p2 H = some r) (hc0 : Cl Q H) (hB : B ≤ H.sh.length) (q_p0 : Q p0) : Rg Q H r.2 := by
  unfold F_Row_runRow at hF
  have hm := Rg.rf hc0
  obtain ⟨q322, hG⟩ := ck_s hF; clear hF
  obtain ⟨H323, eH323, hF⟩ := bnd_g hG; clear hG
  replace hm : Rg Q H H323 := hm.tr (by rw [eH323]; exact Rg.sD hm.1 q_p0)
  have s_79 : Sa H H323 := by rw [eH323]; exact Sa.rf _
  replace hB : B ≤ H323.sh.length := by rw [eH323]; exact hB
  obtain ⟨H324, eH324, hG⟩ := bnd_g hF; clear hF
  replace hm : Rg Q H H324 := hm.tr (by rw [eH324]; exact Rg.sD hm.1 q_p0)
  have s_80 : Sa H H324 := by rw [eH324]; exact s_79
  replace hB : B ≤ H324.sh.length := by rw [eH324]; exact hB
  obtain ⟨a325, e326, hF⟩ := rf_s hG; clear hG
  have qa325 : Q a325 := hm.1 _ _ _ q_p0 e326
  obtain ⟨q327, hG⟩ := ck_s hF; clear hF
  rw [(s_80).1] at q327
  obtain ⟨a328, e329, hF⟩ := rf_s hG; clear hG
  have qa328 : Q a328 := hm.1 _ _ _ qa325 e329
  obtain ⟨x330, -, hG⟩ := bnd_g hF; clear hF
  obtain ⟨n331, q332, hF⟩ := ar_s hG; clear hG
  rw [(s_80).1] at q332
  obtain ⟨q333, hG⟩ := ck_s hF; clear hF
  obtain ⟨x334, -, hF⟩ := bnd_g hG; clear hG
  obtain ⟨H335, eH335, hG⟩ := bnd_g hF; clear hF
  replace hm : Rg Q H H335 := hm.tr (by rw [eH335]; exact Rg.sD hm.1 q_p0)
  have s_81 : Sa H H335 := by rw [eH335]; exact s_80
  replace hB : B ≤ H335.sh.length := by rw [eH335]; exact hB
  obtain ⟨H336, eH336, hF⟩ := bnd_g hG; clear hG
  replace hm : Rg Q H H336 := hm.tr (by rw [eH336]; exact Rg.sD hm.1 q_p0)
  have s_82 : Sa H H336 := by rw [eH336]; exact s_81
  replace hB : B ≤ H336.sh.length := by rw [eH336]; exact hB
  obtain ⟨H337, eH337, hG⟩ := bnd_g hF; clear hF
  replace hm : Rg Q H H337 := hm.tr (by rw [eH337]; exact Rg.sD hm.1 q_p0)
  have s_83 : Sa H H337 := by rw [eH337]; exact s_82
  replace hB : B ≤ H337.sh.length := by rw [eH337]; exact hB
  obtain ⟨H338, eH338, hF⟩ := bnd_g hG; clear hG
  replace hm : Rg Q H H338 := hm.tr (by rw [eH338]; exact Rg.sD hm.1 q_p0)
  have s_84 : Sa H H338 := by rw [eH338]; exact s_83
  replace hB : B ≤ H338.sh.length := by rw [eH338]; exact hB
  obtain ⟨H339, eH339, hG⟩ := bnd_g hF; clear hF
  replace hm : Rg Q H H339 := hm.tr (by rw [eH339]; exact Rg.sD hm.1 q_p0)
  have s_85 : Sa H H339 := by rw [eH339]; exact s_84
  replace hB : B ≤ H339.sh.length := by rw [eH339]; exact hB
  obtain ⟨H340, eH340, hF⟩ := bnd_g hG; clear hG
  replace hm : Rg Q H H340 := hm.tr (by rw [eH340]; exact Rg.sD hm.1 q_p0)
  have s_86 : Sa H H340 := by rw [eH340]; exact s_85
  replace hB : B ≤ H340.sh.length := by rw [eH340]; exact hB
  obtain ⟨a341, e342, hG⟩ := rf_s hF; clear hF
  have qa341 : Q a341 := hm.1 _ _ _ q_p0 e342
  obtain ⟨q343, hF⟩ := ck_s hG; clear hG
  rw [(s_86).1] at q343
  obtain ⟨a344, e345, hG⟩ := rf_s hF; clear hF
  have qa344 : Q a344 := hm.1 _ _ _ qa341 e345
  obtain ⟨x346, -, hF⟩ := bnd_g hG; clear hG
  obtain ⟨a347, e348, hG⟩ := rf_s hF; clear hF
  have qa347 : Q a347 := hm.1 _ _ _ q_p0 e348
  obtain ⟨q349, hF⟩ := ck_s hG; clear hG
  rw [(s_86).1] at q349
  obtain ⟨x350, -, hG⟩ := bnd_g hF; clear hF
  obtain ⟨a351, e352, hF⟩ := rf_s hG; clear hG
  have qa351 : Q a351 := hm.1 _ _ _ q_p0 e352
  obtain ⟨a353, e354, hG⟩ := rf_s hF; clear hF
  have qa353 : Q a353 := hm.1 _ _ _ q_p0 e354
  obtain ⟨q355, hF⟩ := ck_s hG; clear hG
  rw [(s_86).1] at q355
  obtain ⟨x356, -, hG⟩ := bnd_g hF; clear hF
  obtain ⟨n357, q358, hF⟩ := ar_s hG; clear hG
  rw [(s_86).1] at q358
  obtain ⟨n359, q360, hG⟩ := ar_s hF; clear hF
  rw [(s_86).1] at q360
  obtain ⟨q361, hF⟩ := ck_s hG; clear hG
  obtain ⟨q362, hG⟩ := ck_s hF; clear hF
  obtain ⟨q363, hF⟩ := ck_s hG; clear hG
  obtain ⟨q364, hG⟩ := ck_s hF; clear hF
  obtain ⟨q365, hF⟩ := ck_s hG; clear hG
  obtain ⟨H366, eH366, hG⟩ := bnd_g hF; clear hF
  replace hm : Rg Q H H366 := hm.tr (by rw [eH366]; exact Rg.cpy hm.1 qa351)
  have s_87 : Sa H H366 := by rw [eH366]; exact s_86
  replace hB : B ≤ H366.sh.length := by rw [eH366]; exact hB
  obtain ⟨v368, H369, z367, hF⟩ := bC_s hG; clear hG
  have gz_88 := (g_Row_nextCode z367 hm.1 q_p0)
  replace hm : Rg Q H H369 := hm.tr gz_88
  replace hB : B ≤ H369.sh.length := Nat.le_trans hB ((m_Row_nextCode z367)).mo.len
  have s_89 : Sa H H369 := (s_87).tr (m_Row_nextCode z367)
  exact hm.tr (gB_Row_runRow_93 hn q_p0 N v368 0 H369 r hF hm.1 hB)
set_option maxRecDepth 20000 in
set_option maxHeartbeats 2000000 in
theorem g_World_occupy {N : Nat} {Q : Nat → Prop} {p0 : Nat} {p1 : Int32} {p2 : Int32} {H : Hp} {r : Unit × Hp} (hF : F_World_occupy N p0 p1 p2 H = some r) (hc0 : Cl Q H) (q_p0 : Q p0) : Rg Q H r.2 := by
  unfold F_World_occupy at hF
  have hm := Rg.rf hc0
  obtain ⟨q25, hG⟩ := ck_s hF; clear hF
  obtain ⟨a26, e27, hF⟩ := rf_s hG; clear hG
  have qa26 : Q a26 := hm.1 _ _ _ q_p0 e27
  obtain ⟨n28, q29, hG⟩ := ar_s hF; clear hF
  obtain ⟨q30, hF⟩ := ck_s hG; clear hG
  obtain ⟨H31, eH31, hG⟩ := bnd_g hF; clear hF
  replace hm : Rg Q H H31 := hm.tr (by rw [eH31]; exact Rg.sD hm.1 qa26)
  have s_7 : Sa H H31 := by rw [eH31]; exact Sa.rf _
  obtain ⟨x32, -, hF⟩ := bnd_g hG; clear hG
  obtain ⟨v34, H35, z33, hG⟩ := bC_s hF; clear hF
  have gz_8 := (g_Math_max z33 hm.1)
  replace hm : Rg Q H H35 := hm.tr gz_8
  have s_9 : Sa H H35 := (s_7).tr (m_Math_max z33)
  obtain ⟨H36, eH36, hF⟩ := bnd_g hG; clear hG
  replace hm : Rg Q H H36 := hm.tr (by rw [eH36]; exact Rg.sD hm.1 q_p0)
  have s_10 : Sa H H36 := by rw [eH36]; exact s_9
  have hr := Option.some.inj hF; subst hr
  exact hm
set_option maxRecDepth 20000 in
set_option maxHeartbeats 2000000 in
theorem gB_World_bear_24 {N : Nat} {Q : Nat → Prop} {p0 : Nat} {p1 : Nat} {p2 : Int32} (q_p0 : Q p0) (q_p1 : Q p1) {l3 : Int32} {H : Hp} {r : Int32 × Hp} (hF : B_World_bear_24 N p0 p1 p2 l3 H = some r) (hc0 : Cl Q H) : Rg Q H r.2 := by
  unfold B_World_bear_24 at hF
  have hm := Rg.rf hc0
  rcases ite_s hF with ⟨q_8, hG⟩ | ⟨q_8, hG⟩
  · clear hF
    obtain ⟨q76, hF⟩ := ck_s hG; clear hG
    obtain ⟨a77, e78, hG⟩ := rf_s hF; clear hF
    have qa77 : Q a77 := hm.1 _ _ _ q_p1 e78
    obtain ⟨n79, q80, hF⟩ := ar_s hG; clear hG
    obtain ⟨q81, hG⟩ := ck_s hF; clear hF
    obtain ⟨x82, -, hF⟩ := bnd_g hG; clear hG
    obtain ⟨q83, hG⟩ := ck_s hF; clear hF
    obtain ⟨v85, H86, z84, hF⟩ := bC_s hG; clear hG
    have gz_9 := (g_World_occupy z84 hm.1 q_p0)
    replace hm : Rg Q H H86 := hm.tr gz_9
    have s_10 : Sa H H86 := (m_World_occupy z84)
    obtain ⟨a87, e88, hG⟩ := rf_s hF; clear hF
    have qa87 : Q a87 := hm.1 _ _ _ q_p1 e88
    obtain ⟨a89, e90, hF⟩ := rf_s hG; clear hG
    have qa89 : Q a89 := hm.1 _ _ _ q_p0 e90
    obtain ⟨x91, -, hG⟩ := bnd_g hF; clear hF
    obtain ⟨x92, -, hF⟩ := bnd_g hG; clear hG
    obtain ⟨n93, q94, hG⟩ := ar_s hF; clear hF
    rw [(s_10).1] at q94
    obtain ⟨n95, q96, hF⟩ := ar_s hG; clear hG
    rw [(s_10).1] at q96
    obtain ⟨q97, hG⟩ := ck_s hF; clear hF
    obtain ⟨q98, hF⟩ := ck_s hG; clear hG
    obtain ⟨q99, hG⟩ := ck_s hF; clear hF
    obtain ⟨q100, hF⟩ := ck_s hG; clear hG
    obtain ⟨q101, hG⟩ := ck_s hF; clear hF
    obtain ⟨H102, eH102, hF⟩ := bnd_g hG; clear hG
    replace hm : Rg Q H H102 := hm.tr (by rw [eH102]; exact Rg.cpy hm.1 qa89)
    have s_11 : Sa H H102 := by rw [eH102]; exact s_10
    have hr := Option.some.inj hF; subst hr
    exact hm
  · clear hF
    have hr := Option.some.inj hG; subst hr
    exact hm
set_option maxRecDepth 20000 in
set_option maxHeartbeats 2000000 in
theorem gB_World_bear_2 {N : Nat} {Q : Nat → Prop} {p0 : Nat} {p1 : Nat} {p2 : Int32} (q_p0 : Q p0) (q_p1 : Q p1) : ∀ (n : Nat) (l3 : Int32) (H : Hp) (r : Int32 × Hp), B_World_bear_2 N p0 p1 p2 n l3 H = some r → Cl Q H → Rg Q H r.2 := by
  intro n
  induction n with
  | zero => intro l3 H r hF; rw [B_World_bear_2] at hF; cases hF
  | succ n ih =>
    intro l3 H r hF hc0
    rw [B_World_bear_2] at hF
    have hm := Rg.rf hc0
    rcases ite_s hF with ⟨q_12, hG⟩ | ⟨q_12, hG⟩
    · clear hF
      exact hm.tr (gB_World_bear_24 q_p0 q_p1 hG hm.1)
    · clear hF
      obtain ⟨q104, hF⟩ := ck_s hG; clear hG
      obtain ⟨a105, e106, hG⟩ := rf_s hF; clear hF
      have qa105 : Q a105 := hm.1 _ _ _ q_p0 e106
      obtain ⟨n107, q108, hF⟩ := ar_s hG; clear hG
      obtain ⟨q109, hG⟩ := ck_s hF; clear hF
      obtain ⟨x110, -, hF⟩ := bnd_g hG; clear hG
      rcases ite_s hF with ⟨q_13, hG⟩ | ⟨q_13, hG⟩
      · clear hF
        exact hm.tr (gB_World_bear_24 q_p0 q_p1 hG hm.1)
      · clear hF
        exact hm.tr (ih (l3 + 1) H r hG hm.1)
set_option maxRecDepth 20000 in
set_option maxHeartbeats 2000000 in
theorem g_World_bear {N : Nat} {Q : Nat → Prop} {p0 : Nat} {p1 : Nat} {p2 : Int32} {H : Hp} {r : Int32 × Hp} (hF : F_World_bear N p0 p1 p2 H = some r) (hc0 : Cl Q H) (q_p0 : Q p0) (q_p1 : Q p1) : Rg Q H r.2 := by
  unfold F_World_bear at hF
  have hm := Rg.rf hc0
  exact hm.tr (gB_World_bear_2 q_p0 q_p1 N 0 H r hF hm.1)
set_option maxRecDepth 20000 in
set_option maxHeartbeats 2000000 in
theorem gB_Ticker_actSpawn_26 {N : Nat} {Q : Nat → Prop} {p0 : Nat} {p1 : Nat} {p2 : Int32} (q_p0 : Q p0) (q_p1 : Q p1) : ∀ (n : Nat) (l3 : Int32) (l4 : Int32) (H : Hp) (r : Int32 × Hp), B_Ticker_actSpawn_26 N p0 p1 p2 n l3 l4 H = some r → Cl Q H → Rg Q H r.2 := by
  intro n
  induction n with
  | zero => intro l3 l4 H r hF; rw [B_Ticker_actSpawn_26] at hF; cases hF
  | succ n ih =>
    intro l3 l4 H r hF hc0
    rw [B_Ticker_actSpawn_26] at hF
    have hm := Rg.rf hc0
    obtain ⟨n61, q62, hG⟩ := ar_s hF; clear hF
    obtain ⟨q63, hF⟩ := ck_s hG; clear hG
    obtain ⟨x64, -, hG⟩ := bnd_g hF; clear hF
    rcases ite_s hG with ⟨q_7, hF⟩ | ⟨q_7, hF⟩
    · clear hG
      have hr := Option.some.inj hF; subst hr
      exact hm
    · clear hG
      obtain ⟨q66, hG⟩ := ck_s hF; clear hF
      obtain ⟨a67, e68, hF⟩ := rf_s hG; clear hG
      have qa67 : Q a67 := hm.1 _ _ _ q_p0 e68
      obtain ⟨q69, hG⟩ := ck_s hF; clear hF
      obtain ⟨x70, -, hF⟩ := bnd_g hG; clear hG
      obtain ⟨q71, hG⟩ := ck_s hF; clear hF
      obtain ⟨x72, -, hF⟩ := bnd_g hG; clear hG
      obtain ⟨q73, hG⟩ := ck_s hF; clear hF
      obtain ⟨v75, H76, z74, hF⟩ := bC_s hG; clear hG
      have gz_8 := (g_World_write z74 hm.1 qa67)
      replace hm : Rg Q H H76 := hm.tr gz_8
      have s_9 : Sa H H76 := (m_World_write z74)
      exact hm.tr (ih l3 (l4 + 1) H76 r hF hm.1)
set_option maxRecDepth 20000 in
set_option maxHeartbeats 2000000 in
theorem g_Ticker_actSpawn {N : Nat} {Q : Nat → Prop} {p0 : Nat} {p1 : Nat} {p2 : Int32} {H : Hp} {r : Int32 × Hp} (hF : F_Ticker_actSpawn N p0 p1 p2 H = some r) (hc0 : Cl Q H) (q_p0 : Q p0) (q_p1 : Q p1) : Rg Q H r.2 := by
  unfold F_Ticker_actSpawn at hF
  have hm := Rg.rf hc0
  obtain ⟨q77, hG⟩ := ck_s hF; clear hF
  obtain ⟨a78, e79, hF⟩ := rf_s hG; clear hG
  have qa78 : Q a78 := hm.1 _ _ _ q_p0 e79
  obtain ⟨a80, e81, hG⟩ := rf_s hF; clear hF
  have qa80 : Q a80 := hm.1 _ _ _ q_p0 e81
  obtain ⟨n82, q83, hF⟩ := ar_s hG; clear hG
  obtain ⟨q84, hG⟩ := ck_s hF; clear hF
  obtain ⟨x85, -, hF⟩ := bnd_g hG; clear hG
  obtain ⟨q86, hG⟩ := ck_s hF; clear hF
  obtain ⟨v88, H89, z87, hF⟩ := bC_s hG; clear hG
  have gz_10 := (g_World_bear z87 hm.1 qa78 qa80)
  replace hm : Rg Q H H89 := hm.tr gz_10
  have s_11 : Sa H H89 := (m_World_bear z87)
  rcases ite_s hF with ⟨q_12, hG⟩ | ⟨q_12, hG⟩
  · clear hF
    exact hm.tr (gB_Ticker_actSpawn_26 q_p0 q_p1 N v88 0 H89 r hG hm.1)
  · clear hF
    have hr := Option.some.inj hG; subst hr
    exact hm
set_option maxRecDepth 20000 in
set_option maxHeartbeats 2000000 in
theorem g_Ticker_actEmit {N : Nat} {Q : Nat → Prop} {p0 : Nat} {p1 : Nat} {p2 : Int32} {H : Hp} {r : Int32 × Hp} (hF : F_Ticker_actEmit N p0 p1 p2 H = some r) (hc0 : Cl Q H) (q_p0 : Q p0) (q_p1 : Q p1) : Rg Q H r.2 := by
  unfold F_Ticker_actEmit at hF
  have hm := Rg.rf hc0
  obtain ⟨q93, hG⟩ := ck_s hF; clear hF
  obtain ⟨a94, e95, hF⟩ := rf_s hG; clear hG
  have qa94 : Q a94 := hm.1 _ _ _ q_p0 e95
  obtain ⟨q96, hG⟩ := ck_s hF; clear hF
  obtain ⟨x97, -, hF⟩ := bnd_g hG; clear hG
  rcases ite_s hF with ⟨q_8, hG⟩ | ⟨q_8, hG⟩
  · clear hF
    obtain ⟨a99, e100, hF⟩ := rf_s hG; clear hG
    have qa99 : Q a99 := hm.1 _ _ _ q_p0 e100
    obtain ⟨q101, hG⟩ := ck_s hF; clear hF
    obtain ⟨x102, -, hF⟩ := bnd_g hG; clear hG
    obtain ⟨x103, -, hG⟩ := bnd_g hF; clear hF
    obtain ⟨a104, e105, hF⟩ := rf_s hG; clear hG
    have qa104 : Q a104 := hm.1 _ _ _ q_p0 e105
    obtain ⟨q106, hG⟩ := ck_s hF; clear hF
    obtain ⟨a107, e108, hF⟩ := rf_s hG; clear hG
    have qa107 : Q a107 := hm.1 _ _ _ qa104 e108
    obtain ⟨n109, q110, hG⟩ := ar_s hF; clear hF
    obtain ⟨n111, q112, hF⟩ := ar_s hG; clear hG
    obtain ⟨q113, hG⟩ := ck_s hF; clear hF
    obtain ⟨q114, hF⟩ := ck_s hG; clear hG
    obtain ⟨q115, hG⟩ := ck_s hF; clear hF
    obtain ⟨q116, hF⟩ := ck_s hG; clear hG
    obtain ⟨q117, hG⟩ := ck_s hF; clear hF
    obtain ⟨H118, eH118, hF⟩ := bnd_g hG; clear hG
    replace hm : Rg Q H H118 := hm.tr (by rw [eH118]; exact Rg.cpy hm.1 qa107)
    have s_9 : Sa H H118 := by rw [eH118]; exact Sa.rf _
    obtain ⟨a119, e120, hG⟩ := rf_s hF; clear hF
    have qa119 : Q a119 := hm.1 _ _ _ q_p0 e120
    obtain ⟨q121, hF⟩ := ck_s hG; clear hG
    rw [(s_9).1] at q121
    obtain ⟨a122, e123, hG⟩ := rf_s hF; clear hF
    have qa122 : Q a122 := hm.1 _ _ _ qa119 e123
    obtain ⟨a124, e125, hF⟩ := rf_s hG; clear hG
    have qa124 : Q a124 := hm.1 _ _ _ q_p0 e125
    obtain ⟨q126, hG⟩ := ck_s hF; clear hF
    rw [(s_9).1] at q126
    obtain ⟨x127, -, hF⟩ := bnd_g hG; clear hG
    obtain ⟨q128, hG⟩ := ck_s hF; clear hF
    obtain ⟨x129, -, hF⟩ := bnd_g hG; clear hG
    obtain ⟨n130, q131, hG⟩ := ar_s hF; clear hF
    rw [(s_9).1] at q131
    obtain ⟨q132, hF⟩ := ck_s hG; clear hG
    obtain ⟨H133, eH133, hG⟩ := bnd_g hF; clear hF
    replace hm : Rg Q H H133 := hm.tr (by rw [eH133]; exact Rg.sD hm.1 qa122)
    have s_10 : Sa H H133 := by rw [eH133]; exact s_9
    obtain ⟨a134, e135, hF⟩ := rf_s hG; clear hG
    have qa134 : Q a134 := hm.1 _ _ _ q_p0 e135
    obtain ⟨q136, hG⟩ := ck_s hF; clear hF
    rw [(s_10).1] at q136
    obtain ⟨x137, -, hF⟩ := bnd_g hG; clear hG
    obtain ⟨H138, eH138, hG⟩ := bnd_g hF; clear hF
    replace hm : Rg Q H H138 := hm.tr (by rw [eH138]; exact Rg.sD hm.1 qa134)
    have s_11 : Sa H H138 := by rw [eH138]; exact s_10
    have hr := Option.some.inj hG; subst hr
    exact hm
  · clear hF
    have hr := Option.some.inj hG; subst hr
    exact hm
set_option maxRecDepth 20000 in
set_option maxHeartbeats 2000000 in
theorem g_Ticker_actShow {N : Nat} {Q : Nat → Prop} {p0 : Nat} {p1 : Int32} {H : Hp} {r : Int32 × Hp} (hF : F_Ticker_actShow N p0 p1 H = some r) (hc0 : Cl Q H) (q_p0 : Q p0) : Rg Q H r.2 := by
  unfold F_Ticker_actShow at hF
  have hm := Rg.rf hc0
  obtain ⟨q49, hG⟩ := ck_s hF; clear hF
  obtain ⟨a50, e51, hF⟩ := rf_s hG; clear hG
  have qa50 : Q a50 := hm.1 _ _ _ q_p0 e51
  obtain ⟨q52, hG⟩ := ck_s hF; clear hF
  obtain ⟨x53, -, hF⟩ := bnd_g hG; clear hG
  rcases ite_s hF with ⟨q_6, hG⟩ | ⟨q_6, hG⟩
  · clear hF
    obtain ⟨a55, e56, hF⟩ := rf_s hG; clear hG
    have qa55 : Q a55 := hm.1 _ _ _ q_p0 e56
    obtain ⟨q57, hG⟩ := ck_s hF; clear hF
    obtain ⟨a58, e59, hF⟩ := rf_s hG; clear hG
    have qa58 : Q a58 := hm.1 _ _ _ qa55 e59
    obtain ⟨a60, e61, hG⟩ := rf_s hF; clear hF
    have qa60 : Q a60 := hm.1 _ _ _ q_p0 e61
    obtain ⟨q62, hF⟩ := ck_s hG; clear hG
    obtain ⟨x63, -, hG⟩ := bnd_g hF; clear hF
    obtain ⟨n64, q65, hF⟩ := ar_s hG; clear hG
    obtain ⟨q66, hG⟩ := ck_s hF; clear hF
    obtain ⟨H67, eH67, hF⟩ := bnd_g hG; clear hG
    replace hm : Rg Q H H67 := hm.tr (by rw [eH67]; exact Rg.sD hm.1 qa58)
    have s_7 : Sa H H67 := by rw [eH67]; exact Sa.rf _
    obtain ⟨a68, e69, hG⟩ := rf_s hF; clear hF
    have qa68 : Q a68 := hm.1 _ _ _ q_p0 e69
    obtain ⟨q70, hF⟩ := ck_s hG; clear hG
    rw [(s_7).1] at q70
    obtain ⟨x71, -, hG⟩ := bnd_g hF; clear hF
    obtain ⟨H72, eH72, hF⟩ := bnd_g hG; clear hG
    replace hm : Rg Q H H72 := hm.tr (by rw [eH72]; exact Rg.sD hm.1 qa68)
    have s_8 : Sa H H72 := by rw [eH72]; exact s_7
    have hr := Option.some.inj hF; subst hr
    exact hm
  · clear hF
    have hr := Option.some.inj hG; subst hr
    exact hm
set_option maxRecDepth 20000 in
set_option maxHeartbeats 2000000 in
theorem g_World_remove {N : Nat} {Q : Nat → Prop} {p0 : Nat} {p1 : Int32} {H : Hp} {r : Unit × Hp} (hF : F_World_remove N p0 p1 H = some r) (hc0 : Cl Q H) (q_p0 : Q p0) : Rg Q H r.2 := by
  unfold F_World_remove at hF
  have hm := Rg.rf hc0
  obtain ⟨q31, hG⟩ := ck_s hF; clear hF
  obtain ⟨a32, e33, hF⟩ := rf_s hG; clear hG
  have qa32 : Q a32 := hm.1 _ _ _ q_p0 e33
  obtain ⟨n34, q35, hG⟩ := ar_s hF; clear hF
  obtain ⟨q36, hF⟩ := ck_s hG; clear hG
  obtain ⟨H37, eH37, hG⟩ := bnd_g hF; clear hF
  replace hm : Rg Q H H37 := hm.tr (by rw [eH37]; exact Rg.sD hm.1 qa32)
  have s_5 : Sa H H37 := by rw [eH37]; exact Sa.rf _
  obtain ⟨a38, e39, hF⟩ := rf_s hG; clear hG
  have qa38 : Q a38 := hm.1 _ _ _ q_p0 e39
  obtain ⟨n40, q41, hG⟩ := ar_s hF; clear hF
  rw [(s_5).1] at q41
  obtain ⟨q42, hF⟩ := ck_s hG; clear hG
  obtain ⟨x43, -, hG⟩ := bnd_g hF; clear hF
  obtain ⟨q44, hF⟩ := ck_s hG; clear hG
  obtain ⟨H45, eH45, hG⟩ := bnd_g hF; clear hF
  replace hm : Rg Q H H45 := hm.tr (by rw [eH45]; exact Rg.sD hm.1 qa38)
  have s_6 : Sa H H45 := by rw [eH45]; exact s_5
  have hr := Option.some.inj hG; subst hr
  exact hm
set_option maxRecDepth 20000 in
set_option maxHeartbeats 2000000 in
theorem gB_World_giveAt_27 {N : Nat} {Q : Nat → Prop} {p0 : Nat} {p1 : Nat} {p2 : Int32} {p3 : Int32} (q_p0 : Q p0) (q_p1 : Q p1) : ∀ (n : Nat) (l4 : Nat) (l5 : Int32) (H : Hp) (r : Unit × Hp), B_World_giveAt_27 N p0 p1 p2 p3 n l4 l5 H = some r → Cl Q H → Q l4 → Rg Q H r.2 := by
  intro n
  induction n with
  | zero => intro l4 l5 H r hF; rw [B_World_giveAt_27] at hF; cases hF
  | succ n ih =>
    intro l4 l5 H r hF hc0 q_l4
    rw [B_World_giveAt_27] at hF
    have hm := Rg.rf hc0
    obtain ⟨q71, hG⟩ := ck_s hF; clear hF
    obtain ⟨a72, e73, hF⟩ := rf_s hG; clear hG
    have qa72 : Q a72 := hm.1 _ _ _ q_l4 e73
    obtain ⟨n74, q75, hG⟩ := ar_s hF; clear hF
    obtain ⟨q76, hF⟩ := ck_s hG; clear hG
    obtain ⟨x77, -, hG⟩ := bnd_g hF; clear hF
    rcases ite_s hG with ⟨q_8, hF⟩ | ⟨q_8, hF⟩
    · clear hG
      have hr := Option.some.inj hF; subst hr
      exact hm
    · clear hG
      obtain ⟨q79, hG⟩ := ck_s hF; clear hF
      obtain ⟨v81, H82, z80, hF⟩ := bC_s hG; clear hG
      have gz_9 := (g_Program_firstValue z80 hm.1 q_p1)
      replace hm : Rg Q H H82 := hm.tr gz_9
      have s_10 : Sa H H82 := (m_Program_firstValue z80)
      obtain ⟨q83, hG⟩ := ck_s hF; clear hF
      rw [(s_10).1] at q83
      obtain ⟨v85, H86, z84, hF⟩ := bC_s hG; clear hG
      have gz_11 := (g_World_write z84 hm.1 q_p0)
      replace hm : Rg Q H H86 := hm.tr gz_11
      have s_12 : Sa H H86 := (s_10).tr (m_World_write z84)
      exact hm.tr (ih l4 (l5 + 1) H86 r hF hm.1 q_l4)
set_option maxRecDepth 20000 in
set_option maxHeartbeats 2000000 in
theorem g_World_giveAt {N : Nat} {Q : Nat → Prop} {p0 : Nat} {p1 : Nat} {p2 : Int32} {p3 : Int32} {H : Hp} {r : Unit × Hp} (hF : F_World_giveAt N p0 p1 p2 p3 H = some r) (hc0 : Cl Q H) (q_p0 : Q p0) (q_p1 : Q p1) : Rg Q H r.2 := by
  unfold F_World_giveAt at hF
  have hm := Rg.rf hc0
  obtain ⟨q87, hG⟩ := ck_s hF; clear hF
  obtain ⟨a88, e89, hF⟩ := rf_s hG; clear hG
  have qa88 : Q a88 := hm.1 _ _ _ q_p0 e89
  obtain ⟨n90, q91, hG⟩ := ar_s hF; clear hF
  obtain ⟨q92, hF⟩ := ck_s hG; clear hG
  obtain ⟨x93, -, hG⟩ := bnd_g hF; clear hF
  obtain ⟨q94, hF⟩ := ck_s hG; clear hG
  obtain ⟨H95, eH95, hG⟩ := bnd_g hF; clear hF
  replace hm : Rg Q H H95 := hm.tr (by rw [eH95]; exact Rg.sD hm.1 qa88)
  have s_13 : Sa H H95 := by rw [eH95]; exact Sa.rf _
  obtain ⟨q96, hF⟩ := ck_s hG; clear hG
  rw [(s_13).1] at q96
  obtain ⟨a97, e98, hG⟩ := rf_s hF; clear hF
  have qa97 : Q a97 := hm.1 _ _ _ q_p1 e98
  obtain ⟨q99, hF⟩ := ck_s hG; clear hG
  rw [(s_13).1] at q99
  obtain ⟨a100, e101, hG⟩ := rf_s hF; clear hF
  have qa100 : Q a100 := hm.1 _ _ _ qa97 e101
  obtain ⟨n102, q103, hF⟩ := ar_s hG; clear hG
  rw [(s_13).1] at q103
  obtain ⟨q104, hG⟩ := ck_s hF; clear hF
  obtain ⟨x105, -, hF⟩ := bnd_g hG; clear hG
  exact hm.tr (gB_World_giveAt_27 q_p0 q_p1 N a97 x105 H95 r hF hm.1 qa97)
set_option maxRecDepth 20000 in
set_option maxHeartbeats 2000000 in
theorem g_World_takeAt {N : Nat} {Q : Nat → Prop} {p0 : Nat} {p1 : Int32} {p2 : Int32} {H : Hp} {r : Unit × Hp} (hF : F_World_takeAt N p0 p1 p2 H = some r) (hc0 : Cl Q H) (q_p0 : Q p0) : Rg Q H r.2 := by
  unfold F_World_takeAt at hF
  have hm := Rg.rf hc0
  obtain ⟨q19, hG⟩ := ck_s hF; clear hF
  obtain ⟨a20, e21, hF⟩ := rf_s hG; clear hG
  have qa20 : Q a20 := hm.1 _ _ _ q_p0 e21
  obtain ⟨n22, q23, hG⟩ := ar_s hF; clear hF
  obtain ⟨q24, hF⟩ := ck_s hG; clear hG
  obtain ⟨x25, -, hG⟩ := bnd_g hF; clear hF
  obtain ⟨q26, hF⟩ := ck_s hG; clear hG
  obtain ⟨H27, eH27, hG⟩ := bnd_g hF; clear hF
  replace hm : Rg Q H H27 := hm.tr (by rw [eH27]; exact Rg.sD hm.1 qa20)
  have s_3 : Sa H H27 := by rw [eH27]; exact Sa.rf _
  have hr := Option.some.inj hG; subst hr
  exact hm
set_option maxRecDepth 20000 in
set_option maxHeartbeats 2000000 in
theorem gB_Ticker_actOn_57 {N : Nat} {Q : Nat → Prop} {p0 : Nat} {p1 : Nat} {p2 : Int32} {p3 : Int32} (q_p0 : Q p0) (q_p1 : Q p1) {l4 : Int32} {l5 : Int32} {w0 : Int32} {w1 : Int32} {H : Hp} {r : Int32 × Hp} (hF : B_Ticker_actOn_57 N p0 p1 p2 p3 l4 l5 w0 w1 H = some r) (hc0 : Cl Q H) : Rg Q H r.2 := by
  unfold B_Ticker_actOn_57 at hF
  have hm := Rg.rf hc0
  rcases ite_s hF with ⟨q_17, hG⟩ | ⟨q_17, hG⟩
  · clear hF
    have hr := Option.some.inj hG; subst hr
    exact hm
  · clear hF
    rcases ite_s hG with ⟨q_18, hF⟩ | ⟨q_18, hF⟩
    · clear hG
      obtain ⟨q113, hG⟩ := ck_s hF; clear hF
      obtain ⟨a114, e115, hF⟩ := rf_s hG; clear hG
      have qa114 : Q a114 := hm.1 _ _ _ q_p0 e115
      obtain ⟨a116, e117, hG⟩ := rf_s hF; clear hF
      have qa116 : Q a116 := hm.1 _ _ _ q_p0 e117
      obtain ⟨q118, hF⟩ := ck_s hG; clear hG
      obtain ⟨v120, H121, z119, hG⟩ := bC_s hF; clear hF
      have gz_19 := (g_World_giveAt z119 hm.1 qa114 qa116)
      replace hm : Rg Q H H121 := hm.tr gz_19
      have s_20 : Sa H H121 := (m_World_giveAt z119)
      have hr := Option.some.inj hG; subst hr
      exact hm
    · clear hG
      rcases ite_s hF with ⟨q_21, hG⟩ | ⟨q_21, hG⟩
      · clear hF
        obtain ⟨q123, hF⟩ := ck_s hG; clear hG
        obtain ⟨a124, e125, hG⟩ := rf_s hF; clear hF
        have qa124 : Q a124 := hm.1 _ _ _ q_p0 e125
        obtain ⟨q126, hF⟩ := ck_s hG; clear hG
        obtain ⟨v128, H129, z127, hG⟩ := bC_s hF; clear hF
        have gz_22 := (g_World_takeAt z127 hm.1 qa124)
        replace hm : Rg Q H H129 := hm.tr gz_22
        have s_23 : Sa H H129 := (m_World_takeAt z127)
        have hr := Option.some.inj hG; subst hr
        exact hm
      · clear hF
        obtain ⟨q130, hF⟩ := ck_s hG; clear hG
        obtain ⟨a131, e132, hG⟩ := rf_s hF; clear hF
        have qa131 : Q a131 := hm.1 _ _ _ q_p0 e132
        obtain ⟨n133, q134, hF⟩ := ar_s hG; clear hG
        obtain ⟨q135, hG⟩ := ck_s hF; clear hF
        obtain ⟨x136, -, hF⟩ := bnd_g hG; clear hG
        obtain ⟨q137, hG⟩ := ck_s hF; clear hF
        obtain ⟨x138, -, hF⟩ := bnd_g hG; clear hG
        obtain ⟨q139, hG⟩ := ck_s hF; clear hF
        obtain ⟨v141, H142, z140, hF⟩ := bC_s hG; clear hG
        have gz_24 := (g_World_write z140 hm.1 qa131)
        replace hm : Rg Q H H142 := hm.tr gz_24
        have s_25 : Sa H H142 := (m_World_write z140)
        have hr := Option.some.inj hF; subst hr
        exact hm
set_option maxRecDepth 20000 in
set_option maxHeartbeats 2000000 in
theorem g_Ticker_actOn {N : Nat} {Q : Nat → Prop} {p0 : Nat} {p1 : Nat} {p2 : Int32} {p3 : Int32} {H : Hp} {r : Int32 × Hp} (hF : F_Ticker_actOn N p0 p1 p2 p3 H = some r) (hc0 : Cl Q H) (q_p0 : Q p0) (q_p1 : Q p1) : Rg Q H r.2 := by
  unfold F_Ticker_actOn at hF
  have hm := Rg.rf hc0
  rcases ite_s hF with ⟨q_26, hG⟩ | ⟨q_26, hG⟩
  · clear hF
    obtain ⟨n144, q145, hF⟩ := ar_s hG; clear hG
    obtain ⟨q146, hG⟩ := ck_s hF; clear hF
    obtain ⟨x147, -, hF⟩ := bnd_g hG; clear hG
    rcases ite_s hF with ⟨q_27, hG⟩ | ⟨q_27, hG⟩
    · clear hF
      obtain ⟨q149, hF⟩ := ck_s hG; clear hG
      obtain ⟨a150, e151, hG⟩ := rf_s hF; clear hF
      have qa150 : Q a150 := hm.1 _ _ _ q_p0 e151
      obtain ⟨q152, hF⟩ := ck_s hG; clear hG
      obtain ⟨v154, H155, z153, hG⟩ := bC_s hF; clear hF
      have gz_28 := (g_World_remove z153 hm.1 qa150)
      replace hm : Rg Q H H155 := hm.tr gz_28
      have s_29 : Sa H H155 := (m_World_remove z153)
      have hr := Option.some.inj hG; subst hr
      exact hm
    · clear hF
      obtain ⟨q156, hF⟩ := ck_s hG; clear hG
      obtain ⟨x157, -, hG⟩ := bnd_g hF; clear hF
      obtain ⟨q158, hF⟩ := ck_s hG; clear hG
      obtain ⟨a159, e160, hG⟩ := rf_s hF; clear hF
      have qa159 : Q a159 := hm.1 _ _ _ q_p0 e160
      obtain ⟨q161, hF⟩ := ck_s hG; clear hG
      obtain ⟨v163, H164, z162, hG⟩ := bC_s hF; clear hF
      have gz_30 := (g_World_owns z162 hm.1 qa159)
      replace hm : Rg Q H H164 := hm.tr gz_30
      have s_31 : Sa H H164 := (m_World_owns z162)
      rcases ite_s hG with ⟨q_32, hF⟩ | ⟨q_32, hF⟩
      · clear hG
        exact hm.tr (gB_Ticker_actOn_57 q_p0 q_p1 hF hm.1)
      · clear hG
        exact hm.tr (gB_Ticker_actOn_57 q_p0 q_p1 hF hm.1)
  · clear hF
    have hr := Option.some.inj hG; subst hr
    exact hm
set_option maxRecDepth 20000 in
set_option maxHeartbeats 2000000 in
theorem g_Ticker_acts {N : Nat} {Q : Nat → Prop} {p0 : Nat} {p1 : Nat} {p2 : Int32} {H : Hp} {r : Int32 × Hp} (hF : F_Ticker_acts N p0 p1 p2 H = some r) (hc0 : Cl Q H) (q_p0 : Q p0) (q_p1 : Q p1) : Rg Q H r.2 := by
  unfold F_Ticker_acts at hF
  have hm := Rg.rf hc0
  obtain ⟨n75, q76, hG⟩ := ar_s hF; clear hF
  obtain ⟨q77, hF⟩ := ck_s hG; clear hG
  obtain ⟨x78, -, hG⟩ := bnd_g hF; clear hF
  rcases ite_s hG with ⟨q_14, hF⟩ | ⟨q_14, hF⟩
  · clear hG
    obtain ⟨q80, hG⟩ := ck_s hF; clear hF
    obtain ⟨v82, H83, z81, hF⟩ := bC_s hG; clear hG
    have gz_15 := (g_Ticker_actSpawn z81 hm.1 q_p0 q_p1)
    replace hm : Rg Q H H83 := hm.tr gz_15
    have s_16 : Sa H H83 := (m_Ticker_actSpawn z81)
    obtain ⟨q84, hG⟩ := ck_s hF; clear hF
    have hr := Option.some.inj hG; subst hr
    exact hm
  clear hG
  rcases ite_s hF with ⟨q_17, hG⟩ | ⟨q_17, hG⟩
  · clear hF
    obtain ⟨q86, hF⟩ := ck_s hG; clear hG
    obtain ⟨v88, H89, z87, hG⟩ := bC_s hF; clear hF
    have gz_18 := (g_Ticker_actEmit z87 hm.1 q_p0 q_p1)
    replace hm : Rg Q H H89 := hm.tr gz_18
    have s_19 : Sa H H89 := (m_Ticker_actEmit z87)
    obtain ⟨q90, hF⟩ := ck_s hG; clear hG
    have hr := Option.some.inj hF; subst hr
    exact hm
  clear hF
  rcases ite_s hG with ⟨q_20, hF⟩ | ⟨q_20, hF⟩
  · clear hG
    obtain ⟨q92, hG⟩ := ck_s hF; clear hF
    obtain ⟨x93, -, hF⟩ := bnd_g hG; clear hG
    obtain ⟨q94, hG⟩ := ck_s hF; clear hF
    obtain ⟨v96, H97, z95, hF⟩ := bC_s hG; clear hG
    have gz_21 := (g_Ticker_actShow z95 hm.1 q_p0)
    replace hm : Rg Q H H97 := hm.tr gz_21
    have s_22 : Sa H H97 := (m_Ticker_actShow z95)
    obtain ⟨q98, hG⟩ := ck_s hF; clear hF
    have hr := Option.some.inj hG; subst hr
    exact hm
  clear hG
  obtain ⟨q99, hG⟩ := ck_s hF; clear hF
  obtain ⟨a100, e101, hF⟩ := rf_s hG; clear hG
  have qa100 : Q a100 := hm.1 _ _ _ q_p0 e101
  obtain ⟨q102, hG⟩ := ck_s hF; clear hF
  obtain ⟨x103, -, hF⟩ := bnd_g hG; clear hG
  obtain ⟨q104, hG⟩ := ck_s hF; clear hF
  obtain ⟨v106, H107, z105, hF⟩ := bC_s hG; clear hG
  have gz_23 := (g_World_placeOf z105 hm.1 qa100)
  replace hm : Rg Q H H107 := hm.tr gz_23
  have s_24 : Sa H H107 := (m_World_placeOf z105)
  obtain ⟨v109, H110, z108, hG⟩ := bC_s hF; clear hF
  have gz_25 := (g_Ticker_actOn z108 hm.1 q_p0 q_p1)
  replace hm : Rg Q H H110 := hm.tr gz_25
  have s_26 : Sa H H110 := (s_24).tr (m_Ticker_actOn z108)
  obtain ⟨q111, hF⟩ := ck_s hG; clear hG
  have hr := Option.some.inj hF; subst hr
  exact hm
set_option maxRecDepth 20000 in
set_option maxHeartbeats 2000000 in
theorem gB_Ticker_runGroup_141 {N : Nat} {Q : Nat → Prop} {p0 : Nat} {p1 : Int32} {kq99 : Int32 → Hp → Option (Unit × Hp)} {B : Nat} (hn : ∀ a, B ≤ a → Q a) (q_p0 : Q p0) (hg99 : ∀ (l2 : Int32) (H : Hp) (r : Unit × Hp), kq99 l2 H = some r → Cl Q H → B ≤ H.sh.length → Rg Q H r.2) {l2 : Int32} {H : Hp} {r : Unit × Hp} (hF : B_Ticker_runGroup_141 N p0 p1 kq99 l2 H = some r) (hc0 : Cl Q H) (hB : B ≤ H.sh.length) : Rg Q H r.2 := by
  unfold B_Ticker_runGroup_141 at hF
  have hm := Rg.rf hc0
  exact hm.tr (hg99 (l2 + 1) H r hF hm.1 hB)
set_option maxRecDepth 20000 in
set_option maxHeartbeats 2000000 in
theorem gB_Ticker_runGroup_99 {N : Nat} {Q : Nat → Prop} {p0 : Nat} {p1 : Int32} {B : Nat} (hn : ∀ a, B ≤ a → Q a) (q_p0 : Q p0) : ∀ (n : Nat) (l2 : Int32) (H : Hp) (r : Unit × Hp), B_Ticker_runGroup_99 N p0 p1 n l2 H = some r → Cl Q H → B ≤ H.sh.length → Rg Q H r.2 := by
  intro n
  induction n with
  | zero => intro l2 H r hF; rw [B_Ticker_runGroup_99] at hF; cases hF
  | succ n ih =>
    intro l2 H r hF hc0 hB
    rw [B_Ticker_runGroup_99] at hF
    have hm := Rg.rf hc0
    obtain ⟨q157, hG⟩ := ck_s hF; clear hF
    obtain ⟨a158, e159, hF⟩ := rf_s hG; clear hG
    have qa158 : Q a158 := hm.1 _ _ _ q_p0 e159
    obtain ⟨q160, hG⟩ := ck_s hF; clear hF
    obtain ⟨x161, -, hF⟩ := bnd_g hG; clear hG
    rcases ite_s hF with ⟨q_38, hG⟩ | ⟨q_38, hG⟩
    · clear hF
      have hr := Option.some.inj hG; subst hr
      exact hm
    · clear hF
      obtain ⟨a163, e164, hF⟩ := rf_s hG; clear hG
      have qa163 : Q a163 := hm.1 _ _ _ q_p0 e164
      obtain ⟨q165, hG⟩ := ck_s hF; clear hF
      obtain ⟨a166, e167, hF⟩ := rf_s hG; clear hG
      have qa166 : Q a166 := hm.1 _ _ _ qa163 e167
      obtain ⟨v169, H170, z168, hG⟩ := bC_s hF; clear hF
      have gz_39 := (g_Ticker_acts z168 hm.1 q_p0 qa166)
      replace hm : Rg Q H H170 := hm.tr gz_39
      replace hB : B ≤ H170.sh.length := Nat.le_trans hB ((m_Ticker_acts z168)).mo.len
      have s_40 : Sa H H170 := (m_Ticker_acts z168)
      rcases ite_s hG with ⟨q_41, hF⟩ | ⟨q_41, hF⟩
      · clear hG
        obtain ⟨a172, e173, hG⟩ := rf_s hF; clear hF
        have qa172 : Q a172 := hm.1 _ _ _ q_p0 e173
        obtain ⟨q174, hF⟩ := ck_s hG; clear hG
        rw [(s_40).1] at q174
        obtain ⟨x175, -, hG⟩ := bnd_g hF; clear hF
        obtain ⟨H176, eH176, hF⟩ := bnd_g hG; clear hG
        replace hm : Rg Q H H176 := hm.tr (by rw [eH176]; exact Rg.sD hm.1 qa172)
        have s_42 : Sa H H176 := by rw [eH176]; exact s_40
        replace hB : B ≤ H176.sh.length := by rw [eH176]; exact hB
        exact hm.tr (gB_Ticker_runGroup_141 hn q_p0 ih hF hm.1 hB)
      · clear hG
        exact hm.tr (gB_Ticker_runGroup_141 hn q_p0 ih hF hm.1 hB)
set_option maxRecDepth 20000 in
set_option maxHeartbeats 2000000 in
theorem gB_Ticker_runGroup_91 {N : Nat} {Q : Nat → Prop} {p0 : Nat} {p1 : Int32} {kq10 : Int32 → Hp → Option (Unit × Hp)} {B : Nat} (hn : ∀ a, B ≤ a → Q a) (q_p0 : Q p0) (hg10 : ∀ (l2 : Int32) (H : Hp) (r : Unit × Hp), kq10 l2 H = some r → Cl Q H → B ≤ H.sh.length → Rg Q H r.2) {l2 : Int32} {H : Hp} {r : Unit × Hp} (hF : B_Ticker_runGroup_91 N p0 p1 kq10 l2 H = some r) (hc0 : Cl Q H) (hB : B ≤ H.sh.length) : Rg Q H r.2 := by
  unfold B_Ticker_runGroup_91 at hF
  have hm := Rg.rf hc0
  exact hm.tr (hg10 (l2 + 1) H r hF hm.1 hB)
set_option maxRecDepth 20000 in
set_option maxHeartbeats 2000000 in
theorem gB_Ticker_runGroup_85 {N : Nat} {Q : Nat → Prop} {p0 : Nat} {p1 : Int32} {kq10 : Int32 → Hp → Option (Unit × Hp)} {kq23 : Int32 → Int32 → Hp → Option (Unit × Hp)} {B : Nat} (hn : ∀ a, B ≤ a → Q a) (q_p0 : Q p0) (hg10 : ∀ (l2 : Int32) (H : Hp) (r : Unit × Hp), kq10 l2 H = some r → Cl Q H → B ≤ H.sh.length → Rg Q H r.2) (hg23 : ∀ (l2 : Int32) (l3 : Int32) (H : Hp) (r : Unit × Hp), kq23 l2 l3 H = some r → Cl Q H → B ≤ H.sh.length → Rg Q H r.2) {l2 : Int32} {l3 : Int32} {H : Hp} {r : Unit × Hp} (hF : B_Ticker_runGroup_85 N p0 p1 kq10 kq23 l2 l3 H = some r) (hc0 : Cl Q H) (hB : B ≤ H.sh.length) : Rg Q H r.2 := by
  unfold B_Ticker_runGroup_85 at hF
  have hm := Rg.rf hc0
  exact hm.tr (hg23 l2 (l3 + 1) H r hF hm.1 hB)
set_option maxRecDepth 20000 in
set_option maxHeartbeats 2000000 in
theorem gB_Ticker_runGroup_23 {N : Nat} {Q : Nat → Prop} {p0 : Nat} {p1 : Int32} {kq10 : Int32 → Hp → Option (Unit × Hp)} {B : Nat} (hn : ∀ a, B ≤ a → Q a) (q_p0 : Q p0) (hg10 : ∀ (l2 : Int32) (H : Hp) (r : Unit × Hp), kq10 l2 H = some r → Cl Q H → B ≤ H.sh.length → Rg Q H r.2) : ∀ (n : Nat) (l2 : Int32) (l3 : Int32) (H : Hp) (r : Unit × Hp), B_Ticker_runGroup_23 N p0 p1 kq10 n l2 l3 H = some r → Cl Q H → B ≤ H.sh.length → Rg Q H r.2 := by
  intro n
  induction n with
  | zero => intro l2 l3 H r hF; rw [B_Ticker_runGroup_23] at hF; cases hF
  | succ n ih =>
    intro l2 l3 H r hF hc0 hB
    rw [B_Ticker_runGroup_23] at hF
    have hm := Rg.rf hc0
    obtain ⟨q177, hG⟩ := ck_s hF; clear hF
    obtain ⟨a178, e179, hF⟩ := rf_s hG; clear hG
    have qa178 : Q a178 := hm.1 _ _ _ q_p0 e179
    obtain ⟨q180, hG⟩ := ck_s hF; clear hF
    obtain ⟨x181, -, hF⟩ := bnd_g hG; clear hG
    rcases ite_s hF with ⟨q_43, hG⟩ | ⟨q_43, hG⟩
    · clear hF
      exact hm.tr (gB_Ticker_runGroup_91 hn q_p0 hg10 hG hm.1 hB)
    · clear hF
      obtain ⟨a183, e184, hF⟩ := rf_s hG; clear hG
      have qa183 : Q a183 := hm.1 _ _ _ q_p0 e184
      obtain ⟨q185, hG⟩ := ck_s hF; clear hF
      obtain ⟨a186, e187, hF⟩ := rf_s hG; clear hG
      have qa186 : Q a186 := hm.1 _ _ _ qa183 e187
      obtain ⟨n188, q189, hG⟩ := ar_s hF; clear hF
      obtain ⟨q190, hF⟩ := ck_s hG; clear hG
      obtain ⟨x191, -, hG⟩ := bnd_g hF; clear hF
      rcases ite_s hG with ⟨q_44, hF⟩ | ⟨q_44, hF⟩
      · clear hG
        obtain ⟨a193, e194, hG⟩ := rf_s hF; clear hF
        have qa193 : Q a193 := hm.1 _ _ _ q_p0 e194
        obtain ⟨a195, e196, hF⟩ := rf_s hG; clear hG
        have qa195 : Q a195 := hm.1 _ _ _ q_p0 e196
        obtain ⟨q197, hG⟩ := ck_s hF; clear hF
        obtain ⟨a198, e199, hF⟩ := rf_s hG; clear hG
        have qa198 : Q a198 := hm.1 _ _ _ qa195 e199
        obtain ⟨n200, q201, hG⟩ := ar_s hF; clear hF
        obtain ⟨q202, hF⟩ := ck_s hG; clear hG
        obtain ⟨x203, -, hG⟩ := bnd_g hF; clear hF
        obtain ⟨a204, e205, hF⟩ := rf_s hG; clear hG
        have qa204 : Q a204 := hm.1 _ _ _ q_p0 e205
        obtain ⟨q206, hG⟩ := ck_s hF; clear hF
        obtain ⟨a207, e208, hF⟩ := rf_s hG; clear hG
        have qa207 : Q a207 := hm.1 _ _ _ qa204 e208
        obtain ⟨n209, q210, hG⟩ := ar_s hF; clear hF
        obtain ⟨q211, hF⟩ := ck_s hG; clear hG
        obtain ⟨x212, -, hG⟩ := bnd_g hF; clear hF
        obtain ⟨q213, hF⟩ := ck_s hG; clear hG
        obtain ⟨v215, H216, z214, hG⟩ := bC_s hF; clear hF
        have gz_45 := (g_World_matches z214 hm.1 qa193)
        replace hm : Rg Q H H216 := hm.tr gz_45
        replace hB : B ≤ H216.sh.length := Nat.le_trans hB ((m_World_matches z214)).mo.len
        have s_46 : Sa H H216 := (m_World_matches z214)
        rcases ite_s hG with ⟨q_47, hF⟩ | ⟨q_47, hF⟩
        · clear hG
          exact hm.tr (gB_Ticker_runGroup_85 hn q_p0 hg10 ih hF hm.1 hB)
        · clear hG
          obtain ⟨a218, e219, hG⟩ := rf_s hF; clear hF
          have qa218 : Q a218 := hm.1 _ _ _ q_p0 e219
          obtain ⟨q220, hF⟩ := ck_s hG; clear hG
          rw [(s_46).1] at q220
          obtain ⟨v222, H223, z221, hG⟩ := bC_s hF; clear hF
          have gz_48 := (g_Row_runRow hn z221 hm.1 hB qa218)
          replace hm : Rg Q H H223 := hm.tr gz_48
          replace hB : B ≤ H223.sh.length := Nat.le_trans hB ((m_Row_runRow z221)).len
          have mz_49 : Mo H216 H223 := (m_Row_runRow z221)
          have q_50 := (mz_49).get (by rw [(s_46).1]; exact q177)
          have q_51 := (mz_49).get (by rw [(s_46).1]; exact q180)
          have q_52 := (mz_49).get (by rw [(s_46).1]; exact q185)
          have q_53 := (mz_49).get (by rw [(s_46).1]; exact q189)
          have q_54 := (mz_49).get (by rw [(s_46).1]; exact q197)
          have q_55 := (mz_49).get (by rw [(s_46).1]; exact q201)
          have q_56 := (mz_49).get (by rw [(s_46).1]; exact q206)
          have q_57 := (mz_49).get (by rw [(s_46).1]; exact q210)
          have q_58 := (mz_49).get (by rw [(s_46).1]; exact q213)
          have q_59 := (mz_49).get (by rw [(s_46).1]; exact q220)
          exact hm.tr (gB_Ticker_runGroup_85 hn q_p0 hg10 ih hG hm.1 hB)
      · clear hG
        exact hm.tr (gB_Ticker_runGroup_91 hn q_p0 hg10 hF hm.1 hB)
set_option maxRecDepth 20000 in
set_option maxHeartbeats 2000000 in
theorem gB_Ticker_runGroup_10 {N : Nat} {Q : Nat → Prop} {p0 : Nat} {p1 : Int32} {B : Nat} (hn : ∀ a, B ≤ a → Q a) (q_p0 : Q p0) : ∀ (n : Nat) (l2 : Int32) (H : Hp) (r : Unit × Hp), B_Ticker_runGroup_10 N p0 p1 n l2 H = some r → Cl Q H → B ≤ H.sh.length → Rg Q H r.2 := by
  intro n
  induction n with
  | zero => intro l2 H r hF; rw [B_Ticker_runGroup_10] at hF; cases hF
  | succ n ih =>
    intro l2 H r hF hc0 hB
    rw [B_Ticker_runGroup_10] at hF
    have hm := Rg.rf hc0
    obtain ⟨q224, hG⟩ := ck_s hF; clear hF
    obtain ⟨a225, e226, hF⟩ := rf_s hG; clear hG
    have qa225 : Q a225 := hm.1 _ _ _ q_p0 e226
    obtain ⟨q227, hG⟩ := ck_s hF; clear hF
    obtain ⟨x228, -, hF⟩ := bnd_g hG; clear hG
    rcases ite_s hF with ⟨q_60, hG⟩ | ⟨q_60, hG⟩
    · clear hF
      exact hm.tr (gB_Ticker_runGroup_99 hn q_p0 N 0 H r hG hm.1 hB)
    · clear hF
      exact hm.tr (gB_Ticker_runGroup_23 hn q_p0 ih N l2 0 H r hG hm.1 hB)
set_option maxRecDepth 20000 in
set_option maxHeartbeats 2000000 in
theorem g_Ticker_runGroup {N : Nat} {Q : Nat → Prop} {p0 : Nat} {p1 : Int32} {H : Hp} {r : Unit × Hp} {B : Nat} (hn : ∀ a, B ≤ a → Q a) (hF : F_Ticker_runGroup N p0 p1 H = some r) (hc0 : Cl Q H) (hB : B ≤ H.sh.length) (q_p0 : Q p0) : Rg Q H r.2 := by
  unfold F_Ticker_runGroup at hF
  have hm := Rg.rf hc0
  obtain ⟨q230, hG⟩ := ck_s hF; clear hF
  obtain ⟨a231, e232, hF⟩ := rf_s hG; clear hG
  have qa231 : Q a231 := hm.1 _ _ _ q_p0 e232
  obtain ⟨q233, hG⟩ := ck_s hF; clear hF
  obtain ⟨H234, eH234, hF⟩ := bnd_g hG; clear hG
  replace hm : Rg Q H H234 := hm.tr (by rw [eH234]; exact Rg.sD hm.1 qa231)
  have s_61 : Sa H H234 := by rw [eH234]; exact Sa.rf _
  replace hB : B ≤ H234.sh.length := by rw [eH234]; exact hB
  exact hm.tr (gB_Ticker_runGroup_10 hn q_p0 N 0 H234 r hF hm.1 hB)
set_option maxRecDepth 20000 in
set_option maxHeartbeats 2000000 in
theorem gB_World_dropDue_54 {N : Nat} {Q : Nat → Prop} {p0 : Nat} {kq4 : Int32 → Int32 → Hp → Option (Unit × Hp)} (q_p0 : Q p0) (hg4 : ∀ (l1 : Int32) (l2 : Int32) (H : Hp) (r : Unit × Hp), kq4 l1 l2 H = some r → Cl Q H → Rg Q H r.2) {l1 : Int32} {l2 : Int32} {H : Hp} {r : Unit × Hp} (hF : B_World_dropDue_54 N p0 kq4 l1 l2 H = some r) (hc0 : Cl Q H) : Rg Q H r.2 := by
  unfold B_World_dropDue_54 at hF
  have hm := Rg.rf hc0
  exact hm.tr (hg4 l1 (l2 + 1) H r hF hm.1)
set_option maxRecDepth 20000 in
set_option maxHeartbeats 2000000 in
theorem gB_World_dropDue_4 {N : Nat} {Q : Nat → Prop} {p0 : Nat} (q_p0 : Q p0) : ∀ (n : Nat) (l1 : Int32) (l2 : Int32) (H : Hp) (r : Unit × Hp), B_World_dropDue_4 N p0 n l1 l2 H = some r → Cl Q H → Rg Q H r.2 := by
  intro n
  induction n with
  | zero => intro l1 l2 H r hF; rw [B_World_dropDue_4] at hF; cases hF
  | succ n ih =>
    intro l1 l2 H r hF hc0
    rw [B_World_dropDue_4] at hF
    have hm := Rg.rf hc0
    obtain ⟨q53, hG⟩ := ck_s hF; clear hF
    obtain ⟨x54, -, hF⟩ := bnd_g hG; clear hG
    rcases ite_s hF with ⟨q_7, hG⟩ | ⟨q_7, hG⟩
    · clear hF
      obtain ⟨H56, eH56, hF⟩ := bnd_g hG; clear hG
      replace hm : Rg Q H H56 := hm.tr (by rw [eH56]; exact Rg.sD hm.1 q_p0)
      have s_8 : Sa H H56 := by rw [eH56]; exact Sa.rf _
      have hr := Option.some.inj hF; subst hr
      exact hm
    · clear hF
      obtain ⟨a57, e58, hF⟩ := rf_s hG; clear hG
      have qa57 : Q a57 := hm.1 _ _ _ q_p0 e58
      obtain ⟨n59, q60, hG⟩ := ar_s hF; clear hF
      obtain ⟨q61, hF⟩ := ck_s hG; clear hG
      obtain ⟨x62, -, hG⟩ := bnd_g hF; clear hF
      obtain ⟨x63, -, hF⟩ := bnd_g hG; clear hG
      rcases ite_s hF with ⟨q_9, hG⟩ | ⟨q_9, hG⟩
      · clear hF
        exact hm.tr (gB_World_dropDue_54 q_p0 ih hG hm.1)
      · clear hF
        obtain ⟨a65, e66, hF⟩ := rf_s hG; clear hG
        have qa65 : Q a65 := hm.1 _ _ _ q_p0 e66
        obtain ⟨a67, e68, hG⟩ := rf_s hF; clear hF
        have qa67 : Q a67 := hm.1 _ _ _ q_p0 e68
        obtain ⟨n69, q70, hF⟩ := ar_s hG; clear hG
        obtain ⟨n71, q72, hG⟩ := ar_s hF; clear hF
        obtain ⟨q73, hF⟩ := ck_s hG; clear hG
        obtain ⟨q74, hG⟩ := ck_s hF; clear hF
        obtain ⟨q75, hF⟩ := ck_s hG; clear hG
        obtain ⟨q76, hG⟩ := ck_s hF; clear hF
        obtain ⟨q77, hF⟩ := ck_s hG; clear hG
        obtain ⟨H78, eH78, hG⟩ := bnd_g hF; clear hF
        replace hm : Rg Q H H78 := hm.tr (by rw [eH78]; exact Rg.cpy hm.1 qa67)
        have s_10 : Sa H H78 := by rw [eH78]; exact Sa.rf _
        exact hm.tr (gB_World_dropDue_54 q_p0 ih hG hm.1)
set_option maxRecDepth 20000 in
set_option maxHeartbeats 2000000 in
theorem g_World_dropDue {N : Nat} {Q : Nat → Prop} {p0 : Nat} {H : Hp} {r : Unit × Hp} (hF : F_World_dropDue N p0 H = some r) (hc0 : Cl Q H) (q_p0 : Q p0) : Rg Q H r.2 := by
  unfold F_World_dropDue at hF
  have hm := Rg.rf hc0
  exact hm.tr (gB_World_dropDue_4 q_p0 N 0 0 H r hF hm.1)
set_option maxRecDepth 20000 in
set_option maxHeartbeats 2000000 in
theorem gB_Ticker_runTick_58 {N : Nat} {Q : Nat → Prop} {p0 : Nat} {p1 : Nat} {p2 : Nat} {p3 : Nat} {B : Nat} (hn : ∀ a, B ≤ a → Q a) (q_p0 : Q p0) (q_p1 : Q p1) (q_p2 : Q p2) (q_p3 : Q p3) : ∀ (n : Nat) (l4 : Int32) (H : Hp) (r : Unit × Hp), B_Ticker_runTick_58 N p0 p1 p2 p3 n l4 H = some r → Cl Q H → B ≤ H.sh.length → Rg Q H r.2 := by
  intro n
  induction n with
  | zero => intro l4 H r hF; rw [B_Ticker_runTick_58] at hF; cases hF
  | succ n ih =>
    intro l4 H r hF hc0 hB
    rw [B_Ticker_runTick_58] at hF
    have hm := Rg.rf hc0
    obtain ⟨q83, hG⟩ := ck_s hF; clear hF
    obtain ⟨a84, e85, hF⟩ := rf_s hG; clear hG
    have qa84 : Q a84 := hm.1 _ _ _ q_p0 e85
    obtain ⟨q86, hG⟩ := ck_s hF; clear hF
    obtain ⟨x87, -, hF⟩ := bnd_g hG; clear hG
    rcases ite_s hF with ⟨q_23, hG⟩ | ⟨q_23, hG⟩
    · clear hF
      obtain ⟨a89, e90, hF⟩ := rf_s hG; clear hG
      have qa89 : Q a89 := hm.1 _ _ _ q_p0 e90
      obtain ⟨q91, hG⟩ := ck_s hF; clear hF
      obtain ⟨v93, H94, z92, hF⟩ := bC_s hG; clear hG
      have gz_24 := (g_World_dropDue z92 hm.1 qa89)
      replace hm : Rg Q H H94 := hm.tr gz_24
      replace hB : B ≤ H94.sh.length := Nat.le_trans hB ((m_World_dropDue z92)).mo.len
      have s_25 : Sa H H94 := (m_World_dropDue z92)
      have hr := Option.some.inj hF; subst hr
      exact hm
    · clear hF
      obtain ⟨v96, H97, z95, hF⟩ := bC_s hG; clear hG
      have gz_26 := (g_Ticker_runGroup hn z95 hm.1 hB q_p0)
      replace hm : Rg Q H H97 := hm.tr gz_26
      replace hB : B ≤ H97.sh.length := Nat.le_trans hB ((m_Ticker_runGroup z95)).len
      have mz_27 : Mo H H97 := (m_Ticker_runGroup z95)
      have q_28 := (mz_27).get q83
      have q_29 := (mz_27).get q86
      exact hm.tr (ih (l4 + 1) H97 r hF hm.1 hB)
set_option maxRecDepth 20000 in
set_option maxHeartbeats 2000000 in
theorem g_Ticker_runTick {N : Nat} {Q : Nat → Prop} {p0 : Nat} {p1 : Nat} {p2 : Nat} {p3 : Nat} {H : Hp} {r : Unit × Hp} {B : Nat} (hn : ∀ a, B ≤ a → Q a) (hF : F_Ticker_runTick N p0 p1 p2 p3 H = some r) (hc0 : Cl Q H) (hB : B ≤ H.sh.length) (q_p0 : Q p0) (q_p1 : Q p1) (q_p2 : Q p2) (q_p3 : Q p3) : Rg Q H r.2 := by
  unfold F_Ticker_runTick at hF
  have hm := Rg.rf hc0
  obtain ⟨q98, hG⟩ := ck_s hF; clear hF
  obtain ⟨H99, eH99, hF⟩ := bnd_g hG; clear hG
  replace hm : Rg Q H H99 := hm.tr (by rw [eH99]; exact Rg.sP hm.1 q_p0 (is_rf q_p1) q98 rfl)
  have s_30 : Sa H H99 := by rw [eH99]; exact Sa.rf _
  replace hB : B ≤ H99.sh.length := by rw [eH99]; exact hB
  obtain ⟨H100, eH100, hG⟩ := bnd_g hF; clear hF
  replace hm : Rg Q H H100 := hm.tr (by rw [eH100]; exact Rg.sP hm.1 q_p0 (is_rf q_p2) (by rw [(s_30).1]; exact q98) rfl)
  have s_31 : Sa H H100 := by rw [eH100]; exact s_30
  replace hB : B ≤ H100.sh.length := by rw [eH100]; exact hB
  obtain ⟨a101, e102, hF⟩ := rf_s hG; clear hG
  have qa101 : Q a101 := hm.1 _ _ _ q_p0 e102
  obtain ⟨q103, hG⟩ := ck_s hF; clear hF
  rw [(s_31).1] at q103
  obtain ⟨x104, -, hF⟩ := bnd_g hG; clear hG
  obtain ⟨H105, eH105, hG⟩ := bnd_g hF; clear hF
  replace hm : Rg Q H H105 := hm.tr (by rw [eH105]; exact Rg.sD hm.1 qa101)
  have s_32 : Sa H H105 := by rw [eH105]; exact s_31
  replace hB : B ≤ H105.sh.length := by rw [eH105]; exact hB
  obtain ⟨a106, e107, hF⟩ := rf_s hG; clear hG
  have qa106 : Q a106 := hm.1 _ _ _ q_p0 e107
  obtain ⟨q108, hG⟩ := ck_s hF; clear hF
  rw [(s_32).1] at q108
  obtain ⟨H109, eH109, hF⟩ := bnd_g hG; clear hG
  replace hm : Rg Q H H109 := hm.tr (by rw [eH109]; exact Rg.sD hm.1 qa106)
  have s_33 : Sa H H109 := by rw [eH109]; exact s_32
  replace hB : B ≤ H109.sh.length := by rw [eH109]; exact hB
  obtain ⟨a110, e111, hG⟩ := rf_s hF; clear hF
  have qa110 : Q a110 := hm.1 _ _ _ q_p0 e111
  obtain ⟨q112, hF⟩ := ck_s hG; clear hG
  rw [(s_33).1] at q112
  obtain ⟨H113, eH113, hG⟩ := bnd_g hF; clear hF
  replace hm : Rg Q H H113 := hm.tr (by rw [eH113]; exact Rg.sD hm.1 qa110)
  have s_34 : Sa H H113 := by rw [eH113]; exact s_33
  replace hB : B ≤ H113.sh.length := by rw [eH113]; exact hB
  obtain ⟨a114, e115, hF⟩ := rf_s hG; clear hG
  have qa114 : Q a114 := hm.1 _ _ _ q_p0 e115
  obtain ⟨a116, e117, hG⟩ := rf_s hF; clear hF
  have qa116 : Q a116 := hm.1 _ _ _ q_p0 e117
  obtain ⟨a118, e119, hF⟩ := rf_s hG; clear hG
  have qa118 : Q a118 := hm.1 _ _ _ q_p0 e119
  obtain ⟨q120, hG⟩ := ck_s hF; clear hF
  rw [(s_34).1] at q120
  obtain ⟨v122, H123, z121, hF⟩ := bC_s hG; clear hG
  have gz_35 := (g_Row_open z121 hm.1 qa114 qa116 qa118 q_p3)
  replace hm : Rg Q H H123 := hm.tr gz_35
  replace hB : B ≤ H123.sh.length := Nat.le_trans hB ((m_Row_open z121)).mo.len
  have s_36 : Sa H H123 := (s_34).tr (m_Row_open z121)
  exact hm.tr (gB_Ticker_runTick_58 hn q_p0 q_p1 q_p2 q_p3 N 0 H123 r hF hm.1 hB)
set_option maxRecDepth 20000 in
set_option maxHeartbeats 2000000 in
theorem gB_Play_isKnown_39 {N : Nat} {Q : Nat → Prop} {p0 : Nat} {p1 : Int32} {kq2 : Int32 → Hp → Option (Int32 × Hp)} (q_p0 : Q p0) (hg2 : ∀ (l2 : Int32) (H : Hp) (r : Int32 × Hp), kq2 l2 H = some r → Cl Q H → Rg Q H r.2) {l2 : Int32} {H : Hp} {r : Int32 × Hp} (hF : B_Play_isKnown_39 N p0 p1 kq2 l2 H = some r) (hc0 : Cl Q H) : Rg Q H r.2 := by
  unfold B_Play_isKnown_39 at hF
  have hm := Rg.rf hc0
  exact hm.tr (hg2 (l2 + 1) H r hF hm.1)
set_option maxRecDepth 20000 in
set_option maxHeartbeats 2000000 in
theorem gB_Play_isKnown_2 {N : Nat} {Q : Nat → Prop} {p0 : Nat} {p1 : Int32} (q_p0 : Q p0) : ∀ (n : Nat) (l2 : Int32) (H : Hp) (r : Int32 × Hp), B_Play_isKnown_2 N p0 p1 n l2 H = some r → Cl Q H → Rg Q H r.2 := by
  intro n
  induction n with
  | zero => intro l2 H r hF; rw [B_Play_isKnown_2] at hF; cases hF
  | succ n ih =>
    intro l2 H r hF hc0
    rw [B_Play_isKnown_2] at hF
    have hm := Rg.rf hc0
    rcases ite_s hF with ⟨q_6, hG⟩ | ⟨q_6, hG⟩
    · clear hF
      have hr := Option.some.inj hG; subst hr
      exact hm
    · clear hF
      obtain ⟨q40, hF⟩ := ck_s hG; clear hG
      obtain ⟨a41, e42, hG⟩ := rf_s hF; clear hF
      have qa41 : Q a41 := hm.1 _ _ _ q_p0 e42
      obtain ⟨n43, q44, hF⟩ := ar_s hG; clear hG
      obtain ⟨q45, hG⟩ := ck_s hF; clear hF
      obtain ⟨x46, -, hF⟩ := bnd_g hG; clear hG
      rcases ite_s hF with ⟨q_7, hG⟩ | ⟨q_7, hG⟩
      · clear hF
        obtain ⟨a48, e49, hF⟩ := rf_s hG; clear hG
        have qa48 : Q a48 := hm.1 _ _ _ q_p0 e49
        obtain ⟨v51, H52, z50, hG⟩ := bC_s hF; clear hF
        have gz_8 := (g_Play_slot z50 hm.1)
        replace hm : Rg Q H H52 := hm.tr gz_8
        have s_9 : Sa H H52 := (m_Play_slot z50)
        obtain ⟨n53, q54, hF⟩ := ar_s hG; clear hG
        rw [(s_9).1] at q54
        obtain ⟨q55, hG⟩ := ck_s hF; clear hF
        obtain ⟨x56, -, hF⟩ := bnd_g hG; clear hG
        rcases ite_s hF with ⟨q_10, hG⟩ | ⟨q_10, hG⟩
        · clear hF
          have hr := Option.some.inj hG; subst hr
          exact hm
        · clear hF
          exact hm.tr (gB_Play_isKnown_39 q_p0 ih hG hm.1)
      · clear hF
        exact hm.tr (gB_Play_isKnown_39 q_p0 ih hG hm.1)
set_option maxRecDepth 20000 in
set_option maxHeartbeats 2000000 in
theorem g_Play_isKnown {N : Nat} {Q : Nat → Prop} {p0 : Nat} {p1 : Int32} {H : Hp} {r : Int32 × Hp} (hF : F_Play_isKnown N p0 p1 H = some r) (hc0 : Cl Q H) (q_p0 : Q p0) : Rg Q H r.2 := by
  unfold F_Play_isKnown at hF
  have hm := Rg.rf hc0
  exact hm.tr (gB_Play_isKnown_2 q_p0 N 0 H r hF hm.1)
set_option maxRecDepth 20000 in
set_option maxHeartbeats 2000000 in
theorem gB_Play_tell_2 {N : Nat} {Q : Nat → Prop} {p0 : Nat} {p1 : Nat} (q_p0 : Q p0) (q_p1 : Q p1) : ∀ (n : Nat) (l2 : Int32) (H : Hp) (r : Unit × Hp), B_Play_tell_2 N p0 p1 n l2 H = some r → Cl Q H → Rg Q H r.2 := by
  intro n
  induction n with
  | zero => intro l2 H r hF; rw [B_Play_tell_2] at hF; cases hF
  | succ n ih =>
    intro l2 H r hF hc0
    rw [B_Play_tell_2] at hF
    have hm := Rg.rf hc0
    obtain ⟨q39, hG⟩ := ck_s hF; clear hF
    obtain ⟨x40, -, hF⟩ := bnd_g hG; clear hG
    rcases ite_s hF with ⟨q_6, hG⟩ | ⟨q_6, hG⟩
    · clear hF
      have hr := Option.some.inj hG; subst hr
      exact hm
    · clear hF
      obtain ⟨q42, hF⟩ := ck_s hG; clear hG
      obtain ⟨a43, e44, hG⟩ := rf_s hF; clear hF
      have qa43 : Q a43 := hm.1 _ _ _ q_p0 e44
      obtain ⟨x45, -, hF⟩ := bnd_g hG; clear hG
      obtain ⟨a46, e47, hG⟩ := rf_s hF; clear hF
      have qa46 : Q a46 := hm.1 _ _ _ q_p1 e47
      obtain ⟨n48, q49, hF⟩ := ar_s hG; clear hG
      obtain ⟨q50, hG⟩ := ck_s hF; clear hF
      obtain ⟨x51, -, hF⟩ := bnd_g hG; clear hG
      obtain ⟨n52, q53, hG⟩ := ar_s hF; clear hF
      obtain ⟨q54, hF⟩ := ck_s hG; clear hG
      obtain ⟨H55, eH55, hG⟩ := bnd_g hF; clear hF
      replace hm : Rg Q H H55 := hm.tr (by rw [eH55]; exact Rg.sD hm.1 qa43)
      have s_7 : Sa H H55 := by rw [eH55]; exact Sa.rf _
      obtain ⟨x56, -, hF⟩ := bnd_g hG; clear hG
      obtain ⟨H57, eH57, hG⟩ := bnd_g hF; clear hF
      replace hm : Rg Q H H57 := hm.tr (by rw [eH57]; exact Rg.sD hm.1 q_p0)
      have s_8 : Sa H H57 := by rw [eH57]; exact s_7
      exact hm.tr (ih (l2 + 1) H57 r hG hm.1)
set_option maxRecDepth 20000 in
set_option maxHeartbeats 2000000 in
theorem g_Play_tell {N : Nat} {Q : Nat → Prop} {p0 : Nat} {p1 : Nat} {H : Hp} {r : Unit × Hp} (hF : F_Play_tell N p0 p1 H = some r) (hc0 : Cl Q H) (q_p0 : Q p0) (q_p1 : Q p1) : Rg Q H r.2 := by
  unfold F_Play_tell at hF
  have hm := Rg.rf hc0
  exact hm.tr (gB_Play_tell_2 q_p0 q_p1 N 0 H r hF hm.1)
set_option maxRecDepth 20000 in
set_option maxHeartbeats 2000000 in
theorem gB_Play_confirm_129 {N : Nat} {Q : Nat → Prop} {p0 : Nat} {kq2 : Int32 → Hp → Option (Unit × Hp)} (q_p0 : Q p0) (hg2 : ∀ (l1 : Int32) (H : Hp) (r : Unit × Hp), kq2 l1 H = some r → Cl Q H → Rg Q H r.2) {l1 : Int32} {w0 : Nat} {w1 : Nat} {H : Hp} {r : Unit × Hp} (hF : B_Play_confirm_129 N p0 kq2 l1 w0 w1 H = some r) (hc0 : Cl Q H) (q_w0 : Q w0) (q_w1 : Q w1) : Rg Q H r.2 := by
  unfold B_Play_confirm_129 at hF
  have hm := Rg.rf hc0
  obtain ⟨q135, hG⟩ := ck_s hF; clear hF
  obtain ⟨v137, H138, z136, hF⟩ := bC_s hG; clear hG
  have gz_19 := (g_Play_tell z136 hm.1 q_w0 q_w1)
  replace hm : Rg Q H H138 := hm.tr gz_19
  have s_20 : Sa H H138 := (m_Play_tell z136)
  exact hm.tr (hg2 (l1 + 1) H138 r hF hm.1)
set_option maxRecDepth 20000 in
set_option maxHeartbeats 2000000 in
theorem gB_Play_confirm_89 {N : Nat} {Q : Nat → Prop} {p0 : Nat} {kq2 : Int32 → Hp → Option (Unit × Hp)} {kq47 : Int32 → Int32 → Hp → Option (Unit × Hp)} (q_p0 : Q p0) (hg2 : ∀ (l1 : Int32) (H : Hp) (r : Unit × Hp), kq2 l1 H = some r → Cl Q H → Rg Q H r.2) (hg47 : ∀ (l1 : Int32) (l2 : Int32) (H : Hp) (r : Unit × Hp), kq47 l1 l2 H = some r → Cl Q H → Rg Q H r.2) {l1 : Int32} {l2 : Int32} {H : Hp} {r : Unit × Hp} (hF : B_Play_confirm_89 N p0 kq2 kq47 l1 l2 H = some r) (hc0 : Cl Q H) : Rg Q H r.2 := by
  unfold B_Play_confirm_89 at hF
  have hm := Rg.rf hc0
  exact hm.tr (hg47 l1 (l2 + 1) H r hF hm.1)
set_option maxRecDepth 20000 in
set_option maxHeartbeats 2000000 in
theorem gB_Play_confirm_47 {N : Nat} {Q : Nat → Prop} {p0 : Nat} {kq2 : Int32 → Hp → Option (Unit × Hp)} (q_p0 : Q p0) (hg2 : ∀ (l1 : Int32) (H : Hp) (r : Unit × Hp), kq2 l1 H = some r → Cl Q H → Rg Q H r.2) : ∀ (n : Nat) (l1 : Int32) (l2 : Int32) (H : Hp) (r : Unit × Hp), B_Play_confirm_47 N p0 kq2 n l1 l2 H = some r → Cl Q H → Rg Q H r.2 := by
  intro n
  induction n with
  | zero => intro l1 l2 H r hF; rw [B_Play_confirm_47] at hF; cases hF
  | succ n ih =>
    intro l1 l2 H r hF hc0
    rw [B_Play_confirm_47] at hF
    have hm := Rg.rf hc0
    rcases ite_s hF with ⟨q_21, hG⟩ | ⟨q_21, hG⟩
    · clear hF
      obtain ⟨q140, hF⟩ := ck_s hG; clear hG
      obtain ⟨x141, -, hG⟩ := bnd_g hF; clear hF
      obtain ⟨a142, e143, hF⟩ := rf_s hG; clear hG
      have qa142 : Q a142 := hm.1 _ _ _ q_p0 e143
      obtain ⟨q144, hG⟩ := ck_s hF; clear hF
      obtain ⟨x145, -, hF⟩ := bnd_g hG; clear hG
      rcases ite_s hF with ⟨q_22, hG⟩ | ⟨q_22, hG⟩
      · clear hF
        obtain ⟨a147, e148, hF⟩ := rf_s hG; clear hG
        have qa147 : Q a147 := hm.1 _ _ _ q_p0 e148
        exact hm.tr (gB_Play_confirm_129 q_p0 hg2 hF hm.1 q_p0 qa147)
      · clear hF
        obtain ⟨a149, e150, hF⟩ := rf_s hG; clear hG
        have qa149 : Q a149 := hm.1 _ _ _ q_p0 e150
        obtain ⟨x151, -, hG⟩ := bnd_g hF; clear hF
        obtain ⟨n152, q153, hF⟩ := ar_s hG; clear hG
        obtain ⟨q154, hG⟩ := ck_s hF; clear hF
        obtain ⟨a155, e156, hF⟩ := rf_s hG; clear hG
        have qa155 : Q a155 := hm.1 _ _ _ qa149 e156
        exact hm.tr (gB_Play_confirm_129 q_p0 hg2 hF hm.1 q_p0 qa155)
    · clear hF
      obtain ⟨q157, hF⟩ := ck_s hG; clear hG
      obtain ⟨x158, -, hG⟩ := bnd_g hF; clear hF
      obtain ⟨v160, H161, z159, hF⟩ := bC_s hG; clear hG
      have gz_23 := (g_Play_slot z159 hm.1)
      replace hm : Rg Q H H161 := hm.tr gz_23
      have s_24 : Sa H H161 := (m_Play_slot z159)
      obtain ⟨a162, e163, hG⟩ := rf_s hF; clear hF
      have qa162 : Q a162 := hm.1 _ _ _ q_p0 e163
      obtain ⟨n164, q165, hF⟩ := ar_s hG; clear hG
      rw [(s_24).1] at q165
      obtain ⟨q166, hG⟩ := ck_s hF; clear hF
      obtain ⟨x167, -, hF⟩ := bnd_g hG; clear hG
      rcases ite_s hF with ⟨q_25, hG⟩ | ⟨q_25, hG⟩
      · clear hF
        exact hm.tr (gB_Play_confirm_89 q_p0 hg2 ih hG hm.1)
      · clear hF
        obtain ⟨a169, e170, hF⟩ := rf_s hG; clear hG
        have qa169 : Q a169 := hm.1 _ _ _ q_p0 e170
        obtain ⟨a171, e172, hG⟩ := rf_s hF; clear hF
        have qa171 : Q a171 := hm.1 _ _ _ q_p0 e172
        obtain ⟨n173, q174, hF⟩ := ar_s hG; clear hG
        rw [(s_24).1] at q174
        obtain ⟨q175, hG⟩ := ck_s hF; clear hF
        obtain ⟨x176, -, hF⟩ := bnd_g hG; clear hG
        obtain ⟨n177, q178, hG⟩ := ar_s hF; clear hF
        rw [(s_24).1] at q178
        obtain ⟨q179, hF⟩ := ck_s hG; clear hG
        obtain ⟨H180, eH180, hG⟩ := bnd_g hF; clear hF
        replace hm : Rg Q H H180 := hm.tr (by rw [eH180]; exact Rg.sD hm.1 qa169)
        have s_26 : Sa H H180 := by rw [eH180]; exact s_24
        obtain ⟨a181, e182, hF⟩ := rf_s hG; clear hG
        have qa181 : Q a181 := hm.1 _ _ _ q_p0 e182
        obtain ⟨n183, q184, hG⟩ := ar_s hF; clear hF
        rw [(s_26).1] at q184
        obtain ⟨q185, hF⟩ := ck_s hG; clear hG
        obtain ⟨H186, eH186, hG⟩ := bnd_g hF; clear hF
        replace hm : Rg Q H H186 := hm.tr (by rw [eH186]; exact Rg.sD hm.1 qa181)
        have s_27 : Sa H H186 := by rw [eH186]; exact s_26
        exact hm.tr (gB_Play_confirm_89 q_p0 hg2 ih hG hm.1)
set_option maxRecDepth 20000 in
set_option maxHeartbeats 2000000 in
theorem gB_Play_confirm_2 {N : Nat} {Q : Nat → Prop} {p0 : Nat} (q_p0 : Q p0) : ∀ (n : Nat) (l1 : Int32) (H : Hp) (r : Unit × Hp), B_Play_confirm_2 N p0 n l1 H = some r → Cl Q H → Rg Q H r.2 := by
  intro n
  induction n with
  | zero => intro l1 H r hF; rw [B_Play_confirm_2] at hF; cases hF
  | succ n ih =>
    intro l1 H r hF hc0
    rw [B_Play_confirm_2] at hF
    have hm := Rg.rf hc0
    rcases ite_s hF with ⟨q_28, hG⟩ | ⟨q_28, hG⟩
    · clear hF
      have hr := Option.some.inj hG; subst hr
      exact hm
    · clear hF
      obtain ⟨q188, hF⟩ := ck_s hG; clear hG
      obtain ⟨x189, -, hG⟩ := bnd_g hF; clear hF
      obtain ⟨a190, e191, hF⟩ := rf_s hG; clear hG
      have qa190 : Q a190 := hm.1 _ _ _ q_p0 e191
      obtain ⟨q192, hG⟩ := ck_s hF; clear hF
      obtain ⟨x193, -, hF⟩ := bnd_g hG; clear hG
      rcases ite_s hF with ⟨q_29, hG⟩ | ⟨q_29, hG⟩
      · clear hF
        have hr := Option.some.inj hG; subst hr
        exact hm
      · clear hF
        obtain ⟨x195, -, hF⟩ := bnd_g hG; clear hG
        obtain ⟨v197, H198, z196, hG⟩ := bC_s hF; clear hF
        have gz_30 := (g_Play_isKnown z196 hm.1 q_p0)
        replace hm : Rg Q H H198 := hm.tr gz_30
        have s_31 : Sa H H198 := (m_Play_isKnown z196)
        rcases ite_s hG with ⟨q_32, hF⟩ | ⟨q_32, hF⟩
        · clear hG
          have hr := Option.some.inj hF; subst hr
          exact hm
        · clear hG
          obtain ⟨x200, -, hG⟩ := bnd_g hF; clear hF
          obtain ⟨H201, eH201, hF⟩ := bnd_g hG; clear hG
          replace hm : Rg Q H H201 := hm.tr (by rw [eH201]; exact Rg.sD hm.1 q_p0)
          have s_33 : Sa H H201 := by rw [eH201]; exact s_31
          exact hm.tr (gB_Play_confirm_47 q_p0 ih N l1 0 H201 r hF hm.1)
set_option maxRecDepth 20000 in
set_option maxHeartbeats 2000000 in
theorem g_Play_confirm {N : Nat} {Q : Nat → Prop} {p0 : Nat} {H : Hp} {r : Unit × Hp} (hF : F_Play_confirm N p0 H = some r) (hc0 : Cl Q H) (q_p0 : Q p0) : Rg Q H r.2 := by
  unfold F_Play_confirm at hF
  have hm := Rg.rf hc0
  exact hm.tr (gB_Play_confirm_2 q_p0 N 0 H r hF hm.1)
set_option maxRecDepth 20000 in
set_option maxHeartbeats 2000000 in
theorem g_Play_goOn {N : Nat} {Q : Nat → Prop} {p0 : Nat} {p1 : Nat} {H : Hp} {r : Unit × Hp} {B : Nat} (hn : ∀ a, B ≤ a → Q a) (hF : F_Play_goOn N p0 p1 H = some r) (hc0 : Cl Q H) (hB : B ≤ H.sh.length) (q_p0 : Q p0) (q_p1 : Q p1) : Rg Q H r.2 := by
  unfold F_Play_goOn at hF
  have hm := Rg.rf hc0
  obtain ⟨q57, hG⟩ := ck_s hF; clear hF
  obtain ⟨a58, e59, hF⟩ := rf_s hG; clear hG
  have qa58 : Q a58 := hm.1 _ _ _ q_p0 e59
  obtain ⟨a60, e61, hG⟩ := rf_s hF; clear hF
  have qa60 : Q a60 := hm.1 _ _ _ q_p0 e61
  obtain ⟨q62, hF⟩ := ck_s hG; clear hG
  obtain ⟨x63, -, hG⟩ := bnd_g hF; clear hF
  obtain ⟨x64, -, hF⟩ := bnd_g hG; clear hG
  obtain ⟨n65, q66, hG⟩ := ar_s hF; clear hF
  obtain ⟨q67, hF⟩ := ck_s hG; clear hG
  obtain ⟨H68, eH68, hG⟩ := bnd_g hF; clear hF
  replace hm : Rg Q H H68 := hm.tr (by rw [eH68]; exact Rg.sD hm.1 qa58)
  have s_19 : Sa H H68 := by rw [eH68]; exact Sa.rf _
  replace hB : B ≤ H68.sh.length := by rw [eH68]; exact hB
  obtain ⟨v70, H71, z69, hF⟩ := bC_s hG; clear hG
  have gz_20 := (g_Play_prepareNext z69 hm.1 q_p0)
  replace hm : Rg Q H H71 := hm.tr gz_20
  replace hB : B ≤ H71.sh.length := Nat.le_trans hB ((m_Play_prepareNext z69)).mo.len
  have s_21 : Sa H H71 := (s_19).tr (m_Play_prepareNext z69)
  obtain ⟨a72, e73, hG⟩ := rf_s hF; clear hF
  have qa72 : Q a72 := hm.1 _ _ _ q_p0 e73
  obtain ⟨a74, e75, hF⟩ := rf_s hG; clear hG
  have qa74 : Q a74 := hm.1 _ _ _ q_p0 e75
  obtain ⟨a76, e77, hG⟩ := rf_s hF; clear hF
  have qa76 : Q a76 := hm.1 _ _ _ q_p0 e77
  obtain ⟨q78, hF⟩ := ck_s hG; clear hG
  rw [(s_21).1] at q78
  obtain ⟨v80, H81, z79, hG⟩ := bC_s hF; clear hF
  have gz_22 := (g_Ticker_runTick hn z79 hm.1 hB qa72 q_p1 qa74 qa76)
  replace hm : Rg Q H H81 := hm.tr gz_22
  replace hB : B ≤ H81.sh.length := Nat.le_trans hB ((m_Ticker_runTick z79)).len
  have mz_23 : Mo H71 H81 := (m_Ticker_runTick z79)
  have q_24 := (mz_23).get (by rw [(s_21).1]; exact q57)
  have q_25 := (mz_23).get (by rw [(s_21).1]; exact q62)
  have q_26 := (mz_23).get (by rw [(s_21).1]; exact q66)
  have q_27 := (mz_23).get (by rw [(s_21).1]; exact q78)
  obtain ⟨v83, H84, z82, hF⟩ := bC_s hG; clear hG
  have gz_28 := (g_Play_confirm z82 hm.1 q_p0)
  replace hm : Rg Q H H84 := hm.tr gz_28
  replace hB : B ≤ H84.sh.length := Nat.le_trans hB ((m_Play_confirm z82)).mo.len
  have s_29 : Sa H81 H84 := (m_Play_confirm z82)
  have hr := Option.some.inj hF; subst hr
  exact hm
set_option maxRecDepth 20000 in
set_option maxHeartbeats 2000000 in
theorem g_W_step {N : Nat} {Q : Nat → Prop} {p0 : Nat} {H : Hp} {r : Int32 × Hp} {B : Nat} (hn : ∀ a, B ≤ a → Q a) (hF : F_W_step N p0 H = some r) (hc0 : Cl Q H) (hB : B ≤ H.sh.length) (q_p0 : Q p0) : Rg Q H r.2 := by
  unfold F_W_step at hF
  have hm := Rg.rf hc0
  obtain ⟨q81, hG⟩ := ck_s hF; clear hF
  obtain ⟨a82, e83, hF⟩ := rf_s hG; clear hG
  have qa82 : Q a82 := hm.1 _ _ _ q_p0 e83
  obtain ⟨q84, hG⟩ := ck_s hF; clear hF
  obtain ⟨v86, H87, z85, hF⟩ := bC_s hG; clear hG
  have gz_26 := (g_Play_isFullyAhead z85 hm.1 qa82)
  replace hm : Rg Q H H87 := hm.tr gz_26
  replace hB : B ≤ H87.sh.length := Nat.le_trans hB ((m_Play_isFullyAhead z85)).mo.len
  have s_27 : Sa H H87 := (m_Play_isFullyAhead z85)
  rcases ite_s hF with ⟨q_28, hG⟩ | ⟨q_28, hG⟩
  · clear hF
    obtain ⟨x89, -, hF⟩ := bnd_g hG; clear hG
    obtain ⟨x90, -, hG⟩ := bnd_g hF; clear hF
    rcases ite_s hG with ⟨q_29, hF⟩ | ⟨q_29, hF⟩
    · clear hG
      have hr := Option.some.inj hF; subst hr
      exact hm
    · clear hG
      obtain ⟨x92, -, hG⟩ := bnd_g hF; clear hF
      rcases ite_s hG with ⟨q_30, hF⟩ | ⟨q_30, hF⟩
      · clear hG
        have hr := Option.some.inj hF; subst hr
        exact hm
      · clear hG
        obtain ⟨a94, e95, hG⟩ := rf_s hF; clear hF
        have qa94 : Q a94 := hm.1 _ _ _ q_p0 e95
        obtain ⟨q96, hF⟩ := ck_s hG; clear hG
        rw [(s_27).1] at q96
        obtain ⟨a97, e98, hG⟩ := rf_s hF; clear hF
        have qa97 : Q a97 := hm.1 _ _ _ qa94 e98
        obtain ⟨q99, hF⟩ := ck_s hG; clear hG
        rw [(s_27).1] at q99
        obtain ⟨x100, -, hG⟩ := bnd_g hF; clear hF
        rcases ite_s hG with ⟨q_31, hF⟩ | ⟨q_31, hF⟩
        · clear hG
          obtain ⟨a102, e103, hG⟩ := rf_s hF; clear hF
          have qa102 : Q a102 := hm.1 _ _ _ q_p0 e103
          obtain ⟨a104, e105, hF⟩ := rf_s hG; clear hG
          have qa104 : Q a104 := hm.1 _ _ _ q_p0 e105
          obtain ⟨q106, hG⟩ := ck_s hF; clear hF
          rw [(s_27).1] at q106
          obtain ⟨v108, H109, z107, hF⟩ := bC_s hG; clear hG
          have gz_32 := (g_Play_goOn hn z107 hm.1 hB qa102 qa104)
          replace hm : Rg Q H H109 := hm.tr gz_32
          replace hB : B ≤ H109.sh.length := Nat.le_trans hB ((m_Play_goOn z107)).len
          have mz_33 : Mo H87 H109 := (m_Play_goOn z107)
          have q_34 := (mz_33).get (by rw [(s_27).1]; exact q81)
          have q_35 := (mz_33).get (by rw [(s_27).1]; exact q84)
          have q_36 := (mz_33).get (by rw [(s_27).1]; exact q96)
          have q_37 := (mz_33).get (by rw [(s_27).1]; exact q99)
          have q_38 := (mz_33).get (by rw [(s_27).1]; exact q106)
          obtain ⟨x110, -, hG⟩ := bnd_g hF; clear hF
          obtain ⟨x111, -, hF⟩ := bnd_g hG; clear hG
          obtain ⟨H112, eH112, hG⟩ := bnd_g hF; clear hF
          replace hm : Rg Q H H112 := hm.tr (by rw [eH112]; exact Rg.sD hm.1 q_p0)
          have s_39 : Sa H109 H112 := by rw [eH112]; exact Sa.rf _
          replace hB : B ≤ H112.sh.length := by rw [eH112]; exact hB
          obtain ⟨H113, eH113, hF⟩ := bnd_g hG; clear hG
          replace hm : Rg Q H H113 := hm.tr (by rw [eH113]; exact Rg.sD hm.1 q_p0)
          have s_40 : Sa H109 H113 := by rw [eH113]; exact s_39
          replace hB : B ≤ H113.sh.length := by rw [eH113]; exact hB
          obtain ⟨a114, e115, hG⟩ := rf_s hF; clear hF
          have qa114 : Q a114 := hm.1 _ _ _ q_p0 e115
          obtain ⟨q116, hF⟩ := ck_s hG; clear hG
          rw [(s_40).1] at q116
          obtain ⟨a117, e118, hG⟩ := rf_s hF; clear hF
          have qa117 : Q a117 := hm.1 _ _ _ qa114 e118
          obtain ⟨q119, hF⟩ := ck_s hG; clear hG
          rw [(s_40).1] at q119
          obtain ⟨x120, -, hG⟩ := bnd_g hF; clear hF
          have hr := Option.some.inj hG; subst hr
          exact hm
        · clear hG
          have hr := Option.some.inj hF; subst hr
          exact hm
  · clear hF
    have hr := Option.some.inj hG; subst hr
    exact hm
set_option maxRecDepth 20000 in
set_option maxHeartbeats 2000000 in
theorem gB_Play_refusal_63 {N : Nat} {Q : Nat → Prop} {p0 : Nat} {p1 : Int32} {p2 : Int32} (q_p0 : Q p0) {w0 : Int32} {H : Hp} {r : Int32 × Hp} (hF : B_Play_refusal_63 N p0 p1 p2 w0 H = some r) (hc0 : Cl Q H) : Rg Q H r.2 := by
  unfold B_Play_refusal_63 at hF
  have hm := Rg.rf hc0
  rcases ite_s hF with ⟨q_10, hG⟩ | ⟨q_10, hG⟩
  · clear hF
    have hr := Option.some.inj hG; subst hr
    exact hm
  · clear hF
    obtain ⟨q70, hF⟩ := ck_s hG; clear hG
    obtain ⟨a71, e72, hG⟩ := rf_s hF; clear hF
    have qa71 : Q a71 := hm.1 _ _ _ q_p0 e72
    obtain ⟨v74, H75, z73, hF⟩ := bC_s hG; clear hG
    have gz_11 := (g_Play_slot z73 hm.1)
    replace hm : Rg Q H H75 := hm.tr gz_11
    have s_12 : Sa H H75 := (m_Play_slot z73)
    obtain ⟨n76, q77, hG⟩ := ar_s hF; clear hF
    rw [(s_12).1] at q77
    obtain ⟨q78, hF⟩ := ck_s hG; clear hG
    obtain ⟨x79, -, hG⟩ := bnd_g hF; clear hF
    rcases ite_s hG with ⟨q_13, hF⟩ | ⟨q_13, hF⟩
    · clear hG
      have hr := Option.some.inj hF; subst hr
      exact hm
    · clear hG
      have hr := Option.some.inj hF; subst hr
      exact hm
set_option maxRecDepth 20000 in
set_option maxHeartbeats 2000000 in
theorem g_Play_refusal {N : Nat} {Q : Nat → Prop} {p0 : Nat} {p1 : Int32} {p2 : Int32} {H : Hp} {r : Int32 × Hp} (hF : F_Play_refusal N p0 p1 p2 H = some r) (hc0 : Cl Q H) (q_p0 : Q p0) : Rg Q H r.2 := by
  unfold F_Play_refusal at hF
  have hm := Rg.rf hc0
  rcases ite_s hF with ⟨q_14, hG⟩ | ⟨q_14, hG⟩
  · clear hF
    have hr := Option.some.inj hG; subst hr
    exact hm
  · clear hF
    rcases ite_s hG with ⟨q_15, hF⟩ | ⟨q_15, hF⟩
    · clear hG
      obtain ⟨q83, hG⟩ := ck_s hF; clear hF
      obtain ⟨x84, -, hF⟩ := bnd_g hG; clear hG
      rcases ite_s hF with ⟨q_16, hG⟩ | ⟨q_16, hG⟩
      · clear hF
        have hr := Option.some.inj hG; subst hr
        exact hm
      · clear hF
        obtain ⟨a86, e87, hF⟩ := rf_s hG; clear hG
        have qa86 : Q a86 := hm.1 _ _ _ q_p0 e87
        obtain ⟨q88, hG⟩ := ck_s hF; clear hF
        obtain ⟨x89, -, hF⟩ := bnd_g hG; clear hG
        rcases ite_s hF with ⟨q_17, hG⟩ | ⟨q_17, hG⟩
        · clear hF
          obtain ⟨a91, e92, hF⟩ := rf_s hG; clear hG
          have qa91 : Q a91 := hm.1 _ _ _ q_p0 e92
          obtain ⟨q93, hG⟩ := ck_s hF; clear hF
          obtain ⟨x94, -, hF⟩ := bnd_g hG; clear hG
          rcases ite_s hF with ⟨q_18, hG⟩ | ⟨q_18, hG⟩
          · clear hF
            obtain ⟨a96, e97, hF⟩ := rf_s hG; clear hG
            have qa96 : Q a96 := hm.1 _ _ _ q_p0 e97
            obtain ⟨n98, q99, hG⟩ := ar_s hF; clear hF
            obtain ⟨q100, hF⟩ := ck_s hG; clear hG
            obtain ⟨x101, -, hG⟩ := bnd_g hF; clear hF
            exact hm.tr (gB_Play_refusal_63 q_p0 hG hm.1)
          · clear hF
            obtain ⟨x102, -, hF⟩ := bnd_g hG; clear hG
            exact hm.tr (gB_Play_refusal_63 q_p0 hF hm.1)
        · clear hF
          have hr := Option.some.inj hG; subst hr
          exact hm
    · clear hG
      have hr := Option.some.inj hF; subst hr
      exact hm
set_option maxRecDepth 20000 in
set_option maxHeartbeats 2000000 in
theorem gB_Play_firstWrong_2 {N : Nat} {Q : Nat → Prop} {p0 : Nat} {p1 : Int32} {p2 : Int32} (q_p0 : Q p0) : ∀ (n : Nat) (l3 : Int32) (H : Hp) (r : Int32 × Hp), B_Play_firstWrong_2 N p0 p1 p2 n l3 H = some r → Cl Q H → Rg Q H r.2 := by
  intro n
  induction n with
  | zero => intro l3 H r hF; rw [B_Play_firstWrong_2] at hF; cases hF
  | succ n ih =>
    intro l3 H r hF hc0
    rw [B_Play_firstWrong_2] at hF
    have hm := Rg.rf hc0
    obtain ⟨q33, hG⟩ := ck_s hF; clear hF
    obtain ⟨a34, e35, hF⟩ := rf_s hG; clear hG
    have qa34 : Q a34 := hm.1 _ _ _ q_p0 e35
    obtain ⟨q36, hG⟩ := ck_s hF; clear hF
    obtain ⟨x37, -, hF⟩ := bnd_g hG; clear hG
    rcases ite_s hF with ⟨q_5, hG⟩ | ⟨q_5, hG⟩
    · clear hF
      have hr := Option.some.inj hG; subst hr
      exact hm
    · clear hF
      obtain ⟨a39, e40, hF⟩ := rf_s hG; clear hG
      have qa39 : Q a39 := hm.1 _ _ _ q_p0 e40
      obtain ⟨n41, q42, hG⟩ := ar_s hF; clear hF
      obtain ⟨q43, hF⟩ := ck_s hG; clear hG
      obtain ⟨x44, -, hG⟩ := bnd_g hF; clear hF
      obtain ⟨v46, H47, z45, hF⟩ := bC_s hG; clear hG
      have gz_6 := (g_Play_inputOf z45 hm.1 q_p0)
      replace hm : Rg Q H H47 := hm.tr gz_6
      have s_7 : Sa H H47 := (m_Play_inputOf z45)
      rcases ite_s hF with ⟨q_8, hG⟩ | ⟨q_8, hG⟩
      · clear hF
        exact hm.tr (ih (l3 + 1) H47 r hG hm.1)
      · clear hF
        have hr := Option.some.inj hG; subst hr
        exact hm
set_option maxRecDepth 20000 in
set_option maxHeartbeats 2000000 in
theorem g_Play_firstWrong {N : Nat} {Q : Nat → Prop} {p0 : Nat} {p1 : Int32} {p2 : Int32} {H : Hp} {r : Int32 × Hp} (hF : F_Play_firstWrong N p0 p1 p2 H = some r) (hc0 : Cl Q H) (q_p0 : Q p0) : Rg Q H r.2 := by
  unfold F_Play_firstWrong at hF
  have hm := Rg.rf hc0
  exact hm.tr (gB_Play_firstWrong_2 q_p0 N p2 H r hF hm.1)
set_option maxRecDepth 20000 in
set_option maxHeartbeats 2000000 in
theorem gB_Play_accept_80 {N : Nat} {Q : Nat → Prop} {p0 : Nat} {p1 : Nat} {p2 : Int32} {p3 : Int32} {p4 : Int32} {B : Nat} (hn : ∀ a, B ≤ a → Q a) (q_p0 : Q p0) (q_p1 : Q p1) : ∀ (n : Nat) (l7 : Int32) (l8 : Int32) (H : Hp) (r : Int32 × Hp), B_Play_accept_80 N p0 p1 p2 p3 p4 n l7 l8 H = some r → Cl Q H → B ≤ H.sh.length → Rg Q H r.2 := by
  intro n
  induction n with
  | zero => intro l7 l8 H r hF; rw [B_Play_accept_80] at hF; cases hF
  | succ n ih =>
    intro l7 l8 H r hF hc0 hB
    rw [B_Play_accept_80] at hF
    have hm := Rg.rf hc0
    rcases ite_s hF with ⟨q_30, hG⟩ | ⟨q_30, hG⟩
    · clear hF
      obtain ⟨q130, hF⟩ := ck_s hG; clear hG
      obtain ⟨x131, -, hG⟩ := bnd_g hF; clear hF
      obtain ⟨H132, eH132, hF⟩ := bnd_g hG; clear hG
      replace hm : Rg Q H H132 := hm.tr (by rw [eH132]; exact Rg.sD hm.1 q_p0)
      have s_31 : Sa H H132 := by rw [eH132]; exact Sa.rf _
      replace hB : B ≤ H132.sh.length := by rw [eH132]; exact hB
      obtain ⟨v134, H135, z133, hG⟩ := bC_s hF; clear hF
      have gz_32 := (g_Play_confirm z133 hm.1 q_p0)
      replace hm : Rg Q H H135 := hm.tr gz_32
      replace hB : B ≤ H135.sh.length := Nat.le_trans hB ((m_Play_confirm z133)).mo.len
      have s_33 : Sa H H135 := (s_31).tr (m_Play_confirm z133)
      have hr := Option.some.inj hG; subst hr
      exact hm
    · clear hF
      obtain ⟨q136, hF⟩ := ck_s hG; clear hG
      obtain ⟨v138, H139, z137, hG⟩ := bC_s hF; clear hF
      have gz_34 := (g_Play_prepareNext z137 hm.1 q_p0)
      replace hm : Rg Q H H139 := hm.tr gz_34
      replace hB : B ≤ H139.sh.length := Nat.le_trans hB ((m_Play_prepareNext z137)).mo.len
      have s_35 : Sa H H139 := (m_Play_prepareNext z137)
      obtain ⟨a140, e141, hF⟩ := rf_s hG; clear hG
      have qa140 : Q a140 := hm.1 _ _ _ q_p0 e141
      obtain ⟨a142, e143, hG⟩ := rf_s hF; clear hF
      have qa142 : Q a142 := hm.1 _ _ _ q_p0 e143
      obtain ⟨a144, e145, hF⟩ := rf_s hG; clear hG
      have qa144 : Q a144 := hm.1 _ _ _ q_p0 e145
      obtain ⟨q146, hG⟩ := ck_s hF; clear hF
      rw [(s_35).1] at q146
      obtain ⟨v148, H149, z147, hF⟩ := bC_s hG; clear hG
      have gz_36 := (g_Ticker_runTick hn z147 hm.1 hB qa140 q_p1 qa142 qa144)
      replace hm : Rg Q H H149 := hm.tr gz_36
      replace hB : B ≤ H149.sh.length := Nat.le_trans hB ((m_Ticker_runTick z147)).len
      have mz_37 : Mo H139 H149 := (m_Ticker_runTick z147)
      have q_38 := (mz_37).get (by rw [(s_35).1]; exact q136)
      have q_39 := (mz_37).get (by rw [(s_35).1]; exact q146)
      exact hm.tr (ih l7 (l8 + 1) H149 r hF hm.1 hB)
set_option maxRecDepth 20000 in
set_option maxHeartbeats 2000000 in
theorem gB_Play_accept_77 {N : Nat} {Q : Nat → Prop} {p0 : Nat} {p1 : Nat} {p2 : Int32} {p3 : Int32} {p4 : Int32} {B : Nat} (hn : ∀ a, B ≤ a → Q a) (q_p0 : Q p0) (q_p1 : Q p1) {l7 : Int32} {H : Hp} {r : Int32 × Hp} (hF : B_Play_accept_77 N p0 p1 p2 p3 p4 l7 H = some r) (hc0 : Cl Q H) (hB : B ≤ H.sh.length) : Rg Q H r.2 := by
  unfold B_Play_accept_77 at hF
  have hm := Rg.rf hc0
  exact hm.tr (gB_Play_accept_80 hn q_p0 q_p1 N l7 0 H r hF hm.1 hB)
set_option maxRecDepth 20000 in
set_option maxHeartbeats 2000000 in
theorem g_Play_accept {N : Nat} {Q : Nat → Prop} {p0 : Nat} {p1 : Nat} {p2 : Int32} {p3 : Int32} {p4 : Int32} {H : Hp} {r : Int32 × Hp} {B : Nat} (hn : ∀ a, B ≤ a → Q a) (hF : F_Play_accept N p0 p1 p2 p3 p4 H = some r) (hc0 : Cl Q H) (hB : B ≤ H.sh.length) (q_p0 : Q p0) (q_p1 : Q p1) : Rg Q H r.2 := by
  unfold F_Play_accept at hF
  have hm := Rg.rf hc0
  obtain ⟨q150, hG⟩ := ck_s hF; clear hF
  obtain ⟨a151, e152, hF⟩ := rf_s hG; clear hG
  have qa151 : Q a151 := hm.1 _ _ _ q_p0 e152
  obtain ⟨v154, H155, z153, hG⟩ := bC_s hF; clear hF
  have gz_40 := (g_Play_slot z153 hm.1)
  replace hm : Rg Q H H155 := hm.tr gz_40
  replace hB : B ≤ H155.sh.length := Nat.le_trans hB ((m_Play_slot z153)).mo.len
  have s_41 : Sa H H155 := (m_Play_slot z153)
  obtain ⟨n156, q157, hF⟩ := ar_s hG; clear hG
  rw [(s_41).1] at q157
  obtain ⟨q158, hG⟩ := ck_s hF; clear hF
  obtain ⟨H159, eH159, hF⟩ := bnd_g hG; clear hG
  replace hm : Rg Q H H159 := hm.tr (by rw [eH159]; exact Rg.sD hm.1 qa151)
  have s_42 : Sa H H159 := by rw [eH159]; exact s_41
  replace hB : B ≤ H159.sh.length := by rw [eH159]; exact hB
  obtain ⟨a160, e161, hG⟩ := rf_s hF; clear hF
  have qa160 : Q a160 := hm.1 _ _ _ q_p0 e161
  obtain ⟨v163, H164, z162, hF⟩ := bC_s hG; clear hG
  have gz_43 := (g_Play_slot z162 hm.1)
  replace hm : Rg Q H H164 := hm.tr gz_43
  replace hB : B ≤ H164.sh.length := Nat.le_trans hB ((m_Play_slot z162)).mo.len
  have s_44 : Sa H H164 := (s_42).tr (m_Play_slot z162)
  obtain ⟨n165, q166, hG⟩ := ar_s hF; clear hF
  rw [(s_44).1] at q166
  obtain ⟨q167, hF⟩ := ck_s hG; clear hG
  obtain ⟨H168, eH168, hG⟩ := bnd_g hF; clear hF
  replace hm : Rg Q H H168 := hm.tr (by rw [eH168]; exact Rg.sD hm.1 qa160)
  have s_45 : Sa H H168 := by rw [eH168]; exact s_44
  replace hB : B ≤ H168.sh.length := by rw [eH168]; exact hB
  obtain ⟨a169, e170, hF⟩ := rf_s hG; clear hG
  have qa169 : Q a169 := hm.1 _ _ _ q_p0 e170
  obtain ⟨q171, hG⟩ := ck_s hF; clear hF
  rw [(s_45).1] at q171
  obtain ⟨x172, -, hF⟩ := bnd_g hG; clear hG
  obtain ⟨v174, H175, z173, hG⟩ := bC_s hF; clear hF
  have gz_46 := (g_Play_firstWrong z173 hm.1 q_p0)
  replace hm : Rg Q H H175 := hm.tr gz_46
  replace hB : B ≤ H175.sh.length := Nat.le_trans hB ((m_Play_firstWrong z173)).mo.len
  have s_47 : Sa H H175 := (s_45).tr (m_Play_firstWrong z173)
  obtain ⟨v177, H178, z176, hF⟩ := bC_s hG; clear hG
  have gz_48 := (g_Math_max z176 hm.1)
  replace hm : Rg Q H H178 := hm.tr gz_48
  replace hB : B ≤ H178.sh.length := Nat.le_trans hB ((m_Math_max z176)).mo.len
  have s_49 : Sa H H178 := (s_47).tr (m_Math_max z176)
  rcases ite_s hF with ⟨q_50, hG⟩ | ⟨q_50, hG⟩
  · clear hF
    exact hm.tr (gB_Play_accept_77 hn q_p0 q_p1 hG hm.1 hB)
  · clear hF
    obtain ⟨a180, e181, hF⟩ := rf_s hG; clear hG
    have qa180 : Q a180 := hm.1 _ _ _ q_p0 e181
    obtain ⟨a182, e183, hG⟩ := rf_s hF; clear hF
    have qa182 : Q a182 := hm.1 _ _ _ q_p0 e183
    obtain ⟨n184, q185, hF⟩ := ar_s hG; clear hG
    rw [(s_49).1] at q185
    obtain ⟨q186, hG⟩ := ck_s hF; clear hF
    obtain ⟨a187, e188, hF⟩ := rf_s hG; clear hG
    have qa187 : Q a187 := hm.1 _ _ _ qa182 e188
    obtain ⟨q189, hG⟩ := ck_s hF; clear hF
    rw [(s_49).1] at q189
    obtain ⟨v191, H192, z190, hF⟩ := bC_s hG; clear hG
    have gz_51 := (g_World_copyFrom z190 hm.1 qa180 qa187)
    replace hm : Rg Q H H192 := hm.tr gz_51
    replace hB : B ≤ H192.sh.length := Nat.le_trans hB ((m_World_copyFrom z190)).mo.len
    have s_52 : Sa H H192 := (s_49).tr (m_World_copyFrom z190)
    exact hm.tr (gB_Play_accept_77 hn q_p0 q_p1 hF hm.1 hB)
set_option maxRecDepth 20000 in
set_option maxHeartbeats 2000000 in
theorem g_W_input {N : Nat} {Q : Nat → Prop} {p0 : Nat} {p1 : Int32} {p2 : Int32} {p3 : Int32} {H : Hp} {r : Int32 × Hp} {B : Nat} (hn : ∀ a, B ≤ a → Q a) (hF : F_W_input N p0 p1 p2 p3 H = some r) (hc0 : Cl Q H) (hB : B ≤ H.sh.length) (q_p0 : Q p0) : Rg Q H r.2 := by
  unfold F_W_input at hF
  have hm := Rg.rf hc0
  obtain ⟨q33, hG⟩ := ck_s hF; clear hF
  obtain ⟨a34, e35, hF⟩ := rf_s hG; clear hG
  have qa34 : Q a34 := hm.1 _ _ _ q_p0 e35
  obtain ⟨q36, hG⟩ := ck_s hF; clear hF
  obtain ⟨v38, H39, z37, hF⟩ := bC_s hG; clear hG
  have gz_13 := (g_Play_refusal z37 hm.1 qa34)
  replace hm : Rg Q H H39 := hm.tr gz_13
  replace hB : B ≤ H39.sh.length := Nat.le_trans hB ((m_Play_refusal z37)).mo.len
  have s_14 : Sa H H39 := (m_Play_refusal z37)
  rcases ite_s hF with ⟨q_15, hG⟩ | ⟨q_15, hG⟩
  · clear hF
    obtain ⟨a41, e42, hF⟩ := rf_s hG; clear hG
    have qa41 : Q a41 := hm.1 _ _ _ q_p0 e42
    obtain ⟨a43, e44, hG⟩ := rf_s hF; clear hF
    have qa43 : Q a43 := hm.1 _ _ _ q_p0 e44
    obtain ⟨q45, hF⟩ := ck_s hG; clear hG
    rw [(s_14).1] at q45
    obtain ⟨v47, H48, z46, hG⟩ := bC_s hF; clear hF
    have gz_16 := (g_Play_accept hn z46 hm.1 hB qa41 qa43)
    replace hm : Rg Q H H48 := hm.tr gz_16
    replace hB : B ≤ H48.sh.length := Nat.le_trans hB ((m_Play_accept z46)).len
    have mz_17 : Mo H39 H48 := (m_Play_accept z46)
    have q_18 := (mz_17).get (by rw [(s_14).1]; exact q33)
    have q_19 := (mz_17).get (by rw [(s_14).1]; exact q36)
    have q_20 := (mz_17).get (by rw [(s_14).1]; exact q45)
    have hr := Option.some.inj hG; subst hr
    exact hm
  · clear hF
    have hr := Option.some.inj hG; subst hr
    exact hm
set_option maxRecDepth 20000 in
set_option maxHeartbeats 2000000 in
theorem gB_Play_place_45 {N : Nat} {Q : Nat → Prop} {p0 : Nat} {p1 : Int32} {p2 : Int32} (q_p0 : Q p0) : ∀ (n : Nat) (l3 : Int32) (H : Hp) (r : Int32 × Hp), B_Play_place_45 N p0 p1 p2 n l3 H = some r → Cl Q H → Rg Q H r.2 := by
  intro n
  induction n with
  | zero => intro l3 H r hF; rw [B_Play_place_45] at hF; cases hF
  | succ n ih =>
    intro l3 H r hF hc0
    rw [B_Play_place_45] at hF
    have hm := Rg.rf hc0
    rcases ite_s hF with ⟨q_13, hG⟩ | ⟨q_13, hG⟩
    · clear hF
      have hr := Option.some.inj hG; subst hr
      exact hm
    · clear hF
      rcases ite_s hG with ⟨q_14, hF⟩ | ⟨q_14, hF⟩
      · clear hG
        obtain ⟨q53, hG⟩ := ck_s hF; clear hF
        obtain ⟨a54, e55, hF⟩ := rf_s hG; clear hG
        have qa54 : Q a54 := hm.1 _ _ _ q_p0 e55
        obtain ⟨a56, e57, hG⟩ := rf_s hF; clear hF
        have qa56 : Q a56 := hm.1 _ _ _ q_p0 e57
        obtain ⟨q58, hF⟩ := ck_s hG; clear hG
        obtain ⟨x59, -, hG⟩ := bnd_g hF; clear hF
        obtain ⟨v61, H62, z60, hF⟩ := bC_s hG; clear hG
        have gz_15 := (g_Play_slot z60 hm.1)
        replace hm : Rg Q H H62 := hm.tr gz_15
        have s_16 : Sa H H62 := (m_Play_slot z60)
        obtain ⟨n63, q64, hG⟩ := ar_s hF; clear hF
        rw [(s_16).1] at q64
        obtain ⟨q65, hF⟩ := ck_s hG; clear hG
        obtain ⟨H66, eH66, hG⟩ := bnd_g hF; clear hF
        replace hm : Rg Q H H66 := hm.tr (by rw [eH66]; exact Rg.sD hm.1 qa54)
        have s_17 : Sa H H66 := by rw [eH66]; exact s_16
        exact hm.tr (ih (l3 + 1) H66 r hG hm.1)
      · clear hG
        have hr := Option.some.inj hF; subst hr
        exact hm
set_option maxRecDepth 20000 in
set_option maxHeartbeats 2000000 in
theorem gB_Play_place_26 {N : Nat} {Q : Nat → Prop} {p0 : Nat} {p1 : Int32} {p2 : Int32} (q_p0 : Q p0) {w0 : Int32} {w1 : Int32} {H : Hp} {r : Int32 × Hp} (hF : B_Play_place_26 N p0 p1 p2 w0 w1 H = some r) (hc0 : Cl Q H) : Rg Q H r.2 := by
  unfold B_Play_place_26 at hF
  have hm := Rg.rf hc0
  rcases ite_s hF with ⟨q_18, hG⟩ | ⟨q_18, hG⟩
  · clear hF
    have hr := Option.some.inj hG; subst hr
    exact hm
  · clear hF
    obtain ⟨q68, hF⟩ := ck_s hG; clear hG
    obtain ⟨x69, -, hG⟩ := bnd_g hF; clear hF
    obtain ⟨H70, eH70, hF⟩ := bnd_g hG; clear hG
    replace hm : Rg Q H H70 := hm.tr (by rw [eH70]; exact Rg.sD hm.1 q_p0)
    have s_19 : Sa H H70 := by rw [eH70]; exact Sa.rf _
    exact hm.tr (gB_Play_place_45 q_p0 N 1 H70 r hF hm.1)
set_option maxRecDepth 20000 in
set_option maxHeartbeats 2000000 in
theorem g_Play_place {N : Nat} {Q : Nat → Prop} {p0 : Nat} {p1 : Int32} {p2 : Int32} {H : Hp} {r : Int32 × Hp} (hF : F_Play_place N p0 p1 p2 H = some r) (hc0 : Cl Q H) (q_p0 : Q p0) : Rg Q H r.2 := by
  unfold F_Play_place at hF
  have hm := Rg.rf hc0
  rcases ite_s hF with ⟨q_20, hG⟩ | ⟨q_20, hG⟩
  · clear hF
    have hr := Option.some.inj hG; subst hr
    exact hm
  · clear hF
    rcases ite_s hG with ⟨q_21, hF⟩ | ⟨q_21, hF⟩
    · clear hG
      have hr := Option.some.inj hF; subst hr
      exact hm
    · clear hG
      obtain ⟨q73, hG⟩ := ck_s hF; clear hF
      obtain ⟨x74, -, hF⟩ := bnd_g hG; clear hG
      rcases ite_s hF with ⟨q_22, hG⟩ | ⟨q_22, hG⟩
      · clear hF
        exact hm.tr (gB_Play_place_26 q_p0 hG hm.1)
      · clear hF
        exact hm.tr (gB_Play_place_26 q_p0 hG hm.1)
set_option maxRecDepth 20000 in
set_option maxHeartbeats 2000000 in
theorem g_W_seat {N : Nat} {Q : Nat → Prop} {p0 : Nat} {p1 : Int32} {p2 : Int32} {H : Hp} {r : Int32 × Hp} (hF : F_W_seat N p0 p1 p2 H = some r) (hc0 : Cl Q H) (q_p0 : Q p0) : Rg Q H r.2 := by
  unfold F_W_seat at hF
  have hm := Rg.rf hc0
  obtain ⟨q17, hG⟩ := ck_s hF; clear hF
  obtain ⟨a18, e19, hF⟩ := rf_s hG; clear hG
  have qa18 : Q a18 := hm.1 _ _ _ q_p0 e19
  obtain ⟨q20, hG⟩ := ck_s hF; clear hF
  obtain ⟨v22, H23, z21, hF⟩ := bC_s hG; clear hG
  have gz_3 := (g_Play_place z21 hm.1 qa18)
  replace hm : Rg Q H H23 := hm.tr gz_3
  have s_4 : Sa H H23 := (m_Play_place z21)
  obtain ⟨q24, hG⟩ := ck_s hF; clear hF
  have hr := Option.some.inj hG; subst hr
  exact hm
