def y_Body_plainValue : ab_Y := (⟨"WorldEngine$Body", "plainValue", "(I)I"⟩, prog_2_method_42_code, 2, (some FieldType.int), [])
theorem d_Body_plainValue_0 : decode y_Body_plainValue.2.1 0 = .ok (.iload_n 1, 1) := by decide +kernel
theorem d_Body_plainValue_1 : decode y_Body_plainValue.2.1 1 = .ok (.lookupswitch 169 #[(3, 67), (4, 80), (71, 93), (72, 93), (73, 117), (74, 131), (75, 150)], 67) := by decide +kernel
theorem d_Body_plainValue_68 : decode y_Body_plainValue.2.1 68 = .ok (.aload_n 0, 1) := by decide +kernel
theorem d_Body_plainValue_69 : decode y_Body_plainValue.2.1 69 = .ok (.aload_n 0, 1) := by decide +kernel
theorem d_Body_plainValue_70 : decode y_Body_plainValue.2.1 70 = .ok (.getfield 7, 3) := by decide +kernel
theorem d_Body_plainValue_73 : decode y_Body_plainValue.2.1 73 = .ok (.invokevirtual 264, 3) := by decide +kernel
theorem d_Body_plainValue_76 : decode y_Body_plainValue.2.1 76 = .ok (.invokevirtual 267, 3) := by decide +kernel
theorem d_Body_plainValue_79 : decode y_Body_plainValue.2.1 79 = .ok (.iconst 0, 1) := by decide +kernel
theorem d_Body_plainValue_80 : decode y_Body_plainValue.2.1 80 = .ok (.ireturn, 1) := by decide +kernel
theorem d_Body_plainValue_81 : decode y_Body_plainValue.2.1 81 = .ok (.aload_n 0, 1) := by decide +kernel
theorem d_Body_plainValue_82 : decode y_Body_plainValue.2.1 82 = .ok (.aload_n 0, 1) := by decide +kernel
theorem d_Body_plainValue_83 : decode y_Body_plainValue.2.1 83 = .ok (.getfield 7, 3) := by decide +kernel
theorem d_Body_plainValue_86 : decode y_Body_plainValue.2.1 86 = .ok (.invokevirtual 264, 3) := by decide +kernel
theorem d_Body_plainValue_89 : decode y_Body_plainValue.2.1 89 = .ok (.invokevirtual 267, 3) := by decide +kernel
theorem d_Body_plainValue_92 : decode y_Body_plainValue.2.1 92 = .ok (.iconst 2, 1) := by decide +kernel
theorem d_Body_plainValue_93 : decode y_Body_plainValue.2.1 93 = .ok (.ireturn, 1) := by decide +kernel
theorem d_Body_plainValue_94 : decode y_Body_plainValue.2.1 94 = .ok (.aload_n 0, 1) := by decide +kernel
theorem d_Body_plainValue_95 : decode y_Body_plainValue.2.1 95 = .ok (.iload_n 1, 1) := by decide +kernel
theorem d_Body_plainValue_96 : decode y_Body_plainValue.2.1 96 = .ok (.bipush 71, 2) := by decide +kernel
theorem d_Body_plainValue_98 : decode y_Body_plainValue.2.1 98 = .ok (.if_icmp .ne 7, 3) := by decide +kernel
theorem d_Body_plainValue_101 : decode y_Body_plainValue.2.1 101 = .ok (.iconst 1, 1) := by decide +kernel
theorem d_Body_plainValue_102 : decode y_Body_plainValue.2.1 102 = .ok (.goto 4, 3) := by decide +kernel
theorem d_Body_plainValue_105 : decode y_Body_plainValue.2.1 105 = .ok (.iconst 0, 1) := by decide +kernel
theorem d_Body_plainValue_106 : decode y_Body_plainValue.2.1 106 = .ok (.invokevirtual 267, 3) := by decide +kernel
theorem d_Body_plainValue_109 : decode y_Body_plainValue.2.1 109 = .ok (.aload_n 0, 1) := by decide +kernel
theorem d_Body_plainValue_110 : decode y_Body_plainValue.2.1 110 = .ok (.getfield 7, 3) := by decide +kernel
theorem d_Body_plainValue_113 : decode y_Body_plainValue.2.1 113 = .ok (.invokevirtual 93, 3) := by decide +kernel
theorem d_Body_plainValue_116 : decode y_Body_plainValue.2.1 116 = .ok (.iconst 3, 1) := by decide +kernel
theorem d_Body_plainValue_117 : decode y_Body_plainValue.2.1 117 = .ok (.ireturn, 1) := by decide +kernel
theorem d_Body_plainValue_118 : decode y_Body_plainValue.2.1 118 = .ok (.aload_n 0, 1) := by decide +kernel
theorem d_Body_plainValue_119 : decode y_Body_plainValue.2.1 119 = .ok (.iconst (-1), 1) := by decide +kernel
theorem d_Body_plainValue_120 : decode y_Body_plainValue.2.1 120 = .ok (.invokevirtual 267, 3) := by decide +kernel
theorem d_Body_plainValue_123 : decode y_Body_plainValue.2.1 123 = .ok (.aload_n 0, 1) := by decide +kernel
theorem d_Body_plainValue_124 : decode y_Body_plainValue.2.1 124 = .ok (.getfield 7, 3) := by decide +kernel
theorem d_Body_plainValue_127 : decode y_Body_plainValue.2.1 127 = .ok (.invokevirtual 93, 3) := by decide +kernel
theorem d_Body_plainValue_130 : decode y_Body_plainValue.2.1 130 = .ok (.iconst 4, 1) := by decide +kernel
theorem d_Body_plainValue_131 : decode y_Body_plainValue.2.1 131 = .ok (.ireturn, 1) := by decide +kernel
theorem d_Body_plainValue_132 : decode y_Body_plainValue.2.1 132 = .ok (.aload_n 0, 1) := by decide +kernel
theorem d_Body_plainValue_133 : decode y_Body_plainValue.2.1 133 = .ok (.getfield 17, 3) := by decide +kernel
theorem d_Body_plainValue_136 : decode y_Body_plainValue.2.1 136 = .ok (.bipush 31, 2) := by decide +kernel
theorem d_Body_plainValue_138 : decode y_Body_plainValue.2.1 138 = .ok (.invokevirtual 50, 3) := by decide +kernel
theorem d_Body_plainValue_141 : decode y_Body_plainValue.2.1 141 = .ok (.pop, 1) := by decide +kernel
theorem d_Body_plainValue_142 : decode y_Body_plainValue.2.1 142 = .ok (.aload_n 0, 1) := by decide +kernel
theorem d_Body_plainValue_143 : decode y_Body_plainValue.2.1 143 = .ok (.getfield 7, 3) := by decide +kernel
theorem d_Body_plainValue_146 : decode y_Body_plainValue.2.1 146 = .ok (.invokevirtual 93, 3) := by decide +kernel
theorem d_Body_plainValue_149 : decode y_Body_plainValue.2.1 149 = .ok (.iconst 4, 1) := by decide +kernel
theorem d_Body_plainValue_150 : decode y_Body_plainValue.2.1 150 = .ok (.ireturn, 1) := by decide +kernel
theorem d_Body_plainValue_151 : decode y_Body_plainValue.2.1 151 = .ok (.aload_n 0, 1) := by decide +kernel
theorem d_Body_plainValue_152 : decode y_Body_plainValue.2.1 152 = .ok (.getfield 17, 3) := by decide +kernel
theorem d_Body_plainValue_155 : decode y_Body_plainValue.2.1 155 = .ok (.bipush 32, 2) := by decide +kernel
theorem d_Body_plainValue_157 : decode y_Body_plainValue.2.1 157 = .ok (.invokevirtual 50, 3) := by decide +kernel
theorem d_Body_plainValue_160 : decode y_Body_plainValue.2.1 160 = .ok (.pop, 1) := by decide +kernel
theorem d_Body_plainValue_161 : decode y_Body_plainValue.2.1 161 = .ok (.aload_n 0, 1) := by decide +kernel
theorem d_Body_plainValue_162 : decode y_Body_plainValue.2.1 162 = .ok (.getfield 7, 3) := by decide +kernel
theorem d_Body_plainValue_165 : decode y_Body_plainValue.2.1 165 = .ok (.invokevirtual 93, 3) := by decide +kernel
theorem d_Body_plainValue_168 : decode y_Body_plainValue.2.1 168 = .ok (.iconst 0, 1) := by decide +kernel
theorem d_Body_plainValue_169 : decode y_Body_plainValue.2.1 169 = .ok (.ireturn, 1) := by decide +kernel
theorem d_Body_plainValue_170 : decode y_Body_plainValue.2.1 170 = .ok (.aload_n 0, 1) := by decide +kernel
theorem d_Body_plainValue_171 : decode y_Body_plainValue.2.1 171 = .ok (.getfield 7, 3) := by decide +kernel
theorem d_Body_plainValue_174 : decode y_Body_plainValue.2.1 174 = .ok (.iconst 1, 1) := by decide +kernel
theorem d_Body_plainValue_175 : decode y_Body_plainValue.2.1 175 = .ok (.aload_n 0, 1) := by decide +kernel
theorem d_Body_plainValue_176 : decode y_Body_plainValue.2.1 176 = .ok (.getfield 7, 3) := by decide +kernel
theorem d_Body_plainValue_179 : decode y_Body_plainValue.2.1 179 = .ok (.getfield 96, 3) := by decide +kernel
theorem d_Body_plainValue_182 : decode y_Body_plainValue.2.1 182 = .ok (.invokevirtual 99, 3) := by decide +kernel
theorem d_Body_plainValue_185 : decode y_Body_plainValue.2.1 185 = .ok (.iconst 0, 1) := by decide +kernel
theorem d_Body_plainValue_186 : decode y_Body_plainValue.2.1 186 = .ok (.ireturn, 1) := by decide +kernel
theorem s_Body_plainValue : ab_Stat y_Body_plainValue 1 := ⟨(k5 212 rfl rfl), (k1 8 rfl rfl), ⟨by decide, by decide⟩, by decide +kernel⟩
theorem i_Body_plainValue : Cond.instanceMethod y_Body_plainValue.1 ∈ ab_T := (k5 211 rfl rfl)
theorem v_Body_plainValue : Cond.selects "WorldEngine$Body" y_Body_plainValue.1 y_Body_plainValue.1 ∈ ab_T := ab_s (List.mem_of_getElem? (i := 41) rfl) rfl
def B_Body_plainValue_106 (N : Nat) (p0 : Nat) (p1 : Int32) (w0 : Nat) (w1 : Int32) (H : Hp) : Option ((Ot Int32) × Hp) :=
    ck (H.sh[w0]? = some (6, 0)) <|
    bC (F_Body_push N w0 w1 H) fun v29 H30 =>
    ck (H30.sh[p0]? = some (6, 0)) <|
    rf (H30.P p0 0) fun a32 =>
    ck (H30.sh[a32]? = some (1, 0)) <|
    bC (F_Lexer_advance N a32 H30) fun v36 H37 =>
    some (.inl 3, H37)
set_option maxRecDepth 20000 in
set_option maxHeartbeats 2000000 in
theorem mB_Body_plainValue_106 {N : Nat} {p0 : Nat} {p1 : Int32} {w0 : Nat} {w1 : Int32} {H : Hp} {r : (Ot Int32) × Hp} (hF : B_Body_plainValue_106 N p0 p1 w0 w1 H = some r) : Mo H r.2 := by
  unfold B_Body_plainValue_106 at hF
  have hm := Mo.rf H
  obtain ⟨q38, hG⟩ := ck_s hF; clear hF
  obtain ⟨v40, H41, z39, hF⟩ := bC_s hG; clear hG
  replace hm : Mo H H41 := hm.tr ((m_Body_push z39)).mo
  obtain ⟨q42, hG⟩ := ck_s hF; clear hF
  obtain ⟨a43, e44, hF⟩ := rf_s hG; clear hG
  obtain ⟨q45, hG⟩ := ck_s hF; clear hF
  obtain ⟨v47, H48, z46, hF⟩ := bC_s hG; clear hG
  replace hm : Mo H H48 := hm.tr ((m_Lexer_advance z46)).mo
  have hr := Option.some.inj hF; subst hr
  exact hm
set_option maxRecDepth 20000 in
set_option maxHeartbeats 2000000 in
theorem kB_Body_plainValue_106 {N : Nat} {p0 : Nat} {p1 : Int32} {c0 s0 C Sl : Nat} {w0 : Nat} {w1 : Int32} {H : Hp} {r : (Ot Int32) × Hp} (hF : B_Body_plainValue_106 N p0 p1 w0 w1 H = some r) (hc0 : c0 ≤ H.sh.length) (hs0 : s0 ≤ H.sl) (hcc : H.sh.length ≤ c0 + C) (hss : H.sl ≤ s0 + Sl) (hC : r.2.sh.length ≤ c0 + C) (hS : r.2.sl ≤ s0 + Sl) : ab_V y_Body_plainValue { frames := 8, cells := C, slots := Sl, locals := 143 } (po (oI r.1) r.2) C Sl (H.sh.length - c0) (H.sl - s0) 106 [some (.ref p0), some (.int p1)] [.int w1, .ref w0] (hpw H) := by
  unfold B_Body_plainValue_106 at hF
  obtain ⟨q27, hG⟩ := ck_s hF; clear hF
  obtain ⟨v29, H30, z28, hF⟩ := bC_s hG; clear hG
  refine hp_callV_v (H1 := H30) (As := [.int w1]) (rest := []) d_Body_plainValue_106 (k_Body_push z28) (ab_mkC s_Body_push (Nat.le_of_ble_eq_true rfl) (Nat.le_of_ble_eq_true rfl) (show (H.sh.length - c0) + 0 ≤ C from by omega) (show (H.sl - s0) + 0 ≤ Sl from by omega)) (k5 214 rfl rfl) i_Body_push v_Body_push q27 (by decide) rfl rfl (Nat.le_of_ble_eq_true rfl) ?_
  have s_16 : Sa H H30 := (m_Body_push z28)
  refine ab_widen (cells' := H.sh.length - c0) (slots' := H.sl - s0) (by show (H.sh.length - c0) + 0 ≤ _; omega) (by show (H.sl - s0) + 0 ≤ _; omega) ?_
  refine ab_aload_n d_Body_plainValue_109 rfl rfl rfl ?_
  obtain ⟨q31, hG⟩ := ck_s hF; clear hF
  rw [(s_16).1] at q31
  obtain ⟨a32, e33, hF⟩ := rf_s hG; clear hG
  refine hp_getR (f := 0) d_Body_plainValue_110 (by rw [(s_16).1]; exact q31) (by decide) rfl (by decide) (k1 157 rfl rfl) rfl e33 ?_
  obtain ⟨q34, hG⟩ := ck_s hF; clear hF
  rw [(s_16).1] at q34
  obtain ⟨v36, H37, z35, hF⟩ := bC_s hG; clear hG
  refine ab_widen (cells' := H30.sh.length - c0) (slots' := H30.sl - s0) (by rw [(s_16).1]; exact Nat.le_refl _) (by rw [(s_16).2]; exact Nat.le_refl _) ?_
  have b_17e := congrArg List.length (s_16).1
  have b_17f := (s_16).2
  refine hp_callV_v (H1 := H37) (As := []) (rest := []) d_Body_plainValue_113 (k_Lexer_advance z35) (ab_mkC s_Lexer_advance (Nat.le_of_ble_eq_true rfl) (Nat.le_of_ble_eq_true rfl) (show (H30.sh.length - c0) + 0 ≤ C from by omega) (show (H30.sl - s0) + 0 ≤ Sl from by omega)) (k5 129 rfl rfl) i_Lexer_advance v_Lexer_advance (by rw [(s_16).1]; exact q34) (by decide) rfl rfl (Nat.le_of_ble_eq_true rfl) ?_
  have s_18 : Sa H H37 := (s_16).tr (m_Lexer_advance z35)
  refine ab_widen (cells' := H.sh.length - c0) (slots' := H.sl - s0) (by show (H30.sh.length - c0) + 0 ≤ _; omega) (by show (H30.sl - s0) + 0 ≤ _; omega) ?_
  clear b_17e b_17f
  refine ab_iconst (v := 3) d_Body_plainValue_116 (by decide) ?_
  exact ab_iret d_Body_plainValue_117 rfl (by show _ ≤ C; omega) (by show _ ≤ Sl; omega) (by have hr := Option.some.inj hF; subst hr; exact ⟨rfl, rfl⟩)
def F_Body_plainValue (N : Nat) (p0 : Nat) (p1 : Int32) (H : Hp) : Option ((Ot Int32) × Hp) :=
    if p1 = 3 then
    ck (H.sh[p0]? = some (6, 0)) <|
    rf (H.P p0 0) fun a3 =>
    ck (H.sh[a3]? = some (1, 0)) <|
    bT (F_Lexer_takeValue N a3 H) fun v7 H8 =>
    bC (F_Body_push N p0 v7 H8) fun v11 H12 =>
    some (.inl 0, H12)
    else if p1 = 4 then
    ck (H.sh[p0]? = some (6, 0)) <|
    rf (H.P p0 0) fun a15 =>
    ck (H.sh[a15]? = some (1, 0)) <|
    bT (F_Lexer_takeValue N a15 H) fun v19 H20 =>
    bC (F_Body_push N p0 v19 H20) fun v23 H24 =>
    some (.inl 2, H24)
    else if p1 = 71 then
    if p1 = (71 : Int32) then
    B_Body_plainValue_106 N p0 p1 p0 1 H
    else
    B_Body_plainValue_106 N p0 p1 p0 0 H
    else if p1 = 72 then
    if p1 = (71 : Int32) then
    B_Body_plainValue_106 N p0 p1 p0 1 H
    else
    B_Body_plainValue_106 N p0 p1 p0 0 H
    else if p1 = 73 then
    ck (H.sh[p0]? = some (6, 0)) <|
    bC (F_Body_push N p0 ((-1) : Int32) H) fun v54 H55 =>
    rf (H55.P p0 0) fun a56 =>
    ck (H55.sh[a56]? = some (1, 0)) <|
    bC (F_Lexer_advance N a56 H55) fun v60 H61 =>
    some (.inl 4, H61)
    else if p1 = 74 then
    ck (H.sh[p0]? = some (6, 0)) <|
    rf (H.P p0 1) fun a64 =>
    ck (H.sh[a64]? = some (4, 0)) <|
    bC (F_Program_add N a64 (31 : Int32) H) fun v68 H69 =>
    rf (H69.P p0 0) fun a70 =>
    ck (H69.sh[a70]? = some (1, 0)) <|
    bC (F_Lexer_advance N a70 H69) fun v74 H75 =>
    some (.inl 4, H75)
    else if p1 = 75 then
    ck (H.sh[p0]? = some (6, 0)) <|
    rf (H.P p0 1) fun a78 =>
    ck (H.sh[a78]? = some (4, 0)) <|
    bC (F_Program_add N a78 (32 : Int32) H) fun v82 H83 =>
    rf (H83.P p0 0) fun a84 =>
    ck (H83.sh[a84]? = some (1, 0)) <|
    bC (F_Lexer_advance N a84 H83) fun v88 H89 =>
    some (.inl 0, H89)
    else ck (H.sh[p0]? = some (6, 0)) <|
    rf (H.P p0 0) fun a91 =>
    rf (H.P p0 0) fun a93 =>
    ck (H.sh[a93]? = some (1, 0)) <|
    bnd ((H.D a93 3)) fun x96 =>
    ck (H.sh[a91]? = some (1, 0)) <|
    bT (F_Lexer_refuse N a91 (1 : Int32) x96 H) fun v99 H100 =>
    some (.inl 0, H100)
set_option maxRecDepth 20000 in
set_option maxHeartbeats 2000000 in
theorem m_Body_plainValue {N : Nat} {p0 : Nat} {p1 : Int32} {H : Hp} {r : (Ot Int32) × Hp} (hF : F_Body_plainValue N p0 p1 H = some r) : Mo H r.2 := by
  unfold F_Body_plainValue at hF
  have hm := Mo.rf H
  rcases ite_s hF with ⟨q_36, hG⟩ | ⟨q_36, hG⟩
  · clear hF
    obtain ⟨q103, hF⟩ := ck_s hG; clear hG
    obtain ⟨a104, e105, hG⟩ := rf_s hF; clear hF
    obtain ⟨q106, hF⟩ := ck_s hG; clear hG
    refine bT_c hF (fun x110 H109 z107 er => ?_) (fun v108 H109 z107 hG => ?_)
    · subst er; exact hm.tr (m_Lexer_takeValue z107)
    clear hF
    replace hm : Mo H H109 := hm.tr (m_Lexer_takeValue z107)
    obtain ⟨v112, H113, z111, hF⟩ := bC_s hG; clear hG
    replace hm : Mo H H113 := hm.tr ((m_Body_push z111)).mo
    have hr := Option.some.inj hF; subst hr
    exact hm
  clear hF
  rcases ite_s hG with ⟨q_40, hF⟩ | ⟨q_40, hF⟩
  · clear hG
    obtain ⟨q115, hG⟩ := ck_s hF; clear hF
    obtain ⟨a116, e117, hF⟩ := rf_s hG; clear hG
    obtain ⟨q118, hG⟩ := ck_s hF; clear hF
    refine bT_c hG (fun x122 H121 z119 er => ?_) (fun v120 H121 z119 hF => ?_)
    · subst er; exact hm.tr (m_Lexer_takeValue z119)
    clear hG
    replace hm : Mo H H121 := hm.tr (m_Lexer_takeValue z119)
    obtain ⟨v124, H125, z123, hG⟩ := bC_s hF; clear hF
    replace hm : Mo H H125 := hm.tr ((m_Body_push z123)).mo
    have hr := Option.some.inj hG; subst hr
    exact hm
  clear hG
  rcases ite_s hF with ⟨q_44, hG⟩ | ⟨q_44, hG⟩
  · clear hF
    rcases ite_s hG with ⟨q_45, hF⟩ | ⟨q_45, hF⟩
    · clear hG
      exact hm.tr (mB_Body_plainValue_106 hF)
    · clear hG
      exact hm.tr (mB_Body_plainValue_106 hF)
  clear hF
  rcases ite_s hG with ⟨q_46, hF⟩ | ⟨q_46, hF⟩
  · clear hG
    rcases ite_s hF with ⟨q_47, hG⟩ | ⟨q_47, hG⟩
    · clear hF
      exact hm.tr (mB_Body_plainValue_106 hG)
    · clear hF
      exact hm.tr (mB_Body_plainValue_106 hG)
  clear hG
  rcases ite_s hF with ⟨q_48, hG⟩ | ⟨q_48, hG⟩
  · clear hF
    obtain ⟨q131, hF⟩ := ck_s hG; clear hG
    obtain ⟨v133, H134, z132, hG⟩ := bC_s hF; clear hF
    replace hm : Mo H H134 := hm.tr ((m_Body_push z132)).mo
    obtain ⟨a135, e136, hF⟩ := rf_s hG; clear hG
    obtain ⟨q137, hG⟩ := ck_s hF; clear hF
    obtain ⟨v139, H140, z138, hF⟩ := bC_s hG; clear hG
    replace hm : Mo H H140 := hm.tr ((m_Lexer_advance z138)).mo
    have hr := Option.some.inj hF; subst hr
    exact hm
  clear hF
  rcases ite_s hG with ⟨q_49, hF⟩ | ⟨q_49, hF⟩
  · clear hG
    obtain ⟨q142, hG⟩ := ck_s hF; clear hF
    obtain ⟨a143, e144, hF⟩ := rf_s hG; clear hG
    obtain ⟨q145, hG⟩ := ck_s hF; clear hF
    obtain ⟨v147, H148, z146, hF⟩ := bC_s hG; clear hG
    replace hm : Mo H H148 := hm.tr ((m_Program_add z146)).mo
    obtain ⟨a149, e150, hG⟩ := rf_s hF; clear hF
    obtain ⟨q151, hF⟩ := ck_s hG; clear hG
    obtain ⟨v153, H154, z152, hG⟩ := bC_s hF; clear hF
    replace hm : Mo H H154 := hm.tr ((m_Lexer_advance z152)).mo
    have hr := Option.some.inj hG; subst hr
    exact hm
  clear hG
  rcases ite_s hF with ⟨q_50, hG⟩ | ⟨q_50, hG⟩
  · clear hF
    obtain ⟨q156, hF⟩ := ck_s hG; clear hG
    obtain ⟨a157, e158, hG⟩ := rf_s hF; clear hF
    obtain ⟨q159, hF⟩ := ck_s hG; clear hG
    obtain ⟨v161, H162, z160, hG⟩ := bC_s hF; clear hF
    replace hm : Mo H H162 := hm.tr ((m_Program_add z160)).mo
    obtain ⟨a163, e164, hF⟩ := rf_s hG; clear hG
    obtain ⟨q165, hG⟩ := ck_s hF; clear hF
    obtain ⟨v167, H168, z166, hF⟩ := bC_s hG; clear hG
    replace hm : Mo H H168 := hm.tr ((m_Lexer_advance z166)).mo
    have hr := Option.some.inj hF; subst hr
    exact hm
  clear hF
  obtain ⟨q169, hF⟩ := ck_s hG; clear hG
  obtain ⟨a170, e171, hG⟩ := rf_s hF; clear hF
  obtain ⟨a172, e173, hF⟩ := rf_s hG; clear hG
  obtain ⟨q174, hG⟩ := ck_s hF; clear hF
  obtain ⟨x175, -, hF⟩ := bnd_g hG; clear hG
  obtain ⟨q176, hG⟩ := ck_s hF; clear hF
  refine bT_c hG (fun x180 H179 z177 er => ?_) (fun v178 H179 z177 hF => ?_)
  · subst er; exact hm.tr (m_Lexer_refuse z177)
  clear hG
  replace hm : Mo H H179 := hm.tr (m_Lexer_refuse z177)
  have hr := Option.some.inj hF; subst hr
  exact hm
set_option maxRecDepth 20000 in
set_option maxHeartbeats 2000000 in
theorem k_Body_plainValue {N : Nat} {p0 : Nat} {p1 : Int32} {H : Hp} {r : (Ot Int32) × Hp} {C Sl : Nat} (hF : F_Body_plainValue N p0 p1 H = some r) (hC : r.2.sh.length ≤ H.sh.length + C) (hS : r.2.sl ≤ H.sl + Sl) : ab_M y_Body_plainValue { frames := 8, cells := C, slots := Sl, locals := 143 } [.ref p0, .int p1] (hpw H) (po (oI r.1) r.2) := by
  unfold F_Body_plainValue at hF
  obtain ⟨c0, e0⟩ : ∃ q, q = H.sh.length := ⟨_, rfl⟩
  obtain ⟨s0, e1⟩ : ∃ q, q = H.sl := ⟨_, rfl⟩
  rw [← e0] at hC
  rw [← e1] at hS
  have hc0 : c0 ≤ H.sh.length := Nat.le_of_eq e0
  have hs0 : s0 ≤ H.sl := Nat.le_of_eq e1
  have hcc : H.sh.length ≤ c0 + C := by omega
  have hss : H.sl ≤ s0 + Sl := by omega
  refine ab_of2 (lv := [some (.ref p0), some (.int p1)]) 0 rfl rfl (Nat.le_of_ble_eq_true rfl) ?_
  refine ab_widen (cells' := H.sh.length - c0) (slots' := H.sl - s0) (Nat.zero_le _) (Nat.zero_le _) ?_
  refine ab_iload_n d_Body_plainValue_0 rfl rfl ?_
  by_cases t1 : p1 = 3
  · rw [if_pos t1] at hF
    refine ab_lookup (off := 67) (tgt := 68) d_Body_plainValue_1 (by decide) (by rw [t1]; decide) (by decide) ?_
    refine ab_aload_n d_Body_plainValue_68 rfl rfl rfl ?_
    refine ab_aload_n d_Body_plainValue_69 rfl rfl rfl ?_
    obtain ⟨q2, hG⟩ := ck_s hF; clear hF
    obtain ⟨a3, e4, hF⟩ := rf_s hG; clear hG
    refine hp_getR (f := 0) d_Body_plainValue_70 q2 (by decide) rfl (by decide) (k1 157 rfl rfl) rfl e4 ?_
    obtain ⟨q5, hG⟩ := ck_s hF; clear hF
    refine bT_c hG (fun x9 H8 z6 er => ?_) (fun v7 H8 z6 hF => ?_)
    · subst er
      have mz : Mo H H8 := (m_Lexer_takeValue z6)
      have ml := mz.len
      have m2 := mz.2
      have hC9 : H8.sh.length ≤ c0 + C := hC
      have hS9 : H8.sl ≤ s0 + Sl := hS
      refine hp_callV_t (x := x9) (H1 := H8) (As := []) (rest := [.ref p0]) d_Body_plainValue_73 (k_Lexer_takeValue z6 (C := H8.sh.length - H.sh.length) (Sl := H8.sl - H.sl) (by show H8.sh.length ≤ _; omega) (by show H8.sl ≤ _; omega)) (ab_mkC s_Lexer_takeValue (Nat.le_of_ble_eq_true rfl) (Nat.le_of_ble_eq_true rfl) (show (H.sh.length - c0) + (H8.sh.length - H.sh.length) ≤ C from by omega) (show (H.sl - s0) + (H8.sl - H.sl) ≤ Sl from by omega)) (k5 213 rfl rfl) i_Lexer_takeValue v_Lexer_takeValue q5 (by decide) rfl rfl (Nat.le_of_ble_eq_true rfl) ?_
      exact ab_U_out rfl (by show _ + (H8.sh.length - H.sh.length) ≤ C; omega) (by show _ + (H8.sl - H.sl) ≤ Sl; omega) ⟨rfl, rfl⟩
    clear hG
    have mz_1 : Mo H H8 := (m_Lexer_takeValue z6)
    have b_2l := (mz_1).len
    have b_2s := (mz_1).2
    have b_2c : c0 ≤ H8.sh.length := by omega
    have b_2d : s0 ≤ H8.sl := by omega
    have q_3 := (mz_1).get q2
    have q_4 := (mz_1).get q5
    obtain ⟨v11, H12, z10, hG⟩ := bC_s hF; clear hF
    have jH12 : Mo H8 H12 := ((m_Body_push z10)).mo
    have fH12 : Mo H12 r.2 := by
      have hm := Mo.rf H12
      have hr := Option.some.inj hG; subst hr
      exact hm
    have fH8 : Mo H8 r.2 := jH12.tr fH12
    have b_2m := (fH8).len
    have b_2n := (fH8).2
    have b_2p : H8.sh.length ≤ c0 + C := by omega
    have b_2q : H8.sl ≤ s0 + Sl := by omega
    refine hp_callV_a (v := .int v7) (H1 := H8) (As := []) (rest := [.ref p0]) d_Body_plainValue_73 (k_Lexer_takeValue z6 (C := H8.sh.length - H.sh.length) (Sl := H8.sl - H.sl) (by show H8.sh.length ≤ _; omega) (by show H8.sl ≤ _; omega)) (ab_mkC s_Lexer_takeValue (Nat.le_of_ble_eq_true rfl) (Nat.le_of_ble_eq_true rfl) (show (H.sh.length - c0) + (H8.sh.length - H.sh.length) ≤ C from by omega) (show (H.sl - s0) + (H8.sl - H.sl) ≤ Sl from by omega)) (k5 213 rfl rfl) i_Lexer_takeValue v_Lexer_takeValue q5 (by decide) rfl rfl (Nat.le_of_ble_eq_true rfl) ?_
    refine ab_widen (cells' := H8.sh.length - c0) (slots' := H8.sl - s0) (by show _ + (H8.sh.length - H.sh.length) ≤ _; omega) (by show _ + (H8.sl - H.sl) ≤ _; omega) ?_
    clear b_2l b_2s b_2m b_2n
    refine hp_callV_v (H1 := H12) (As := [.int v7]) (rest := []) d_Body_plainValue_76 (k_Body_push z10) (ab_mkC s_Body_push (Nat.le_of_ble_eq_true rfl) (Nat.le_of_ble_eq_true rfl) (show (H8.sh.length - c0) + 0 ≤ C from by omega) (show (H8.sl - s0) + 0 ≤ Sl from by omega)) (k5 214 rfl rfl) i_Body_push v_Body_push q_3 (by decide) rfl rfl (Nat.le_of_ble_eq_true rfl) ?_
    have s_7 : Sa H8 H12 := (m_Body_push z10)
    refine ab_widen (cells' := H8.sh.length - c0) (slots' := H8.sl - s0) (by show (H8.sh.length - c0) + 0 ≤ _; omega) (by show (H8.sl - s0) + 0 ≤ _; omega) ?_
    refine ab_iconst (v := 0) d_Body_plainValue_79 (by decide) ?_
    exact ab_iret d_Body_plainValue_80 rfl (by show _ ≤ C; omega) (by show _ ≤ Sl; omega) (by have hr := Option.some.inj hG; subst hr; exact ⟨rfl, rfl⟩)
  rw [if_neg t1] at hF
  have ut1 : ¬ (3 : Int) = (p1).toInt := fun z => t1 (Int32.toInt_inj.mp (z.symm.trans (by decide)))
  by_cases t13 : p1 = 4
  · rw [if_pos t13] at hF
    refine ab_lookup (off := 80) (tgt := 81) d_Body_plainValue_1 (by decide) (by rw [t13]; decide) (by decide) ?_
    refine ab_aload_n d_Body_plainValue_81 rfl rfl rfl ?_
    refine ab_aload_n d_Body_plainValue_82 rfl rfl rfl ?_
    obtain ⟨q14, hG⟩ := ck_s hF; clear hF
    obtain ⟨a15, e16, hF⟩ := rf_s hG; clear hG
    refine hp_getR (f := 0) d_Body_plainValue_83 q14 (by decide) rfl (by decide) (k1 157 rfl rfl) rfl e16 ?_
    obtain ⟨q17, hG⟩ := ck_s hF; clear hF
    refine bT_c hG (fun x21 H20 z18 er => ?_) (fun v19 H20 z18 hF => ?_)
    · subst er
      have mz : Mo H H20 := (m_Lexer_takeValue z18)
      have ml := mz.len
      have m2 := mz.2
      have hC9 : H20.sh.length ≤ c0 + C := hC
      have hS9 : H20.sl ≤ s0 + Sl := hS
      refine hp_callV_t (x := x21) (H1 := H20) (As := []) (rest := [.ref p0]) d_Body_plainValue_86 (k_Lexer_takeValue z18 (C := H20.sh.length - H.sh.length) (Sl := H20.sl - H.sl) (by show H20.sh.length ≤ _; omega) (by show H20.sl ≤ _; omega)) (ab_mkC s_Lexer_takeValue (Nat.le_of_ble_eq_true rfl) (Nat.le_of_ble_eq_true rfl) (show (H.sh.length - c0) + (H20.sh.length - H.sh.length) ≤ C from by omega) (show (H.sl - s0) + (H20.sl - H.sl) ≤ Sl from by omega)) (k5 213 rfl rfl) i_Lexer_takeValue v_Lexer_takeValue q17 (by decide) rfl rfl (Nat.le_of_ble_eq_true rfl) ?_
      exact ab_U_out rfl (by show _ + (H20.sh.length - H.sh.length) ≤ C; omega) (by show _ + (H20.sl - H.sl) ≤ Sl; omega) ⟨rfl, rfl⟩
    clear hG
    have mz_8 : Mo H H20 := (m_Lexer_takeValue z18)
    have b_9l := (mz_8).len
    have b_9s := (mz_8).2
    have b_9c : c0 ≤ H20.sh.length := by omega
    have b_9d : s0 ≤ H20.sl := by omega
    have q_10 := (mz_8).get q14
    have q_11 := (mz_8).get q17
    obtain ⟨v23, H24, z22, hG⟩ := bC_s hF; clear hF
    have jH24 : Mo H20 H24 := ((m_Body_push z22)).mo
    have fH24 : Mo H24 r.2 := by
      have hm := Mo.rf H24
      have hr := Option.some.inj hG; subst hr
      exact hm
    have fH20 : Mo H20 r.2 := jH24.tr fH24
    have b_9m := (fH20).len
    have b_9n := (fH20).2
    have b_9p : H20.sh.length ≤ c0 + C := by omega
    have b_9q : H20.sl ≤ s0 + Sl := by omega
    refine hp_callV_a (v := .int v19) (H1 := H20) (As := []) (rest := [.ref p0]) d_Body_plainValue_86 (k_Lexer_takeValue z18 (C := H20.sh.length - H.sh.length) (Sl := H20.sl - H.sl) (by show H20.sh.length ≤ _; omega) (by show H20.sl ≤ _; omega)) (ab_mkC s_Lexer_takeValue (Nat.le_of_ble_eq_true rfl) (Nat.le_of_ble_eq_true rfl) (show (H.sh.length - c0) + (H20.sh.length - H.sh.length) ≤ C from by omega) (show (H.sl - s0) + (H20.sl - H.sl) ≤ Sl from by omega)) (k5 213 rfl rfl) i_Lexer_takeValue v_Lexer_takeValue q17 (by decide) rfl rfl (Nat.le_of_ble_eq_true rfl) ?_
    refine ab_widen (cells' := H20.sh.length - c0) (slots' := H20.sl - s0) (by show _ + (H20.sh.length - H.sh.length) ≤ _; omega) (by show _ + (H20.sl - H.sl) ≤ _; omega) ?_
    clear b_9l b_9s b_9m b_9n
    refine hp_callV_v (H1 := H24) (As := [.int v19]) (rest := []) d_Body_plainValue_89 (k_Body_push z22) (ab_mkC s_Body_push (Nat.le_of_ble_eq_true rfl) (Nat.le_of_ble_eq_true rfl) (show (H20.sh.length - c0) + 0 ≤ C from by omega) (show (H20.sl - s0) + 0 ≤ Sl from by omega)) (k5 214 rfl rfl) i_Body_push v_Body_push q_10 (by decide) rfl rfl (Nat.le_of_ble_eq_true rfl) ?_
    have s_14 : Sa H20 H24 := (m_Body_push z22)
    refine ab_widen (cells' := H20.sh.length - c0) (slots' := H20.sl - s0) (by show (H20.sh.length - c0) + 0 ≤ _; omega) (by show (H20.sl - s0) + 0 ≤ _; omega) ?_
    refine ab_iconst (v := 2) d_Body_plainValue_92 (by decide) ?_
    exact ab_iret d_Body_plainValue_93 rfl (by show _ ≤ C; omega) (by show _ ≤ Sl; omega) (by have hr := Option.some.inj hG; subst hr; exact ⟨rfl, rfl⟩)
  rw [if_neg t13] at hF
  have ut13 : ¬ (4 : Int) = (p1).toInt := fun z => t13 (Int32.toInt_inj.mp (z.symm.trans (by decide)))
  by_cases t25 : p1 = 71
  · rw [if_pos t25] at hF
    refine ab_lookup (off := 93) (tgt := 94) d_Body_plainValue_1 (by decide) (by rw [t25]; decide) (by decide) ?_
    refine ab_aload_n d_Body_plainValue_94 rfl rfl rfl ?_
    refine ab_iload_n d_Body_plainValue_95 rfl rfl ?_
    refine ab_bipush (v := 71) d_Body_plainValue_96 (by decide) ?_
    refine ab_icmp_ne (tgt := 105) d_Body_plainValue_98 (by decide) (fun q26 => ?_) (fun q26 => ?_)
    · rw [if_neg q26] at hF
      refine ab_iconst (v := 0) d_Body_plainValue_105 (by decide) ?_
      exact kB_Body_plainValue_106 hF hc0 hs0 hcc hss hC hS
    · rw [if_pos q26] at hF
      refine ab_iconst (v := 1) d_Body_plainValue_101 (by decide) ?_
      refine ab_goto (tgt := 106) d_Body_plainValue_102 (by decide) ?_
      exact kB_Body_plainValue_106 hF hc0 hs0 hcc hss hC hS
  rw [if_neg t25] at hF
  have ut25 : ¬ (71 : Int) = (p1).toInt := fun z => t25 (Int32.toInt_inj.mp (z.symm.trans (by decide)))
  by_cases t49 : p1 = 72
  · rw [if_pos t49] at hF
    refine ab_lookup (off := 93) (tgt := 94) d_Body_plainValue_1 (by decide) (by rw [t49]; decide) (by decide) ?_
    refine ab_aload_n d_Body_plainValue_94 rfl rfl rfl ?_
    refine ab_iload_n d_Body_plainValue_95 rfl rfl ?_
    refine ab_bipush (v := 71) d_Body_plainValue_96 (by decide) ?_
    refine ab_icmp_ne (tgt := 105) d_Body_plainValue_98 (by decide) (fun q50 => ?_) (fun q50 => ?_)
    · rw [if_neg q50] at hF
      refine ab_iconst (v := 0) d_Body_plainValue_105 (by decide) ?_
      exact kB_Body_plainValue_106 hF hc0 hs0 hcc hss hC hS
    · rw [if_pos q50] at hF
      refine ab_iconst (v := 1) d_Body_plainValue_101 (by decide) ?_
      refine ab_goto (tgt := 106) d_Body_plainValue_102 (by decide) ?_
      exact kB_Body_plainValue_106 hF hc0 hs0 hcc hss hC hS
  rw [if_neg t49] at hF
  have ut49 : ¬ (72 : Int) = (p1).toInt := fun z => t49 (Int32.toInt_inj.mp (z.symm.trans (by decide)))
  by_cases t51 : p1 = 73
  · rw [if_pos t51] at hF
    refine ab_lookup (off := 117) (tgt := 118) d_Body_plainValue_1 (by decide) (by rw [t51]; decide) (by decide) ?_
    refine ab_aload_n d_Body_plainValue_118 rfl rfl rfl ?_
    refine ab_iconst (v := (-1)) d_Body_plainValue_119 (by decide) ?_
    obtain ⟨q52, hG⟩ := ck_s hF; clear hF
    obtain ⟨v54, H55, z53, hF⟩ := bC_s hG; clear hG
    refine hp_callV_v (H1 := H55) (As := [.int (-1)]) (rest := []) d_Body_plainValue_120 (k_Body_push z53) (ab_mkC s_Body_push (Nat.le_of_ble_eq_true rfl) (Nat.le_of_ble_eq_true rfl) (show (H.sh.length - c0) + 0 ≤ C from by omega) (show (H.sl - s0) + 0 ≤ Sl from by omega)) (k5 214 rfl rfl) i_Body_push v_Body_push q52 (by decide) rfl rfl (Nat.le_of_ble_eq_true rfl) ?_
    have s_20 : Sa H H55 := (m_Body_push z53)
    refine ab_widen (cells' := H.sh.length - c0) (slots' := H.sl - s0) (by show (H.sh.length - c0) + 0 ≤ _; omega) (by show (H.sl - s0) + 0 ≤ _; omega) ?_
    refine ab_aload_n d_Body_plainValue_123 rfl rfl rfl ?_
    obtain ⟨a56, e57, hG⟩ := rf_s hF; clear hF
    refine hp_getR (f := 0) d_Body_plainValue_124 (by rw [(s_20).1]; exact q52) (by decide) rfl (by decide) (k1 157 rfl rfl) rfl e57 ?_
    obtain ⟨q58, hF⟩ := ck_s hG; clear hG
    rw [(s_20).1] at q58
    obtain ⟨v60, H61, z59, hG⟩ := bC_s hF; clear hF
    refine ab_widen (cells' := H55.sh.length - c0) (slots' := H55.sl - s0) (by rw [(s_20).1]; exact Nat.le_refl _) (by rw [(s_20).2]; exact Nat.le_refl _) ?_
    have b_21e := congrArg List.length (s_20).1
    have b_21f := (s_20).2
    refine hp_callV_v (H1 := H61) (As := []) (rest := []) d_Body_plainValue_127 (k_Lexer_advance z59) (ab_mkC s_Lexer_advance (Nat.le_of_ble_eq_true rfl) (Nat.le_of_ble_eq_true rfl) (show (H55.sh.length - c0) + 0 ≤ C from by omega) (show (H55.sl - s0) + 0 ≤ Sl from by omega)) (k5 129 rfl rfl) i_Lexer_advance v_Lexer_advance (by rw [(s_20).1]; exact q58) (by decide) rfl rfl (Nat.le_of_ble_eq_true rfl) ?_
    have s_22 : Sa H H61 := (s_20).tr (m_Lexer_advance z59)
    refine ab_widen (cells' := H.sh.length - c0) (slots' := H.sl - s0) (by show (H55.sh.length - c0) + 0 ≤ _; omega) (by show (H55.sl - s0) + 0 ≤ _; omega) ?_
    clear b_21e b_21f
    refine ab_iconst (v := 4) d_Body_plainValue_130 (by decide) ?_
    exact ab_iret d_Body_plainValue_131 rfl (by show _ ≤ C; omega) (by show _ ≤ Sl; omega) (by have hr := Option.some.inj hG; subst hr; exact ⟨rfl, rfl⟩)
  rw [if_neg t51] at hF
  have ut51 : ¬ (73 : Int) = (p1).toInt := fun z => t51 (Int32.toInt_inj.mp (z.symm.trans (by decide)))
  by_cases t62 : p1 = 74
  · rw [if_pos t62] at hF
    refine ab_lookup (off := 131) (tgt := 132) d_Body_plainValue_1 (by decide) (by rw [t62]; decide) (by decide) ?_
    refine ab_aload_n d_Body_plainValue_132 rfl rfl rfl ?_
    obtain ⟨q63, hG⟩ := ck_s hF; clear hF
    obtain ⟨a64, e65, hF⟩ := rf_s hG; clear hG
    refine hp_getR (f := 1) d_Body_plainValue_133 q63 (by decide) rfl (by decide) (k1 158 rfl rfl) rfl e65 ?_
    refine ab_bipush (v := 31) d_Body_plainValue_136 (by decide) ?_
    obtain ⟨q66, hG⟩ := ck_s hF; clear hF
    obtain ⟨v68, H69, z67, hF⟩ := bC_s hG; clear hG
    refine hp_callV_a (v := .int v68) (H1 := H69) (As := [.int 31]) (rest := []) d_Body_plainValue_138 (k_Program_add z67) (ab_mkC s_Program_add (Nat.le_of_ble_eq_true rfl) (Nat.le_of_ble_eq_true rfl) (show (H.sh.length - c0) + 0 ≤ C from by omega) (show (H.sl - s0) + 0 ≤ Sl from by omega)) (k5 117 rfl rfl) i_Program_add v_Program_add q66 (by decide) rfl rfl (Nat.le_of_ble_eq_true rfl) ?_
    have s_24 : Sa H H69 := (m_Program_add z67)
    refine ab_widen (cells' := H.sh.length - c0) (slots' := H.sl - s0) (by show (H.sh.length - c0) + 0 ≤ _; omega) (by show (H.sl - s0) + 0 ≤ _; omega) ?_
    refine ab_pop d_Body_plainValue_141 rfl ?_
    refine ab_aload_n d_Body_plainValue_142 rfl rfl rfl ?_
    obtain ⟨a70, e71, hG⟩ := rf_s hF; clear hF
    refine hp_getR (f := 0) d_Body_plainValue_143 (by rw [(s_24).1]; exact q63) (by decide) rfl (by decide) (k1 157 rfl rfl) rfl e71 ?_
    obtain ⟨q72, hF⟩ := ck_s hG; clear hG
    rw [(s_24).1] at q72
    obtain ⟨v74, H75, z73, hG⟩ := bC_s hF; clear hF
    refine ab_widen (cells' := H69.sh.length - c0) (slots' := H69.sl - s0) (by rw [(s_24).1]; exact Nat.le_refl _) (by rw [(s_24).2]; exact Nat.le_refl _) ?_
    have b_25e := congrArg List.length (s_24).1
    have b_25f := (s_24).2
    refine hp_callV_v (H1 := H75) (As := []) (rest := []) d_Body_plainValue_146 (k_Lexer_advance z73) (ab_mkC s_Lexer_advance (Nat.le_of_ble_eq_true rfl) (Nat.le_of_ble_eq_true rfl) (show (H69.sh.length - c0) + 0 ≤ C from by omega) (show (H69.sl - s0) + 0 ≤ Sl from by omega)) (k5 129 rfl rfl) i_Lexer_advance v_Lexer_advance (by rw [(s_24).1]; exact q72) (by decide) rfl rfl (Nat.le_of_ble_eq_true rfl) ?_
    have s_26 : Sa H H75 := (s_24).tr (m_Lexer_advance z73)
    refine ab_widen (cells' := H.sh.length - c0) (slots' := H.sl - s0) (by show (H69.sh.length - c0) + 0 ≤ _; omega) (by show (H69.sl - s0) + 0 ≤ _; omega) ?_
    clear b_25e b_25f
    refine ab_iconst (v := 4) d_Body_plainValue_149 (by decide) ?_
    exact ab_iret d_Body_plainValue_150 rfl (by show _ ≤ C; omega) (by show _ ≤ Sl; omega) (by have hr := Option.some.inj hG; subst hr; exact ⟨rfl, rfl⟩)
  rw [if_neg t62] at hF
  have ut62 : ¬ (74 : Int) = (p1).toInt := fun z => t62 (Int32.toInt_inj.mp (z.symm.trans (by decide)))
  by_cases t76 : p1 = 75
  · rw [if_pos t76] at hF
    refine ab_lookup (off := 150) (tgt := 151) d_Body_plainValue_1 (by decide) (by rw [t76]; decide) (by decide) ?_
    refine ab_aload_n d_Body_plainValue_151 rfl rfl rfl ?_
    obtain ⟨q77, hG⟩ := ck_s hF; clear hF
    obtain ⟨a78, e79, hF⟩ := rf_s hG; clear hG
    refine hp_getR (f := 1) d_Body_plainValue_152 q77 (by decide) rfl (by decide) (k1 158 rfl rfl) rfl e79 ?_
    refine ab_bipush (v := 32) d_Body_plainValue_155 (by decide) ?_
    obtain ⟨q80, hG⟩ := ck_s hF; clear hF
    obtain ⟨v82, H83, z81, hF⟩ := bC_s hG; clear hG
    refine hp_callV_a (v := .int v82) (H1 := H83) (As := [.int 32]) (rest := []) d_Body_plainValue_157 (k_Program_add z81) (ab_mkC s_Program_add (Nat.le_of_ble_eq_true rfl) (Nat.le_of_ble_eq_true rfl) (show (H.sh.length - c0) + 0 ≤ C from by omega) (show (H.sl - s0) + 0 ≤ Sl from by omega)) (k5 117 rfl rfl) i_Program_add v_Program_add q80 (by decide) rfl rfl (Nat.le_of_ble_eq_true rfl) ?_
    have s_28 : Sa H H83 := (m_Program_add z81)
    refine ab_widen (cells' := H.sh.length - c0) (slots' := H.sl - s0) (by show (H.sh.length - c0) + 0 ≤ _; omega) (by show (H.sl - s0) + 0 ≤ _; omega) ?_
    refine ab_pop d_Body_plainValue_160 rfl ?_
    refine ab_aload_n d_Body_plainValue_161 rfl rfl rfl ?_
    obtain ⟨a84, e85, hG⟩ := rf_s hF; clear hF
    refine hp_getR (f := 0) d_Body_plainValue_162 (by rw [(s_28).1]; exact q77) (by decide) rfl (by decide) (k1 157 rfl rfl) rfl e85 ?_
    obtain ⟨q86, hF⟩ := ck_s hG; clear hG
    rw [(s_28).1] at q86
    obtain ⟨v88, H89, z87, hG⟩ := bC_s hF; clear hF
    refine ab_widen (cells' := H83.sh.length - c0) (slots' := H83.sl - s0) (by rw [(s_28).1]; exact Nat.le_refl _) (by rw [(s_28).2]; exact Nat.le_refl _) ?_
    have b_29e := congrArg List.length (s_28).1
    have b_29f := (s_28).2
    refine hp_callV_v (H1 := H89) (As := []) (rest := []) d_Body_plainValue_165 (k_Lexer_advance z87) (ab_mkC s_Lexer_advance (Nat.le_of_ble_eq_true rfl) (Nat.le_of_ble_eq_true rfl) (show (H83.sh.length - c0) + 0 ≤ C from by omega) (show (H83.sl - s0) + 0 ≤ Sl from by omega)) (k5 129 rfl rfl) i_Lexer_advance v_Lexer_advance (by rw [(s_28).1]; exact q86) (by decide) rfl rfl (Nat.le_of_ble_eq_true rfl) ?_
    have s_30 : Sa H H89 := (s_28).tr (m_Lexer_advance z87)
    refine ab_widen (cells' := H.sh.length - c0) (slots' := H.sl - s0) (by show (H83.sh.length - c0) + 0 ≤ _; omega) (by show (H83.sl - s0) + 0 ≤ _; omega) ?_
    clear b_29e b_29f
    refine ab_iconst (v := 0) d_Body_plainValue_168 (by decide) ?_
    exact ab_iret d_Body_plainValue_169 rfl (by show _ ≤ C; omega) (by show _ ≤ Sl; omega) (by have hr := Option.some.inj hG; subst hr; exact ⟨rfl, rfl⟩)
  rw [if_neg t76] at hF
  have ut76 : ¬ (75 : Int) = (p1).toInt := fun z => t76 (Int32.toInt_inj.mp (z.symm.trans (by decide)))
  refine ab_lookup (off := 169) (tgt := 170) d_Body_plainValue_1 (by decide) (by simp [Op.lookupswitch.offset, ut1, ut13, ut25, ut49, ut51, ut62, ut76]) (by decide) ?_
  refine ab_aload_n d_Body_plainValue_170 rfl rfl rfl ?_
  obtain ⟨q90, hG⟩ := ck_s hF; clear hF
  obtain ⟨a91, e92, hF⟩ := rf_s hG; clear hG
  refine hp_getR (f := 0) d_Body_plainValue_171 q90 (by decide) rfl (by decide) (k1 157 rfl rfl) rfl e92 ?_
  refine ab_iconst (v := 1) d_Body_plainValue_174 (by decide) ?_
  refine ab_aload_n d_Body_plainValue_175 rfl rfl rfl ?_
  obtain ⟨a93, e94, hG⟩ := rf_s hF; clear hF
  refine hp_getR (f := 0) d_Body_plainValue_176 q90 (by decide) rfl (by decide) (k1 157 rfl rfl) rfl e94 ?_
  obtain ⟨q95, hF⟩ := ck_s hG; clear hG
  refine hp_getI (f := 3) d_Body_plainValue_179 q95 (by decide) rfl (by decide) (k1 103 rfl rfl) rfl ?_
  refine ab_topi (fun x96 ex96 => ?_)
  replace hF := bnd_s ex96 hF
  obtain ⟨q97, hG⟩ := ck_s hF; clear hF
  refine bT_c hG (fun x101 H100 z98 er => ?_) (fun v99 H100 z98 hF => ?_)
  · subst er
    have mz : Mo H H100 := (m_Lexer_refuse z98)
    have ml := mz.len
    have m2 := mz.2
    have hC9 : H100.sh.length ≤ c0 + C := hC
    have hS9 : H100.sl ≤ s0 + Sl := hS
    refine hp_callV_t (x := x101) (H1 := H100) (As := [.int 1, .int x96]) (rest := []) d_Body_plainValue_182 (k_Lexer_refuse z98 (C := H100.sh.length - H.sh.length) (Sl := H100.sl - H.sl) (by show H100.sh.length ≤ _; omega) (by show H100.sl ≤ _; omega)) (ab_mkC s_Lexer_refuse (Nat.le_of_ble_eq_true rfl) (Nat.le_of_ble_eq_true rfl) (show (H.sh.length - c0) + (H100.sh.length - H.sh.length) ≤ C from by omega) (show (H.sl - s0) + (H100.sl - H.sl) ≤ Sl from by omega)) (k5 135 rfl rfl) i_Lexer_refuse v_Lexer_refuse q97 (by decide) rfl rfl (Nat.le_of_ble_eq_true rfl) ?_
    exact ab_U_out rfl (by show _ + (H100.sh.length - H.sh.length) ≤ C; omega) (by show _ + (H100.sl - H.sl) ≤ Sl; omega) ⟨rfl, rfl⟩
  clear hG
  have mz_31 : Mo H H100 := (m_Lexer_refuse z98)
  have b_32l := (mz_31).len
  have b_32s := (mz_31).2
  have b_32c : c0 ≤ H100.sh.length := by omega
  have b_32d : s0 ≤ H100.sl := by omega
  have q_33 := (mz_31).get q90
  have q_34 := (mz_31).get q95
  have q_35 := (mz_31).get q97
  have fH100 : Mo H100 r.2 := by
    have hm := Mo.rf H100
    have hr := Option.some.inj hF; subst hr
    exact hm
  have b_32m := (fH100).len
  have b_32n := (fH100).2
  have b_32p : H100.sh.length ≤ c0 + C := by omega
  have b_32q : H100.sl ≤ s0 + Sl := by omega
  refine hp_callV_v (H1 := H100) (As := [.int 1, .int x96]) (rest := []) d_Body_plainValue_182 (k_Lexer_refuse z98 (C := H100.sh.length - H.sh.length) (Sl := H100.sl - H.sl) (by show H100.sh.length ≤ _; omega) (by show H100.sl ≤ _; omega)) (ab_mkC s_Lexer_refuse (Nat.le_of_ble_eq_true rfl) (Nat.le_of_ble_eq_true rfl) (show (H.sh.length - c0) + (H100.sh.length - H.sh.length) ≤ C from by omega) (show (H.sl - s0) + (H100.sl - H.sl) ≤ Sl from by omega)) (k5 135 rfl rfl) i_Lexer_refuse v_Lexer_refuse q97 (by decide) rfl rfl (Nat.le_of_ble_eq_true rfl) ?_
  refine ab_widen (cells' := H100.sh.length - c0) (slots' := H100.sl - s0) (by show _ + (H100.sh.length - H.sh.length) ≤ _; omega) (by show _ + (H100.sl - H.sl) ≤ _; omega) ?_
  clear b_32l b_32s b_32m b_32n
  refine ab_iconst (v := 0) d_Body_plainValue_185 (by decide) ?_
  exact ab_iret d_Body_plainValue_186 rfl (by show _ ≤ C; omega) (by show _ ≤ Sl; omega) (by have hr := Option.some.inj hF; subst hr; exact ⟨rfl, rfl⟩)
def y_Body_levelOf : ab_Y := (⟨"WorldEngine$Body", "levelOf", "(I)I"⟩, prog_2_method_34_code, 1, (some FieldType.int), [])
theorem d_Body_levelOf_0 : decode y_Body_levelOf.2.1 0 = .ok (.iload_n 0, 1) := by decide +kernel
theorem d_Body_levelOf_1 : decode y_Body_levelOf.2.1 1 = .ok (.tableswitch 81 18 31 #[77, 77, 79, 79, 79, 75, 75, 81, 75, 75, 75, 75, 73, 71], 71) := by decide +kernel
theorem d_Body_levelOf_72 : decode y_Body_levelOf.2.1 72 = .ok (.iconst 0, 1) := by decide +kernel
theorem d_Body_levelOf_73 : decode y_Body_levelOf.2.1 73 = .ok (.ireturn, 1) := by decide +kernel
theorem d_Body_levelOf_74 : decode y_Body_levelOf.2.1 74 = .ok (.iconst 1, 1) := by decide +kernel
theorem d_Body_levelOf_75 : decode y_Body_levelOf.2.1 75 = .ok (.ireturn, 1) := by decide +kernel
theorem d_Body_levelOf_76 : decode y_Body_levelOf.2.1 76 = .ok (.iconst 2, 1) := by decide +kernel
theorem d_Body_levelOf_77 : decode y_Body_levelOf.2.1 77 = .ok (.ireturn, 1) := by decide +kernel
theorem d_Body_levelOf_78 : decode y_Body_levelOf.2.1 78 = .ok (.iconst 3, 1) := by decide +kernel
theorem d_Body_levelOf_79 : decode y_Body_levelOf.2.1 79 = .ok (.ireturn, 1) := by decide +kernel
theorem d_Body_levelOf_80 : decode y_Body_levelOf.2.1 80 = .ok (.iconst 4, 1) := by decide +kernel
theorem d_Body_levelOf_81 : decode y_Body_levelOf.2.1 81 = .ok (.ireturn, 1) := by decide +kernel
theorem d_Body_levelOf_82 : decode y_Body_levelOf.2.1 82 = .ok (.iconst (-1), 1) := by decide +kernel
theorem d_Body_levelOf_83 : decode y_Body_levelOf.2.1 83 = .ok (.ireturn, 1) := by decide +kernel
theorem s_Body_levelOf : ab_Stat y_Body_levelOf 1 := ⟨(k5 220 rfl rfl), (k1 8 rfl rfl), ⟨by decide, by decide⟩, by decide +kernel⟩
theorem t_Body_levelOf : Cond.static y_Body_levelOf.1 ∈ ab_T := (k5 219 rfl rfl)
def F_Body_levelOf (N : Nat) (p0 : Int32) (H : Hp) : Option (Int32 × Hp) :=
    if p0 = 18 then
    some (3, H)
    else if p0 = 19 then
    some (3, H)
    else if p0 = 20 then
    some (4, H)
    else if p0 = 21 then
    some (4, H)
    else if p0 = 22 then
    some (4, H)
    else if p0 = 23 then
    some (2, H)
    else if p0 = 24 then
    some (2, H)
    else if p0 = 26 then
    some (2, H)
    else if p0 = 27 then
    some (2, H)
    else if p0 = 28 then
    some (2, H)
    else if p0 = 29 then
    some (2, H)
    else if p0 = 30 then
    some (1, H)
    else if p0 = 31 then
    some (0, H)
    else some ((-1), H)
set_option maxRecDepth 20000 in
set_option maxHeartbeats 2000000 in
theorem m_Body_levelOf {N : Nat} {p0 : Int32} {H : Hp} {r : Int32 × Hp} (hF : F_Body_levelOf N p0 H = some r) : Sa H r.2 := by
  unfold F_Body_levelOf at hF
  have hm := Sa.rf H
  rcases ite_s hF with ⟨q_1, hG⟩ | ⟨q_1, hG⟩
  · clear hF
    have hr := Option.some.inj hG; subst hr
    exact hm
  clear hF
  rcases ite_s hG with ⟨q_2, hF⟩ | ⟨q_2, hF⟩
  · clear hG
    have hr := Option.some.inj hF; subst hr
    exact hm
  clear hG
  rcases ite_s hF with ⟨q_3, hG⟩ | ⟨q_3, hG⟩
  · clear hF
    have hr := Option.some.inj hG; subst hr
    exact hm
  clear hF
  rcases ite_s hG with ⟨q_4, hF⟩ | ⟨q_4, hF⟩
  · clear hG
    have hr := Option.some.inj hF; subst hr
    exact hm
  clear hG
  rcases ite_s hF with ⟨q_5, hG⟩ | ⟨q_5, hG⟩
  · clear hF
    have hr := Option.some.inj hG; subst hr
    exact hm
  clear hF
  rcases ite_s hG with ⟨q_6, hF⟩ | ⟨q_6, hF⟩
  · clear hG
    have hr := Option.some.inj hF; subst hr
    exact hm
  clear hG
  rcases ite_s hF with ⟨q_7, hG⟩ | ⟨q_7, hG⟩
  · clear hF
    have hr := Option.some.inj hG; subst hr
    exact hm
  clear hF
  rcases ite_s hG with ⟨q_8, hF⟩ | ⟨q_8, hF⟩
  · clear hG
    have hr := Option.some.inj hF; subst hr
    exact hm
  clear hG
  rcases ite_s hF with ⟨q_9, hG⟩ | ⟨q_9, hG⟩
  · clear hF
    have hr := Option.some.inj hG; subst hr
    exact hm
  clear hF
  rcases ite_s hG with ⟨q_10, hF⟩ | ⟨q_10, hF⟩
  · clear hG
    have hr := Option.some.inj hF; subst hr
    exact hm
  clear hG
  rcases ite_s hF with ⟨q_11, hG⟩ | ⟨q_11, hG⟩
  · clear hF
    have hr := Option.some.inj hG; subst hr
    exact hm
  clear hF
  rcases ite_s hG with ⟨q_12, hF⟩ | ⟨q_12, hF⟩
  · clear hG
    have hr := Option.some.inj hF; subst hr
    exact hm
  clear hG
  rcases ite_s hF with ⟨q_13, hG⟩ | ⟨q_13, hG⟩
  · clear hF
    have hr := Option.some.inj hG; subst hr
    exact hm
  clear hF
  have hr := Option.some.inj hG; subst hr
  exact hm
set_option maxRecDepth 20000 in
set_option maxHeartbeats 2000000 in
theorem k_Body_levelOf {N : Nat} {p0 : Int32} {H : Hp} {r : Int32 × Hp} (hF : F_Body_levelOf N p0 H = some r) : ab_M y_Body_levelOf { frames := 0, cells := 0, slots := 0, locals := 0 } [.int p0] (hpw H) (po (.returned (some (.int r.1))) r.2) := by
  unfold F_Body_levelOf at hF
  refine ab_of2 (lv := [some (.int p0)]) 0 rfl rfl (Nat.le_of_ble_eq_true rfl) ?_
  refine ab_iload_n d_Body_levelOf_0 rfl rfl ?_
  by_cases t1 : p0 = 18
  · rw [if_pos t1] at hF
    refine ab_tableIn (off := 77) (tgt := 78) d_Body_levelOf_1 (by rw [t1]; decide) (by rw [t1]; decide) (by rw [t1]; decide) (by decide) ?_
    refine ab_iconst (v := 3) d_Body_levelOf_78 (by decide) ?_
    exact ab_iret d_Body_levelOf_79 rfl (Nat.le_refl _) (Nat.le_refl _) (by have hr := Option.some.inj hF; subst hr; exact ⟨rfl, rfl⟩)
  rw [if_neg t1] at hF
  have ut1 : ¬ (18 : Int) = (p0).toInt := fun z => t1 (Int32.toInt_inj.mp (z.symm.trans (by decide)))
  by_cases t2 : p0 = 19
  · rw [if_pos t2] at hF
    refine ab_tableIn (off := 77) (tgt := 78) d_Body_levelOf_1 (by rw [t2]; decide) (by rw [t2]; decide) (by rw [t2]; decide) (by decide) ?_
    refine ab_iconst (v := 3) d_Body_levelOf_78 (by decide) ?_
    exact ab_iret d_Body_levelOf_79 rfl (Nat.le_refl _) (Nat.le_refl _) (by have hr := Option.some.inj hF; subst hr; exact ⟨rfl, rfl⟩)
  rw [if_neg t2] at hF
  have ut2 : ¬ (19 : Int) = (p0).toInt := fun z => t2 (Int32.toInt_inj.mp (z.symm.trans (by decide)))
  by_cases t3 : p0 = 20
  · rw [if_pos t3] at hF
    refine ab_tableIn (off := 79) (tgt := 80) d_Body_levelOf_1 (by rw [t3]; decide) (by rw [t3]; decide) (by rw [t3]; decide) (by decide) ?_
    refine ab_iconst (v := 4) d_Body_levelOf_80 (by decide) ?_
    exact ab_iret d_Body_levelOf_81 rfl (Nat.le_refl _) (Nat.le_refl _) (by have hr := Option.some.inj hF; subst hr; exact ⟨rfl, rfl⟩)
  rw [if_neg t3] at hF
  have ut3 : ¬ (20 : Int) = (p0).toInt := fun z => t3 (Int32.toInt_inj.mp (z.symm.trans (by decide)))
  by_cases t4 : p0 = 21
  · rw [if_pos t4] at hF
    refine ab_tableIn (off := 79) (tgt := 80) d_Body_levelOf_1 (by rw [t4]; decide) (by rw [t4]; decide) (by rw [t4]; decide) (by decide) ?_
    refine ab_iconst (v := 4) d_Body_levelOf_80 (by decide) ?_
    exact ab_iret d_Body_levelOf_81 rfl (Nat.le_refl _) (Nat.le_refl _) (by have hr := Option.some.inj hF; subst hr; exact ⟨rfl, rfl⟩)
  rw [if_neg t4] at hF
  have ut4 : ¬ (21 : Int) = (p0).toInt := fun z => t4 (Int32.toInt_inj.mp (z.symm.trans (by decide)))
  by_cases t5 : p0 = 22
  · rw [if_pos t5] at hF
    refine ab_tableIn (off := 79) (tgt := 80) d_Body_levelOf_1 (by rw [t5]; decide) (by rw [t5]; decide) (by rw [t5]; decide) (by decide) ?_
    refine ab_iconst (v := 4) d_Body_levelOf_80 (by decide) ?_
    exact ab_iret d_Body_levelOf_81 rfl (Nat.le_refl _) (Nat.le_refl _) (by have hr := Option.some.inj hF; subst hr; exact ⟨rfl, rfl⟩)
  rw [if_neg t5] at hF
  have ut5 : ¬ (22 : Int) = (p0).toInt := fun z => t5 (Int32.toInt_inj.mp (z.symm.trans (by decide)))
  by_cases t6 : p0 = 23
  · rw [if_pos t6] at hF
    refine ab_tableIn (off := 75) (tgt := 76) d_Body_levelOf_1 (by rw [t6]; decide) (by rw [t6]; decide) (by rw [t6]; decide) (by decide) ?_
    refine ab_iconst (v := 2) d_Body_levelOf_76 (by decide) ?_
    exact ab_iret d_Body_levelOf_77 rfl (Nat.le_refl _) (Nat.le_refl _) (by have hr := Option.some.inj hF; subst hr; exact ⟨rfl, rfl⟩)
  rw [if_neg t6] at hF
  have ut6 : ¬ (23 : Int) = (p0).toInt := fun z => t6 (Int32.toInt_inj.mp (z.symm.trans (by decide)))
  by_cases t7 : p0 = 24
  · rw [if_pos t7] at hF
    refine ab_tableIn (off := 75) (tgt := 76) d_Body_levelOf_1 (by rw [t7]; decide) (by rw [t7]; decide) (by rw [t7]; decide) (by decide) ?_
    refine ab_iconst (v := 2) d_Body_levelOf_76 (by decide) ?_
    exact ab_iret d_Body_levelOf_77 rfl (Nat.le_refl _) (Nat.le_refl _) (by have hr := Option.some.inj hF; subst hr; exact ⟨rfl, rfl⟩)
  rw [if_neg t7] at hF
  have ut7 : ¬ (24 : Int) = (p0).toInt := fun z => t7 (Int32.toInt_inj.mp (z.symm.trans (by decide)))
  by_cases t8 : p0 = 26
  · rw [if_pos t8] at hF
    refine ab_tableIn (off := 75) (tgt := 76) d_Body_levelOf_1 (by rw [t8]; decide) (by rw [t8]; decide) (by rw [t8]; decide) (by decide) ?_
    refine ab_iconst (v := 2) d_Body_levelOf_76 (by decide) ?_
    exact ab_iret d_Body_levelOf_77 rfl (Nat.le_refl _) (Nat.le_refl _) (by have hr := Option.some.inj hF; subst hr; exact ⟨rfl, rfl⟩)
  rw [if_neg t8] at hF
  have ut8 : ¬ (26 : Int) = (p0).toInt := fun z => t8 (Int32.toInt_inj.mp (z.symm.trans (by decide)))
  by_cases t9 : p0 = 27
  · rw [if_pos t9] at hF
    refine ab_tableIn (off := 75) (tgt := 76) d_Body_levelOf_1 (by rw [t9]; decide) (by rw [t9]; decide) (by rw [t9]; decide) (by decide) ?_
    refine ab_iconst (v := 2) d_Body_levelOf_76 (by decide) ?_
    exact ab_iret d_Body_levelOf_77 rfl (Nat.le_refl _) (Nat.le_refl _) (by have hr := Option.some.inj hF; subst hr; exact ⟨rfl, rfl⟩)
  rw [if_neg t9] at hF
  have ut9 : ¬ (27 : Int) = (p0).toInt := fun z => t9 (Int32.toInt_inj.mp (z.symm.trans (by decide)))
  by_cases t10 : p0 = 28
  · rw [if_pos t10] at hF
    refine ab_tableIn (off := 75) (tgt := 76) d_Body_levelOf_1 (by rw [t10]; decide) (by rw [t10]; decide) (by rw [t10]; decide) (by decide) ?_
    refine ab_iconst (v := 2) d_Body_levelOf_76 (by decide) ?_
    exact ab_iret d_Body_levelOf_77 rfl (Nat.le_refl _) (Nat.le_refl _) (by have hr := Option.some.inj hF; subst hr; exact ⟨rfl, rfl⟩)
  rw [if_neg t10] at hF
  have ut10 : ¬ (28 : Int) = (p0).toInt := fun z => t10 (Int32.toInt_inj.mp (z.symm.trans (by decide)))
  by_cases t11 : p0 = 29
  · rw [if_pos t11] at hF
    refine ab_tableIn (off := 75) (tgt := 76) d_Body_levelOf_1 (by rw [t11]; decide) (by rw [t11]; decide) (by rw [t11]; decide) (by decide) ?_
    refine ab_iconst (v := 2) d_Body_levelOf_76 (by decide) ?_
    exact ab_iret d_Body_levelOf_77 rfl (Nat.le_refl _) (Nat.le_refl _) (by have hr := Option.some.inj hF; subst hr; exact ⟨rfl, rfl⟩)
  rw [if_neg t11] at hF
  have ut11 : ¬ (29 : Int) = (p0).toInt := fun z => t11 (Int32.toInt_inj.mp (z.symm.trans (by decide)))
  by_cases t12 : p0 = 30
  · rw [if_pos t12] at hF
    refine ab_tableIn (off := 73) (tgt := 74) d_Body_levelOf_1 (by rw [t12]; decide) (by rw [t12]; decide) (by rw [t12]; decide) (by decide) ?_
    refine ab_iconst (v := 1) d_Body_levelOf_74 (by decide) ?_
    exact ab_iret d_Body_levelOf_75 rfl (Nat.le_refl _) (Nat.le_refl _) (by have hr := Option.some.inj hF; subst hr; exact ⟨rfl, rfl⟩)
  rw [if_neg t12] at hF
  have ut12 : ¬ (30 : Int) = (p0).toInt := fun z => t12 (Int32.toInt_inj.mp (z.symm.trans (by decide)))
  by_cases t13 : p0 = 31
  · rw [if_pos t13] at hF
    refine ab_tableIn (off := 71) (tgt := 72) d_Body_levelOf_1 (by rw [t13]; decide) (by rw [t13]; decide) (by rw [t13]; decide) (by decide) ?_
    refine ab_iconst (v := 0) d_Body_levelOf_72 (by decide) ?_
    exact ab_iret d_Body_levelOf_73 rfl (Nat.le_refl _) (Nat.le_refl _) (by have hr := Option.some.inj hF; subst hr; exact ⟨rfl, rfl⟩)
  rw [if_neg t13] at hF
  have ut13 : ¬ (31 : Int) = (p0).toInt := fun z => t13 (Int32.toInt_inj.mp (z.symm.trans (by decide)))
  by_cases t14 : p0 = 25
  · skip
    refine ab_tableIn (off := 81) (tgt := 82) d_Body_levelOf_1 (by rw [t14]; decide) (by rw [t14]; decide) (by rw [t14]; decide) (by decide) ?_
    refine ab_iconst (v := (-1)) d_Body_levelOf_82 (by decide) ?_
    exact ab_iret d_Body_levelOf_83 rfl (Nat.le_refl _) (Nat.le_refl _) (by have hr := Option.some.inj hF; subst hr; exact ⟨rfl, rfl⟩)
  have ut14 : ¬ (25 : Int) = (p0).toInt := fun z => t14 (Int32.toInt_inj.mp (z.symm.trans (by decide)))
  refine ab_tableOut (tgt := 82) d_Body_levelOf_1 (by omega) (by decide) ?_
  refine ab_iconst (v := (-1)) d_Body_levelOf_82 (by decide) ?_
  exact ab_iret d_Body_levelOf_83 rfl (Nat.le_refl _) (Nat.le_refl _) (by have hr := Option.some.inj hF; subst hr; exact ⟨rfl, rfl⟩)
def y_Body_jump : ab_Y := (⟨"WorldEngine$Body", "jump", "(I)I"⟩, prog_2_method_7_code, 2, (some FieldType.int), [])
theorem d_Body_jump_0 : decode y_Body_jump.2.1 0 = .ok (.aload_n 0, 1) := by decide +kernel
theorem d_Body_jump_1 : decode y_Body_jump.2.1 1 = .ok (.getfield 17, 3) := by decide +kernel
theorem d_Body_jump_4 : decode y_Body_jump.2.1 4 = .ok (.iload_n 1, 1) := by decide +kernel
theorem d_Body_jump_5 : decode y_Body_jump.2.1 5 = .ok (.invokevirtual 50, 3) := by decide +kernel
theorem d_Body_jump_8 : decode y_Body_jump.2.1 8 = .ok (.pop, 1) := by decide +kernel
theorem d_Body_jump_9 : decode y_Body_jump.2.1 9 = .ok (.aload_n 0, 1) := by decide +kernel
theorem d_Body_jump_10 : decode y_Body_jump.2.1 10 = .ok (.getfield 17, 3) := by decide +kernel
theorem d_Body_jump_13 : decode y_Body_jump.2.1 13 = .ok (.iconst 0, 1) := by decide +kernel
theorem d_Body_jump_14 : decode y_Body_jump.2.1 14 = .ok (.invokevirtual 50, 3) := by decide +kernel
theorem d_Body_jump_17 : decode y_Body_jump.2.1 17 = .ok (.ireturn, 1) := by decide +kernel
theorem s_Body_jump : ab_Stat y_Body_jump 1 := ⟨(k5 224 rfl rfl), (k1 8 rfl rfl), ⟨by decide, by decide⟩, by decide +kernel⟩
theorem i_Body_jump : Cond.instanceMethod y_Body_jump.1 ∈ ab_T := (k5 223 rfl rfl)
theorem v_Body_jump : Cond.selects "WorldEngine$Body" y_Body_jump.1 y_Body_jump.1 ∈ ab_T := ab_s (List.mem_of_getElem? (i := 43) rfl) rfl
def F_Body_jump (N : Nat) (p0 : Nat) (p1 : Int32) (H : Hp) : Option (Int32 × Hp) :=
    ck (H.sh[p0]? = some (6, 0)) <|
    rf (H.P p0 1) fun a2 =>
    ck (H.sh[a2]? = some (4, 0)) <|
    bC (F_Program_add N a2 p1 H) fun v6 H7 =>
    rf (H7.P p0 1) fun a8 =>
    ck (H7.sh[a8]? = some (4, 0)) <|
    bC (F_Program_add N a8 (0 : Int32) H7) fun v12 H13 =>
    some (v12, H13)
set_option maxRecDepth 20000 in
set_option maxHeartbeats 2000000 in
theorem m_Body_jump {N : Nat} {p0 : Nat} {p1 : Int32} {H : Hp} {r : Int32 × Hp} (hF : F_Body_jump N p0 p1 H = some r) : Sa H r.2 := by
  unfold F_Body_jump at hF
  have hm := Sa.rf H
  obtain ⟨q14, hG⟩ := ck_s hF; clear hF
  obtain ⟨a15, e16, hF⟩ := rf_s hG; clear hG
  obtain ⟨q17, hG⟩ := ck_s hF; clear hF
  obtain ⟨v19, H20, z18, hF⟩ := bC_s hG; clear hG
  replace hm : Sa H H20 := hm.tr (m_Program_add z18)
  obtain ⟨a21, e22, hG⟩ := rf_s hF; clear hF
  obtain ⟨q23, hF⟩ := ck_s hG; clear hG
  obtain ⟨v25, H26, z24, hG⟩ := bC_s hF; clear hF
  replace hm : Sa H H26 := hm.tr (m_Program_add z24)
  have hr := Option.some.inj hG; subst hr
  exact hm
set_option maxRecDepth 20000 in
set_option maxHeartbeats 2000000 in
theorem k_Body_jump {N : Nat} {p0 : Nat} {p1 : Int32} {H : Hp} {r : Int32 × Hp} (hF : F_Body_jump N p0 p1 H = some r) : ab_M y_Body_jump { frames := 1, cells := 0, slots := 0, locals := 21 } [.ref p0, .int p1] (hpw H) (po (.returned (some (.int r.1))) r.2) := by
  unfold F_Body_jump at hF
  refine ab_of2 (lv := [some (.ref p0), some (.int p1)]) 0 rfl rfl (Nat.le_of_ble_eq_true rfl) ?_
  refine ab_aload_n d_Body_jump_0 rfl rfl rfl ?_
  obtain ⟨q1, hG⟩ := ck_s hF; clear hF
  obtain ⟨a2, e3, hF⟩ := rf_s hG; clear hG
  refine hp_getR (f := 1) d_Body_jump_1 q1 (by decide) rfl (by decide) (k1 158 rfl rfl) rfl e3 ?_
  refine ab_iload_n d_Body_jump_4 rfl rfl ?_
  obtain ⟨q4, hG⟩ := ck_s hF; clear hF
  obtain ⟨v6, H7, z5, hF⟩ := bC_s hG; clear hG
  refine hp_callV_a (v := .int v6) (H1 := H7) (As := [.int p1]) (rest := []) d_Body_jump_5 (k_Program_add z5) (ab_mkC s_Program_add (Nat.le_of_ble_eq_true rfl) (Nat.le_of_ble_eq_true rfl) (Nat.le_refl 0) (Nat.le_refl 0)) (k5 117 rfl rfl) i_Program_add v_Program_add q4 (by decide) rfl rfl (Nat.le_of_ble_eq_true rfl) ?_
  have s_1 : Sa H H7 := (m_Program_add z5)
  refine ab_pop d_Body_jump_8 rfl ?_
  refine ab_aload_n d_Body_jump_9 rfl rfl rfl ?_
  obtain ⟨a8, e9, hG⟩ := rf_s hF; clear hF
  refine hp_getR (f := 1) d_Body_jump_10 (by rw [(s_1).1]; exact q1) (by decide) rfl (by decide) (k1 158 rfl rfl) rfl e9 ?_
  refine ab_iconst (v := 0) d_Body_jump_13 (by decide) ?_
  obtain ⟨q10, hF⟩ := ck_s hG; clear hG
  rw [(s_1).1] at q10
  obtain ⟨v12, H13, z11, hG⟩ := bC_s hF; clear hF
  refine hp_callV_a (v := .int v12) (H1 := H13) (As := [.int 0]) (rest := []) d_Body_jump_14 (k_Program_add z11) (ab_mkC s_Program_add (Nat.le_of_ble_eq_true rfl) (Nat.le_of_ble_eq_true rfl) (Nat.le_refl 0) (Nat.le_refl 0)) (k5 117 rfl rfl) i_Program_add v_Program_add (by rw [(s_1).1]; exact q10) (by decide) rfl rfl (Nat.le_of_ble_eq_true rfl) ?_
  have s_2 : Sa H H13 := (s_1).tr (m_Program_add z11)
  exact ab_iret d_Body_jump_17 rfl (Nat.le_refl _) (Nat.le_refl _) (by have hr := Option.some.inj hG; subst hr; exact ⟨rfl, rfl⟩)
def y_Body_opOf : ab_Y := (⟨"WorldEngine$Body", "opOf", "(IZ)I"⟩, prog_2_method_37_code, 2, (some FieldType.int), [])
theorem d_Body_opOf_0 : decode y_Body_opOf.2.1 0 = .ok (.iload_n 0, 1) := by decide +kernel
theorem d_Body_opOf_1 : decode y_Body_opOf.2.1 1 = .ok (.tableswitch 125 18 28 #[59, 71, 83, 95, 107, 110, 116, 125, 113, 119, 122], 59) := by decide +kernel
theorem d_Body_opOf_60 : decode y_Body_opOf.2.1 60 = .ok (.iload_n 1, 1) := by decide +kernel
theorem d_Body_opOf_61 : decode y_Body_opOf.2.1 61 = .ok (.ifCond .eq 8, 3) := by decide +kernel
theorem d_Body_opOf_64 : decode y_Body_opOf.2.1 64 = .ok (.bipush 71, 2) := by decide +kernel
theorem d_Body_opOf_66 : decode y_Body_opOf.2.1 66 = .ok (.goto 5, 3) := by decide +kernel
theorem d_Body_opOf_69 : decode y_Body_opOf.2.1 69 = .ok (.bipush 52, 2) := by decide +kernel
theorem d_Body_opOf_71 : decode y_Body_opOf.2.1 71 = .ok (.ireturn, 1) := by decide +kernel
theorem d_Body_opOf_72 : decode y_Body_opOf.2.1 72 = .ok (.iload_n 1, 1) := by decide +kernel
theorem d_Body_opOf_73 : decode y_Body_opOf.2.1 73 = .ok (.ifCond .eq 8, 3) := by decide +kernel
theorem d_Body_opOf_76 : decode y_Body_opOf.2.1 76 = .ok (.bipush 72, 2) := by decide +kernel
theorem d_Body_opOf_78 : decode y_Body_opOf.2.1 78 = .ok (.goto 5, 3) := by decide +kernel
theorem d_Body_opOf_81 : decode y_Body_opOf.2.1 81 = .ok (.bipush 53, 2) := by decide +kernel
theorem d_Body_opOf_83 : decode y_Body_opOf.2.1 83 = .ok (.ireturn, 1) := by decide +kernel
theorem d_Body_opOf_84 : decode y_Body_opOf.2.1 84 = .ok (.iload_n 1, 1) := by decide +kernel
theorem d_Body_opOf_85 : decode y_Body_opOf.2.1 85 = .ok (.ifCond .eq 8, 3) := by decide +kernel
theorem d_Body_opOf_88 : decode y_Body_opOf.2.1 88 = .ok (.bipush 73, 2) := by decide +kernel
theorem d_Body_opOf_90 : decode y_Body_opOf.2.1 90 = .ok (.goto 5, 3) := by decide +kernel
theorem d_Body_opOf_93 : decode y_Body_opOf.2.1 93 = .ok (.bipush 54, 2) := by decide +kernel
theorem d_Body_opOf_95 : decode y_Body_opOf.2.1 95 = .ok (.ireturn, 1) := by decide +kernel
theorem d_Body_opOf_96 : decode y_Body_opOf.2.1 96 = .ok (.iload_n 1, 1) := by decide +kernel
theorem d_Body_opOf_97 : decode y_Body_opOf.2.1 97 = .ok (.ifCond .eq 8, 3) := by decide +kernel
theorem d_Body_opOf_100 : decode y_Body_opOf.2.1 100 = .ok (.bipush 74, 2) := by decide +kernel
theorem d_Body_opOf_102 : decode y_Body_opOf.2.1 102 = .ok (.goto 5, 3) := by decide +kernel
theorem d_Body_opOf_105 : decode y_Body_opOf.2.1 105 = .ok (.bipush 55, 2) := by decide +kernel
theorem d_Body_opOf_107 : decode y_Body_opOf.2.1 107 = .ok (.ireturn, 1) := by decide +kernel
theorem d_Body_opOf_108 : decode y_Body_opOf.2.1 108 = .ok (.bipush 56, 2) := by decide +kernel
theorem d_Body_opOf_110 : decode y_Body_opOf.2.1 110 = .ok (.ireturn, 1) := by decide +kernel
theorem d_Body_opOf_111 : decode y_Body_opOf.2.1 111 = .ok (.bipush 57, 2) := by decide +kernel
theorem d_Body_opOf_113 : decode y_Body_opOf.2.1 113 = .ok (.ireturn, 1) := by decide +kernel
theorem d_Body_opOf_114 : decode y_Body_opOf.2.1 114 = .ok (.bipush 58, 2) := by decide +kernel
theorem d_Body_opOf_116 : decode y_Body_opOf.2.1 116 = .ok (.ireturn, 1) := by decide +kernel
theorem d_Body_opOf_117 : decode y_Body_opOf.2.1 117 = .ok (.bipush 59, 2) := by decide +kernel
theorem d_Body_opOf_119 : decode y_Body_opOf.2.1 119 = .ok (.ireturn, 1) := by decide +kernel
theorem d_Body_opOf_120 : decode y_Body_opOf.2.1 120 = .ok (.bipush 60, 2) := by decide +kernel
theorem d_Body_opOf_122 : decode y_Body_opOf.2.1 122 = .ok (.ireturn, 1) := by decide +kernel
theorem d_Body_opOf_123 : decode y_Body_opOf.2.1 123 = .ok (.bipush 61, 2) := by decide +kernel
theorem d_Body_opOf_125 : decode y_Body_opOf.2.1 125 = .ok (.ireturn, 1) := by decide +kernel
theorem d_Body_opOf_126 : decode y_Body_opOf.2.1 126 = .ok (.bipush 62, 2) := by decide +kernel
theorem d_Body_opOf_128 : decode y_Body_opOf.2.1 128 = .ok (.ireturn, 1) := by decide +kernel
theorem s_Body_opOf : ab_Stat y_Body_opOf 2 := ⟨(k5 231 rfl rfl), (k1 8 rfl rfl), ⟨by decide, by decide⟩, by decide +kernel⟩
theorem t_Body_opOf : Cond.static y_Body_opOf.1 ∈ ab_T := (k5 230 rfl rfl)
def F_Body_opOf (N : Nat) (p0 : Int32) (p1 : Int32) (H : Hp) : Option (Int32 × Hp) :=
    if p0 = 18 then
    if p1 = (0 : Int32) then
    some (52, H)
    else
    some (71, H)
    else if p0 = 19 then
    if p1 = (0 : Int32) then
    some (53, H)
    else
    some (72, H)
    else if p0 = 20 then
    if p1 = (0 : Int32) then
    some (54, H)
    else
    some (73, H)
    else if p0 = 21 then
    if p1 = (0 : Int32) then
    some (55, H)
    else
    some (74, H)
    else if p0 = 22 then
    some (56, H)
    else if p0 = 23 then
    some (57, H)
    else if p0 = 24 then
    some (59, H)
    else if p0 = 26 then
    some (58, H)
    else if p0 = 27 then
    some (60, H)
    else if p0 = 28 then
    some (61, H)
    else some (62, H)
set_option maxRecDepth 20000 in
set_option maxHeartbeats 2000000 in
theorem m_Body_opOf {N : Nat} {p0 : Int32} {p1 : Int32} {H : Hp} {r : Int32 × Hp} (hF : F_Body_opOf N p0 p1 H = some r) : Sa H r.2 := by
  unfold F_Body_opOf at hF
  have hm := Sa.rf H
  rcases ite_s hF with ⟨q_1, hG⟩ | ⟨q_1, hG⟩
  · clear hF
    rcases ite_s hG with ⟨q_2, hF⟩ | ⟨q_2, hF⟩
    · clear hG
      have hr := Option.some.inj hF; subst hr
      exact hm
    · clear hG
      have hr := Option.some.inj hF; subst hr
      exact hm
  clear hF
  rcases ite_s hG with ⟨q_3, hF⟩ | ⟨q_3, hF⟩
  · clear hG
    rcases ite_s hF with ⟨q_4, hG⟩ | ⟨q_4, hG⟩
    · clear hF
      have hr := Option.some.inj hG; subst hr
      exact hm
    · clear hF
      have hr := Option.some.inj hG; subst hr
      exact hm
  clear hG
  rcases ite_s hF with ⟨q_5, hG⟩ | ⟨q_5, hG⟩
  · clear hF
    rcases ite_s hG with ⟨q_6, hF⟩ | ⟨q_6, hF⟩
    · clear hG
      have hr := Option.some.inj hF; subst hr
      exact hm
    · clear hG
      have hr := Option.some.inj hF; subst hr
      exact hm
  clear hF
  rcases ite_s hG with ⟨q_7, hF⟩ | ⟨q_7, hF⟩
  · clear hG
    rcases ite_s hF with ⟨q_8, hG⟩ | ⟨q_8, hG⟩
    · clear hF
      have hr := Option.some.inj hG; subst hr
      exact hm
    · clear hF
      have hr := Option.some.inj hG; subst hr
      exact hm
  clear hG
  rcases ite_s hF with ⟨q_9, hG⟩ | ⟨q_9, hG⟩
  · clear hF
    have hr := Option.some.inj hG; subst hr
    exact hm
  clear hF
  rcases ite_s hG with ⟨q_10, hF⟩ | ⟨q_10, hF⟩
  · clear hG
    have hr := Option.some.inj hF; subst hr
    exact hm
  clear hG
  rcases ite_s hF with ⟨q_11, hG⟩ | ⟨q_11, hG⟩
  · clear hF
    have hr := Option.some.inj hG; subst hr
    exact hm
  clear hF
  rcases ite_s hG with ⟨q_12, hF⟩ | ⟨q_12, hF⟩
  · clear hG
    have hr := Option.some.inj hF; subst hr
    exact hm
  clear hG
  rcases ite_s hF with ⟨q_13, hG⟩ | ⟨q_13, hG⟩
  · clear hF
    have hr := Option.some.inj hG; subst hr
    exact hm
  clear hF
  rcases ite_s hG with ⟨q_14, hF⟩ | ⟨q_14, hF⟩
  · clear hG
    have hr := Option.some.inj hF; subst hr
    exact hm
  clear hG
  have hr := Option.some.inj hF; subst hr
  exact hm
set_option maxRecDepth 20000 in
set_option maxHeartbeats 2000000 in
theorem k_Body_opOf {N : Nat} {p0 : Int32} {p1 : Int32} {H : Hp} {r : Int32 × Hp} (hF : F_Body_opOf N p0 p1 H = some r) : ab_M y_Body_opOf { frames := 0, cells := 0, slots := 0, locals := 0 } [.int p0, .int p1] (hpw H) (po (.returned (some (.int r.1))) r.2) := by
  unfold F_Body_opOf at hF
  refine ab_of2 (lv := [some (.int p0), some (.int p1)]) 0 rfl rfl (Nat.le_of_ble_eq_true rfl) ?_
  refine ab_iload_n d_Body_opOf_0 rfl rfl ?_
  by_cases t1 : p0 = 18
  · rw [if_pos t1] at hF
    refine ab_tableIn (off := 59) (tgt := 60) d_Body_opOf_1 (by rw [t1]; decide) (by rw [t1]; decide) (by rw [t1]; decide) (by decide) ?_
    refine ab_iload_n d_Body_opOf_60 rfl rfl ?_
    refine ab_if_eq (tgt := 69) d_Body_opOf_61 (by decide) (fun q2 => ?_) (fun q2 => ?_)
    · rw [if_pos q2] at hF
      refine ab_bipush (v := 52) d_Body_opOf_69 (by decide) ?_
      exact ab_iret d_Body_opOf_71 rfl (Nat.le_refl _) (Nat.le_refl _) (by have hr := Option.some.inj hF; subst hr; exact ⟨rfl, rfl⟩)
    · rw [if_neg q2] at hF
      refine ab_bipush (v := 71) d_Body_opOf_64 (by decide) ?_
      refine ab_goto (tgt := 71) d_Body_opOf_66 (by decide) ?_
      exact ab_iret d_Body_opOf_71 rfl (Nat.le_refl _) (Nat.le_refl _) (by have hr := Option.some.inj hF; subst hr; exact ⟨rfl, rfl⟩)
  rw [if_neg t1] at hF
  have ut1 : ¬ (18 : Int) = (p0).toInt := fun z => t1 (Int32.toInt_inj.mp (z.symm.trans (by decide)))
  by_cases t3 : p0 = 19
  · rw [if_pos t3] at hF
    refine ab_tableIn (off := 71) (tgt := 72) d_Body_opOf_1 (by rw [t3]; decide) (by rw [t3]; decide) (by rw [t3]; decide) (by decide) ?_
    refine ab_iload_n d_Body_opOf_72 rfl rfl ?_
    refine ab_if_eq (tgt := 81) d_Body_opOf_73 (by decide) (fun q4 => ?_) (fun q4 => ?_)
    · rw [if_pos q4] at hF
      refine ab_bipush (v := 53) d_Body_opOf_81 (by decide) ?_
      exact ab_iret d_Body_opOf_83 rfl (Nat.le_refl _) (Nat.le_refl _) (by have hr := Option.some.inj hF; subst hr; exact ⟨rfl, rfl⟩)
    · rw [if_neg q4] at hF
      refine ab_bipush (v := 72) d_Body_opOf_76 (by decide) ?_
      refine ab_goto (tgt := 83) d_Body_opOf_78 (by decide) ?_
      exact ab_iret d_Body_opOf_83 rfl (Nat.le_refl _) (Nat.le_refl _) (by have hr := Option.some.inj hF; subst hr; exact ⟨rfl, rfl⟩)
  rw [if_neg t3] at hF
  have ut3 : ¬ (19 : Int) = (p0).toInt := fun z => t3 (Int32.toInt_inj.mp (z.symm.trans (by decide)))
  by_cases t5 : p0 = 20
  · rw [if_pos t5] at hF
    refine ab_tableIn (off := 83) (tgt := 84) d_Body_opOf_1 (by rw [t5]; decide) (by rw [t5]; decide) (by rw [t5]; decide) (by decide) ?_
    refine ab_iload_n d_Body_opOf_84 rfl rfl ?_
    refine ab_if_eq (tgt := 93) d_Body_opOf_85 (by decide) (fun q6 => ?_) (fun q6 => ?_)
    · rw [if_pos q6] at hF
      refine ab_bipush (v := 54) d_Body_opOf_93 (by decide) ?_
      exact ab_iret d_Body_opOf_95 rfl (Nat.le_refl _) (Nat.le_refl _) (by have hr := Option.some.inj hF; subst hr; exact ⟨rfl, rfl⟩)
    · rw [if_neg q6] at hF
      refine ab_bipush (v := 73) d_Body_opOf_88 (by decide) ?_
      refine ab_goto (tgt := 95) d_Body_opOf_90 (by decide) ?_
      exact ab_iret d_Body_opOf_95 rfl (Nat.le_refl _) (Nat.le_refl _) (by have hr := Option.some.inj hF; subst hr; exact ⟨rfl, rfl⟩)
  rw [if_neg t5] at hF
  have ut5 : ¬ (20 : Int) = (p0).toInt := fun z => t5 (Int32.toInt_inj.mp (z.symm.trans (by decide)))
  by_cases t7 : p0 = 21
  · rw [if_pos t7] at hF
    refine ab_tableIn (off := 95) (tgt := 96) d_Body_opOf_1 (by rw [t7]; decide) (by rw [t7]; decide) (by rw [t7]; decide) (by decide) ?_
    refine ab_iload_n d_Body_opOf_96 rfl rfl ?_
    refine ab_if_eq (tgt := 105) d_Body_opOf_97 (by decide) (fun q8 => ?_) (fun q8 => ?_)
    · rw [if_pos q8] at hF
      refine ab_bipush (v := 55) d_Body_opOf_105 (by decide) ?_
      exact ab_iret d_Body_opOf_107 rfl (Nat.le_refl _) (Nat.le_refl _) (by have hr := Option.some.inj hF; subst hr; exact ⟨rfl, rfl⟩)
    · rw [if_neg q8] at hF
      refine ab_bipush (v := 74) d_Body_opOf_100 (by decide) ?_
      refine ab_goto (tgt := 107) d_Body_opOf_102 (by decide) ?_
      exact ab_iret d_Body_opOf_107 rfl (Nat.le_refl _) (Nat.le_refl _) (by have hr := Option.some.inj hF; subst hr; exact ⟨rfl, rfl⟩)
  rw [if_neg t7] at hF
  have ut7 : ¬ (21 : Int) = (p0).toInt := fun z => t7 (Int32.toInt_inj.mp (z.symm.trans (by decide)))
  by_cases t9 : p0 = 22
  · rw [if_pos t9] at hF
    refine ab_tableIn (off := 107) (tgt := 108) d_Body_opOf_1 (by rw [t9]; decide) (by rw [t9]; decide) (by rw [t9]; decide) (by decide) ?_
    refine ab_bipush (v := 56) d_Body_opOf_108 (by decide) ?_
    exact ab_iret d_Body_opOf_110 rfl (Nat.le_refl _) (Nat.le_refl _) (by have hr := Option.some.inj hF; subst hr; exact ⟨rfl, rfl⟩)
  rw [if_neg t9] at hF
  have ut9 : ¬ (22 : Int) = (p0).toInt := fun z => t9 (Int32.toInt_inj.mp (z.symm.trans (by decide)))
  by_cases t10 : p0 = 23
  · rw [if_pos t10] at hF
    refine ab_tableIn (off := 110) (tgt := 111) d_Body_opOf_1 (by rw [t10]; decide) (by rw [t10]; decide) (by rw [t10]; decide) (by decide) ?_
    refine ab_bipush (v := 57) d_Body_opOf_111 (by decide) ?_
    exact ab_iret d_Body_opOf_113 rfl (Nat.le_refl _) (Nat.le_refl _) (by have hr := Option.some.inj hF; subst hr; exact ⟨rfl, rfl⟩)
  rw [if_neg t10] at hF
  have ut10 : ¬ (23 : Int) = (p0).toInt := fun z => t10 (Int32.toInt_inj.mp (z.symm.trans (by decide)))
  by_cases t11 : p0 = 24
  · rw [if_pos t11] at hF
    refine ab_tableIn (off := 116) (tgt := 117) d_Body_opOf_1 (by rw [t11]; decide) (by rw [t11]; decide) (by rw [t11]; decide) (by decide) ?_
    refine ab_bipush (v := 59) d_Body_opOf_117 (by decide) ?_
    exact ab_iret d_Body_opOf_119 rfl (Nat.le_refl _) (Nat.le_refl _) (by have hr := Option.some.inj hF; subst hr; exact ⟨rfl, rfl⟩)
  rw [if_neg t11] at hF
  have ut11 : ¬ (24 : Int) = (p0).toInt := fun z => t11 (Int32.toInt_inj.mp (z.symm.trans (by decide)))
  by_cases t12 : p0 = 26
  · rw [if_pos t12] at hF
    refine ab_tableIn (off := 113) (tgt := 114) d_Body_opOf_1 (by rw [t12]; decide) (by rw [t12]; decide) (by rw [t12]; decide) (by decide) ?_
    refine ab_bipush (v := 58) d_Body_opOf_114 (by decide) ?_
    exact ab_iret d_Body_opOf_116 rfl (Nat.le_refl _) (Nat.le_refl _) (by have hr := Option.some.inj hF; subst hr; exact ⟨rfl, rfl⟩)
  rw [if_neg t12] at hF
  have ut12 : ¬ (26 : Int) = (p0).toInt := fun z => t12 (Int32.toInt_inj.mp (z.symm.trans (by decide)))
  by_cases t13 : p0 = 27
  · rw [if_pos t13] at hF
    refine ab_tableIn (off := 119) (tgt := 120) d_Body_opOf_1 (by rw [t13]; decide) (by rw [t13]; decide) (by rw [t13]; decide) (by decide) ?_
    refine ab_bipush (v := 60) d_Body_opOf_120 (by decide) ?_
    exact ab_iret d_Body_opOf_122 rfl (Nat.le_refl _) (Nat.le_refl _) (by have hr := Option.some.inj hF; subst hr; exact ⟨rfl, rfl⟩)
  rw [if_neg t13] at hF
  have ut13 : ¬ (27 : Int) = (p0).toInt := fun z => t13 (Int32.toInt_inj.mp (z.symm.trans (by decide)))
  by_cases t14 : p0 = 28
  · rw [if_pos t14] at hF
    refine ab_tableIn (off := 122) (tgt := 123) d_Body_opOf_1 (by rw [t14]; decide) (by rw [t14]; decide) (by rw [t14]; decide) (by decide) ?_
    refine ab_bipush (v := 61) d_Body_opOf_123 (by decide) ?_
    exact ab_iret d_Body_opOf_125 rfl (Nat.le_refl _) (Nat.le_refl _) (by have hr := Option.some.inj hF; subst hr; exact ⟨rfl, rfl⟩)
  rw [if_neg t14] at hF
  have ut14 : ¬ (28 : Int) = (p0).toInt := fun z => t14 (Int32.toInt_inj.mp (z.symm.trans (by decide)))
  by_cases t15 : p0 = 25
  · skip
    refine ab_tableIn (off := 125) (tgt := 126) d_Body_opOf_1 (by rw [t15]; decide) (by rw [t15]; decide) (by rw [t15]; decide) (by decide) ?_
    refine ab_bipush (v := 62) d_Body_opOf_126 (by decide) ?_
    exact ab_iret d_Body_opOf_128 rfl (Nat.le_refl _) (Nat.le_refl _) (by have hr := Option.some.inj hF; subst hr; exact ⟨rfl, rfl⟩)
  have ut15 : ¬ (25 : Int) = (p0).toInt := fun z => t15 (Int32.toInt_inj.mp (z.symm.trans (by decide)))
  refine ab_tableOut (tgt := 126) d_Body_opOf_1 (by omega) (by decide) ?_
  refine ab_bipush (v := 62) d_Body_opOf_126 (by decide) ?_
  exact ab_iret d_Body_opOf_128 rfl (Nat.le_refl _) (Nat.le_refl _) (by have hr := Option.some.inj hF; subst hr; exact ⟨rfl, rfl⟩)
def y_Body_joined : ab_Y := (⟨"WorldEngine$Body", "joined", "(IIII)I"⟩, prog_2_method_36_code, 8, (some FieldType.int), [])
theorem d_Body_joined_0 : decode y_Body_joined.2.1 0 = .ok (.iload_n 3, 1) := by decide +kernel
theorem d_Body_joined_1 : decode y_Body_joined.2.1 1 = .ok (.ifCond .eq 14, 3) := by decide +kernel
theorem d_Body_joined_4 : decode y_Body_joined.2.1 4 = .ok (.iload_n 3, 1) := by decide +kernel
theorem d_Body_joined_5 : decode y_Body_joined.2.1 5 = .ok (.iconst 2, 1) := by decide +kernel
theorem d_Body_joined_6 : decode y_Body_joined.2.1 6 = .ok (.if_icmp .ne 13, 3) := by decide +kernel
theorem d_Body_joined_9 : decode y_Body_joined.2.1 9 = .ok (.iload_n 1, 1) := by decide +kernel
theorem d_Body_joined_10 : decode y_Body_joined.2.1 10 = .ok (.bipush 22, 2) := by decide +kernel
theorem d_Body_joined_12 : decode y_Body_joined.2.1 12 = .ok (.if_icmp .eq 7, 3) := by decide +kernel
theorem d_Body_joined_15 : decode y_Body_joined.2.1 15 = .ok (.iconst 1, 1) := by decide +kernel
theorem d_Body_joined_16 : decode y_Body_joined.2.1 16 = .ok (.goto 4, 3) := by decide +kernel
theorem d_Body_joined_19 : decode y_Body_joined.2.1 19 = .ok (.iconst 0, 1) := by decide +kernel
theorem d_Body_joined_20 : decode y_Body_joined.2.1 20 = .ok (.istore 5, 2) := by decide +kernel
theorem d_Body_joined_22 : decode y_Body_joined.2.1 22 = .ok (.iload_n 3, 1) := by decide +kernel
theorem d_Body_joined_23 : decode y_Body_joined.2.1 23 = .ok (.iload 4, 2) := by decide +kernel
theorem d_Body_joined_25 : decode y_Body_joined.2.1 25 = .ok (.if_icmp .ne 7, 3) := by decide +kernel
theorem d_Body_joined_28 : decode y_Body_joined.2.1 28 = .ok (.iconst 1, 1) := by decide +kernel
theorem d_Body_joined_29 : decode y_Body_joined.2.1 29 = .ok (.goto 4, 3) := by decide +kernel
theorem d_Body_joined_32 : decode y_Body_joined.2.1 32 = .ok (.iconst 0, 1) := by decide +kernel
theorem d_Body_joined_33 : decode y_Body_joined.2.1 33 = .ok (.istore 6, 2) := by decide +kernel
theorem d_Body_joined_35 : decode y_Body_joined.2.1 35 = .ok (.iload_n 3, 1) := by decide +kernel
theorem d_Body_joined_36 : decode y_Body_joined.2.1 36 = .ok (.istore 7, 2) := by decide +kernel
theorem d_Body_joined_38 : decode y_Body_joined.2.1 38 = .ok (.iload_n 1, 1) := by decide +kernel
theorem d_Body_joined_39 : decode y_Body_joined.2.1 39 = .ok (.bipush 31, 2) := by decide +kernel
theorem d_Body_joined_41 : decode y_Body_joined.2.1 41 = .ok (.if_icmp .eq 9, 3) := by decide +kernel
theorem d_Body_joined_44 : decode y_Body_joined.2.1 44 = .ok (.iload_n 1, 1) := by decide +kernel
theorem d_Body_joined_45 : decode y_Body_joined.2.1 45 = .ok (.bipush 30, 2) := by decide +kernel
theorem d_Body_joined_47 : decode y_Body_joined.2.1 47 = .ok (.if_icmp .ne 23, 3) := by decide +kernel
theorem d_Body_joined_50 : decode y_Body_joined.2.1 50 = .ok (.iload 6, 2) := by decide +kernel
theorem d_Body_joined_52 : decode y_Body_joined.2.1 52 = .ok (.ifCond .eq 12, 3) := by decide +kernel
theorem d_Body_joined_55 : decode y_Body_joined.2.1 55 = .ok (.iload_n 3, 1) := by decide +kernel
theorem d_Body_joined_56 : decode y_Body_joined.2.1 56 = .ok (.iconst 3, 1) := by decide +kernel
theorem d_Body_joined_57 : decode y_Body_joined.2.1 57 = .ok (.if_icmp .ne 7, 3) := by decide +kernel
theorem d_Body_joined_60 : decode y_Body_joined.2.1 60 = .ok (.iconst 1, 1) := by decide +kernel
theorem d_Body_joined_61 : decode y_Body_joined.2.1 61 = .ok (.goto 4, 3) := by decide +kernel
theorem d_Body_joined_64 : decode y_Body_joined.2.1 64 = .ok (.iconst 0, 1) := by decide +kernel
theorem d_Body_joined_65 : decode y_Body_joined.2.1 65 = .ok (.istore 6, 2) := by decide +kernel
theorem d_Body_joined_67 : decode y_Body_joined.2.1 67 = .ok (.goto 63, 3) := by decide +kernel
theorem d_Body_joined_70 : decode y_Body_joined.2.1 70 = .ok (.iload_n 1, 1) := by decide +kernel
theorem d_Body_joined_71 : decode y_Body_joined.2.1 71 = .ok (.invokestatic 237, 3) := by decide +kernel
theorem d_Body_joined_74 : decode y_Body_joined.2.1 74 = .ok (.iconst 2, 1) := by decide +kernel
theorem d_Body_joined_75 : decode y_Body_joined.2.1 75 = .ok (.if_icmp .ne 38, 3) := by decide +kernel
theorem d_Body_joined_78 : decode y_Body_joined.2.1 78 = .ok (.iload 6, 2) := by decide +kernel
theorem d_Body_joined_80 : decode y_Body_joined.2.1 80 = .ok (.ifCond .eq 24, 3) := by decide +kernel
theorem d_Body_joined_83 : decode y_Body_joined.2.1 83 = .ok (.iload 5, 2) := by decide +kernel
theorem d_Body_joined_85 : decode y_Body_joined.2.1 85 = .ok (.ifCond .ne 15, 3) := by decide +kernel
theorem d_Body_joined_88 : decode y_Body_joined.2.1 88 = .ok (.iload_n 1, 1) := by decide +kernel
theorem d_Body_joined_89 : decode y_Body_joined.2.1 89 = .ok (.bipush 28, 2) := by decide +kernel
theorem d_Body_joined_91 : decode y_Body_joined.2.1 91 = .ok (.if_icmp .eq 9, 3) := by decide +kernel
theorem d_Body_joined_94 : decode y_Body_joined.2.1 94 = .ok (.iload_n 1, 1) := by decide +kernel
theorem d_Body_joined_95 : decode y_Body_joined.2.1 95 = .ok (.bipush 29, 2) := by decide +kernel
theorem d_Body_joined_97 : decode y_Body_joined.2.1 97 = .ok (.if_icmp .ne 7, 3) := by decide +kernel
theorem d_Body_joined_100 : decode y_Body_joined.2.1 100 = .ok (.iconst 1, 1) := by decide +kernel
theorem d_Body_joined_101 : decode y_Body_joined.2.1 101 = .ok (.goto 4, 3) := by decide +kernel
theorem d_Body_joined_104 : decode y_Body_joined.2.1 104 = .ok (.iconst 0, 1) := by decide +kernel
theorem d_Body_joined_105 : decode y_Body_joined.2.1 105 = .ok (.istore 6, 2) := by decide +kernel
theorem d_Body_joined_107 : decode y_Body_joined.2.1 107 = .ok (.iconst 3, 1) := by decide +kernel
theorem d_Body_joined_108 : decode y_Body_joined.2.1 108 = .ok (.istore 7, 2) := by decide +kernel
theorem d_Body_joined_110 : decode y_Body_joined.2.1 110 = .ok (.goto 20, 3) := by decide +kernel
theorem d_Body_joined_113 : decode y_Body_joined.2.1 113 = .ok (.iload 6, 2) := by decide +kernel
theorem d_Body_joined_115 : decode y_Body_joined.2.1 115 = .ok (.ifCond .eq 12, 3) := by decide +kernel
theorem d_Body_joined_118 : decode y_Body_joined.2.1 118 = .ok (.iload 5, 2) := by decide +kernel
theorem d_Body_joined_120 : decode y_Body_joined.2.1 120 = .ok (.ifCond .eq 7, 3) := by decide +kernel
theorem d_Body_joined_123 : decode y_Body_joined.2.1 123 = .ok (.iconst 1, 1) := by decide +kernel
theorem d_Body_joined_124 : decode y_Body_joined.2.1 124 = .ok (.goto 4, 3) := by decide +kernel
theorem d_Body_joined_127 : decode y_Body_joined.2.1 127 = .ok (.iconst 0, 1) := by decide +kernel
theorem d_Body_joined_128 : decode y_Body_joined.2.1 128 = .ok (.istore 6, 2) := by decide +kernel
theorem d_Body_joined_130 : decode y_Body_joined.2.1 130 = .ok (.iload 6, 2) := by decide +kernel
theorem d_Body_joined_132 : decode y_Body_joined.2.1 132 = .ok (.ifCond .ne 12, 3) := by decide +kernel
theorem d_Body_joined_135 : decode y_Body_joined.2.1 135 = .ok (.aload_n 0, 1) := by decide +kernel
theorem d_Body_joined_136 : decode y_Body_joined.2.1 136 = .ok (.getfield 7, 3) := by decide +kernel
theorem d_Body_joined_139 : decode y_Body_joined.2.1 139 = .ok (.iconst 5, 1) := by decide +kernel
theorem d_Body_joined_140 : decode y_Body_joined.2.1 140 = .ok (.iload_n 2, 1) := by decide +kernel
theorem d_Body_joined_141 : decode y_Body_joined.2.1 141 = .ok (.invokevirtual 99, 3) := by decide +kernel
theorem d_Body_joined_144 : decode y_Body_joined.2.1 144 = .ok (.iload_n 1, 1) := by decide +kernel
theorem d_Body_joined_145 : decode y_Body_joined.2.1 145 = .ok (.invokestatic 237, 3) := by decide +kernel
theorem d_Body_joined_148 : decode y_Body_joined.2.1 148 = .ok (.iconst 1, 1) := by decide +kernel
theorem d_Body_joined_149 : decode y_Body_joined.2.1 149 = .ok (.if_icmp .le 25, 3) := by decide +kernel
theorem d_Body_joined_152 : decode y_Body_joined.2.1 152 = .ok (.aload_n 0, 1) := by decide +kernel
theorem d_Body_joined_153 : decode y_Body_joined.2.1 153 = .ok (.getfield 17, 3) := by decide +kernel
theorem d_Body_joined_156 : decode y_Body_joined.2.1 156 = .ok (.iload_n 1, 1) := by decide +kernel
theorem d_Body_joined_157 : decode y_Body_joined.2.1 157 = .ok (.iload_n 3, 1) := by decide +kernel
theorem d_Body_joined_158 : decode y_Body_joined.2.1 158 = .ok (.iconst 2, 1) := by decide +kernel
theorem d_Body_joined_159 : decode y_Body_joined.2.1 159 = .ok (.if_icmp .ne 7, 3) := by decide +kernel
theorem d_Body_joined_162 : decode y_Body_joined.2.1 162 = .ok (.iconst 1, 1) := by decide +kernel
theorem d_Body_joined_163 : decode y_Body_joined.2.1 163 = .ok (.goto 4, 3) := by decide +kernel
theorem d_Body_joined_166 : decode y_Body_joined.2.1 166 = .ok (.iconst 0, 1) := by decide +kernel
theorem d_Body_joined_167 : decode y_Body_joined.2.1 167 = .ok (.invokestatic 244, 3) := by decide +kernel
theorem d_Body_joined_170 : decode y_Body_joined.2.1 170 = .ok (.invokevirtual 50, 3) := by decide +kernel
theorem d_Body_joined_173 : decode y_Body_joined.2.1 173 = .ok (.pop, 1) := by decide +kernel
theorem d_Body_joined_174 : decode y_Body_joined.2.1 174 = .ok (.iload 7, 2) := by decide +kernel
theorem d_Body_joined_176 : decode y_Body_joined.2.1 176 = .ok (.ireturn, 1) := by decide +kernel
theorem s_Body_joined : ab_Stat y_Body_joined 4 := ⟨(k5 228 rfl rfl), (k1 8 rfl rfl), ⟨by decide, by decide⟩, by decide +kernel⟩
theorem i_Body_joined : Cond.instanceMethod y_Body_joined.1 ∈ ab_T := (k5 227 rfl rfl)
theorem v_Body_joined : Cond.selects "WorldEngine$Body" y_Body_joined.1 y_Body_joined.1 ∈ ab_T := ab_s (List.mem_of_getElem? (i := 44) rfl) rfl
def B_Body_joined_167 (N : Nat) (p0 : Nat) (p1 : Int32) (p2 : Int32) (p3 : Int32) (p4 : Int32) (l7 : Int32) (w0 : Nat) (w1 : Int32) (w2 : Int32) (H : Hp) : Option ((Ot Int32) × Hp) :=
    bC (F_Body_opOf N w1 w2 H) fun v15 H16 =>
    ck (H16.sh[w0]? = some (4, 0)) <|
    bC (F_Program_add N w0 v15 H16) fun v19 H20 =>
    some (.inl l7, H20)
set_option maxRecDepth 20000 in
set_option maxHeartbeats 2000000 in
theorem mB_Body_joined_167 {N : Nat} {p0 : Nat} {p1 : Int32} {p2 : Int32} {p3 : Int32} {p4 : Int32} {l7 : Int32} {w0 : Nat} {w1 : Int32} {w2 : Int32} {H : Hp} {r : (Ot Int32) × Hp} (hF : B_Body_joined_167 N p0 p1 p2 p3 p4 l7 w0 w1 w2 H = some r) : Mo H r.2 := by
  unfold B_Body_joined_167 at hF
  have hm := Mo.rf H
  obtain ⟨v22, H23, z21, hG⟩ := bC_s hF; clear hF
  replace hm : Mo H H23 := hm.tr ((m_Body_opOf z21)).mo
  obtain ⟨q24, hF⟩ := ck_s hG; clear hG
  obtain ⟨v26, H27, z25, hG⟩ := bC_s hF; clear hF
  replace hm : Mo H H27 := hm.tr ((m_Program_add z25)).mo
  have hr := Option.some.inj hG; subst hr
  exact hm
set_option maxRecDepth 20000 in
set_option maxHeartbeats 2000000 in
theorem kB_Body_joined_167 {N : Nat} {p0 : Nat} {p1 : Int32} {p2 : Int32} {p3 : Int32} {p4 : Int32} {c0 s0 C Sl : Nat} {l7 : Int32} {w0 : Nat} {w1 : Int32} {w2 : Int32} {H : Hp} {r : (Ot Int32) × Hp} (hF : B_Body_joined_167 N p0 p1 p2 p3 p4 l7 w0 w1 w2 H = some r) (hc0 : c0 ≤ H.sh.length) (hs0 : s0 ≤ H.sl) (hcc : H.sh.length ≤ c0 + C) (hss : H.sl ≤ s0 + Sl) (hC : r.2.sh.length ≤ c0 + C) (hS : r.2.sl ≤ s0 + Sl) : ab_V y_Body_joined { frames := 7, cells := C, slots := Sl, locals := 122 } (po (oI r.1) r.2) C Sl (H.sh.length - c0) (H.sl - s0) 167 [some (.ref p0), some (.int p1), some (.int p2), some (.int p3), some (.int p4), none, none, some (.int l7)] [.int w2, .int w1, .ref w0] (hpw H) := by
  unfold B_Body_joined_167 at hF
  obtain ⟨v15, H16, z14, hG⟩ := bC_s hF; clear hF
  refine hp_callS_a (v := .int v15) (H1 := H16) (As := [.int w1, .int w2]) (rest := [.ref w0]) d_Body_joined_167 (k_Body_opOf z14) (ab_mkC s_Body_opOf (Nat.le_of_ble_eq_true rfl) (Nat.le_of_ble_eq_true rfl) (show (H.sh.length - c0) + 0 ≤ C from by omega) (show (H.sl - s0) + 0 ≤ Sl from by omega)) (k5 229 rfl rfl) t_Body_opOf rfl (Nat.le_of_ble_eq_true rfl) ?_
  have s_4 : Sa H H16 := (m_Body_opOf z14)
  refine ab_widen (cells' := H.sh.length - c0) (slots' := H.sl - s0) (by show (H.sh.length - c0) + 0 ≤ _; omega) (by show (H.sl - s0) + 0 ≤ _; omega) ?_
  obtain ⟨q17, hF⟩ := ck_s hG; clear hG
  rw [(s_4).1] at q17
  obtain ⟨v19, H20, z18, hG⟩ := bC_s hF; clear hF
  refine ab_widen (cells' := H16.sh.length - c0) (slots' := H16.sl - s0) (by rw [(s_4).1]; exact Nat.le_refl _) (by rw [(s_4).2]; exact Nat.le_refl _) ?_
  have b_5e := congrArg List.length (s_4).1
  have b_5f := (s_4).2
  refine hp_callV_a (v := .int v19) (H1 := H20) (As := [.int v15]) (rest := []) d_Body_joined_170 (k_Program_add z18) (ab_mkC s_Program_add (Nat.le_of_ble_eq_true rfl) (Nat.le_of_ble_eq_true rfl) (show (H16.sh.length - c0) + 0 ≤ C from by omega) (show (H16.sl - s0) + 0 ≤ Sl from by omega)) (k5 117 rfl rfl) i_Program_add v_Program_add (by rw [(s_4).1]; exact q17) (by decide) rfl rfl (Nat.le_of_ble_eq_true rfl) ?_
  have s_6 : Sa H H20 := (s_4).tr (m_Program_add z18)
  refine ab_widen (cells' := H.sh.length - c0) (slots' := H.sl - s0) (by show (H16.sh.length - c0) + 0 ≤ _; omega) (by show (H16.sl - s0) + 0 ≤ _; omega) ?_
  clear b_5e b_5f
  refine ab_pop d_Body_joined_173 rfl ?_
  refine ab_iload d_Body_joined_174 rfl ?_
  exact ab_iret d_Body_joined_176 rfl (by show _ ≤ C; omega) (by show _ ≤ Sl; omega) (by have hr := Option.some.inj hG; subst hr; exact ⟨rfl, rfl⟩)
def B_Body_joined_144 (N : Nat) (p0 : Nat) (p1 : Int32) (p2 : Int32) (p3 : Int32) (p4 : Int32) (l7 : Int32) (H : Hp) : Option ((Ot Int32) × Hp) :=
    bC (F_Body_levelOf N p1 H) fun v7 H8 =>
    if v7 ≤ (1 : Int32) then
    some (.inl l7, H8)
    else
    ck (H8.sh[p0]? = some (6, 0)) <|
    rf (H8.P p0 1) fun a11 =>
    if p3 = (2 : Int32) then
    B_Body_joined_167 N p0 p1 p2 p3 p4 l7 a11 p1 1 H8
    else
    B_Body_joined_167 N p0 p1 p2 p3 p4 l7 a11 p1 0 H8
set_option maxRecDepth 20000 in
set_option maxHeartbeats 2000000 in
theorem mB_Body_joined_144 {N : Nat} {p0 : Nat} {p1 : Int32} {p2 : Int32} {p3 : Int32} {p4 : Int32} {l7 : Int32} {H : Hp} {r : (Ot Int32) × Hp} (hF : B_Body_joined_144 N p0 p1 p2 p3 p4 l7 H = some r) : Mo H r.2 := by
  unfold B_Body_joined_144 at hF
  have hm := Mo.rf H
  obtain ⟨v29, H30, z28, hG⟩ := bC_s hF; clear hF
  replace hm : Mo H H30 := hm.tr ((m_Body_levelOf z28)).mo
  rcases ite_s hG with ⟨q_7, hF⟩ | ⟨q_7, hF⟩
  · clear hG
    have hr := Option.some.inj hF; subst hr
    exact hm
  · clear hG
    obtain ⟨q32, hG⟩ := ck_s hF; clear hF
    obtain ⟨a33, e34, hF⟩ := rf_s hG; clear hG
    rcases ite_s hF with ⟨q_8, hG⟩ | ⟨q_8, hG⟩
    · clear hF
      exact hm.tr (mB_Body_joined_167 hG)
    · clear hF
      exact hm.tr (mB_Body_joined_167 hG)
set_option maxRecDepth 20000 in
set_option maxHeartbeats 2000000 in
theorem kB_Body_joined_144 {N : Nat} {p0 : Nat} {p1 : Int32} {p2 : Int32} {p3 : Int32} {p4 : Int32} {c0 s0 C Sl : Nat} {l7 : Int32} {H : Hp} {r : (Ot Int32) × Hp} (hF : B_Body_joined_144 N p0 p1 p2 p3 p4 l7 H = some r) (hc0 : c0 ≤ H.sh.length) (hs0 : s0 ≤ H.sl) (hcc : H.sh.length ≤ c0 + C) (hss : H.sl ≤ s0 + Sl) (hC : r.2.sh.length ≤ c0 + C) (hS : r.2.sl ≤ s0 + Sl) : ab_V y_Body_joined { frames := 7, cells := C, slots := Sl, locals := 122 } (po (oI r.1) r.2) C Sl (H.sh.length - c0) (H.sl - s0) 144 [some (.ref p0), some (.int p1), some (.int p2), some (.int p3), some (.int p4), none, none, some (.int l7)] [] (hpw H) := by
  unfold B_Body_joined_144 at hF
  refine ab_iload_n d_Body_joined_144 rfl rfl ?_
  obtain ⟨v7, H8, z6, hG⟩ := bC_s hF; clear hF
  refine hp_callS_a (v := .int v7) (H1 := H8) (As := [.int p1]) (rest := []) d_Body_joined_145 (k_Body_levelOf z6) (ab_mkC s_Body_levelOf (Nat.le_of_ble_eq_true rfl) (Nat.le_of_ble_eq_true rfl) (show (H.sh.length - c0) + 0 ≤ C from by omega) (show (H.sl - s0) + 0 ≤ Sl from by omega)) (k5 218 rfl rfl) t_Body_levelOf rfl (Nat.le_of_ble_eq_true rfl) ?_
  have s_2 : Sa H H8 := (m_Body_levelOf z6)
  refine ab_widen (cells' := H.sh.length - c0) (slots' := H.sl - s0) (by show (H.sh.length - c0) + 0 ≤ _; omega) (by show (H.sl - s0) + 0 ≤ _; omega) ?_
  refine ab_iconst (v := 1) d_Body_joined_148 (by decide) ?_
  refine ab_icmp_le (tgt := 174) d_Body_joined_149 (by decide) (fun q9 => ?_) (fun q9 => ?_)
  · rw [if_pos q9] at hG
    refine ab_iload d_Body_joined_174 rfl ?_
    exact ab_iret d_Body_joined_176 rfl (by show _ ≤ C; omega) (by show _ ≤ Sl; omega) (by have hr := Option.some.inj hG; subst hr; exact ⟨rfl, rfl⟩)
  · rw [if_neg q9] at hG
    refine ab_aload_n d_Body_joined_152 rfl rfl rfl ?_
    obtain ⟨q10, hF⟩ := ck_s hG; clear hG
    rw [(s_2).1] at q10
    obtain ⟨a11, e12, hG⟩ := rf_s hF; clear hF
    refine hp_getR (f := 1) d_Body_joined_153 (by rw [(s_2).1]; exact q10) (by decide) rfl (by decide) (k1 158 rfl rfl) rfl e12 ?_
    refine ab_iload_n d_Body_joined_156 rfl rfl ?_
    refine ab_iload_n d_Body_joined_157 rfl rfl ?_
    refine ab_iconst (v := 2) d_Body_joined_158 (by decide) ?_
    refine ab_icmp_ne (tgt := 166) d_Body_joined_159 (by decide) (fun q13 => ?_) (fun q13 => ?_)
    · rw [if_neg q13] at hG
      refine ab_iconst (v := 0) d_Body_joined_166 (by decide) ?_
      refine ab_widen (cells' := H8.sh.length - c0) (slots' := H8.sl - s0) (by rw [(s_2).1]; exact Nat.le_refl _) (by rw [(s_2).2]; exact Nat.le_refl _) ?_
      exact kB_Body_joined_167 hG (by rw [(s_2).1]; exact hc0) (by rw [(s_2).2]; exact hs0) (by rw [(s_2).1]; exact hcc) (by rw [(s_2).2]; exact hss) hC hS
    · rw [if_pos q13] at hG
      refine ab_iconst (v := 1) d_Body_joined_162 (by decide) ?_
      refine ab_goto (tgt := 167) d_Body_joined_163 (by decide) ?_
      refine ab_widen (cells' := H8.sh.length - c0) (slots' := H8.sl - s0) (by rw [(s_2).1]; exact Nat.le_refl _) (by rw [(s_2).2]; exact Nat.le_refl _) ?_
      exact kB_Body_joined_167 hG (by rw [(s_2).1]; exact hc0) (by rw [(s_2).2]; exact hs0) (by rw [(s_2).1]; exact hcc) (by rw [(s_2).2]; exact hss) hC hS
def B_Body_joined_130 (N : Nat) (p0 : Nat) (p1 : Int32) (p2 : Int32) (p3 : Int32) (p4 : Int32) (l6 : Int32) (l7 : Int32) (H : Hp) : Option ((Ot Int32) × Hp) :=
    if l6 = (0 : Int32) then
    ck (H.sh[p0]? = some (6, 0)) <|
    rf (H.P p0 0) fun a37 =>
    ck (H.sh[a37]? = some (1, 0)) <|
    bT (F_Lexer_refuse N a37 (5 : Int32) p2 H) fun v41 H42 =>
    B_Body_joined_144 N p0 p1 p2 p3 p4 l7 H42
    else
    B_Body_joined_144 N p0 p1 p2 p3 p4 l7 H
set_option maxRecDepth 20000 in
set_option maxHeartbeats 2000000 in
theorem mB_Body_joined_130 {N : Nat} {p0 : Nat} {p1 : Int32} {p2 : Int32} {p3 : Int32} {p4 : Int32} {l6 : Int32} {l7 : Int32} {H : Hp} {r : (Ot Int32) × Hp} (hF : B_Body_joined_130 N p0 p1 p2 p3 p4 l6 l7 H = some r) : Mo H r.2 := by
  unfold B_Body_joined_130 at hF
  have hm := Mo.rf H
  rcases ite_s hF with ⟨q_13, hG⟩ | ⟨q_13, hG⟩
  · clear hF
    obtain ⟨q45, hF⟩ := ck_s hG; clear hG
    obtain ⟨a46, e47, hG⟩ := rf_s hF; clear hF
    obtain ⟨q48, hF⟩ := ck_s hG; clear hG
    refine bT_c hF (fun x52 H51 z49 er => ?_) (fun v50 H51 z49 hG => ?_)
    · subst er; exact hm.tr (m_Lexer_refuse z49)
    clear hF
    replace hm : Mo H H51 := hm.tr (m_Lexer_refuse z49)
    exact hm.tr (mB_Body_joined_144 hG)
  · clear hF
    exact hm.tr (mB_Body_joined_144 hG)
set_option maxRecDepth 20000 in
set_option maxHeartbeats 2000000 in
theorem kB_Body_joined_130 {N : Nat} {p0 : Nat} {p1 : Int32} {p2 : Int32} {p3 : Int32} {p4 : Int32} {c0 s0 C Sl : Nat} {l6 : Int32} {l7 : Int32} {H : Hp} {r : (Ot Int32) × Hp} (hF : B_Body_joined_130 N p0 p1 p2 p3 p4 l6 l7 H = some r) (hc0 : c0 ≤ H.sh.length) (hs0 : s0 ≤ H.sl) (hcc : H.sh.length ≤ c0 + C) (hss : H.sl ≤ s0 + Sl) (hC : r.2.sh.length ≤ c0 + C) (hS : r.2.sl ≤ s0 + Sl) : ab_V y_Body_joined { frames := 7, cells := C, slots := Sl, locals := 122 } (po (oI r.1) r.2) C Sl (H.sh.length - c0) (H.sl - s0) 130 [some (.ref p0), some (.int p1), some (.int p2), some (.int p3), some (.int p4), none, some (.int l6), some (.int l7)] [] (hpw H) := by
  unfold B_Body_joined_130 at hF
  refine ab_iload d_Body_joined_130 rfl ?_
  refine ab_if_ne (tgt := 144) d_Body_joined_132 (by decide) (fun q5 => ?_) (fun q5 => ?_)
  · rw [if_neg q5] at hF
    refine ab_le (lv' := [some (.ref p0), some (.int p1), some (.int p2), some (.int p3), some (.int p4), none, none, some (.int l7)]) ⟨rfl, ⟨rfl, ⟨rfl, ⟨rfl, ⟨rfl, ⟨rfl, trivial⟩⟩⟩⟩⟩⟩ ?_
    exact kB_Body_joined_144 hF hc0 hs0 hcc hss hC hS
  · rw [if_pos q5] at hF
    refine ab_aload_n d_Body_joined_135 rfl rfl rfl ?_
    obtain ⟨q36, hG⟩ := ck_s hF; clear hF
    obtain ⟨a37, e38, hF⟩ := rf_s hG; clear hG
    refine hp_getR (f := 0) d_Body_joined_136 q36 (by decide) rfl (by decide) (k1 157 rfl rfl) rfl e38 ?_
    refine ab_iconst (v := 5) d_Body_joined_139 (by decide) ?_
    refine ab_iload_n d_Body_joined_140 rfl rfl ?_
    obtain ⟨q39, hG⟩ := ck_s hF; clear hF
    refine bT_c hG (fun x43 H42 z40 er => ?_) (fun v41 H42 z40 hF => ?_)
    · subst er
      have mz : Mo H H42 := (m_Lexer_refuse z40)
      have ml := mz.len
      have m2 := mz.2
      have hC9 : H42.sh.length ≤ c0 + C := hC
      have hS9 : H42.sl ≤ s0 + Sl := hS
      refine hp_callV_t (x := x43) (H1 := H42) (As := [.int 5, .int p2]) (rest := []) d_Body_joined_141 (k_Lexer_refuse z40 (C := H42.sh.length - H.sh.length) (Sl := H42.sl - H.sl) (by show H42.sh.length ≤ _; omega) (by show H42.sl ≤ _; omega)) (ab_mkC s_Lexer_refuse (Nat.le_of_ble_eq_true rfl) (Nat.le_of_ble_eq_true rfl) (show (H.sh.length - c0) + (H42.sh.length - H.sh.length) ≤ C from by omega) (show (H.sl - s0) + (H42.sl - H.sl) ≤ Sl from by omega)) (k5 135 rfl rfl) i_Lexer_refuse v_Lexer_refuse q39 (by decide) rfl rfl (Nat.le_of_ble_eq_true rfl) ?_
      exact ab_U_out rfl (by show _ + (H42.sh.length - H.sh.length) ≤ C; omega) (by show _ + (H42.sl - H.sl) ≤ Sl; omega) ⟨rfl, rfl⟩
    clear hG
    have mz_9 : Mo H H42 := (m_Lexer_refuse z40)
    have b_10l := (mz_9).len
    have b_10s := (mz_9).2
    have b_10c : c0 ≤ H42.sh.length := by omega
    have b_10d : s0 ≤ H42.sl := by omega
    have q_11 := (mz_9).get q36
    have q_12 := (mz_9).get q39
    have fH42 : Mo H42 r.2 := by
      have hm := Mo.rf H42
      exact hm.tr (mB_Body_joined_144 hF)
    have b_10m := (fH42).len
    have b_10n := (fH42).2
    have b_10p : H42.sh.length ≤ c0 + C := by omega
    have b_10q : H42.sl ≤ s0 + Sl := by omega
    refine hp_callV_v (H1 := H42) (As := [.int 5, .int p2]) (rest := []) d_Body_joined_141 (k_Lexer_refuse z40 (C := H42.sh.length - H.sh.length) (Sl := H42.sl - H.sl) (by show H42.sh.length ≤ _; omega) (by show H42.sl ≤ _; omega)) (ab_mkC s_Lexer_refuse (Nat.le_of_ble_eq_true rfl) (Nat.le_of_ble_eq_true rfl) (show (H.sh.length - c0) + (H42.sh.length - H.sh.length) ≤ C from by omega) (show (H.sl - s0) + (H42.sl - H.sl) ≤ Sl from by omega)) (k5 135 rfl rfl) i_Lexer_refuse v_Lexer_refuse q39 (by decide) rfl rfl (Nat.le_of_ble_eq_true rfl) ?_
    refine ab_widen (cells' := H42.sh.length - c0) (slots' := H42.sl - s0) (by show _ + (H42.sh.length - H.sh.length) ≤ _; omega) (by show _ + (H42.sl - H.sl) ≤ _; omega) ?_
    clear b_10l b_10s b_10m b_10n
    refine ab_le (lv' := [some (.ref p0), some (.int p1), some (.int p2), some (.int p3), some (.int p4), none, none, some (.int l7)]) ⟨rfl, ⟨rfl, ⟨rfl, ⟨rfl, ⟨rfl, ⟨rfl, trivial⟩⟩⟩⟩⟩⟩ ?_
    exact kB_Body_joined_144 hF b_10c b_10d b_10p b_10q hC hS
def B_Body_joined_65 (N : Nat) (p0 : Nat) (p1 : Int32) (p2 : Int32) (p3 : Int32) (p4 : Int32) (l7 : Int32) (w0 : Int32) (H : Hp) : Option ((Ot Int32) × Hp) :=
    B_Body_joined_130 N p0 p1 p2 p3 p4 w0 l7 H
set_option maxRecDepth 20000 in
set_option maxHeartbeats 2000000 in
theorem mB_Body_joined_65 {N : Nat} {p0 : Nat} {p1 : Int32} {p2 : Int32} {p3 : Int32} {p4 : Int32} {l7 : Int32} {w0 : Int32} {H : Hp} {r : (Ot Int32) × Hp} (hF : B_Body_joined_65 N p0 p1 p2 p3 p4 l7 w0 H = some r) : Mo H r.2 := by
  unfold B_Body_joined_65 at hF
  have hm := Mo.rf H
  exact hm.tr (mB_Body_joined_130 hF)
set_option maxRecDepth 20000 in
set_option maxHeartbeats 2000000 in
theorem kB_Body_joined_65 {N : Nat} {p0 : Nat} {p1 : Int32} {p2 : Int32} {p3 : Int32} {p4 : Int32} {c0 s0 C Sl : Nat} {l7 : Int32} {w0 : Int32} {H : Hp} {r : (Ot Int32) × Hp} (hF : B_Body_joined_65 N p0 p1 p2 p3 p4 l7 w0 H = some r) (hc0 : c0 ≤ H.sh.length) (hs0 : s0 ≤ H.sl) (hcc : H.sh.length ≤ c0 + C) (hss : H.sl ≤ s0 + Sl) (hC : r.2.sh.length ≤ c0 + C) (hS : r.2.sl ≤ s0 + Sl) : ab_V y_Body_joined { frames := 7, cells := C, slots := Sl, locals := 122 } (po (oI r.1) r.2) C Sl (H.sh.length - c0) (H.sl - s0) 65 [some (.ref p0), some (.int p1), some (.int p2), some (.int p3), some (.int p4), none, none, some (.int l7)] [.int w0] (hpw H) := by
  unfold B_Body_joined_65 at hF
  refine ab_istore (lv' := [some (.ref p0), some (.int p1), some (.int p2), some (.int p3), some (.int p4), none, some (.int w0), some (.int l7)]) d_Body_joined_65 (by decide) rfl ?_
  refine ab_goto (tgt := 130) d_Body_joined_67 (by decide) ?_
  exact kB_Body_joined_130 hF hc0 hs0 hcc hss hC hS
def B_Body_joined_64 (N : Nat) (p0 : Nat) (p1 : Int32) (p2 : Int32) (p3 : Int32) (p4 : Int32) (l7 : Int32) (H : Hp) : Option ((Ot Int32) × Hp) :=
    B_Body_joined_65 N p0 p1 p2 p3 p4 l7 0 H
set_option maxRecDepth 20000 in
set_option maxHeartbeats 2000000 in
theorem mB_Body_joined_64 {N : Nat} {p0 : Nat} {p1 : Int32} {p2 : Int32} {p3 : Int32} {p4 : Int32} {l7 : Int32} {H : Hp} {r : (Ot Int32) × Hp} (hF : B_Body_joined_64 N p0 p1 p2 p3 p4 l7 H = some r) : Mo H r.2 := by
  unfold B_Body_joined_64 at hF
  have hm := Mo.rf H
  exact hm.tr (mB_Body_joined_65 hF)
set_option maxRecDepth 20000 in
set_option maxHeartbeats 2000000 in
theorem kB_Body_joined_64 {N : Nat} {p0 : Nat} {p1 : Int32} {p2 : Int32} {p3 : Int32} {p4 : Int32} {c0 s0 C Sl : Nat} {l7 : Int32} {H : Hp} {r : (Ot Int32) × Hp} (hF : B_Body_joined_64 N p0 p1 p2 p3 p4 l7 H = some r) (hc0 : c0 ≤ H.sh.length) (hs0 : s0 ≤ H.sl) (hcc : H.sh.length ≤ c0 + C) (hss : H.sl ≤ s0 + Sl) (hC : r.2.sh.length ≤ c0 + C) (hS : r.2.sl ≤ s0 + Sl) : ab_V y_Body_joined { frames := 7, cells := C, slots := Sl, locals := 122 } (po (oI r.1) r.2) C Sl (H.sh.length - c0) (H.sl - s0) 64 [some (.ref p0), some (.int p1), some (.int p2), some (.int p3), some (.int p4), none, none, some (.int l7)] [] (hpw H) := by
  unfold B_Body_joined_64 at hF
  refine ab_iconst (v := 0) d_Body_joined_64 (by decide) ?_
  exact kB_Body_joined_65 hF hc0 hs0 hcc hss hC hS
def B_Body_joined_50 (N : Nat) (p0 : Nat) (p1 : Int32) (p2 : Int32) (p3 : Int32) (p4 : Int32) (l6 : Int32) (l7 : Int32) (H : Hp) : Option ((Ot Int32) × Hp) :=
    if l6 = (0 : Int32) then
    B_Body_joined_64 N p0 p1 p2 p3 p4 l7 H
    else
    if p3 = (3 : Int32) then
    B_Body_joined_65 N p0 p1 p2 p3 p4 l7 1 H
    else
    B_Body_joined_64 N p0 p1 p2 p3 p4 l7 H
set_option maxRecDepth 20000 in
set_option maxHeartbeats 2000000 in
theorem mB_Body_joined_50 {N : Nat} {p0 : Nat} {p1 : Int32} {p2 : Int32} {p3 : Int32} {p4 : Int32} {l6 : Int32} {l7 : Int32} {H : Hp} {r : (Ot Int32) × Hp} (hF : B_Body_joined_50 N p0 p1 p2 p3 p4 l6 l7 H = some r) : Mo H r.2 := by
  unfold B_Body_joined_50 at hF
  have hm := Mo.rf H
  rcases ite_s hF with ⟨q_17, hG⟩ | ⟨q_17, hG⟩
  · clear hF
    exact hm.tr (mB_Body_joined_64 hG)
  · clear hF
    rcases ite_s hG with ⟨q_18, hF⟩ | ⟨q_18, hF⟩
    · clear hG
      exact hm.tr (mB_Body_joined_65 hF)
    · clear hG
      exact hm.tr (mB_Body_joined_64 hF)
set_option maxRecDepth 20000 in
set_option maxHeartbeats 2000000 in
theorem kB_Body_joined_50 {N : Nat} {p0 : Nat} {p1 : Int32} {p2 : Int32} {p3 : Int32} {p4 : Int32} {c0 s0 C Sl : Nat} {l6 : Int32} {l7 : Int32} {H : Hp} {r : (Ot Int32) × Hp} (hF : B_Body_joined_50 N p0 p1 p2 p3 p4 l6 l7 H = some r) (hc0 : c0 ≤ H.sh.length) (hs0 : s0 ≤ H.sl) (hcc : H.sh.length ≤ c0 + C) (hss : H.sl ≤ s0 + Sl) (hC : r.2.sh.length ≤ c0 + C) (hS : r.2.sl ≤ s0 + Sl) : ab_V y_Body_joined { frames := 7, cells := C, slots := Sl, locals := 122 } (po (oI r.1) r.2) C Sl (H.sh.length - c0) (H.sl - s0) 50 [some (.ref p0), some (.int p1), some (.int p2), some (.int p3), some (.int p4), none, some (.int l6), some (.int l7)] [] (hpw H) := by
  unfold B_Body_joined_50 at hF
  refine ab_iload d_Body_joined_50 rfl ?_
  refine ab_if_eq (tgt := 64) d_Body_joined_52 (by decide) (fun q4 => ?_) (fun q4 => ?_)
  · rw [if_pos q4] at hF
    refine ab_le (lv' := [some (.ref p0), some (.int p1), some (.int p2), some (.int p3), some (.int p4), none, none, some (.int l7)]) ⟨rfl, ⟨rfl, ⟨rfl, ⟨rfl, ⟨rfl, ⟨rfl, trivial⟩⟩⟩⟩⟩⟩ ?_
    exact kB_Body_joined_64 hF hc0 hs0 hcc hss hC hS
  · rw [if_neg q4] at hF
    refine ab_iload_n d_Body_joined_55 rfl rfl ?_
    refine ab_iconst (v := 3) d_Body_joined_56 (by decide) ?_
    refine ab_icmp_ne (tgt := 64) d_Body_joined_57 (by decide) (fun q53 => ?_) (fun q53 => ?_)
    · rw [if_neg q53] at hF
      refine ab_le (lv' := [some (.ref p0), some (.int p1), some (.int p2), some (.int p3), some (.int p4), none, none, some (.int l7)]) ⟨rfl, ⟨rfl, ⟨rfl, ⟨rfl, ⟨rfl, ⟨rfl, trivial⟩⟩⟩⟩⟩⟩ ?_
      exact kB_Body_joined_64 hF hc0 hs0 hcc hss hC hS
    · rw [if_pos q53] at hF
      refine ab_iconst (v := 1) d_Body_joined_60 (by decide) ?_
      refine ab_goto (tgt := 65) d_Body_joined_61 (by decide) ?_
      refine ab_le (lv' := [some (.ref p0), some (.int p1), some (.int p2), some (.int p3), some (.int p4), none, none, some (.int l7)]) ⟨rfl, ⟨rfl, ⟨rfl, ⟨rfl, ⟨rfl, ⟨rfl, trivial⟩⟩⟩⟩⟩⟩ ?_
      exact kB_Body_joined_65 hF hc0 hs0 hcc hss hC hS
def B_Body_joined_128 (N : Nat) (p0 : Nat) (p1 : Int32) (p2 : Int32) (p3 : Int32) (p4 : Int32) (l7 : Int32) (w0 : Int32) (H : Hp) : Option ((Ot Int32) × Hp) :=
    B_Body_joined_130 N p0 p1 p2 p3 p4 w0 l7 H
set_option maxRecDepth 20000 in
set_option maxHeartbeats 2000000 in
theorem mB_Body_joined_128 {N : Nat} {p0 : Nat} {p1 : Int32} {p2 : Int32} {p3 : Int32} {p4 : Int32} {l7 : Int32} {w0 : Int32} {H : Hp} {r : (Ot Int32) × Hp} (hF : B_Body_joined_128 N p0 p1 p2 p3 p4 l7 w0 H = some r) : Mo H r.2 := by
  unfold B_Body_joined_128 at hF
  have hm := Mo.rf H
  exact hm.tr (mB_Body_joined_130 hF)
set_option maxRecDepth 20000 in
set_option maxHeartbeats 2000000 in
theorem kB_Body_joined_128 {N : Nat} {p0 : Nat} {p1 : Int32} {p2 : Int32} {p3 : Int32} {p4 : Int32} {c0 s0 C Sl : Nat} {l7 : Int32} {w0 : Int32} {H : Hp} {r : (Ot Int32) × Hp} (hF : B_Body_joined_128 N p0 p1 p2 p3 p4 l7 w0 H = some r) (hc0 : c0 ≤ H.sh.length) (hs0 : s0 ≤ H.sl) (hcc : H.sh.length ≤ c0 + C) (hss : H.sl ≤ s0 + Sl) (hC : r.2.sh.length ≤ c0 + C) (hS : r.2.sl ≤ s0 + Sl) : ab_V y_Body_joined { frames := 7, cells := C, slots := Sl, locals := 122 } (po (oI r.1) r.2) C Sl (H.sh.length - c0) (H.sl - s0) 128 [some (.ref p0), some (.int p1), some (.int p2), some (.int p3), some (.int p4), none, none, some (.int l7)] [.int w0] (hpw H) := by
  unfold B_Body_joined_128 at hF
  refine ab_istore (lv' := [some (.ref p0), some (.int p1), some (.int p2), some (.int p3), some (.int p4), none, some (.int w0), some (.int l7)]) d_Body_joined_128 (by decide) rfl ?_
  exact kB_Body_joined_130 hF hc0 hs0 hcc hss hC hS
def B_Body_joined_127 (N : Nat) (p0 : Nat) (p1 : Int32) (p2 : Int32) (p3 : Int32) (p4 : Int32) (l7 : Int32) (H : Hp) : Option ((Ot Int32) × Hp) :=
    B_Body_joined_128 N p0 p1 p2 p3 p4 l7 0 H
set_option maxRecDepth 20000 in
set_option maxHeartbeats 2000000 in
theorem mB_Body_joined_127 {N : Nat} {p0 : Nat} {p1 : Int32} {p2 : Int32} {p3 : Int32} {p4 : Int32} {l7 : Int32} {H : Hp} {r : (Ot Int32) × Hp} (hF : B_Body_joined_127 N p0 p1 p2 p3 p4 l7 H = some r) : Mo H r.2 := by
  unfold B_Body_joined_127 at hF
  have hm := Mo.rf H
  exact hm.tr (mB_Body_joined_128 hF)
set_option maxRecDepth 20000 in
set_option maxHeartbeats 2000000 in
theorem kB_Body_joined_127 {N : Nat} {p0 : Nat} {p1 : Int32} {p2 : Int32} {p3 : Int32} {p4 : Int32} {c0 s0 C Sl : Nat} {l7 : Int32} {H : Hp} {r : (Ot Int32) × Hp} (hF : B_Body_joined_127 N p0 p1 p2 p3 p4 l7 H = some r) (hc0 : c0 ≤ H.sh.length) (hs0 : s0 ≤ H.sl) (hcc : H.sh.length ≤ c0 + C) (hss : H.sl ≤ s0 + Sl) (hC : r.2.sh.length ≤ c0 + C) (hS : r.2.sl ≤ s0 + Sl) : ab_V y_Body_joined { frames := 7, cells := C, slots := Sl, locals := 122 } (po (oI r.1) r.2) C Sl (H.sh.length - c0) (H.sl - s0) 127 [some (.ref p0), some (.int p1), some (.int p2), some (.int p3), some (.int p4), none, none, some (.int l7)] [] (hpw H) := by
  unfold B_Body_joined_127 at hF
  refine ab_iconst (v := 0) d_Body_joined_127 (by decide) ?_
  exact kB_Body_joined_128 hF hc0 hs0 hcc hss hC hS
def B_Body_joined_105 (N : Nat) (p0 : Nat) (p1 : Int32) (p2 : Int32) (p3 : Int32) (p4 : Int32) (w0 : Int32) (H : Hp) : Option ((Ot Int32) × Hp) :=
    B_Body_joined_130 N p0 p1 p2 p3 p4 w0 3 H
set_option maxRecDepth 20000 in
set_option maxHeartbeats 2000000 in
theorem mB_Body_joined_105 {N : Nat} {p0 : Nat} {p1 : Int32} {p2 : Int32} {p3 : Int32} {p4 : Int32} {w0 : Int32} {H : Hp} {r : (Ot Int32) × Hp} (hF : B_Body_joined_105 N p0 p1 p2 p3 p4 w0 H = some r) : Mo H r.2 := by
  unfold B_Body_joined_105 at hF
  have hm := Mo.rf H
  exact hm.tr (mB_Body_joined_130 hF)
set_option maxRecDepth 20000 in
set_option maxHeartbeats 2000000 in
theorem kB_Body_joined_105 {N : Nat} {p0 : Nat} {p1 : Int32} {p2 : Int32} {p3 : Int32} {p4 : Int32} {c0 s0 C Sl : Nat} {w0 : Int32} {H : Hp} {r : (Ot Int32) × Hp} (hF : B_Body_joined_105 N p0 p1 p2 p3 p4 w0 H = some r) (hc0 : c0 ≤ H.sh.length) (hs0 : s0 ≤ H.sl) (hcc : H.sh.length ≤ c0 + C) (hss : H.sl ≤ s0 + Sl) (hC : r.2.sh.length ≤ c0 + C) (hS : r.2.sl ≤ s0 + Sl) : ab_V y_Body_joined { frames := 7, cells := C, slots := Sl, locals := 122 } (po (oI r.1) r.2) C Sl (H.sh.length - c0) (H.sl - s0) 105 [some (.ref p0), some (.int p1), some (.int p2), some (.int p3), some (.int p4), none, none, none] [.int w0] (hpw H) := by
  unfold B_Body_joined_105 at hF
  refine ab_istore (lv' := [some (.ref p0), some (.int p1), some (.int p2), some (.int p3), some (.int p4), none, some (.int w0), none]) d_Body_joined_105 (by decide) rfl ?_
  refine ab_iconst (v := 3) d_Body_joined_107 (by decide) ?_
  refine ab_istore (lv' := [some (.ref p0), some (.int p1), some (.int p2), some (.int p3), some (.int p4), none, some (.int w0), some (.int 3)]) d_Body_joined_108 (by decide) rfl ?_
  refine ab_goto (tgt := 130) d_Body_joined_110 (by decide) ?_
  exact kB_Body_joined_130 hF hc0 hs0 hcc hss hC hS
def B_Body_joined_104 (N : Nat) (p0 : Nat) (p1 : Int32) (p2 : Int32) (p3 : Int32) (p4 : Int32)  (H : Hp) : Option ((Ot Int32) × Hp) :=
    B_Body_joined_105 N p0 p1 p2 p3 p4 0 H
set_option maxRecDepth 20000 in
set_option maxHeartbeats 2000000 in
theorem mB_Body_joined_104 {N : Nat} {p0 : Nat} {p1 : Int32} {p2 : Int32} {p3 : Int32} {p4 : Int32}  {H : Hp} {r : (Ot Int32) × Hp} (hF : B_Body_joined_104 N p0 p1 p2 p3 p4  H = some r) : Mo H r.2 := by
  unfold B_Body_joined_104 at hF
  have hm := Mo.rf H
  exact hm.tr (mB_Body_joined_105 hF)
set_option maxRecDepth 20000 in
set_option maxHeartbeats 2000000 in
theorem kB_Body_joined_104 {N : Nat} {p0 : Nat} {p1 : Int32} {p2 : Int32} {p3 : Int32} {p4 : Int32} {c0 s0 C Sl : Nat}  {H : Hp} {r : (Ot Int32) × Hp} (hF : B_Body_joined_104 N p0 p1 p2 p3 p4  H = some r) (hc0 : c0 ≤ H.sh.length) (hs0 : s0 ≤ H.sl) (hcc : H.sh.length ≤ c0 + C) (hss : H.sl ≤ s0 + Sl) (hC : r.2.sh.length ≤ c0 + C) (hS : r.2.sl ≤ s0 + Sl) : ab_V y_Body_joined { frames := 7, cells := C, slots := Sl, locals := 122 } (po (oI r.1) r.2) C Sl (H.sh.length - c0) (H.sl - s0) 104 [some (.ref p0), some (.int p1), some (.int p2), some (.int p3), some (.int p4), none, none, none] [] (hpw H) := by
  unfold B_Body_joined_104 at hF
  refine ab_iconst (v := 0) d_Body_joined_104 (by decide) ?_
  exact kB_Body_joined_105 hF hc0 hs0 hcc hss hC hS
def B_Body_joined_100 (N : Nat) (p0 : Nat) (p1 : Int32) (p2 : Int32) (p3 : Int32) (p4 : Int32)  (H : Hp) : Option ((Ot Int32) × Hp) :=
    B_Body_joined_105 N p0 p1 p2 p3 p4 1 H
set_option maxRecDepth 20000 in
set_option maxHeartbeats 2000000 in
theorem mB_Body_joined_100 {N : Nat} {p0 : Nat} {p1 : Int32} {p2 : Int32} {p3 : Int32} {p4 : Int32}  {H : Hp} {r : (Ot Int32) × Hp} (hF : B_Body_joined_100 N p0 p1 p2 p3 p4  H = some r) : Mo H r.2 := by
  unfold B_Body_joined_100 at hF
  have hm := Mo.rf H
  exact hm.tr (mB_Body_joined_105 hF)
set_option maxRecDepth 20000 in
set_option maxHeartbeats 2000000 in
theorem kB_Body_joined_100 {N : Nat} {p0 : Nat} {p1 : Int32} {p2 : Int32} {p3 : Int32} {p4 : Int32} {c0 s0 C Sl : Nat}  {H : Hp} {r : (Ot Int32) × Hp} (hF : B_Body_joined_100 N p0 p1 p2 p3 p4  H = some r) (hc0 : c0 ≤ H.sh.length) (hs0 : s0 ≤ H.sl) (hcc : H.sh.length ≤ c0 + C) (hss : H.sl ≤ s0 + Sl) (hC : r.2.sh.length ≤ c0 + C) (hS : r.2.sl ≤ s0 + Sl) : ab_V y_Body_joined { frames := 7, cells := C, slots := Sl, locals := 122 } (po (oI r.1) r.2) C Sl (H.sh.length - c0) (H.sl - s0) 100 [some (.ref p0), some (.int p1), some (.int p2), some (.int p3), some (.int p4), none, none, none] [] (hpw H) := by
  unfold B_Body_joined_100 at hF
  refine ab_iconst (v := 1) d_Body_joined_100 (by decide) ?_
  refine ab_goto (tgt := 105) d_Body_joined_101 (by decide) ?_
  exact kB_Body_joined_105 hF hc0 hs0 hcc hss hC hS
def B_Body_joined_33 (N : Nat) (p0 : Nat) (p1 : Int32) (p2 : Int32) (p3 : Int32) (p4 : Int32) (l5 : Int32) (w0 : Int32) (H : Hp) : Option ((Ot Int32) × Hp) :=
    if p1 = (31 : Int32) then
    B_Body_joined_50 N p0 p1 p2 p3 p4 w0 p3 H
    else
    if p1 = (30 : Int32) then
    B_Body_joined_50 N p0 p1 p2 p3 p4 w0 p3 H
    else
    bC (F_Body_levelOf N p1 H) fun v58 H59 =>
    if v58 = (2 : Int32) then
    if w0 = (0 : Int32) then
    B_Body_joined_104 N p0 p1 p2 p3 p4  H59
    else
    if l5 = (0 : Int32) then
    if p1 = (28 : Int32) then
    B_Body_joined_100 N p0 p1 p2 p3 p4  H59
    else
    if p1 = (29 : Int32) then
    B_Body_joined_100 N p0 p1 p2 p3 p4  H59
    else
    B_Body_joined_104 N p0 p1 p2 p3 p4  H59
    else
    B_Body_joined_100 N p0 p1 p2 p3 p4  H59
    else
    if w0 = (0 : Int32) then
    B_Body_joined_127 N p0 p1 p2 p3 p4 p3 H59
    else
    if l5 = (0 : Int32) then
    B_Body_joined_127 N p0 p1 p2 p3 p4 p3 H59
    else
    B_Body_joined_128 N p0 p1 p2 p3 p4 p3 1 H59
set_option maxRecDepth 20000 in
set_option maxHeartbeats 2000000 in
theorem mB_Body_joined_33 {N : Nat} {p0 : Nat} {p1 : Int32} {p2 : Int32} {p3 : Int32} {p4 : Int32} {l5 : Int32} {w0 : Int32} {H : Hp} {r : (Ot Int32) × Hp} (hF : B_Body_joined_33 N p0 p1 p2 p3 p4 l5 w0 H = some r) : Mo H r.2 := by
  unfold B_Body_joined_33 at hF
  have hm := Mo.rf H
  rcases ite_s hF with ⟨q_21, hG⟩ | ⟨q_21, hG⟩
  · clear hF
    exact hm.tr (mB_Body_joined_50 hG)
  · clear hF
    rcases ite_s hG with ⟨q_22, hF⟩ | ⟨q_22, hF⟩
    · clear hG
      exact hm.tr (mB_Body_joined_50 hF)
    · clear hG
      obtain ⟨v70, H71, z69, hG⟩ := bC_s hF; clear hF
      replace hm : Mo H H71 := hm.tr ((m_Body_levelOf z69)).mo
      rcases ite_s hG with ⟨q_23, hF⟩ | ⟨q_23, hF⟩
      · clear hG
        rcases ite_s hF with ⟨q_24, hG⟩ | ⟨q_24, hG⟩
        · clear hF
          exact hm.tr (mB_Body_joined_104 hG)
        · clear hF
          rcases ite_s hG with ⟨q_25, hF⟩ | ⟨q_25, hF⟩
          · clear hG
            rcases ite_s hF with ⟨q_26, hG⟩ | ⟨q_26, hG⟩
            · clear hF
              exact hm.tr (mB_Body_joined_100 hG)
            · clear hF
              rcases ite_s hG with ⟨q_27, hF⟩ | ⟨q_27, hF⟩
              · clear hG
                exact hm.tr (mB_Body_joined_100 hF)
              · clear hG
                exact hm.tr (mB_Body_joined_104 hF)
          · clear hG
            exact hm.tr (mB_Body_joined_100 hF)
      · clear hG
        rcases ite_s hF with ⟨q_28, hG⟩ | ⟨q_28, hG⟩
        · clear hF
          exact hm.tr (mB_Body_joined_127 hG)
        · clear hF
          rcases ite_s hG with ⟨q_29, hF⟩ | ⟨q_29, hF⟩
          · clear hG
            exact hm.tr (mB_Body_joined_127 hF)
          · clear hG
            exact hm.tr (mB_Body_joined_128 hF)
set_option maxRecDepth 20000 in
set_option maxHeartbeats 2000000 in
theorem kB_Body_joined_33 {N : Nat} {p0 : Nat} {p1 : Int32} {p2 : Int32} {p3 : Int32} {p4 : Int32} {c0 s0 C Sl : Nat} {l5 : Int32} {w0 : Int32} {H : Hp} {r : (Ot Int32) × Hp} (hF : B_Body_joined_33 N p0 p1 p2 p3 p4 l5 w0 H = some r) (hc0 : c0 ≤ H.sh.length) (hs0 : s0 ≤ H.sl) (hcc : H.sh.length ≤ c0 + C) (hss : H.sl ≤ s0 + Sl) (hC : r.2.sh.length ≤ c0 + C) (hS : r.2.sl ≤ s0 + Sl) : ab_V y_Body_joined { frames := 7, cells := C, slots := Sl, locals := 122 } (po (oI r.1) r.2) C Sl (H.sh.length - c0) (H.sl - s0) 33 [some (.ref p0), some (.int p1), some (.int p2), some (.int p3), some (.int p4), some (.int l5), none, none] [.int w0] (hpw H) := by
  unfold B_Body_joined_33 at hF
  refine ab_istore (lv' := [some (.ref p0), some (.int p1), some (.int p2), some (.int p3), some (.int p4), some (.int l5), some (.int w0), none]) d_Body_joined_33 (by decide) rfl ?_
  refine ab_iload_n d_Body_joined_35 rfl rfl ?_
  refine ab_istore (lv' := [some (.ref p0), some (.int p1), some (.int p2), some (.int p3), some (.int p4), some (.int l5), some (.int w0), some (.int p3)]) d_Body_joined_36 (by decide) rfl ?_
  refine ab_iload_n d_Body_joined_38 rfl rfl ?_
  refine ab_bipush (v := 31) d_Body_joined_39 (by decide) ?_
  refine ab_icmp_eq (tgt := 50) d_Body_joined_41 (by decide) (fun q3 => ?_) (fun q3 => ?_)
  · rw [if_pos q3] at hF
    refine ab_le (lv' := [some (.ref p0), some (.int p1), some (.int p2), some (.int p3), some (.int p4), none, some (.int w0), some (.int p3)]) ⟨rfl, ⟨rfl, ⟨rfl, ⟨rfl, ⟨rfl, ⟨rfl, ⟨rfl, trivial⟩⟩⟩⟩⟩⟩⟩ ?_
    exact kB_Body_joined_50 hF hc0 hs0 hcc hss hC hS
  · rw [if_neg q3] at hF
    refine ab_iload_n d_Body_joined_44 rfl rfl ?_
    refine ab_bipush (v := 30) d_Body_joined_45 (by decide) ?_
    refine ab_icmp_ne (tgt := 70) d_Body_joined_47 (by decide) (fun q56 => ?_) (fun q56 => ?_)
    · rw [if_neg q56] at hF
      refine ab_iload_n d_Body_joined_70 rfl rfl ?_
      obtain ⟨v58, H59, z57, hG⟩ := bC_s hF; clear hF
      refine hp_callS_a (v := .int v58) (H1 := H59) (As := [.int p1]) (rest := []) d_Body_joined_71 (k_Body_levelOf z57) (ab_mkC s_Body_levelOf (Nat.le_of_ble_eq_true rfl) (Nat.le_of_ble_eq_true rfl) (show (H.sh.length - c0) + 0 ≤ C from by omega) (show (H.sl - s0) + 0 ≤ Sl from by omega)) (k5 218 rfl rfl) t_Body_levelOf rfl (Nat.le_of_ble_eq_true rfl) ?_
      have s_20 : Sa H H59 := (m_Body_levelOf z57)
      refine ab_widen (cells' := H.sh.length - c0) (slots' := H.sl - s0) (by show (H.sh.length - c0) + 0 ≤ _; omega) (by show (H.sl - s0) + 0 ≤ _; omega) ?_
      refine ab_iconst (v := 2) d_Body_joined_74 (by decide) ?_
      refine ab_icmp_ne (tgt := 113) d_Body_joined_75 (by decide) (fun q60 => ?_) (fun q60 => ?_)
      · rw [if_neg q60] at hG
        refine ab_iload d_Body_joined_113 rfl ?_
        refine ab_if_eq (tgt := 127) d_Body_joined_115 (by decide) (fun q61 => ?_) (fun q61 => ?_)
        · rw [if_pos q61] at hG
          refine ab_le (lv' := [some (.ref p0), some (.int p1), some (.int p2), some (.int p3), some (.int p4), none, none, some (.int p3)]) ⟨rfl, ⟨rfl, ⟨rfl, ⟨rfl, ⟨rfl, ⟨rfl, trivial⟩⟩⟩⟩⟩⟩ ?_
          refine ab_widen (cells' := H59.sh.length - c0) (slots' := H59.sl - s0) (by rw [(s_20).1]; exact Nat.le_refl _) (by rw [(s_20).2]; exact Nat.le_refl _) ?_
          exact kB_Body_joined_127 hG (by rw [(s_20).1]; exact hc0) (by rw [(s_20).2]; exact hs0) (by rw [(s_20).1]; exact hcc) (by rw [(s_20).2]; exact hss) hC hS
        · rw [if_neg q61] at hG
          refine ab_iload d_Body_joined_118 rfl ?_
          refine ab_if_eq (tgt := 127) d_Body_joined_120 (by decide) (fun q62 => ?_) (fun q62 => ?_)
          · rw [if_pos q62] at hG
            refine ab_le (lv' := [some (.ref p0), some (.int p1), some (.int p2), some (.int p3), some (.int p4), none, none, some (.int p3)]) ⟨rfl, ⟨rfl, ⟨rfl, ⟨rfl, ⟨rfl, ⟨rfl, trivial⟩⟩⟩⟩⟩⟩ ?_
            refine ab_widen (cells' := H59.sh.length - c0) (slots' := H59.sl - s0) (by rw [(s_20).1]; exact Nat.le_refl _) (by rw [(s_20).2]; exact Nat.le_refl _) ?_
            exact kB_Body_joined_127 hG (by rw [(s_20).1]; exact hc0) (by rw [(s_20).2]; exact hs0) (by rw [(s_20).1]; exact hcc) (by rw [(s_20).2]; exact hss) hC hS
          · rw [if_neg q62] at hG
            refine ab_iconst (v := 1) d_Body_joined_123 (by decide) ?_
            refine ab_goto (tgt := 128) d_Body_joined_124 (by decide) ?_
            refine ab_le (lv' := [some (.ref p0), some (.int p1), some (.int p2), some (.int p3), some (.int p4), none, none, some (.int p3)]) ⟨rfl, ⟨rfl, ⟨rfl, ⟨rfl, ⟨rfl, ⟨rfl, trivial⟩⟩⟩⟩⟩⟩ ?_
            refine ab_widen (cells' := H59.sh.length - c0) (slots' := H59.sl - s0) (by rw [(s_20).1]; exact Nat.le_refl _) (by rw [(s_20).2]; exact Nat.le_refl _) ?_
            exact kB_Body_joined_128 hG (by rw [(s_20).1]; exact hc0) (by rw [(s_20).2]; exact hs0) (by rw [(s_20).1]; exact hcc) (by rw [(s_20).2]; exact hss) hC hS
      · rw [if_pos q60] at hG
        refine ab_iload d_Body_joined_78 rfl ?_
        refine ab_if_eq (tgt := 104) d_Body_joined_80 (by decide) (fun q63 => ?_) (fun q63 => ?_)
        · rw [if_pos q63] at hG
          refine ab_le (lv' := [some (.ref p0), some (.int p1), some (.int p2), some (.int p3), some (.int p4), none, none, none]) ⟨rfl, ⟨rfl, ⟨rfl, ⟨rfl, ⟨rfl, trivial⟩⟩⟩⟩⟩ ?_
          refine ab_widen (cells' := H59.sh.length - c0) (slots' := H59.sl - s0) (by rw [(s_20).1]; exact Nat.le_refl _) (by rw [(s_20).2]; exact Nat.le_refl _) ?_
          exact kB_Body_joined_104 hG (by rw [(s_20).1]; exact hc0) (by rw [(s_20).2]; exact hs0) (by rw [(s_20).1]; exact hcc) (by rw [(s_20).2]; exact hss) hC hS
        · rw [if_neg q63] at hG
          refine ab_iload d_Body_joined_83 rfl ?_
          refine ab_if_ne (tgt := 100) d_Body_joined_85 (by decide) (fun q64 => ?_) (fun q64 => ?_)
          · rw [if_neg q64] at hG
            refine ab_le (lv' := [some (.ref p0), some (.int p1), some (.int p2), some (.int p3), some (.int p4), none, none, none]) ⟨rfl, ⟨rfl, ⟨rfl, ⟨rfl, ⟨rfl, trivial⟩⟩⟩⟩⟩ ?_
            refine ab_widen (cells' := H59.sh.length - c0) (slots' := H59.sl - s0) (by rw [(s_20).1]; exact Nat.le_refl _) (by rw [(s_20).2]; exact Nat.le_refl _) ?_
            exact kB_Body_joined_100 hG (by rw [(s_20).1]; exact hc0) (by rw [(s_20).2]; exact hs0) (by rw [(s_20).1]; exact hcc) (by rw [(s_20).2]; exact hss) hC hS
          · rw [if_pos q64] at hG
            refine ab_iload_n d_Body_joined_88 rfl rfl ?_
            refine ab_bipush (v := 28) d_Body_joined_89 (by decide) ?_
            refine ab_icmp_eq (tgt := 100) d_Body_joined_91 (by decide) (fun q65 => ?_) (fun q65 => ?_)
            · rw [if_pos q65] at hG
              refine ab_le (lv' := [some (.ref p0), some (.int p1), some (.int p2), some (.int p3), some (.int p4), none, none, none]) ⟨rfl, ⟨rfl, ⟨rfl, ⟨rfl, ⟨rfl, trivial⟩⟩⟩⟩⟩ ?_
              refine ab_widen (cells' := H59.sh.length - c0) (slots' := H59.sl - s0) (by rw [(s_20).1]; exact Nat.le_refl _) (by rw [(s_20).2]; exact Nat.le_refl _) ?_
              exact kB_Body_joined_100 hG (by rw [(s_20).1]; exact hc0) (by rw [(s_20).2]; exact hs0) (by rw [(s_20).1]; exact hcc) (by rw [(s_20).2]; exact hss) hC hS
            · rw [if_neg q65] at hG
              refine ab_iload_n d_Body_joined_94 rfl rfl ?_
              refine ab_bipush (v := 29) d_Body_joined_95 (by decide) ?_
              refine ab_icmp_ne (tgt := 104) d_Body_joined_97 (by decide) (fun q66 => ?_) (fun q66 => ?_)
              · rw [if_neg q66] at hG
                refine ab_le (lv' := [some (.ref p0), some (.int p1), some (.int p2), some (.int p3), some (.int p4), none, none, none]) ⟨rfl, ⟨rfl, ⟨rfl, ⟨rfl, ⟨rfl, trivial⟩⟩⟩⟩⟩ ?_
                refine ab_widen (cells' := H59.sh.length - c0) (slots' := H59.sl - s0) (by rw [(s_20).1]; exact Nat.le_refl _) (by rw [(s_20).2]; exact Nat.le_refl _) ?_
                exact kB_Body_joined_104 hG (by rw [(s_20).1]; exact hc0) (by rw [(s_20).2]; exact hs0) (by rw [(s_20).1]; exact hcc) (by rw [(s_20).2]; exact hss) hC hS
              · rw [if_pos q66] at hG
                refine ab_le (lv' := [some (.ref p0), some (.int p1), some (.int p2), some (.int p3), some (.int p4), none, none, none]) ⟨rfl, ⟨rfl, ⟨rfl, ⟨rfl, ⟨rfl, trivial⟩⟩⟩⟩⟩ ?_
                refine ab_widen (cells' := H59.sh.length - c0) (slots' := H59.sl - s0) (by rw [(s_20).1]; exact Nat.le_refl _) (by rw [(s_20).2]; exact Nat.le_refl _) ?_
                exact kB_Body_joined_100 hG (by rw [(s_20).1]; exact hc0) (by rw [(s_20).2]; exact hs0) (by rw [(s_20).1]; exact hcc) (by rw [(s_20).2]; exact hss) hC hS
    · rw [if_pos q56] at hF
      refine ab_le (lv' := [some (.ref p0), some (.int p1), some (.int p2), some (.int p3), some (.int p4), none, some (.int w0), some (.int p3)]) ⟨rfl, ⟨rfl, ⟨rfl, ⟨rfl, ⟨rfl, ⟨rfl, ⟨rfl, trivial⟩⟩⟩⟩⟩⟩⟩ ?_
      exact kB_Body_joined_50 hF hc0 hs0 hcc hss hC hS
def B_Body_joined_20 (N : Nat) (p0 : Nat) (p1 : Int32) (p2 : Int32) (p3 : Int32) (p4 : Int32) (w0 : Int32) (H : Hp) : Option ((Ot Int32) × Hp) :=
    if p3 = p4 then
    B_Body_joined_33 N p0 p1 p2 p3 p4 w0 1 H
    else
    B_Body_joined_33 N p0 p1 p2 p3 p4 w0 0 H
set_option maxRecDepth 20000 in
set_option maxHeartbeats 2000000 in
theorem mB_Body_joined_20 {N : Nat} {p0 : Nat} {p1 : Int32} {p2 : Int32} {p3 : Int32} {p4 : Int32} {w0 : Int32} {H : Hp} {r : (Ot Int32) × Hp} (hF : B_Body_joined_20 N p0 p1 p2 p3 p4 w0 H = some r) : Mo H r.2 := by
  unfold B_Body_joined_20 at hF
  have hm := Mo.rf H
  rcases ite_s hF with ⟨q_30, hG⟩ | ⟨q_30, hG⟩
  · clear hF
    exact hm.tr (mB_Body_joined_33 hG)
  · clear hF
    exact hm.tr (mB_Body_joined_33 hG)
set_option maxRecDepth 20000 in
set_option maxHeartbeats 2000000 in
theorem kB_Body_joined_20 {N : Nat} {p0 : Nat} {p1 : Int32} {p2 : Int32} {p3 : Int32} {p4 : Int32} {c0 s0 C Sl : Nat} {w0 : Int32} {H : Hp} {r : (Ot Int32) × Hp} (hF : B_Body_joined_20 N p0 p1 p2 p3 p4 w0 H = some r) (hc0 : c0 ≤ H.sh.length) (hs0 : s0 ≤ H.sl) (hcc : H.sh.length ≤ c0 + C) (hss : H.sl ≤ s0 + Sl) (hC : r.2.sh.length ≤ c0 + C) (hS : r.2.sl ≤ s0 + Sl) : ab_V y_Body_joined { frames := 7, cells := C, slots := Sl, locals := 122 } (po (oI r.1) r.2) C Sl (H.sh.length - c0) (H.sl - s0) 20 [some (.ref p0), some (.int p1), some (.int p2), some (.int p3), some (.int p4), none, none, none] [.int w0] (hpw H) := by
  unfold B_Body_joined_20 at hF
  refine ab_istore (lv' := [some (.ref p0), some (.int p1), some (.int p2), some (.int p3), some (.int p4), some (.int w0), none, none]) d_Body_joined_20 (by decide) rfl ?_
  refine ab_iload_n d_Body_joined_22 rfl rfl ?_
  refine ab_iload d_Body_joined_23 rfl ?_
  refine ab_icmp_ne (tgt := 32) d_Body_joined_25 (by decide) (fun q2 => ?_) (fun q2 => ?_)
  · rw [if_neg q2] at hF
    refine ab_iconst (v := 0) d_Body_joined_32 (by decide) ?_
    exact kB_Body_joined_33 hF hc0 hs0 hcc hss hC hS
  · rw [if_pos q2] at hF
    refine ab_iconst (v := 1) d_Body_joined_28 (by decide) ?_
    refine ab_goto (tgt := 33) d_Body_joined_29 (by decide) ?_
    exact kB_Body_joined_33 hF hc0 hs0 hcc hss hC hS
def B_Body_joined_15 (N : Nat) (p0 : Nat) (p1 : Int32) (p2 : Int32) (p3 : Int32) (p4 : Int32)  (H : Hp) : Option ((Ot Int32) × Hp) :=
    B_Body_joined_20 N p0 p1 p2 p3 p4 1 H
set_option maxRecDepth 20000 in
set_option maxHeartbeats 2000000 in
theorem mB_Body_joined_15 {N : Nat} {p0 : Nat} {p1 : Int32} {p2 : Int32} {p3 : Int32} {p4 : Int32}  {H : Hp} {r : (Ot Int32) × Hp} (hF : B_Body_joined_15 N p0 p1 p2 p3 p4  H = some r) : Mo H r.2 := by
  unfold B_Body_joined_15 at hF
  have hm := Mo.rf H
  exact hm.tr (mB_Body_joined_20 hF)
set_option maxRecDepth 20000 in
set_option maxHeartbeats 2000000 in
theorem kB_Body_joined_15 {N : Nat} {p0 : Nat} {p1 : Int32} {p2 : Int32} {p3 : Int32} {p4 : Int32} {c0 s0 C Sl : Nat}  {H : Hp} {r : (Ot Int32) × Hp} (hF : B_Body_joined_15 N p0 p1 p2 p3 p4  H = some r) (hc0 : c0 ≤ H.sh.length) (hs0 : s0 ≤ H.sl) (hcc : H.sh.length ≤ c0 + C) (hss : H.sl ≤ s0 + Sl) (hC : r.2.sh.length ≤ c0 + C) (hS : r.2.sl ≤ s0 + Sl) : ab_V y_Body_joined { frames := 7, cells := C, slots := Sl, locals := 122 } (po (oI r.1) r.2) C Sl (H.sh.length - c0) (H.sl - s0) 15 [some (.ref p0), some (.int p1), some (.int p2), some (.int p3), some (.int p4), none, none, none] [] (hpw H) := by
  unfold B_Body_joined_15 at hF
  refine ab_iconst (v := 1) d_Body_joined_15 (by decide) ?_
  refine ab_goto (tgt := 20) d_Body_joined_16 (by decide) ?_
  exact kB_Body_joined_20 hF hc0 hs0 hcc hss hC hS
def B_Body_joined_19 (N : Nat) (p0 : Nat) (p1 : Int32) (p2 : Int32) (p3 : Int32) (p4 : Int32)  (H : Hp) : Option ((Ot Int32) × Hp) :=
    B_Body_joined_20 N p0 p1 p2 p3 p4 0 H
set_option maxRecDepth 20000 in
set_option maxHeartbeats 2000000 in
theorem mB_Body_joined_19 {N : Nat} {p0 : Nat} {p1 : Int32} {p2 : Int32} {p3 : Int32} {p4 : Int32}  {H : Hp} {r : (Ot Int32) × Hp} (hF : B_Body_joined_19 N p0 p1 p2 p3 p4  H = some r) : Mo H r.2 := by
  unfold B_Body_joined_19 at hF
  have hm := Mo.rf H
  exact hm.tr (mB_Body_joined_20 hF)
set_option maxRecDepth 20000 in
set_option maxHeartbeats 2000000 in
theorem kB_Body_joined_19 {N : Nat} {p0 : Nat} {p1 : Int32} {p2 : Int32} {p3 : Int32} {p4 : Int32} {c0 s0 C Sl : Nat}  {H : Hp} {r : (Ot Int32) × Hp} (hF : B_Body_joined_19 N p0 p1 p2 p3 p4  H = some r) (hc0 : c0 ≤ H.sh.length) (hs0 : s0 ≤ H.sl) (hcc : H.sh.length ≤ c0 + C) (hss : H.sl ≤ s0 + Sl) (hC : r.2.sh.length ≤ c0 + C) (hS : r.2.sl ≤ s0 + Sl) : ab_V y_Body_joined { frames := 7, cells := C, slots := Sl, locals := 122 } (po (oI r.1) r.2) C Sl (H.sh.length - c0) (H.sl - s0) 19 [some (.ref p0), some (.int p1), some (.int p2), some (.int p3), some (.int p4), none, none, none] [] (hpw H) := by
  unfold B_Body_joined_19 at hF
  refine ab_iconst (v := 0) d_Body_joined_19 (by decide) ?_
  exact kB_Body_joined_20 hF hc0 hs0 hcc hss hC hS
def F_Body_joined (N : Nat) (p0 : Nat) (p1 : Int32) (p2 : Int32) (p3 : Int32) (p4 : Int32) (H : Hp) : Option ((Ot Int32) × Hp) :=
    if p3 = (0 : Int32) then
    B_Body_joined_15 N p0 p1 p2 p3 p4  H
    else
    if p3 = (2 : Int32) then
    if p1 = (22 : Int32) then
    B_Body_joined_19 N p0 p1 p2 p3 p4  H
    else
    B_Body_joined_15 N p0 p1 p2 p3 p4  H
    else
    B_Body_joined_19 N p0 p1 p2 p3 p4  H
set_option maxRecDepth 20000 in
set_option maxHeartbeats 2000000 in
theorem m_Body_joined {N : Nat} {p0 : Nat} {p1 : Int32} {p2 : Int32} {p3 : Int32} {p4 : Int32} {H : Hp} {r : (Ot Int32) × Hp} (hF : F_Body_joined N p0 p1 p2 p3 p4 H = some r) : Mo H r.2 := by
  unfold F_Body_joined at hF
  have hm := Mo.rf H
  rcases ite_s hF with ⟨q_31, hG⟩ | ⟨q_31, hG⟩
  · clear hF
    exact hm.tr (mB_Body_joined_15 hG)
  · clear hF
    rcases ite_s hG with ⟨q_32, hF⟩ | ⟨q_32, hF⟩
    · clear hG
      rcases ite_s hF with ⟨q_33, hG⟩ | ⟨q_33, hG⟩
      · clear hF
        exact hm.tr (mB_Body_joined_19 hG)
      · clear hF
        exact hm.tr (mB_Body_joined_15 hG)
    · clear hG
      exact hm.tr (mB_Body_joined_19 hF)
set_option maxRecDepth 20000 in
set_option maxHeartbeats 2000000 in
theorem k_Body_joined {N : Nat} {p0 : Nat} {p1 : Int32} {p2 : Int32} {p3 : Int32} {p4 : Int32} {H : Hp} {r : (Ot Int32) × Hp} {C Sl : Nat} (hF : F_Body_joined N p0 p1 p2 p3 p4 H = some r) (hC : r.2.sh.length ≤ H.sh.length + C) (hS : r.2.sl ≤ H.sl + Sl) : ab_M y_Body_joined { frames := 7, cells := C, slots := Sl, locals := 122 } [.ref p0, .int p1, .int p2, .int p3, .int p4] (hpw H) (po (oI r.1) r.2) := by
  unfold F_Body_joined at hF
  obtain ⟨c0, e0⟩ : ∃ q, q = H.sh.length := ⟨_, rfl⟩
  obtain ⟨s0, e1⟩ : ∃ q, q = H.sl := ⟨_, rfl⟩
  rw [← e0] at hC
  rw [← e1] at hS
  have hc0 : c0 ≤ H.sh.length := Nat.le_of_eq e0
  have hs0 : s0 ≤ H.sl := Nat.le_of_eq e1
  have hcc : H.sh.length ≤ c0 + C := by omega
  have hss : H.sl ≤ s0 + Sl := by omega
  refine ab_of2 (lv := [some (.ref p0), some (.int p1), some (.int p2), some (.int p3), some (.int p4), none, none, none]) 3 rfl rfl (Nat.le_of_ble_eq_true rfl) ?_
  refine ab_widen (cells' := H.sh.length - c0) (slots' := H.sl - s0) (Nat.zero_le _) (Nat.zero_le _) ?_
  refine ab_iload_n d_Body_joined_0 rfl rfl ?_
  refine ab_if_eq (tgt := 15) d_Body_joined_1 (by decide) (fun q1 => ?_) (fun q1 => ?_)
  · rw [if_pos q1] at hF
    exact kB_Body_joined_15 hF hc0 hs0 hcc hss hC hS
  · rw [if_neg q1] at hF
    refine ab_iload_n d_Body_joined_4 rfl rfl ?_
    refine ab_iconst (v := 2) d_Body_joined_5 (by decide) ?_
    refine ab_icmp_ne (tgt := 19) d_Body_joined_6 (by decide) (fun q80 => ?_) (fun q80 => ?_)
    · rw [if_neg q80] at hF
      exact kB_Body_joined_19 hF hc0 hs0 hcc hss hC hS
    · rw [if_pos q80] at hF
      refine ab_iload_n d_Body_joined_9 rfl rfl ?_
      refine ab_bipush (v := 22) d_Body_joined_10 (by decide) ?_
      refine ab_icmp_eq (tgt := 19) d_Body_joined_12 (by decide) (fun q81 => ?_) (fun q81 => ?_)
      · rw [if_pos q81] at hF
        exact kB_Body_joined_19 hF hc0 hs0 hcc hss hC hS
      · rw [if_neg q81] at hF
        exact kB_Body_joined_15 hF hc0 hs0 hcc hss hC hS
