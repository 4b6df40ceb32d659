def y_Reader_readMember : ab_Y := (⟨"WorldEngine$Reader", "readMember", "(LWorldEngine$Shapes;I)V"⟩, prog_7_method_8_code, 7, none, [])
theorem d_Reader_readMember_0 : decode y_Reader_readMember.2.1 0 = .ok (.aload_n 0, 1) := by decide +kernel
theorem d_Reader_readMember_1 : decode y_Reader_readMember.2.1 1 = .ok (.getfield 7, 3) := by decide +kernel
theorem d_Reader_readMember_4 : decode y_Reader_readMember.2.1 4 = .ok (.getfield 36, 3) := by decide +kernel
theorem d_Reader_readMember_7 : decode y_Reader_readMember.2.1 7 = .ok (.bipush 49, 2) := by decide +kernel
theorem d_Reader_readMember_9 : decode y_Reader_readMember.2.1 9 = .ok (.isub, 1) := by decide +kernel
theorem d_Reader_readMember_10 : decode y_Reader_readMember.2.1 10 = .ok (.istore_n 3, 1) := by decide +kernel
theorem d_Reader_readMember_11 : decode y_Reader_readMember.2.1 11 = .ok (.iload_n 3, 1) := by decide +kernel
theorem d_Reader_readMember_12 : decode y_Reader_readMember.2.1 12 = .ok (.ifCond .lt 8, 3) := by decide +kernel
theorem d_Reader_readMember_15 : decode y_Reader_readMember.2.1 15 = .ok (.iload_n 3, 1) := by decide +kernel
theorem d_Reader_readMember_16 : decode y_Reader_readMember.2.1 16 = .ok (.iconst 4, 1) := by decide +kernel
theorem d_Reader_readMember_17 : decode y_Reader_readMember.2.1 17 = .ok (.if_icmp .le 18, 3) := by decide +kernel
theorem d_Reader_readMember_20 : decode y_Reader_readMember.2.1 20 = .ok (.aload_n 0, 1) := by decide +kernel
theorem d_Reader_readMember_21 : decode y_Reader_readMember.2.1 21 = .ok (.getfield 7, 3) := by decide +kernel
theorem d_Reader_readMember_24 : decode y_Reader_readMember.2.1 24 = .ok (.iconst 1, 1) := by decide +kernel
theorem d_Reader_readMember_25 : decode y_Reader_readMember.2.1 25 = .ok (.aload_n 0, 1) := by decide +kernel
theorem d_Reader_readMember_26 : decode y_Reader_readMember.2.1 26 = .ok (.getfield 7, 3) := by decide +kernel
theorem d_Reader_readMember_29 : decode y_Reader_readMember.2.1 29 = .ok (.getfield 65, 3) := by decide +kernel
theorem d_Reader_readMember_32 : decode y_Reader_readMember.2.1 32 = .ok (.invokevirtual 68, 3) := by decide +kernel
theorem d_Reader_readMember_35 : decode y_Reader_readMember.2.1 35 = .ok (.aload_n 1, 1) := by decide +kernel
theorem d_Reader_readMember_36 : decode y_Reader_readMember.2.1 36 = .ok (.getfield 98, 3) := by decide +kernel
theorem d_Reader_readMember_39 : decode y_Reader_readMember.2.1 39 = .ok (.iconst 1, 1) := by decide +kernel
theorem d_Reader_readMember_40 : decode y_Reader_readMember.2.1 40 = .ok (.isub, 1) := by decide +kernel
theorem d_Reader_readMember_41 : decode y_Reader_readMember.2.1 41 = .ok (.istore 4, 2) := by decide +kernel
theorem d_Reader_readMember_43 : decode y_Reader_readMember.2.1 43 = .ok (.aload_n 1, 1) := by decide +kernel
theorem d_Reader_readMember_44 : decode y_Reader_readMember.2.1 44 = .ok (.iload 4, 2) := by decide +kernel
theorem d_Reader_readMember_46 : decode y_Reader_readMember.2.1 46 = .ok (.invokevirtual 124, 3) := by decide +kernel
theorem d_Reader_readMember_49 : decode y_Reader_readMember.2.1 49 = .ok (.iload_n 2, 1) := by decide +kernel
theorem d_Reader_readMember_50 : decode y_Reader_readMember.2.1 50 = .ok (.if_icmp .ge 15, 3) := by decide +kernel
theorem d_Reader_readMember_53 : decode y_Reader_readMember.2.1 53 = .ok (.aload_n 1, 1) := by decide +kernel
theorem d_Reader_readMember_54 : decode y_Reader_readMember.2.1 54 = .ok (.invokevirtual 127, 3) := by decide +kernel
theorem d_Reader_readMember_57 : decode y_Reader_readMember.2.1 57 = .ok (.aload_n 1, 1) := by decide +kernel
theorem d_Reader_readMember_58 : decode y_Reader_readMember.2.1 58 = .ok (.getfield 131, 3) := by decide +kernel
theorem d_Reader_readMember_61 : decode y_Reader_readMember.2.1 61 = .ok (.arraylength, 1) := by decide +kernel
theorem d_Reader_readMember_62 : decode y_Reader_readMember.2.1 62 = .ok (.if_icmp .lt 18, 3) := by decide +kernel
theorem d_Reader_readMember_65 : decode y_Reader_readMember.2.1 65 = .ok (.aload_n 0, 1) := by decide +kernel
theorem d_Reader_readMember_66 : decode y_Reader_readMember.2.1 66 = .ok (.getfield 7, 3) := by decide +kernel
theorem d_Reader_readMember_69 : decode y_Reader_readMember.2.1 69 = .ok (.iconst 2, 1) := by decide +kernel
theorem d_Reader_readMember_70 : decode y_Reader_readMember.2.1 70 = .ok (.aload_n 0, 1) := by decide +kernel
theorem d_Reader_readMember_71 : decode y_Reader_readMember.2.1 71 = .ok (.getfield 7, 3) := by decide +kernel
theorem d_Reader_readMember_74 : decode y_Reader_readMember.2.1 74 = .ok (.getfield 65, 3) := by decide +kernel
theorem d_Reader_readMember_77 : decode y_Reader_readMember.2.1 77 = .ok (.invokevirtual 68, 3) := by decide +kernel
theorem d_Reader_readMember_80 : decode y_Reader_readMember.2.1 80 = .ok (.aload_n 0, 1) := by decide +kernel
theorem d_Reader_readMember_81 : decode y_Reader_readMember.2.1 81 = .ok (.getfield 7, 3) := by decide +kernel
theorem d_Reader_readMember_84 : decode y_Reader_readMember.2.1 84 = .ok (.invokevirtual 77, 3) := by decide +kernel
theorem d_Reader_readMember_87 : decode y_Reader_readMember.2.1 87 = .ok (.aload_n 0, 1) := by decide +kernel
theorem d_Reader_readMember_88 : decode y_Reader_readMember.2.1 88 = .ok (.getfield 7, 3) := by decide +kernel
theorem d_Reader_readMember_91 : decode y_Reader_readMember.2.1 91 = .ok (.getfield 65, 3) := by decide +kernel
theorem d_Reader_readMember_94 : decode y_Reader_readMember.2.1 94 = .ok (.istore 5, 2) := by decide +kernel
theorem d_Reader_readMember_96 : decode y_Reader_readMember.2.1 96 = .ok (.aload_n 0, 1) := by decide +kernel
theorem d_Reader_readMember_97 : decode y_Reader_readMember.2.1 97 = .ok (.getfield 7, 3) := by decide +kernel
theorem d_Reader_readMember_100 : decode y_Reader_readMember.2.1 100 = .ok (.invokevirtual 80, 3) := by decide +kernel
theorem d_Reader_readMember_103 : decode y_Reader_readMember.2.1 103 = .ok (.astore 6, 2) := by decide +kernel
theorem d_Reader_readMember_105 : decode y_Reader_readMember.2.1 105 = .ok (.aload_n 1, 1) := by decide +kernel
theorem d_Reader_readMember_106 : decode y_Reader_readMember.2.1 106 = .ok (.iload 4, 2) := by decide +kernel
theorem d_Reader_readMember_108 : decode y_Reader_readMember.2.1 108 = .ok (.aload 6, 2) := by decide +kernel
theorem d_Reader_readMember_110 : decode y_Reader_readMember.2.1 110 = .ok (.invokevirtual 135, 3) := by decide +kernel
theorem d_Reader_readMember_113 : decode y_Reader_readMember.2.1 113 = .ok (.ifCond .lt 13, 3) := by decide +kernel
theorem d_Reader_readMember_116 : decode y_Reader_readMember.2.1 116 = .ok (.aload_n 0, 1) := by decide +kernel
theorem d_Reader_readMember_117 : decode y_Reader_readMember.2.1 117 = .ok (.getfield 7, 3) := by decide +kernel
theorem d_Reader_readMember_120 : decode y_Reader_readMember.2.1 120 = .ok (.iconst 3, 1) := by decide +kernel
theorem d_Reader_readMember_121 : decode y_Reader_readMember.2.1 121 = .ok (.iload 5, 2) := by decide +kernel
theorem d_Reader_readMember_123 : decode y_Reader_readMember.2.1 123 = .ok (.invokevirtual 68, 3) := by decide +kernel
theorem d_Reader_readMember_126 : decode y_Reader_readMember.2.1 126 = .ok (.aload_n 1, 1) := by decide +kernel
theorem d_Reader_readMember_127 : decode y_Reader_readMember.2.1 127 = .ok (.aload 6, 2) := by decide +kernel
theorem d_Reader_readMember_129 : decode y_Reader_readMember.2.1 129 = .ok (.iload_n 3, 1) := by decide +kernel
theorem d_Reader_readMember_130 : decode y_Reader_readMember.2.1 130 = .ok (.invokevirtual 139, 3) := by decide +kernel
theorem d_Reader_readMember_133 : decode y_Reader_readMember.2.1 133 = .ok (.return_, 1) := by decide +kernel
theorem s_Reader_readMember : ab_Stat y_Reader_readMember 2 := ⟨(k5 33 rfl rfl), (k1 7 rfl rfl), ⟨by decide, by decide⟩, by decide +kernel⟩
theorem i_Reader_readMember : Cond.instanceMethod y_Reader_readMember.1 ∈ ab_T := (k5 32 rfl rfl)
theorem v_Reader_readMember : Cond.selects "WorldEngine$Reader" y_Reader_readMember.1 y_Reader_readMember.1 ∈ ab_T := ab_s (List.mem_of_getElem? (i := 12) rfl) rfl
def B_Reader_readMember_126 (N : Nat) (p0 : Nat) (p1 : Nat) (p2 : Int32) (l3 : Int32) (l6 : Nat) (H : Hp) : Option ((Ot Unit) × Hp) :=
    ck (H.sh[p1]? = some (3, 0)) <|
    bC (F_Shapes_addMember N p1 l6 l3 H) fun v65 H66 =>
    some (.inl (), H66)
set_option maxRecDepth 20000 in
set_option maxHeartbeats 2000000 in
theorem mB_Reader_readMember_126 {N : Nat} {p0 : Nat} {p1 : Nat} {p2 : Int32} {l3 : Int32} {l6 : Nat} {H : Hp} {r : (Ot Unit) × Hp} (hF : B_Reader_readMember_126 N p0 p1 p2 l3 l6 H = some r) : Mo H r.2 := by
  unfold B_Reader_readMember_126 at hF
  have hm := Mo.rf H
  obtain ⟨q67, hG⟩ := ck_s hF; clear hF
  obtain ⟨v69, H70, z68, hF⟩ := bC_s hG; clear hG
  replace hm : Mo H H70 := hm.tr ((m_Shapes_addMember z68)).mo
  have hr := Option.some.inj hF; subst hr
  exact hm
set_option maxRecDepth 20000 in
set_option maxHeartbeats 2000000 in
theorem kB_Reader_readMember_126 {N : Nat} {p0 : Nat} {p1 : Nat} {p2 : Int32} {c0 s0 C Sl : Nat} {l3 : Int32} {l6 : Nat} {H : Hp} {r : (Ot Unit) × Hp} (hF : B_Reader_readMember_126 N p0 p1 p2 l3 l6 H = some r) (hc0 : c0 ≤ H.sh.length) (hs0 : s0 ≤ H.sl) (hcc : H.sh.length ≤ c0 + C) (hss : H.sl ≤ s0 + Sl) (hC : r.2.sh.length ≤ c0 + C) (hS : r.2.sl ≤ s0 + Sl) : ab_V y_Reader_readMember { frames := 7, cells := C, slots := Sl, locals := 128 } (po (oV r.1) r.2) C Sl (H.sh.length - c0) (H.sl - s0) 126 [some (.ref p0), some (.ref p1), some (.int p2), some (.int l3), none, none, some (.ref l6)] [] (hpw H) := by
  unfold B_Reader_readMember_126 at hF
  refine ab_aload_n d_Reader_readMember_126 rfl rfl rfl ?_
  refine ab_aload d_Reader_readMember_127 rfl rfl ?_
  refine ab_iload_n d_Reader_readMember_129 rfl rfl ?_
  obtain ⟨q63, hG⟩ := ck_s hF; clear hF
  obtain ⟨v65, H66, z64, hF⟩ := bC_s hG; clear hG
  refine hp_callV_v (H1 := H66) (As := [.ref l6, .int l3]) (rest := []) d_Reader_readMember_130 (k_Shapes_addMember z64) (ab_mkC s_Shapes_addMember (Nat.le_of_ble_eq_true rfl) (Nat.le_of_ble_eq_true rfl) (show (H.sh.length - c0) + 0 ≤ C from by omega) (show (H.sl - s0) + 0 ≤ Sl from by omega)) (k5 47 rfl rfl) i_Shapes_addMember v_Shapes_addMember q63 (by decide) rfl rfl (Nat.le_of_ble_eq_true rfl) ?_
  have s_24 : Sa H H66 := (m_Shapes_addMember z64)
  refine ab_widen (cells' := H.sh.length - c0) (slots' := H.sl - s0) (by show (H.sh.length - c0) + 0 ≤ _; omega) (by show (H.sl - s0) + 0 ≤ _; omega) ?_
  exact ab_vret d_Reader_readMember_133 rfl (by show _ ≤ C; omega) (by show _ ≤ Sl; omega) (by have hr := Option.some.inj hF; subst hr; exact ⟨rfl, rfl⟩)
def B_Reader_readMember_80 (N : Nat) (p0 : Nat) (p1 : Nat) (p2 : Int32) (l3 : Int32) (l4 : Int32) (H : Hp) : Option ((Ot Unit) × Hp) :=
    ck (H.sh[p0]? = some (5, 0)) <|
    rf (H.P p0 0) fun a40 =>
    ck (H.sh[a40]? = some (1, 0)) <|
    bC (F_Lexer_advance N a40 H) fun v44 H45 =>
    rf (H45.P p0 0) fun a46 =>
    ck (H45.sh[a46]? = some (1, 0)) <|
    bnd ((H45.D a46 3)) fun x49 =>
    rf (H45.P p0 0) fun a50 =>
    ck (H45.sh[a50]? = some (1, 0)) <|
    bT (F_Lexer_takeName N a50 H45) fun v54 H55 =>
    on v54 fun a57 =>
    ck (H55.sh[p1]? = some (3, 0)) <|
    bC (F_Shapes_memberNamed N p1 l4 a57 H55) fun v60 H61 =>
    if v60 < (0 : Int32) then
    B_Reader_readMember_126 N p0 p1 p2 l3 a57 H61
    else
    rf (H61.P p0 0) fun a63 =>
    ck (H61.sh[a63]? = some (1, 0)) <|
    bT (F_Lexer_refuse N a63 (3 : Int32) x49 H61) fun v67 H68 =>
    B_Reader_readMember_126 N p0 p1 p2 l3 a57 H68
set_option maxRecDepth 20000 in
set_option maxHeartbeats 2000000 in
theorem mB_Reader_readMember_80 {N : Nat} {p0 : Nat} {p1 : Nat} {p2 : Int32} {l3 : Int32} {l4 : Int32} {H : Hp} {r : (Ot Unit) × Hp} (hF : B_Reader_readMember_80 N p0 p1 p2 l3 l4 H = some r) : Mo H r.2 := by
  unfold B_Reader_readMember_80 at hF
  have hm := Mo.rf H
  obtain ⟨q70, hG⟩ := ck_s hF; clear hF
  obtain ⟨a71, e72, hF⟩ := rf_s hG; clear hG
  obtain ⟨q73, hG⟩ := ck_s hF; clear hF
  obtain ⟨v75, H76, z74, hF⟩ := bC_s hG; clear hG
  replace hm : Mo H H76 := hm.tr ((m_Lexer_advance z74)).mo
  obtain ⟨a77, e78, hG⟩ := rf_s hF; clear hF
  obtain ⟨q79, hF⟩ := ck_s hG; clear hG
  obtain ⟨x80, -, hG⟩ := bnd_g hF; clear hF
  obtain ⟨a81, e82, hF⟩ := rf_s hG; clear hG
  obtain ⟨q83, hG⟩ := ck_s hF; clear hF
  refine bT_c hG (fun x87 H86 z84 er => ?_) (fun v85 H86 z84 hF => ?_)
  · subst er; exact hm.tr (m_Lexer_takeName z84)
  clear hG
  replace hm : Mo H H86 := hm.tr (m_Lexer_takeName z84)
  obtain ⟨a88, ea88, hG⟩ := on_s hF; clear hF
  subst ea88
  obtain ⟨q89, hF⟩ := ck_s hG; clear hG
  obtain ⟨v91, H92, z90, hG⟩ := bC_s hF; clear hF
  replace hm : Mo H H92 := hm.tr ((m_Shapes_memberNamed z90)).mo
  rcases ite_s hG with ⟨q_47, hF⟩ | ⟨q_47, hF⟩
  · clear hG
    exact hm.tr (mB_Reader_readMember_126 hF)
  · clear hG
    obtain ⟨a94, e95, hG⟩ := rf_s hF; clear hF
    obtain ⟨q96, hF⟩ := ck_s hG; clear hG
    refine bT_c hF (fun x100 H99 z97 er => ?_) (fun v98 H99 z97 hG => ?_)
    · subst er; exact hm.tr (m_Lexer_refuse z97)
    clear hF
    replace hm : Mo H H99 := hm.tr (m_Lexer_refuse z97)
    exact hm.tr (mB_Reader_readMember_126 hG)
set_option maxRecDepth 20000 in
set_option maxHeartbeats 2000000 in
theorem kB_Reader_readMember_80 {N : Nat} {p0 : Nat} {p1 : Nat} {p2 : Int32} {c0 s0 C Sl : Nat} {l3 : Int32} {l4 : Int32} {H : Hp} {r : (Ot Unit) × Hp} (hF : B_Reader_readMember_80 N p0 p1 p2 l3 l4 H = some r) (hc0 : c0 ≤ H.sh.length) (hs0 : s0 ≤ H.sl) (hcc : H.sh.length ≤ c0 + C) (hss : H.sl ≤ s0 + Sl) (hC : r.2.sh.length ≤ c0 + C) (hS : r.2.sl ≤ s0 + Sl) : ab_V y_Reader_readMember { frames := 7, cells := C, slots := Sl, locals := 128 } (po (oV r.1) r.2) C Sl (H.sh.length - c0) (H.sl - s0) 80 [some (.ref p0), some (.ref p1), some (.int p2), some (.int l3), some (.int l4), none, none] [] (hpw H) := by
  unfold B_Reader_readMember_80 at hF
  refine ab_aload_n d_Reader_readMember_80 rfl rfl rfl ?_
  obtain ⟨q39, hG⟩ := ck_s hF; clear hF
  obtain ⟨a40, e41, hF⟩ := rf_s hG; clear hG
  refine hp_getR (f := 0) d_Reader_readMember_81 q39 (by decide) rfl (by decide) (k1 179 rfl rfl) rfl e41 ?_
  obtain ⟨q42, hG⟩ := ck_s hF; clear hF
  obtain ⟨v44, H45, z43, hF⟩ := bC_s hG; clear hG
  refine hp_callV_v (H1 := H45) (As := []) (rest := []) d_Reader_readMember_84 (k_Lexer_advance z43) (ab_mkC s_Lexer_advance (Nat.le_of_ble_eq_true rfl) (Nat.le_of_ble_eq_true rfl) (show (H.sh.length - c0) + 0 ≤ C from by omega) (show (H.sl - s0) + 0 ≤ Sl from by omega)) (k4 167 rfl rfl) i_Lexer_advance v_Lexer_advance q42 (by decide) rfl rfl (Nat.le_of_ble_eq_true rfl) ?_
  have s_14 : Sa H H45 := (m_Lexer_advance z43)
  refine ab_widen (cells' := H.sh.length - c0) (slots' := H.sl - s0) (by show (H.sh.length - c0) + 0 ≤ _; omega) (by show (H.sl - s0) + 0 ≤ _; omega) ?_
  refine ab_aload_n d_Reader_readMember_87 rfl rfl rfl ?_
  obtain ⟨a46, e47, hG⟩ := rf_s hF; clear hF
  refine hp_getR (f := 0) d_Reader_readMember_88 (by rw [(s_14).1]; exact q39) (by decide) rfl (by decide) (k1 179 rfl rfl) rfl e47 ?_
  obtain ⟨q48, hF⟩ := ck_s hG; clear hG
  rw [(s_14).1] at q48
  refine hp_getI (f := 3) d_Reader_readMember_91 (by rw [(s_14).1]; exact q48) (by decide) rfl (by decide) (k1 101 rfl rfl) rfl ?_
  refine ab_topi (fun x49 ex49 => ?_)
  replace hF := bnd_s ex49 hF
  refine ab_istore (lv' := [some (.ref p0), some (.ref p1), some (.int p2), some (.int l3), some (.int l4), some (.int x49), none]) d_Reader_readMember_94 (by decide) rfl ?_
  refine ab_aload_n d_Reader_readMember_96 rfl rfl rfl ?_
  obtain ⟨a50, e51, hG⟩ := rf_s hF; clear hF
  refine hp_getR (f := 0) d_Reader_readMember_97 (by rw [(s_14).1]; exact q39) (by decide) rfl (by decide) (k1 179 rfl rfl) rfl e51 ?_
  obtain ⟨q52, hF⟩ := ck_s hG; clear hG
  rw [(s_14).1] at q52
  refine bT_c hF (fun x56 H55 z53 er => ?_) (fun v54 H55 z53 hG => ?_)
  · subst er
    refine ab_widen (cells' := H45.sh.length - c0) (slots' := H45.sl - s0) (by rw [(s_14).1]; exact Nat.le_refl _) (by rw [(s_14).2]; exact Nat.le_refl _) ?_
    have mz : Mo H45 H55 := (m_Lexer_takeName z53)
    have ml := mz.len
    have m2 := mz.2
    have be := congrArg List.length (s_14).1
    have bfx := (s_14).2
    have hC9 : H55.sh.length ≤ c0 + C := hC
    have hS9 : H55.sl ≤ s0 + Sl := hS
    refine hp_callV_t (x := x56) (H1 := H55) (As := []) (rest := []) d_Reader_readMember_100 (k_Lexer_takeName z53 (C := H55.sh.length - H45.sh.length) (Sl := H55.sl - H45.sl) (by show H55.sh.length ≤ _; omega) (by show H55.sl ≤ _; omega)) (ab_mkC s_Lexer_takeName (Nat.le_of_ble_eq_true rfl) (Nat.le_of_ble_eq_true rfl) (show (H45.sh.length - c0) + (H55.sh.length - H45.sh.length) ≤ C from by omega) (show (H45.sl - s0) + (H55.sl - H45.sl) ≤ Sl from by omega)) (k4 175 rfl rfl) i_Lexer_takeName v_Lexer_takeName (by rw [(s_14).1]; exact q52) (by decide) rfl rfl (Nat.le_of_ble_eq_true rfl) ?_
    exact ab_U_out rfl (by show _ + (H55.sh.length - H45.sh.length) ≤ C; omega) (by show _ + (H55.sl - H45.sl) ≤ Sl; omega) ⟨rfl, rfl⟩
  clear hF
  refine ab_widen (cells' := H45.sh.length - c0) (slots' := H45.sl - s0) (by rw [(s_14).1]; exact Nat.le_refl _) (by rw [(s_14).2]; exact Nat.le_refl _) ?_
  have mz_15 : Mo H45 H55 := (m_Lexer_takeName z53)
  have b_16l := (mz_15).len
  have b_16s := (mz_15).2
  have b_16e := congrArg List.length (s_14).1
  have b_16f := (s_14).2
  have b_16c : c0 ≤ H55.sh.length := by omega
  have b_16d : s0 ≤ H55.sl := by omega
  have q_17 := (mz_15).get (by rw [(s_14).1]; exact q39)
  have q_18 := (mz_15).get (by rw [(s_14).1]; exact q42)
  have q_19 := (mz_15).get (by rw [(s_14).1]; exact q48)
  have q_20 := (mz_15).get (by rw [(s_14).1]; exact q52)
  have mf_21 : Mo H55 r.2 := by
    have hm := Mo.rf H55
    obtain ⟨a57, ea57, hF⟩ := on_s hG; clear hG
    subst ea57
    obtain ⟨q58, hG⟩ := ck_s hF; clear hF
    obtain ⟨v60, H61, z59, hF⟩ := bC_s hG; clear hG
    replace hm : Mo H55 H61 := hm.tr ((m_Shapes_memberNamed z59)).mo
    rcases ite_s hF with ⟨q_22, hG⟩ | ⟨q_22, hG⟩
    · clear hF
      exact hm.tr (mB_Reader_readMember_126 hG)
    · clear hF
      obtain ⟨a71, e72, hF⟩ := rf_s hG; clear hG
      obtain ⟨q73, hG⟩ := ck_s hF; clear hF
      refine bT_c hG (fun x77 H76 z74 er => ?_) (fun v75 H76 z74 hF => ?_)
      · subst er; exact hm.tr (m_Lexer_refuse z74)
      clear hG
      replace hm : Mo H55 H76 := hm.tr (m_Lexer_refuse z74)
      exact hm.tr (mB_Reader_readMember_126 hF)
  have b_16m := (mf_21).len
  have b_16n := (mf_21).2
  have b_16p : H55.sh.length ≤ c0 + C := by omega
  have b_16q : H55.sl ≤ s0 + Sl := by omega
  refine hp_callV_a (v := ab_rf v54) (H1 := H55) (As := []) (rest := []) d_Reader_readMember_100 (k_Lexer_takeName z53 (C := H55.sh.length - H45.sh.length) (Sl := H55.sl - H45.sl) (by show H55.sh.length ≤ _; omega) (by show H55.sl ≤ _; omega)) (ab_mkC s_Lexer_takeName (Nat.le_of_ble_eq_true rfl) (Nat.le_of_ble_eq_true rfl) (show (H45.sh.length - c0) + (H55.sh.length - H45.sh.length) ≤ C from by omega) (show (H45.sl - s0) + (H55.sl - H45.sl) ≤ Sl from by omega)) (k4 175 rfl rfl) i_Lexer_takeName v_Lexer_takeName (by rw [(s_14).1]; exact q52) (by decide) rfl rfl (Nat.le_of_ble_eq_true rfl) ?_
  refine ab_widen (cells' := H55.sh.length - c0) (slots' := H55.sl - s0) (by show _ + (H55.sh.length - H45.sh.length) ≤ _; omega) (by show _ + (H55.sl - H45.sl) ≤ _; omega) ?_
  clear b_16l b_16s b_16m b_16n b_16e b_16f
  obtain ⟨a57, ea57, hF⟩ := on_s hG; clear hG
  subst ea57
  refine ab_astore (lv' := [some (.ref p0), some (.ref p1), some (.int p2), some (.int l3), some (.int l4), some (.int x49), some (.ref a57)]) d_Reader_readMember_103 (by decide) rfl rfl ?_
  refine ab_aload_n d_Reader_readMember_105 rfl rfl rfl ?_
  refine ab_iload d_Reader_readMember_106 rfl ?_
  refine ab_aload d_Reader_readMember_108 rfl rfl ?_
  obtain ⟨q58, hG⟩ := ck_s hF; clear hF
  obtain ⟨v60, H61, z59, hF⟩ := bC_s hG; clear hG
  refine hp_callV_a (v := .int v60) (H1 := H61) (As := [.int l4, .ref a57]) (rest := []) d_Reader_readMember_110 (k_Shapes_memberNamed z59) (ab_mkC s_Shapes_memberNamed (Nat.le_of_ble_eq_true rfl) (Nat.le_of_ble_eq_true rfl) (show (H55.sh.length - c0) + 0 ≤ C from by omega) (show (H55.sl - s0) + 0 ≤ Sl from by omega)) (k5 42 rfl rfl) i_Shapes_memberNamed v_Shapes_memberNamed q58 (by decide) rfl rfl (Nat.le_of_ble_eq_true rfl) ?_
  have s_33 : Sa H55 H61 := (m_Shapes_memberNamed z59)
  refine ab_widen (cells' := H55.sh.length - c0) (slots' := H55.sl - s0) (by show (H55.sh.length - c0) + 0 ≤ _; omega) (by show (H55.sl - s0) + 0 ≤ _; omega) ?_
  refine ab_if_lt (tgt := 126) d_Reader_readMember_113 (by decide) (fun q62 => ?_) (fun q62 => ?_)
  · rw [if_pos q62] at hF
    refine ab_le (lv' := [some (.ref p0), some (.ref p1), some (.int p2), some (.int l3), none, none, some (.ref a57)]) ⟨rfl, ⟨rfl, ⟨rfl, ⟨rfl, ⟨rfl, trivial⟩⟩⟩⟩⟩ ?_
    refine ab_widen (cells' := H61.sh.length - c0) (slots' := H61.sl - s0) (by rw [(s_33).1]; exact Nat.le_refl _) (by rw [(s_33).2]; exact Nat.le_refl _) ?_
    exact kB_Reader_readMember_126 hF (by rw [(s_33).1]; exact b_16c) (by rw [(s_33).2]; exact b_16d) (by rw [(s_33).1]; exact b_16p) (by rw [(s_33).2]; exact b_16q) hC hS
  · rw [if_neg q62] at hF
    refine ab_aload_n d_Reader_readMember_116 rfl rfl rfl ?_
    obtain ⟨a63, e64, hG⟩ := rf_s hF; clear hF
    refine hp_getR (f := 0) d_Reader_readMember_117 (by rw [(s_33).1]; exact q_17) (by decide) rfl (by decide) (k1 179 rfl rfl) rfl e64 ?_
    refine ab_iconst (v := 3) d_Reader_readMember_120 (by decide) ?_
    refine ab_iload d_Reader_readMember_121 rfl ?_
    obtain ⟨q65, hF⟩ := ck_s hG; clear hG
    rw [(s_33).1] at q65
    refine bT_c hF (fun x69 H68 z66 er => ?_) (fun v67 H68 z66 hG => ?_)
    · subst er
      refine ab_widen (cells' := H61.sh.length - c0) (slots' := H61.sl - s0) (by rw [(s_33).1]; exact Nat.le_refl _) (by rw [(s_33).2]; exact Nat.le_refl _) ?_
      have mz : Mo H61 H68 := (m_Lexer_refuse z66)
      have ml := mz.len
      have m2 := mz.2
      have be := congrArg List.length (s_33).1
      have bfx := (s_33).2
      have hC9 : H68.sh.length ≤ c0 + C := hC
      have hS9 : H68.sl ≤ s0 + Sl := hS
      refine hp_callV_t (x := x69) (H1 := H68) (As := [.int 3, .int x49]) (rest := []) d_Reader_readMember_123 (k_Lexer_refuse z66 (C := H68.sh.length - H61.sh.length) (Sl := H68.sl - H61.sl) (by show H68.sh.length ≤ _; omega) (by show H68.sl ≤ _; omega)) (ab_mkC s_Lexer_refuse (Nat.le_of_ble_eq_true rfl) (Nat.le_of_ble_eq_true rfl) (show (H61.sh.length - c0) + (H68.sh.length - H61.sh.length) ≤ C from by omega) (show (H61.sl - s0) + (H68.sl - H61.sl) ≤ Sl from by omega)) (k4 97 rfl rfl) i_Lexer_refuse v_Lexer_refuse (by rw [(s_33).1]; exact q65) (by decide) rfl rfl (Nat.le_of_ble_eq_true rfl) ?_
      exact ab_U_out rfl (by show _ + (H68.sh.length - H61.sh.length) ≤ C; omega) (by show _ + (H68.sl - H61.sl) ≤ Sl; omega) ⟨rfl, rfl⟩
    clear hF
    refine ab_widen (cells' := H61.sh.length - c0) (slots' := H61.sl - s0) (by rw [(s_33).1]; exact Nat.le_refl _) (by rw [(s_33).2]; exact Nat.le_refl _) ?_
    have mz_34 : Mo H61 H68 := (m_Lexer_refuse z66)
    have b_35l := (mz_34).len
    have b_35s := (mz_34).2
    have b_35e := congrArg List.length (s_33).1
    have b_35f := (s_33).2
    have b_35c : c0 ≤ H68.sh.length := by omega
    have b_35d : s0 ≤ H68.sl := by omega
    have q_36 := (mz_34).get (by rw [(s_33).1]; exact q_17)
    have q_37 := (mz_34).get (by rw [(s_33).1]; exact q_18)
    have q_38 := (mz_34).get (by rw [(s_33).1]; exact q_19)
    have q_39 := (mz_34).get (by rw [(s_33).1]; exact q_20)
    have q_40 := (mz_34).get (by rw [(s_33).1]; exact q58)
    have q_41 := (mz_34).get (by rw [(s_33).1]; exact q65)
    have fH68 : Mo H68 r.2 := by
      have hm := Mo.rf H68
      exact hm.tr (mB_Reader_readMember_126 hG)
    have b_35m := (fH68).len
    have b_35n := (fH68).2
    have b_35p : H68.sh.length ≤ c0 + C := by omega
    have b_35q : H68.sl ≤ s0 + Sl := by omega
    refine hp_callV_v (H1 := H68) (As := [.int 3, .int x49]) (rest := []) d_Reader_readMember_123 (k_Lexer_refuse z66 (C := H68.sh.length - H61.sh.length) (Sl := H68.sl - H61.sl) (by show H68.sh.length ≤ _; omega) (by show H68.sl ≤ _; omega)) (ab_mkC s_Lexer_refuse (Nat.le_of_ble_eq_true rfl) (Nat.le_of_ble_eq_true rfl) (show (H61.sh.length - c0) + (H68.sh.length - H61.sh.length) ≤ C from by omega) (show (H61.sl - s0) + (H68.sl - H61.sl) ≤ Sl from by omega)) (k4 97 rfl rfl) i_Lexer_refuse v_Lexer_refuse (by rw [(s_33).1]; exact q65) (by decide) rfl rfl (Nat.le_of_ble_eq_true rfl) ?_
    refine ab_widen (cells' := H68.sh.length - c0) (slots' := H68.sl - s0) (by show _ + (H68.sh.length - H61.sh.length) ≤ _; omega) (by show _ + (H68.sl - H61.sl) ≤ _; omega) ?_
    clear b_35l b_35s b_35m b_35n b_35e b_35f b_16c b_16d b_16p b_16q
    refine ab_le (lv' := [some (.ref p0), some (.ref p1), some (.int p2), some (.int l3), none, none, some (.ref a57)]) ⟨rfl, ⟨rfl, ⟨rfl, ⟨rfl, ⟨rfl, trivial⟩⟩⟩⟩⟩ ?_
    exact kB_Reader_readMember_126 hG b_35c b_35d b_35p b_35q hC hS
def B_Reader_readMember_65 (N : Nat) (p0 : Nat) (p1 : Nat) (p2 : Int32) (l3 : Int32) (l4 : Int32) (H : Hp) : Option ((Ot Unit) × Hp) :=
    ck (H.sh[p0]? = some (5, 0)) <|
    rf (H.P p0 0) fun a28 =>
    rf (H.P p0 0) fun a30 =>
    ck (H.sh[a30]? = some (1, 0)) <|
    bnd ((H.D a30 3)) fun x33 =>
    ck (H.sh[a28]? = some (1, 0)) <|
    bT (F_Lexer_refuse N a28 (2 : Int32) x33 H) fun v36 H37 =>
    B_Reader_readMember_80 N p0 p1 p2 l3 l4 H37
set_option maxRecDepth 20000 in
set_option maxHeartbeats 2000000 in
theorem mB_Reader_readMember_65 {N : Nat} {p0 : Nat} {p1 : Nat} {p2 : Int32} {l3 : Int32} {l4 : Int32} {H : Hp} {r : (Ot Unit) × Hp} (hF : B_Reader_readMember_65 N p0 p1 p2 l3 l4 H = some r) : Mo H r.2 := by
  unfold B_Reader_readMember_65 at hF
  have hm := Mo.rf H
  obtain ⟨q39, hG⟩ := ck_s hF; clear hF
  obtain ⟨a40, e41, hF⟩ := rf_s hG; clear hG
  obtain ⟨a42, e43, hG⟩ := rf_s hF; clear hF
  obtain ⟨q44, hF⟩ := ck_s hG; clear hG
  obtain ⟨x45, -, hG⟩ := bnd_g hF; clear hF
  obtain ⟨q46, hF⟩ := ck_s hG; clear hG
  refine bT_c hF (fun x50 H49 z47 er => ?_) (fun v48 H49 z47 hG => ?_)
  · subst er; exact hm.tr (m_Lexer_refuse z47)
  clear hF
  replace hm : Mo H H49 := hm.tr (m_Lexer_refuse z47)
  exact hm.tr (mB_Reader_readMember_80 hG)
set_option maxRecDepth 20000 in
set_option maxHeartbeats 2000000 in
theorem kB_Reader_readMember_65 {N : Nat} {p0 : Nat} {p1 : Nat} {p2 : Int32} {c0 s0 C Sl : Nat} {l3 : Int32} {l4 : Int32} {H : Hp} {r : (Ot Unit) × Hp} (hF : B_Reader_readMember_65 N p0 p1 p2 l3 l4 H = some r) (hc0 : c0 ≤ H.sh.length) (hs0 : s0 ≤ H.sl) (hcc : H.sh.length ≤ c0 + C) (hss : H.sl ≤ s0 + Sl) (hC : r.2.sh.length ≤ c0 + C) (hS : r.2.sl ≤ s0 + Sl) : ab_V y_Reader_readMember { frames := 7, cells := C, slots := Sl, locals := 128 } (po (oV r.1) r.2) C Sl (H.sh.length - c0) (H.sl - s0) 65 [some (.ref p0), some (.ref p1), some (.int p2), some (.int l3), some (.int l4), none, none] [] (hpw H) := by
  unfold B_Reader_readMember_65 at hF
  refine ab_aload_n d_Reader_readMember_65 rfl rfl rfl ?_
  obtain ⟨q27, hG⟩ := ck_s hF; clear hF
  obtain ⟨a28, e29, hF⟩ := rf_s hG; clear hG
  refine hp_getR (f := 0) d_Reader_readMember_66 q27 (by decide) rfl (by decide) (k1 179 rfl rfl) rfl e29 ?_
  refine ab_iconst (v := 2) d_Reader_readMember_69 (by decide) ?_
  refine ab_aload_n d_Reader_readMember_70 rfl rfl rfl ?_
  obtain ⟨a30, e31, hG⟩ := rf_s hF; clear hF
  refine hp_getR (f := 0) d_Reader_readMember_71 q27 (by decide) rfl (by decide) (k1 179 rfl rfl) rfl e31 ?_
  obtain ⟨q32, hF⟩ := ck_s hG; clear hG
  refine hp_getI (f := 3) d_Reader_readMember_74 q32 (by decide) rfl (by decide) (k1 101 rfl rfl) rfl ?_
  refine ab_topi (fun x33 ex33 => ?_)
  replace hF := bnd_s ex33 hF
  obtain ⟨q34, hG⟩ := ck_s hF; clear hF
  refine bT_c hG (fun x38 H37 z35 er => ?_) (fun v36 H37 z35 hF => ?_)
  · subst er
    have mz : Mo H H37 := (m_Lexer_refuse z35)
    have ml := mz.len
    have m2 := mz.2
    have hC9 : H37.sh.length ≤ c0 + C := hC
    have hS9 : H37.sl ≤ s0 + Sl := hS
    refine hp_callV_t (x := x38) (H1 := H37) (As := [.int 2, .int x33]) (rest := []) d_Reader_readMember_77 (k_Lexer_refuse z35 (C := H37.sh.length - H.sh.length) (Sl := H37.sl - H.sl) (by show H37.sh.length ≤ _; omega) (by show H37.sl ≤ _; omega)) (ab_mkC s_Lexer_refuse (Nat.le_of_ble_eq_true rfl) (Nat.le_of_ble_eq_true rfl) (show (H.sh.length - c0) + (H37.sh.length - H.sh.length) ≤ C from by omega) (show (H.sl - s0) + (H37.sl - H.sl) ≤ Sl from by omega)) (k4 97 rfl rfl) i_Lexer_refuse v_Lexer_refuse q34 (by decide) rfl rfl (Nat.le_of_ble_eq_true rfl) ?_
    exact ab_U_out rfl (by show _ + (H37.sh.length - H.sh.length) ≤ C; omega) (by show _ + (H37.sl - H.sl) ≤ Sl; omega) ⟨rfl, rfl⟩
  clear hG
  have mz_8 : Mo H H37 := (m_Lexer_refuse z35)
  have b_9l := (mz_8).len
  have b_9s := (mz_8).2
  have b_9c : c0 ≤ H37.sh.length := by omega
  have b_9d : s0 ≤ H37.sl := by omega
  have q_10 := (mz_8).get q27
  have q_11 := (mz_8).get q32
  have q_12 := (mz_8).get q34
  have fH37 : Mo H37 r.2 := by
    have hm := Mo.rf H37
    exact hm.tr (mB_Reader_readMember_80 hF)
  have b_9m := (fH37).len
  have b_9n := (fH37).2
  have b_9p : H37.sh.length ≤ c0 + C := by omega
  have b_9q : H37.sl ≤ s0 + Sl := by omega
  refine hp_callV_v (H1 := H37) (As := [.int 2, .int x33]) (rest := []) d_Reader_readMember_77 (k_Lexer_refuse z35 (C := H37.sh.length - H.sh.length) (Sl := H37.sl - H.sl) (by show H37.sh.length ≤ _; omega) (by show H37.sl ≤ _; omega)) (ab_mkC s_Lexer_refuse (Nat.le_of_ble_eq_true rfl) (Nat.le_of_ble_eq_true rfl) (show (H.sh.length - c0) + (H37.sh.length - H.sh.length) ≤ C from by omega) (show (H.sl - s0) + (H37.sl - H.sl) ≤ Sl from by omega)) (k4 97 rfl rfl) i_Lexer_refuse v_Lexer_refuse q34 (by decide) rfl rfl (Nat.le_of_ble_eq_true rfl) ?_
  refine ab_widen (cells' := H37.sh.length - c0) (slots' := H37.sl - s0) (by show _ + (H37.sh.length - H.sh.length) ≤ _; omega) (by show _ + (H37.sl - H.sl) ≤ _; omega) ?_
  clear b_9l b_9s b_9m b_9n
  exact kB_Reader_readMember_80 hF b_9c b_9d b_9p b_9q hC hS
def B_Reader_readMember_35 (N : Nat) (p0 : Nat) (p1 : Nat) (p2 : Int32) (l3 : Int32) (H : Hp) : Option ((Ot Unit) × Hp) :=
    ck (H.sh[p1]? = some (3, 0)) <|
    bnd ((H.D p1 3)) fun x21 =>
    bnd ((x21 - (1 : Int32))) fun x22 =>
    bC (F_Shapes_sizeOf N p1 x22 H) fun v24 H25 =>
    if p2 ≤ v24 then
    B_Reader_readMember_65 N p0 p1 p2 l3 x22 H25
    else
    bC (F_Shapes_total N p1 H25) fun v52 H53 =>
    rf (H53.P p1 1) fun a54 =>
    ar H53 106 a54 fun n56 =>
    if v52 < (Int32.ofNat n56) then
    B_Reader_readMember_80 N p0 p1 p2 l3 x22 H53
    else
    B_Reader_readMember_65 N p0 p1 p2 l3 x22 H53
set_option maxRecDepth 20000 in
set_option maxHeartbeats 2000000 in
theorem mB_Reader_readMember_35 {N : Nat} {p0 : Nat} {p1 : Nat} {p2 : Int32} {l3 : Int32} {H : Hp} {r : (Ot Unit) × Hp} (hF : B_Reader_readMember_35 N p0 p1 p2 l3 H = some r) : Mo H r.2 := by
  unfold B_Reader_readMember_35 at hF
  have hm := Mo.rf H
  obtain ⟨q59, hG⟩ := ck_s hF; clear hF
  obtain ⟨x60, -, hF⟩ := bnd_g hG; clear hG
  obtain ⟨x61, -, hG⟩ := bnd_g hF; clear hF
  obtain ⟨v63, H64, z62, hF⟩ := bC_s hG; clear hG
  replace hm : Mo H H64 := hm.tr ((m_Shapes_sizeOf z62)).mo
  rcases ite_s hF with ⟨q_61, hG⟩ | ⟨q_61, hG⟩
  · clear hF
    exact hm.tr (mB_Reader_readMember_65 hG)
  · clear hF
    obtain ⟨v67, H68, z66, hF⟩ := bC_s hG; clear hG
    replace hm : Mo H H68 := hm.tr ((m_Shapes_total z66)).mo
    obtain ⟨a69, e70, hG⟩ := rf_s hF; clear hF
    obtain ⟨n71, q72, hF⟩ := ar_s hG; clear hG
    rcases ite_s hF with ⟨q_62, hG⟩ | ⟨q_62, hG⟩
    · clear hF
      exact hm.tr (mB_Reader_readMember_80 hG)
    · clear hF
      exact hm.tr (mB_Reader_readMember_65 hG)
set_option maxRecDepth 20000 in
set_option maxHeartbeats 2000000 in
theorem kB_Reader_readMember_35 {N : Nat} {p0 : Nat} {p1 : Nat} {p2 : Int32} {c0 s0 C Sl : Nat} {l3 : Int32} {H : Hp} {r : (Ot Unit) × Hp} (hF : B_Reader_readMember_35 N p0 p1 p2 l3 H = some r) (hc0 : c0 ≤ H.sh.length) (hs0 : s0 ≤ H.sl) (hcc : H.sh.length ≤ c0 + C) (hss : H.sl ≤ s0 + Sl) (hC : r.2.sh.length ≤ c0 + C) (hS : r.2.sl ≤ s0 + Sl) : ab_V y_Reader_readMember { frames := 7, cells := C, slots := Sl, locals := 128 } (po (oV r.1) r.2) C Sl (H.sh.length - c0) (H.sl - s0) 35 [some (.ref p0), some (.ref p1), some (.int p2), some (.int l3), none, none, none] [] (hpw H) := by
  unfold B_Reader_readMember_35 at hF
  refine ab_aload_n d_Reader_readMember_35 rfl rfl rfl ?_
  obtain ⟨q20, hG⟩ := ck_s hF; clear hF
  refine hp_getI (f := 3) d_Reader_readMember_36 q20 (by decide) rfl (by decide) (k3 41 rfl rfl) rfl ?_
  refine ab_topi (fun x21 ex21 => ?_)
  replace hG := bnd_s ex21 hG
  refine ab_iconst (v := 1) d_Reader_readMember_39 (by decide) ?_
  refine ab_isub d_Reader_readMember_40 ?_
  refine ab_topi (fun x22 ex22 => ?_)
  replace hG := bnd_s ex22 hG
  refine ab_istore (lv' := [some (.ref p0), some (.ref p1), some (.int p2), some (.int l3), some (.int x22), none, none]) d_Reader_readMember_41 (by decide) rfl ?_
  refine ab_aload_n d_Reader_readMember_43 rfl rfl rfl ?_
  refine ab_iload d_Reader_readMember_44 rfl ?_
  obtain ⟨v24, H25, z23, hF⟩ := bC_s hG; clear hG
  refine hp_callV_a (v := .int v24) (H1 := H25) (As := [.int x22]) (rest := []) d_Reader_readMember_46 (k_Shapes_sizeOf z23) (ab_mkC s_Shapes_sizeOf (Nat.le_of_ble_eq_true rfl) (Nat.le_of_ble_eq_true rfl) (show (H.sh.length - c0) + 0 ≤ C from by omega) (show (H.sl - s0) + 0 ≤ Sl from by omega)) (k5 34 rfl rfl) i_Shapes_sizeOf v_Shapes_sizeOf q20 (by decide) rfl rfl (Nat.le_of_ble_eq_true rfl) ?_
  have s_7 : Sa H H25 := (m_Shapes_sizeOf z23)
  refine ab_widen (cells' := H.sh.length - c0) (slots' := H.sl - s0) (by show (H.sh.length - c0) + 0 ≤ _; omega) (by show (H.sl - s0) + 0 ≤ _; omega) ?_
  refine ab_iload_n d_Reader_readMember_49 rfl rfl ?_
  refine ab_icmp_ge (tgt := 65) d_Reader_readMember_50 (by decide) (fun q26 => ?_) (fun q26 => ?_)
  · rw [if_pos q26] at hF
    refine ab_widen (cells' := H25.sh.length - c0) (slots' := H25.sl - s0) (by rw [(s_7).1]; exact Nat.le_refl _) (by rw [(s_7).2]; exact Nat.le_refl _) ?_
    exact kB_Reader_readMember_65 hF (by rw [(s_7).1]; exact hc0) (by rw [(s_7).2]; exact hs0) (by rw [(s_7).1]; exact hcc) (by rw [(s_7).2]; exact hss) hC hS
  · rw [if_neg q26] at hF
    refine ab_aload_n d_Reader_readMember_53 rfl rfl rfl ?_
    obtain ⟨v52, H53, z51, hG⟩ := bC_s hF; clear hF
    refine ab_widen (cells' := H25.sh.length - c0) (slots' := H25.sl - s0) (by rw [(s_7).1]; exact Nat.le_refl _) (by rw [(s_7).2]; exact Nat.le_refl _) ?_
    have b_59e := congrArg List.length (s_7).1
    have b_59f := (s_7).2
    refine hp_callV_a (v := .int v52) (H1 := H53) (As := []) (rest := []) d_Reader_readMember_54 (k_Shapes_total z51) (ab_mkC s_Shapes_total (Nat.le_of_ble_eq_true rfl) (Nat.le_of_ble_eq_true rfl) (show (H25.sh.length - c0) + 0 ≤ C from by omega) (show (H25.sl - s0) + 0 ≤ Sl from by omega)) (k5 38 rfl rfl) i_Shapes_total v_Shapes_total (by rw [(s_7).1]; exact q20) (by decide) rfl rfl (Nat.le_of_ble_eq_true rfl) ?_
    have s_60 : Sa H H53 := (s_7).tr (m_Shapes_total z51)
    refine ab_widen (cells' := H.sh.length - c0) (slots' := H.sl - s0) (by show (H25.sh.length - c0) + 0 ≤ _; omega) (by show (H25.sl - s0) + 0 ≤ _; omega) ?_
    clear b_59e b_59f
    refine ab_aload_n d_Reader_readMember_57 rfl rfl rfl ?_
    obtain ⟨a54, e55, hF⟩ := rf_s hG; clear hG
    refine hp_getR (f := 1) d_Reader_readMember_58 (by rw [(s_60).1]; exact q20) (by decide) rfl (by decide) (k3 28 rfl rfl) rfl e55 ?_
    obtain ⟨n56, q57, hG⟩ := ar_s hF; clear hF
    rw [(s_60).1] at q57
    refine hp_alen (q := 106) d_Reader_readMember_61 (by rw [(s_60).1]; exact q57) (Or.inr ⟨by decide, rfl⟩) tN ?_
    refine ab_icmp_lt (tgt := 80) d_Reader_readMember_62 (by decide) (fun q58 => ?_) (fun q58 => ?_)
    · rw [if_pos q58] at hG
      refine ab_widen (cells' := H53.sh.length - c0) (slots' := H53.sl - s0) (by rw [(s_60).1]; exact Nat.le_refl _) (by rw [(s_60).2]; exact Nat.le_refl _) ?_
      exact kB_Reader_readMember_80 hG (by rw [(s_60).1]; exact hc0) (by rw [(s_60).2]; exact hs0) (by rw [(s_60).1]; exact hcc) (by rw [(s_60).2]; exact hss) hC hS
    · rw [if_neg q58] at hG
      refine ab_widen (cells' := H53.sh.length - c0) (slots' := H53.sl - s0) (by rw [(s_60).1]; exact Nat.le_refl _) (by rw [(s_60).2]; exact Nat.le_refl _) ?_
      exact kB_Reader_readMember_65 hG (by rw [(s_60).1]; exact hc0) (by rw [(s_60).2]; exact hs0) (by rw [(s_60).1]; exact hcc) (by rw [(s_60).2]; exact hss) hC hS
def B_Reader_readMember_20 (N : Nat) (p0 : Nat) (p1 : Nat) (p2 : Int32) (l3 : Int32) (H : Hp) : Option ((Ot Unit) × Hp) :=
    ck (H.sh[p0]? = some (5, 0)) <|
    rf (H.P p0 0) fun a9 =>
    rf (H.P p0 0) fun a11 =>
    ck (H.sh[a11]? = some (1, 0)) <|
    bnd ((H.D a11 3)) fun x14 =>
    ck (H.sh[a9]? = some (1, 0)) <|
    bT (F_Lexer_refuse N a9 (1 : Int32) x14 H) fun v17 H18 =>
    B_Reader_readMember_35 N p0 p1 p2 l3 H18
set_option maxRecDepth 20000 in
set_option maxHeartbeats 2000000 in
theorem mB_Reader_readMember_20 {N : Nat} {p0 : Nat} {p1 : Nat} {p2 : Int32} {l3 : Int32} {H : Hp} {r : (Ot Unit) × Hp} (hF : B_Reader_readMember_20 N p0 p1 p2 l3 H = some r) : Mo H r.2 := by
  unfold B_Reader_readMember_20 at hF
  have hm := Mo.rf H
  obtain ⟨q20, hG⟩ := ck_s hF; clear hF
  obtain ⟨a21, e22, hF⟩ := rf_s hG; clear hG
  obtain ⟨a23, e24, hG⟩ := rf_s hF; clear hF
  obtain ⟨q25, hF⟩ := ck_s hG; clear hG
  obtain ⟨x26, -, hG⟩ := bnd_g hF; clear hF
  obtain ⟨q27, hF⟩ := ck_s hG; clear hG
  refine bT_c hF (fun x31 H30 z28 er => ?_) (fun v29 H30 z28 hG => ?_)
  · subst er; exact hm.tr (m_Lexer_refuse z28)
  clear hF
  replace hm : Mo H H30 := hm.tr (m_Lexer_refuse z28)
  exact hm.tr (mB_Reader_readMember_35 hG)
set_option maxRecDepth 20000 in
set_option maxHeartbeats 2000000 in
theorem kB_Reader_readMember_20 {N : Nat} {p0 : Nat} {p1 : Nat} {p2 : Int32} {c0 s0 C Sl : Nat} {l3 : Int32} {H : Hp} {r : (Ot Unit) × Hp} (hF : B_Reader_readMember_20 N p0 p1 p2 l3 H = some r) (hc0 : c0 ≤ H.sh.length) (hs0 : s0 ≤ H.sl) (hcc : H.sh.length ≤ c0 + C) (hss : H.sl ≤ s0 + Sl) (hC : r.2.sh.length ≤ c0 + C) (hS : r.2.sl ≤ s0 + Sl) : ab_V y_Reader_readMember { frames := 7, cells := C, slots := Sl, locals := 128 } (po (oV r.1) r.2) C Sl (H.sh.length - c0) (H.sl - s0) 20 [some (.ref p0), some (.ref p1), some (.int p2), some (.int l3), none, none, none] [] (hpw H) := by
  unfold B_Reader_readMember_20 at hF
  refine ab_aload_n d_Reader_readMember_20 rfl rfl rfl ?_
  obtain ⟨q8, hG⟩ := ck_s hF; clear hF
  obtain ⟨a9, e10, hF⟩ := rf_s hG; clear hG
  refine hp_getR (f := 0) d_Reader_readMember_21 q8 (by decide) rfl (by decide) (k1 179 rfl rfl) rfl e10 ?_
  refine ab_iconst (v := 1) d_Reader_readMember_24 (by decide) ?_
  refine ab_aload_n d_Reader_readMember_25 rfl rfl rfl ?_
  obtain ⟨a11, e12, hG⟩ := rf_s hF; clear hF
  refine hp_getR (f := 0) d_Reader_readMember_26 q8 (by decide) rfl (by decide) (k1 179 rfl rfl) rfl e12 ?_
  obtain ⟨q13, hF⟩ := ck_s hG; clear hG
  refine hp_getI (f := 3) d_Reader_readMember_29 q13 (by decide) rfl (by decide) (k1 101 rfl rfl) rfl ?_
  refine ab_topi (fun x14 ex14 => ?_)
  replace hF := bnd_s ex14 hF
  obtain ⟨q15, hG⟩ := ck_s hF; clear hF
  refine bT_c hG (fun x19 H18 z16 er => ?_) (fun v17 H18 z16 hF => ?_)
  · subst er
    have mz : Mo H H18 := (m_Lexer_refuse z16)
    have ml := mz.len
    have m2 := mz.2
    have hC9 : H18.sh.length ≤ c0 + C := hC
    have hS9 : H18.sl ≤ s0 + Sl := hS
    refine hp_callV_t (x := x19) (H1 := H18) (As := [.int 1, .int x14]) (rest := []) d_Reader_readMember_32 (k_Lexer_refuse z16 (C := H18.sh.length - H.sh.length) (Sl := H18.sl - H.sl) (by show H18.sh.length ≤ _; omega) (by show H18.sl ≤ _; omega)) (ab_mkC s_Lexer_refuse (Nat.le_of_ble_eq_true rfl) (Nat.le_of_ble_eq_true rfl) (show (H.sh.length - c0) + (H18.sh.length - H.sh.length) ≤ C from by omega) (show (H.sl - s0) + (H18.sl - H.sl) ≤ Sl from by omega)) (k4 97 rfl rfl) i_Lexer_refuse v_Lexer_refuse q15 (by decide) rfl rfl (Nat.le_of_ble_eq_true rfl) ?_
    exact ab_U_out rfl (by show _ + (H18.sh.length - H.sh.length) ≤ C; omega) (by show _ + (H18.sl - H.sl) ≤ Sl; omega) ⟨rfl, rfl⟩
  clear hG
  have mz_1 : Mo H H18 := (m_Lexer_refuse z16)
  have b_2l := (mz_1).len
  have b_2s := (mz_1).2
  have b_2c : c0 ≤ H18.sh.length := by omega
  have b_2d : s0 ≤ H18.sl := by omega
  have q_3 := (mz_1).get q8
  have q_4 := (mz_1).get q13
  have q_5 := (mz_1).get q15
  have fH18 : Mo H18 r.2 := by
    have hm := Mo.rf H18
    exact hm.tr (mB_Reader_readMember_35 hF)
  have b_2m := (fH18).len
  have b_2n := (fH18).2
  have b_2p : H18.sh.length ≤ c0 + C := by omega
  have b_2q : H18.sl ≤ s0 + Sl := by omega
  refine hp_callV_v (H1 := H18) (As := [.int 1, .int x14]) (rest := []) d_Reader_readMember_32 (k_Lexer_refuse z16 (C := H18.sh.length - H.sh.length) (Sl := H18.sl - H.sl) (by show H18.sh.length ≤ _; omega) (by show H18.sl ≤ _; omega)) (ab_mkC s_Lexer_refuse (Nat.le_of_ble_eq_true rfl) (Nat.le_of_ble_eq_true rfl) (show (H.sh.length - c0) + (H18.sh.length - H.sh.length) ≤ C from by omega) (show (H.sl - s0) + (H18.sl - H.sl) ≤ Sl from by omega)) (k4 97 rfl rfl) i_Lexer_refuse v_Lexer_refuse q15 (by decide) rfl rfl (Nat.le_of_ble_eq_true rfl) ?_
  refine ab_widen (cells' := H18.sh.length - c0) (slots' := H18.sl - s0) (by show _ + (H18.sh.length - H.sh.length) ≤ _; omega) (by show _ + (H18.sl - H.sl) ≤ _; omega) ?_
  clear b_2l b_2s b_2m b_2n
  exact kB_Reader_readMember_35 hF b_2c b_2d b_2p b_2q hC hS
def F_Reader_readMember (N : Nat) (p0 : Nat) (p1 : Nat) (p2 : Int32) (H : Hp) : Option ((Ot Unit) × Hp) :=
    ck (H.sh[p0]? = some (5, 0)) <|
    rf (H.P p0 0) fun a2 =>
    ck (H.sh[a2]? = some (1, 0)) <|
    bnd ((H.D a2 2)) fun x5 =>
    bnd ((x5 - (49 : Int32))) fun x6 =>
    if x6 < (0 : Int32) then
    B_Reader_readMember_20 N p0 p1 p2 x6 H
    else
    if x6 ≤ (4 : Int32) then
    B_Reader_readMember_35 N p0 p1 p2 x6 H
    else
    B_Reader_readMember_20 N p0 p1 p2 x6 H
set_option maxRecDepth 20000 in
set_option maxHeartbeats 2000000 in
theorem m_Reader_readMember {N : Nat} {p0 : Nat} {p1 : Nat} {p2 : Int32} {H : Hp} {r : (Ot Unit) × Hp} (hF : F_Reader_readMember N p0 p1 p2 H = some r) : Mo H r.2 := by
  unfold F_Reader_readMember at hF
  have hm := Mo.rf H
  obtain ⟨q33, hG⟩ := ck_s hF; clear hF
  obtain ⟨a34, e35, hF⟩ := rf_s hG; clear hG
  obtain ⟨q36, hG⟩ := ck_s hF; clear hF
  obtain ⟨x37, -, hF⟩ := bnd_g hG; clear hG
  obtain ⟨x38, -, hG⟩ := bnd_g hF; clear hF
  rcases ite_s hG with ⟨q_67, hF⟩ | ⟨q_67, hF⟩
  · clear hG
    exact hm.tr (mB_Reader_readMember_20 hF)
  · clear hG
    rcases ite_s hF with ⟨q_68, hG⟩ | ⟨q_68, hG⟩
    · clear hF
      exact hm.tr (mB_Reader_readMember_35 hG)
    · clear hF
      exact hm.tr (mB_Reader_readMember_20 hG)
set_option maxRecDepth 20000 in
set_option maxHeartbeats 2000000 in
theorem k_Reader_readMember {N : Nat} {p0 : Nat} {p1 : Nat} {p2 : Int32} {H : Hp} {r : (Ot Unit) × Hp} {C Sl : Nat} (hF : F_Reader_readMember N p0 p1 p2 H = some r) (hC : r.2.sh.length ≤ H.sh.length + C) (hS : r.2.sl ≤ H.sl + Sl) : ab_M y_Reader_readMember { frames := 7, cells := C, slots := Sl, locals := 128 } [.ref p0, .ref p1, .int p2] (hpw H) (po (oV r.1) r.2) := by
  unfold F_Reader_readMember at hF
  obtain ⟨c0, e0⟩ : ∃ q, q = H.sh.length := ⟨_, rfl⟩
  obtain ⟨s0, e1⟩ : ∃ q, q = H.sl := ⟨_, rfl⟩
  rw [← e0] at hC
  rw [← e1] at hS
  have hc0 : c0 ≤ H.sh.length := Nat.le_of_eq e0
  have hs0 : s0 ≤ H.sl := Nat.le_of_eq e1
  have hcc : H.sh.length ≤ c0 + C := by omega
  have hss : H.sl ≤ s0 + Sl := by omega
  refine ab_of2 (lv := [some (.ref p0), some (.ref p1), some (.int p2), none, none, none, none]) 4 rfl rfl (Nat.le_of_ble_eq_true rfl) ?_
  refine ab_widen (cells' := H.sh.length - c0) (slots' := H.sl - s0) (Nat.zero_le _) (Nat.zero_le _) ?_
  refine ab_aload_n d_Reader_readMember_0 rfl rfl rfl ?_
  obtain ⟨q1, hG⟩ := ck_s hF; clear hF
  obtain ⟨a2, e3, hF⟩ := rf_s hG; clear hG
  refine hp_getR (f := 0) d_Reader_readMember_1 q1 (by decide) rfl (by decide) (k1 179 rfl rfl) rfl e3 ?_
  obtain ⟨q4, hG⟩ := ck_s hF; clear hF
  refine hp_getI (f := 2) d_Reader_readMember_4 q4 (by decide) rfl (by decide) (k1 98 rfl rfl) rfl ?_
  refine ab_topi (fun x5 ex5 => ?_)
  replace hG := bnd_s ex5 hG
  refine ab_bipush (v := 49) d_Reader_readMember_7 (by decide) ?_
  refine ab_isub d_Reader_readMember_9 ?_
  refine ab_topi (fun x6 ex6 => ?_)
  replace hG := bnd_s ex6 hG
  refine ab_istore_n (lv' := [some (.ref p0), some (.ref p1), some (.int p2), some (.int x6), none, none, none]) d_Reader_readMember_10 rfl (by decide) rfl ?_
  refine ab_iload_n d_Reader_readMember_11 rfl rfl ?_
  refine ab_if_lt (tgt := 20) d_Reader_readMember_12 (by decide) (fun q7 => ?_) (fun q7 => ?_)
  · rw [if_pos q7] at hG
    exact kB_Reader_readMember_20 hG hc0 hs0 hcc hss hC hS
  · rw [if_neg q7] at hG
    refine ab_iload_n d_Reader_readMember_15 rfl rfl ?_
    refine ab_iconst (v := 4) d_Reader_readMember_16 (by decide) ?_
    refine ab_icmp_le (tgt := 35) d_Reader_readMember_17 (by decide) (fun q32 => ?_) (fun q32 => ?_)
    · rw [if_pos q32] at hG
      exact kB_Reader_readMember_35 hG hc0 hs0 hcc hss hC hS
    · rw [if_neg q32] at hG
      exact kB_Reader_readMember_20 hG hc0 hs0 hcc hss hC hS
def y_Reader_readComponent : ab_Y := (⟨"WorldEngine$Reader", "readComponent", "()V"⟩, prog_7_method_6_code, 3, none, [])
theorem d_Reader_readComponent_0 : decode y_Reader_readComponent.2.1 0 = .ok (.aload_n 0, 1) := by decide +kernel
theorem d_Reader_readComponent_1 : decode y_Reader_readComponent.2.1 1 = .ok (.getfield 22, 3) := by decide +kernel
theorem d_Reader_readComponent_4 : decode y_Reader_readComponent.2.1 4 = .ok (.getfield 94, 3) := by decide +kernel
theorem d_Reader_readComponent_7 : decode y_Reader_readComponent.2.1 7 = .ok (.astore_n 1, 1) := by decide +kernel
theorem d_Reader_readComponent_8 : decode y_Reader_readComponent.2.1 8 = .ok (.aload_n 0, 1) := by decide +kernel
theorem d_Reader_readComponent_9 : decode y_Reader_readComponent.2.1 9 = .ok (.aload_n 1, 1) := by decide +kernel
theorem d_Reader_readComponent_10 : decode y_Reader_readComponent.2.1 10 = .ok (.getfield 98, 3) := by decide +kernel
theorem d_Reader_readComponent_13 : decode y_Reader_readComponent.2.1 13 = .ok (.bipush 16, 2) := by decide +kernel
theorem d_Reader_readComponent_15 : decode y_Reader_readComponent.2.1 15 = .ok (.invokevirtual 103, 3) := by decide +kernel
theorem d_Reader_readComponent_18 : decode y_Reader_readComponent.2.1 18 = .ok (.aload_n 1, 1) := by decide +kernel
theorem d_Reader_readComponent_19 : decode y_Reader_readComponent.2.1 19 = .ok (.aload_n 0, 1) := by decide +kernel
theorem d_Reader_readComponent_20 : decode y_Reader_readComponent.2.1 20 = .ok (.iconst 0, 1) := by decide +kernel
theorem d_Reader_readComponent_21 : decode y_Reader_readComponent.2.1 21 = .ok (.aload_n 1, 1) := by decide +kernel
theorem d_Reader_readComponent_22 : decode y_Reader_readComponent.2.1 22 = .ok (.getfield 98, 3) := by decide +kernel
theorem d_Reader_readComponent_25 : decode y_Reader_readComponent.2.1 25 = .ok (.invokevirtual 106, 3) := by decide +kernel
theorem d_Reader_readComponent_28 : decode y_Reader_readComponent.2.1 28 = .ok (.invokevirtual 110, 3) := by decide +kernel
theorem d_Reader_readComponent_31 : decode y_Reader_readComponent.2.1 31 = .ok (.aload_n 0, 1) := by decide +kernel
theorem d_Reader_readComponent_32 : decode y_Reader_readComponent.2.1 32 = .ok (.getfield 7, 3) := by decide +kernel
theorem d_Reader_readComponent_35 : decode y_Reader_readComponent.2.1 35 = .ok (.bipush 10, 2) := by decide +kernel
theorem d_Reader_readComponent_37 : decode y_Reader_readComponent.2.1 37 = .ok (.invokevirtual 113, 3) := by decide +kernel
theorem d_Reader_readComponent_40 : decode y_Reader_readComponent.2.1 40 = .ok (.iconst 0, 1) := by decide +kernel
theorem d_Reader_readComponent_41 : decode y_Reader_readComponent.2.1 41 = .ok (.istore_n 2, 1) := by decide +kernel
theorem d_Reader_readComponent_42 : decode y_Reader_readComponent.2.1 42 = .ok (.iload_n 2, 1) := by decide +kernel
theorem d_Reader_readComponent_43 : decode y_Reader_readComponent.2.1 43 = .ok (.bipush 8, 2) := by decide +kernel
theorem d_Reader_readComponent_45 : decode y_Reader_readComponent.2.1 45 = .ok (.if_icmp .gt 37, 3) := by decide +kernel
theorem d_Reader_readComponent_48 : decode y_Reader_readComponent.2.1 48 = .ok (.aload_n 0, 1) := by decide +kernel
theorem d_Reader_readComponent_49 : decode y_Reader_readComponent.2.1 49 = .ok (.getfield 7, 3) := by decide +kernel
theorem d_Reader_readComponent_52 : decode y_Reader_readComponent.2.1 52 = .ok (.getfield 36, 3) := by decide +kernel
theorem d_Reader_readComponent_55 : decode y_Reader_readComponent.2.1 55 = .ok (.bipush 11, 2) := by decide +kernel
theorem d_Reader_readComponent_57 : decode y_Reader_readComponent.2.1 57 = .ok (.if_icmp .eq 25, 3) := by decide +kernel
theorem d_Reader_readComponent_60 : decode y_Reader_readComponent.2.1 60 = .ok (.aload_n 0, 1) := by decide +kernel
theorem d_Reader_readComponent_61 : decode y_Reader_readComponent.2.1 61 = .ok (.aload_n 1, 1) := by decide +kernel
theorem d_Reader_readComponent_62 : decode y_Reader_readComponent.2.1 62 = .ok (.bipush 8, 2) := by decide +kernel
theorem d_Reader_readComponent_64 : decode y_Reader_readComponent.2.1 64 = .ok (.invokevirtual 117, 3) := by decide +kernel
theorem d_Reader_readComponent_67 : decode y_Reader_readComponent.2.1 67 = .ok (.aload_n 0, 1) := by decide +kernel
theorem d_Reader_readComponent_68 : decode y_Reader_readComponent.2.1 68 = .ok (.getfield 7, 3) := by decide +kernel
theorem d_Reader_readComponent_71 : decode y_Reader_readComponent.2.1 71 = .ok (.bipush 15, 2) := by decide +kernel
theorem d_Reader_readComponent_73 : decode y_Reader_readComponent.2.1 73 = .ok (.invokevirtual 113, 3) := by decide +kernel
theorem d_Reader_readComponent_76 : decode y_Reader_readComponent.2.1 76 = .ok (.iinc 2 1, 3) := by decide +kernel
theorem d_Reader_readComponent_79 : decode y_Reader_readComponent.2.1 79 = .ok (.goto (-37), 3) := by decide +kernel
theorem d_Reader_readComponent_82 : decode y_Reader_readComponent.2.1 82 = .ok (.aload_n 0, 1) := by decide +kernel
theorem d_Reader_readComponent_83 : decode y_Reader_readComponent.2.1 83 = .ok (.getfield 7, 3) := by decide +kernel
theorem d_Reader_readComponent_86 : decode y_Reader_readComponent.2.1 86 = .ok (.bipush 11, 2) := by decide +kernel
theorem d_Reader_readComponent_88 : decode y_Reader_readComponent.2.1 88 = .ok (.invokevirtual 113, 3) := by decide +kernel
theorem d_Reader_readComponent_91 : decode y_Reader_readComponent.2.1 91 = .ok (.return_, 1) := by decide +kernel
theorem s_Reader_readComponent : ab_Stat y_Reader_readComponent 0 := ⟨(k4 92 rfl rfl), (k1 7 rfl rfl), ⟨by decide, by decide⟩, by decide +kernel⟩
theorem i_Reader_readComponent : Cond.instanceMethod y_Reader_readComponent.1 ∈ ab_T := (k4 91 rfl rfl)
theorem v_Reader_readComponent : Cond.selects "WorldEngine$Reader" y_Reader_readComponent.1 y_Reader_readComponent.1 ∈ ab_T := ab_s (List.mem_of_getElem? (i := 8) rfl) rfl
def B_Reader_readComponent_82 (N : Nat) (p0 : Nat)  (H : Hp) : Option ((Ot Unit) × Hp) :=
    ck (H.sh[p0]? = some (5, 0)) <|
    rf (H.P p0 0) fun a31 =>
    ck (H.sh[a31]? = some (1, 0)) <|
    bT (F_Lexer_take N a31 (11 : Int32) H) fun v35 H36 =>
    some (.inl (), H36)
set_option maxRecDepth 20000 in
set_option maxHeartbeats 2000000 in
theorem mB_Reader_readComponent_82 {N : Nat} {p0 : Nat}  {H : Hp} {r : (Ot Unit) × Hp} (hF : B_Reader_readComponent_82 N p0  H = some r) : Mo H r.2 := by
  unfold B_Reader_readComponent_82 at hF
  have hm := Mo.rf H
  obtain ⟨q38, hG⟩ := ck_s hF; clear hF
  obtain ⟨a39, e40, hF⟩ := rf_s hG; clear hG
  obtain ⟨q41, hG⟩ := ck_s hF; clear hF
  refine bT_c hG (fun x45 H44 z42 er => ?_) (fun v43 H44 z42 hF => ?_)
  · subst er; exact hm.tr (m_Lexer_take z42)
  clear hG
  replace hm : Mo H H44 := hm.tr (m_Lexer_take z42)
  have hr := Option.some.inj hF; subst hr
  exact hm
set_option maxRecDepth 20000 in
set_option maxHeartbeats 2000000 in
theorem kB_Reader_readComponent_82 {N : Nat} {p0 : Nat} {c0 s0 C Sl : Nat}  {H : Hp} {r : (Ot Unit) × Hp} (hF : B_Reader_readComponent_82 N p0  H = some r) (hc0 : c0 ≤ H.sh.length) (hs0 : s0 ≤ H.sl) (hcc : H.sh.length ≤ c0 + C) (hss : H.sl ≤ s0 + Sl) (hC : r.2.sh.length ≤ c0 + C) (hS : r.2.sl ≤ s0 + Sl) : ab_V y_Reader_readComponent { frames := 8, cells := C, slots := Sl, locals := 154 } (po (oV r.1) r.2) C Sl (H.sh.length - c0) (H.sl - s0) 82 [some (.ref p0), none, none] [] (hpw H) := by
  unfold B_Reader_readComponent_82 at hF
  refine ab_aload_n d_Reader_readComponent_82 rfl rfl rfl ?_
  obtain ⟨q30, hG⟩ := ck_s hF; clear hF
  obtain ⟨a31, e32, hF⟩ := rf_s hG; clear hG
  refine hp_getR (f := 0) d_Reader_readComponent_83 q30 (by decide) rfl (by decide) (k1 179 rfl rfl) rfl e32 ?_
  refine ab_bipush (v := 11) d_Reader_readComponent_86 (by decide) ?_
  obtain ⟨q33, hG⟩ := ck_s hF; clear hF
  refine bT_c hG (fun x37 H36 z34 er => ?_) (fun v35 H36 z34 hF => ?_)
  · subst er
    have mz : Mo H H36 := (m_Lexer_take z34)
    have ml := mz.len
    have m2 := mz.2
    have hC9 : H36.sh.length ≤ c0 + C := hC
    have hS9 : H36.sl ≤ s0 + Sl := hS
    refine hp_callV_t (x := x37) (H1 := H36) (As := [.int 11]) (rest := []) d_Reader_readComponent_88 (k_Lexer_take z34 (C := H36.sh.length - H.sh.length) (Sl := H36.sl - H.sl) (by show H36.sh.length ≤ _; omega) (by show H36.sl ≤ _; omega)) (ab_mkC s_Lexer_take (Nat.le_of_ble_eq_true rfl) (Nat.le_of_ble_eq_true rfl) (show (H.sh.length - c0) + (H36.sh.length - H.sh.length) ≤ C from by omega) (show (H.sl - s0) + (H36.sl - H.sl) ≤ Sl from by omega)) (k5 24 rfl rfl) i_Lexer_take v_Lexer_take q33 (by decide) rfl rfl (Nat.le_of_ble_eq_true rfl) ?_
    exact ab_U_out rfl (by show _ + (H36.sh.length - H.sh.length) ≤ C; omega) (by show _ + (H36.sl - H.sl) ≤ Sl; omega) ⟨rfl, rfl⟩
  clear hG
  have mz_15 : Mo H H36 := (m_Lexer_take z34)
  have b_16l := (mz_15).len
  have b_16s := (mz_15).2
  have b_16c : c0 ≤ H36.sh.length := by omega
  have b_16d : s0 ≤ H36.sl := by omega
  have q_17 := (mz_15).get q30
  have q_18 := (mz_15).get q33
  have fH36 : Mo H36 r.2 := by
    have hm := Mo.rf H36
    have hr := Option.some.inj hF; subst hr
    exact hm
  have b_16m := (fH36).len
  have b_16n := (fH36).2
  have b_16p : H36.sh.length ≤ c0 + C := by omega
  have b_16q : H36.sl ≤ s0 + Sl := by omega
  refine hp_callV_v (H1 := H36) (As := [.int 11]) (rest := []) d_Reader_readComponent_88 (k_Lexer_take z34 (C := H36.sh.length - H.sh.length) (Sl := H36.sl - H.sl) (by show H36.sh.length ≤ _; omega) (by show H36.sl ≤ _; omega)) (ab_mkC s_Lexer_take (Nat.le_of_ble_eq_true rfl) (Nat.le_of_ble_eq_true rfl) (show (H.sh.length - c0) + (H36.sh.length - H.sh.length) ≤ C from by omega) (show (H.sl - s0) + (H36.sl - H.sl) ≤ Sl from by omega)) (k5 24 rfl rfl) i_Lexer_take v_Lexer_take q33 (by decide) rfl rfl (Nat.le_of_ble_eq_true rfl) ?_
  refine ab_widen (cells' := H36.sh.length - c0) (slots' := H36.sl - s0) (by show _ + (H36.sh.length - H.sh.length) ≤ _; omega) (by show _ + (H36.sl - H.sl) ≤ _; omega) ?_
  clear b_16l b_16s b_16m b_16n
  exact ab_vret d_Reader_readComponent_91 rfl (by show _ ≤ C; omega) (by show _ ≤ Sl; omega) (by have hr := Option.some.inj hF; subst hr; exact ⟨rfl, rfl⟩)
def B_Reader_readComponent_42 (N : Nat) (p0 : Nat) : Nat → Nat → Int32 → Hp → Option ((Ot Unit) × Hp)
  | 0, _, _, _ => none
  | n + 1, l1, l2, H =>
    if (8 : Int32) < l2 then
    B_Reader_readComponent_82 N p0  H
    else
    ck (H.sh[p0]? = some (5, 0)) <|
    rf (H.P p0 0) fun a47 =>
    ck (H.sh[a47]? = some (1, 0)) <|
    bnd ((H.D a47 2)) fun x50 =>
    if x50 = (11 : Int32) then
    B_Reader_readComponent_82 N p0  H
    else
    bT (F_Reader_readMember N p0 l1 (8 : Int32) H) fun v53 H54 =>
    rf (H54.P p0 0) fun a56 =>
    ck (H54.sh[a56]? = some (1, 0)) <|
    bT (F_Lexer_take N a56 (15 : Int32) H54) fun v60 H61 =>
    B_Reader_readComponent_42 N p0 n l1 (l2 + 1) H61
termination_by structural n => n
set_option maxRecDepth 20000 in
set_option maxHeartbeats 2000000 in
theorem mB_Reader_readComponent_42 {N : Nat} {p0 : Nat} : ∀ (n : Nat) (l1 : Nat) (l2 : Int32) (H : Hp) (r : (Ot Unit) × Hp), B_Reader_readComponent_42 N p0 n l1 l2 H = some r → Mo H r.2 := by
  intro n
  induction n with
  | zero => intro l1 l2 H r hF; rw [B_Reader_readComponent_42] at hF; cases hF
  | succ n ih =>
    intro l1 l2 H r hF
    rw [B_Reader_readComponent_42] at hF
    have hm := Mo.rf H
    rcases ite_s hF with ⟨q_35, hG⟩ | ⟨q_35, hG⟩
    · clear hF
      exact hm.tr (mB_Reader_readComponent_82 hG)
    · clear hF
      obtain ⟨q64, hF⟩ := ck_s hG; clear hG
      obtain ⟨a65, e66, hG⟩ := rf_s hF; clear hF
      obtain ⟨q67, hF⟩ := ck_s hG; clear hG
      obtain ⟨x68, -, hG⟩ := bnd_g hF; clear hF
      rcases ite_s hG with ⟨q_36, hF⟩ | ⟨q_36, hF⟩
      · clear hG
        exact hm.tr (mB_Reader_readComponent_82 hF)
      · clear hG
        refine bT_c hF (fun x73 H72 z70 er => ?_) (fun v71 H72 z70 hG => ?_)
        · subst er; exact hm.tr (m_Reader_readMember z70)
        clear hF
        replace hm : Mo H H72 := hm.tr (m_Reader_readMember z70)
        obtain ⟨a74, e75, hF⟩ := rf_s hG; clear hG
        obtain ⟨q76, hG⟩ := ck_s hF; clear hF
        refine bT_c hG (fun x80 H79 z77 er => ?_) (fun v78 H79 z77 hF => ?_)
        · subst er; exact hm.tr (m_Lexer_take z77)
        clear hG
        replace hm : Mo H H79 := hm.tr (m_Lexer_take z77)
        exact hm.tr (ih l1 (l2 + 1) H79 r hF)
set_option maxRecDepth 20000 in
set_option maxHeartbeats 2000000 in
theorem kB_Reader_readComponent_42 {N : Nat} {p0 : Nat} {c0 s0 C Sl : Nat} : ∀ (n : Nat) (l1 : Nat) (l2 : Int32) (H : Hp) (r : (Ot Unit) × Hp), B_Reader_readComponent_42 N p0 n l1 l2 H = some r → c0 ≤ H.sh.length → s0 ≤ H.sl → H.sh.length ≤ c0 + C → H.sl ≤ s0 + Sl → r.2.sh.length ≤ c0 + C → r.2.sl ≤ s0 + Sl → ab_V y_Reader_readComponent { frames := 8, cells := C, slots := Sl, locals := 154 } (po (oV r.1) r.2) C Sl (H.sh.length - c0) (H.sl - s0) 42 [some (.ref p0), some (.ref l1), some (.int l2)] [] (hpw H) := by
  intro n
  induction n with
  | zero => intro l1 l2 H r hF; rw [B_Reader_readComponent_42] at hF; cases hF
  | succ n ih =>
    intro l1 l2 H r hF hc0 hs0 hcc hss hC hS
    rw [B_Reader_readComponent_42] at hF
    refine ab_iload_n d_Reader_readComponent_42 rfl rfl ?_
    refine ab_bipush (v := 8) d_Reader_readComponent_43 (by decide) ?_
    refine ab_icmp_gt (tgt := 82) d_Reader_readComponent_45 (by decide) (fun q29 => ?_) (fun q29 => ?_)
    · rw [if_pos q29] at hF
      refine ab_le (lv' := [some (.ref p0), none, none]) ⟨rfl, trivial⟩ ?_
      exact kB_Reader_readComponent_82 hF hc0 hs0 hcc hss hC hS
    · rw [if_neg q29] at hF
      refine ab_aload_n d_Reader_readComponent_48 rfl rfl rfl ?_
      obtain ⟨q46, hG⟩ := ck_s hF; clear hF
      obtain ⟨a47, e48, hF⟩ := rf_s hG; clear hG
      refine hp_getR (f := 0) d_Reader_readComponent_49 q46 (by decide) rfl (by decide) (k1 179 rfl rfl) rfl e48 ?_
      obtain ⟨q49, hG⟩ := ck_s hF; clear hF
      refine hp_getI (f := 2) d_Reader_readComponent_52 q49 (by decide) rfl (by decide) (k1 98 rfl rfl) rfl ?_
      refine ab_topi (fun x50 ex50 => ?_)
      replace hG := bnd_s ex50 hG
      refine ab_bipush (v := 11) d_Reader_readComponent_55 (by decide) ?_
      refine ab_icmp_eq (tgt := 82) d_Reader_readComponent_57 (by decide) (fun q51 => ?_) (fun q51 => ?_)
      · rw [if_pos q51] at hG
        refine ab_le (lv' := [some (.ref p0), none, none]) ⟨rfl, trivial⟩ ?_
        exact kB_Reader_readComponent_82 hG hc0 hs0 hcc hss hC hS
      · rw [if_neg q51] at hG
        refine ab_aload_n d_Reader_readComponent_60 rfl rfl rfl ?_
        refine ab_aload_n d_Reader_readComponent_61 rfl rfl rfl ?_
        refine ab_bipush (v := 8) d_Reader_readComponent_62 (by decide) ?_
        refine bT_c hG (fun x55 H54 z52 er => ?_) (fun v53 H54 z52 hF => ?_)
        · subst er
          have mz : Mo H H54 := (m_Reader_readMember z52)
          have ml := mz.len
          have m2 := mz.2
          have hC9 : H54.sh.length ≤ c0 + C := hC
          have hS9 : H54.sl ≤ s0 + Sl := hS
          refine hp_callV_t (x := x55) (H1 := H54) (As := [.ref l1, .int 8]) (rest := []) d_Reader_readComponent_64 (k_Reader_readMember z52 (C := H54.sh.length - H.sh.length) (Sl := H54.sl - H.sl) (by show H54.sh.length ≤ _; omega) (by show H54.sl ≤ _; omega)) (ab_mkC s_Reader_readMember (Nat.le_of_ble_eq_true rfl) (Nat.le_of_ble_eq_true rfl) (show (H.sh.length - c0) + (H54.sh.length - H.sh.length) ≤ C from by omega) (show (H.sl - s0) + (H54.sl - H.sl) ≤ Sl from by omega)) (k5 30 rfl rfl) i_Reader_readMember v_Reader_readMember q46 (by decide) rfl rfl (Nat.le_of_ble_eq_true rfl) ?_
          exact ab_U_out rfl (by show _ + (H54.sh.length - H.sh.length) ≤ C; omega) (by show _ + (H54.sl - H.sl) ≤ Sl; omega) ⟨rfl, rfl⟩
        clear hG
        have mz_22 : Mo H H54 := (m_Reader_readMember z52)
        have b_23l := (mz_22).len
        have b_23s := (mz_22).2
        have b_23c : c0 ≤ H54.sh.length := by omega
        have b_23d : s0 ≤ H54.sl := by omega
        have q_24 := (mz_22).get q46
        have q_25 := (mz_22).get q49
        obtain ⟨a56, e57, hG⟩ := rf_s hF; clear hF
        have fH54 : Mo H54 r.2 := by
          have hm := Mo.rf H54
          obtain ⟨q58, hF⟩ := ck_s hG; clear hG
          refine bT_c hF (fun x62 H61 z59 er => ?_) (fun v60 H61 z59 hG => ?_)
          · subst er; exact hm.tr (m_Lexer_take z59)
          clear hF
          replace hm : Mo H54 H61 := hm.tr (m_Lexer_take z59)
          exact hm.tr (mB_Reader_readComponent_42 n l1 (l2 + 1) H61 r hG)
        have b_23m := (fH54).len
        have b_23n := (fH54).2
        have b_23p : H54.sh.length ≤ c0 + C := by omega
        have b_23q : H54.sl ≤ s0 + Sl := by omega
        refine hp_callV_v (H1 := H54) (As := [.ref l1, .int 8]) (rest := []) d_Reader_readComponent_64 (k_Reader_readMember z52 (C := H54.sh.length - H.sh.length) (Sl := H54.sl - H.sl) (by show H54.sh.length ≤ _; omega) (by show H54.sl ≤ _; omega)) (ab_mkC s_Reader_readMember (Nat.le_of_ble_eq_true rfl) (Nat.le_of_ble_eq_true rfl) (show (H.sh.length - c0) + (H54.sh.length - H.sh.length) ≤ C from by omega) (show (H.sl - s0) + (H54.sl - H.sl) ≤ Sl from by omega)) (k5 30 rfl rfl) i_Reader_readMember v_Reader_readMember q46 (by decide) rfl rfl (Nat.le_of_ble_eq_true rfl) ?_
        refine ab_widen (cells' := H54.sh.length - c0) (slots' := H54.sl - s0) (by show _ + (H54.sh.length - H.sh.length) ≤ _; omega) (by show _ + (H54.sl - H.sl) ≤ _; omega) ?_
        clear b_23l b_23s b_23m b_23n
        refine ab_aload_n d_Reader_readComponent_67 rfl rfl rfl ?_
        refine hp_getR (f := 0) d_Reader_readComponent_68 q_24 (by decide) rfl (by decide) (k1 179 rfl rfl) rfl e57 ?_
        refine ab_bipush (v := 15) d_Reader_readComponent_71 (by decide) ?_
        obtain ⟨q58, hF⟩ := ck_s hG; clear hG
        refine bT_c hF (fun x62 H61 z59 er => ?_) (fun v60 H61 z59 hG => ?_)
        · subst er
          have mz : Mo H54 H61 := (m_Lexer_take z59)
          have ml := mz.len
          have m2 := mz.2
          have hC9 : H61.sh.length ≤ c0 + C := hC
          have hS9 : H61.sl ≤ s0 + Sl := hS
          refine hp_callV_t (x := x62) (H1 := H61) (As := [.int 15]) (rest := []) d_Reader_readComponent_73 (k_Lexer_take z59 (C := H61.sh.length - H54.sh.length) (Sl := H61.sl - H54.sl) (by show H61.sh.length ≤ _; omega) (by show H61.sl ≤ _; omega)) (ab_mkC s_Lexer_take (Nat.le_of_ble_eq_true rfl) (Nat.le_of_ble_eq_true rfl) (show (H54.sh.length - c0) + (H61.sh.length - H54.sh.length) ≤ C from by omega) (show (H54.sl - s0) + (H61.sl - H54.sl) ≤ Sl from by omega)) (k5 24 rfl rfl) i_Lexer_take v_Lexer_take q58 (by decide) rfl rfl (Nat.le_of_ble_eq_true rfl) ?_
          exact ab_U_out rfl (by show _ + (H61.sh.length - H54.sh.length) ≤ C; omega) (by show _ + (H61.sl - H54.sl) ≤ Sl; omega) ⟨rfl, rfl⟩
        clear hF
        have mz_30 : Mo H54 H61 := (m_Lexer_take z59)
        have b_31l := (mz_30).len
        have b_31s := (mz_30).2
        have b_31c : c0 ≤ H61.sh.length := by omega
        have b_31d : s0 ≤ H61.sl := by omega
        have q_32 := (mz_30).get q_24
        have q_33 := (mz_30).get q_25
        have q_34 := (mz_30).get q58
        have fH61 : Mo H61 r.2 := by
          have hm := Mo.rf H61
          exact hm.tr (mB_Reader_readComponent_42 n l1 (l2 + 1) H61 r hG)
        have b_31m := (fH61).len
        have b_31n := (fH61).2
        have b_31p : H61.sh.length ≤ c0 + C := by omega
        have b_31q : H61.sl ≤ s0 + Sl := by omega
        refine hp_callV_v (H1 := H61) (As := [.int 15]) (rest := []) d_Reader_readComponent_73 (k_Lexer_take z59 (C := H61.sh.length - H54.sh.length) (Sl := H61.sl - H54.sl) (by show H61.sh.length ≤ _; omega) (by show H61.sl ≤ _; omega)) (ab_mkC s_Lexer_take (Nat.le_of_ble_eq_true rfl) (Nat.le_of_ble_eq_true rfl) (show (H54.sh.length - c0) + (H61.sh.length - H54.sh.length) ≤ C from by omega) (show (H54.sl - s0) + (H61.sl - H54.sl) ≤ Sl from by omega)) (k5 24 rfl rfl) i_Lexer_take v_Lexer_take q58 (by decide) rfl rfl (Nat.le_of_ble_eq_true rfl) ?_
        refine ab_widen (cells' := H61.sh.length - c0) (slots' := H61.sl - s0) (by show _ + (H61.sh.length - H54.sh.length) ≤ _; omega) (by show _ + (H61.sl - H54.sl) ≤ _; omega) ?_
        clear b_31l b_31s b_31m b_31n b_23c b_23d b_23p b_23q
        refine ab_iinc (v := l2 + 1) (lv' := [some (.ref p0), some (.ref l1), some (.int (l2 + 1))]) d_Reader_readComponent_76 rfl rfl (by decide) rfl ?_
        refine ab_goto (tgt := 42) d_Reader_readComponent_79 (by decide) ?_
        exact ih l1 (l2 + 1) H61 r hG b_31c b_31d b_31p b_31q hC hS
def F_Reader_readComponent (N : Nat) (p0 : Nat) (H : Hp) : Option ((Ot Unit) × Hp) :=
    ck (H.sh[p0]? = some (5, 0)) <|
    rf (H.P p0 2) fun a2 =>
    ck (H.sh[a2]? = some (4, 0)) <|
    rf (H.P a2 2) fun a5 =>
    ck (H.sh[a5]? = some (3, 0)) <|
    bnd ((H.D a5 3)) fun x8 =>
    bT (F_Reader_beginOne N p0 x8 (16 : Int32) H) fun v10 H11 =>
    bnd ((H11.D a5 3)) fun x13 =>
    bT (F_Reader_declare N p0 (0 : Int32) x13 H11) fun v15 H16 =>
    on v15 fun a18 =>
    bC (F_Shapes_open N a5 a18 H16) fun v20 H21 =>
    rf (H21.P p0 0) fun a22 =>
    ck (H21.sh[a22]? = some (1, 0)) <|
    bT (F_Lexer_take N a22 (10 : Int32) H21) fun v26 H27 =>
    B_Reader_readComponent_42 N p0 N a5 0 H27
set_option maxRecDepth 20000 in
set_option maxHeartbeats 2000000 in
theorem m_Reader_readComponent {N : Nat} {p0 : Nat} {H : Hp} {r : (Ot Unit) × Hp} (hF : F_Reader_readComponent N p0 H = some r) : Mo H r.2 := by
  unfold F_Reader_readComponent at hF
  have hm := Mo.rf H
  obtain ⟨q29, hG⟩ := ck_s hF; clear hF
  obtain ⟨a30, e31, hF⟩ := rf_s hG; clear hG
  obtain ⟨q32, hG⟩ := ck_s hF; clear hF
  obtain ⟨a33, e34, hF⟩ := rf_s hG; clear hG
  obtain ⟨q35, hG⟩ := ck_s hF; clear hF
  obtain ⟨x36, -, hF⟩ := bnd_g hG; clear hG
  refine bT_c hF (fun x40 H39 z37 er => ?_) (fun v38 H39 z37 hG => ?_)
  · subst er; exact hm.tr (m_Reader_beginOne z37)
  clear hF
  replace hm : Mo H H39 := hm.tr (m_Reader_beginOne z37)
  obtain ⟨x41, -, hF⟩ := bnd_g hG; clear hG
  refine bT_c hF (fun x45 H44 z42 er => ?_) (fun v43 H44 z42 hG => ?_)
  · subst er; exact hm.tr (m_Reader_declare z42)
  clear hF
  replace hm : Mo H H44 := hm.tr (m_Reader_declare z42)
  obtain ⟨a46, ea46, hF⟩ := on_s hG; clear hG
  subst ea46
  obtain ⟨v48, H49, z47, hG⟩ := bC_s hF; clear hF
  replace hm : Mo H H49 := hm.tr ((m_Shapes_open z47)).mo
  obtain ⟨a50, e51, hF⟩ := rf_s hG; clear hG
  obtain ⟨q52, hG⟩ := ck_s hF; clear hF
  refine bT_c hG (fun x56 H55 z53 er => ?_) (fun v54 H55 z53 hF => ?_)
  · subst er; exact hm.tr (m_Lexer_take z53)
  clear hG
  replace hm : Mo H H55 := hm.tr (m_Lexer_take z53)
  exact hm.tr (mB_Reader_readComponent_42 N a33 0 H55 r hF)
set_option maxRecDepth 20000 in
set_option maxHeartbeats 2000000 in
theorem k_Reader_readComponent {N : Nat} {p0 : Nat} {H : Hp} {r : (Ot Unit) × Hp} {C Sl : Nat} (hF : F_Reader_readComponent N p0 H = some r) (hC : r.2.sh.length ≤ H.sh.length + C) (hS : r.2.sl ≤ H.sl + Sl) : ab_M y_Reader_readComponent { frames := 8, cells := C, slots := Sl, locals := 154 } [.ref p0] (hpw H) (po (oV r.1) r.2) := by
  unfold F_Reader_readComponent at hF
  obtain ⟨c0, e0⟩ : ∃ q, q = H.sh.length := ⟨_, rfl⟩
  obtain ⟨s0, e1⟩ : ∃ q, q = H.sl := ⟨_, rfl⟩
  rw [← e0] at hC
  rw [← e1] at hS
  have hc0 : c0 ≤ H.sh.length := Nat.le_of_eq e0
  have hs0 : s0 ≤ H.sl := Nat.le_of_eq e1
  have hcc : H.sh.length ≤ c0 + C := by omega
  have hss : H.sl ≤ s0 + Sl := by omega
  refine ab_of2 (lv := [some (.ref p0), none, none]) 2 rfl rfl (Nat.le_of_ble_eq_true rfl) ?_
  refine ab_widen (cells' := H.sh.length - c0) (slots' := H.sl - s0) (Nat.zero_le _) (Nat.zero_le _) ?_
  refine ab_aload_n d_Reader_readComponent_0 rfl rfl rfl ?_
  obtain ⟨q1, hG⟩ := ck_s hF; clear hF
  obtain ⟨a2, e3, hF⟩ := rf_s hG; clear hG
  refine hp_getR (f := 2) d_Reader_readComponent_1 q1 (by decide) rfl (by decide) (k1 181 rfl rfl) rfl e3 ?_
  obtain ⟨q4, hG⟩ := ck_s hF; clear hF
  obtain ⟨a5, e6, hF⟩ := rf_s hG; clear hG
  refine hp_getR (f := 2) d_Reader_readComponent_4 q4 (by decide) rfl (by decide) (k3 58 rfl rfl) rfl e6 ?_
  refine ab_astore_n (lv' := [some (.ref p0), some (.ref a5), none]) d_Reader_readComponent_7 rfl (by decide) rfl rfl ?_
  refine ab_aload_n d_Reader_readComponent_8 rfl rfl rfl ?_
  refine ab_aload_n d_Reader_readComponent_9 rfl rfl rfl ?_
  obtain ⟨q7, hG⟩ := ck_s hF; clear hF
  refine hp_getI (f := 3) d_Reader_readComponent_10 q7 (by decide) rfl (by decide) (k3 41 rfl rfl) rfl ?_
  refine ab_topi (fun x8 ex8 => ?_)
  replace hG := bnd_s ex8 hG
  refine ab_bipush (v := 16) d_Reader_readComponent_13 (by decide) ?_
  refine bT_c hG (fun x12 H11 z9 er => ?_) (fun v10 H11 z9 hF => ?_)
  · subst er
    have mz : Mo H H11 := (m_Reader_beginOne z9)
    have ml := mz.len
    have m2 := mz.2
    have hC9 : H11.sh.length ≤ c0 + C := hC
    have hS9 : H11.sl ≤ s0 + Sl := hS
    refine hp_callV_t (x := x12) (H1 := H11) (As := [.int x8, .int 16]) (rest := []) d_Reader_readComponent_15 (k_Reader_beginOne z9 (C := H11.sh.length - H.sh.length) (Sl := H11.sl - H.sl) (by show H11.sh.length ≤ _; omega) (by show H11.sl ≤ _; omega)) (ab_mkC s_Reader_beginOne (Nat.le_of_ble_eq_true rfl) (Nat.le_of_ble_eq_true rfl) (show (H.sh.length - c0) + (H11.sh.length - H.sh.length) ≤ C from by omega) (show (H.sl - s0) + (H11.sl - H.sl) ≤ Sl from by omega)) (k4 93 rfl rfl) i_Reader_beginOne v_Reader_beginOne q1 (by decide) rfl rfl (Nat.le_of_ble_eq_true rfl) ?_
    exact ab_U_out rfl (by show _ + (H11.sh.length - H.sh.length) ≤ C; omega) (by show _ + (H11.sl - H.sl) ≤ Sl; omega) ⟨rfl, rfl⟩
  clear hG
  have mz_1 : Mo H H11 := (m_Reader_beginOne z9)
  have b_2l := (mz_1).len
  have b_2s := (mz_1).2
  have b_2c : c0 ≤ H11.sh.length := by omega
  have b_2d : s0 ≤ H11.sl := by omega
  have q_3 := (mz_1).get q1
  have q_4 := (mz_1).get q4
  have q_5 := (mz_1).get q7
  obtain ⟨x13, ex13, hG⟩ := bnd_g hF; clear hF
  have fH11 : Mo H11 r.2 := by
    have hm := Mo.rf H11
    refine bT_c hG (fun x17 H16 z14 er => ?_) (fun v15 H16 z14 hF => ?_)
    · subst er; exact hm.tr (m_Reader_declare z14)
    clear hG
    replace hm : Mo H11 H16 := hm.tr (m_Reader_declare z14)
    obtain ⟨a18, ea18, hG⟩ := on_s hF; clear hF
    subst ea18
    obtain ⟨v20, H21, z19, hF⟩ := bC_s hG; clear hG
    replace hm : Mo H11 H21 := hm.tr ((m_Shapes_open z19)).mo
    obtain ⟨a22, e23, hG⟩ := rf_s hF; clear hF
    obtain ⟨q24, hF⟩ := ck_s hG; clear hG
    refine bT_c hF (fun x28 H27 z25 er => ?_) (fun v26 H27 z25 hG => ?_)
    · subst er; exact hm.tr (m_Lexer_take z25)
    clear hF
    replace hm : Mo H11 H27 := hm.tr (m_Lexer_take z25)
    exact hm.tr (mB_Reader_readComponent_42 N a5 0 H27 r hG)
  have b_2m := (fH11).len
  have b_2n := (fH11).2
  have b_2p : H11.sh.length ≤ c0 + C := by omega
  have b_2q : H11.sl ≤ s0 + Sl := by omega
  refine hp_callV_v (H1 := H11) (As := [.int x8, .int 16]) (rest := []) d_Reader_readComponent_15 (k_Reader_beginOne z9 (C := H11.sh.length - H.sh.length) (Sl := H11.sl - H.sl) (by show H11.sh.length ≤ _; omega) (by show H11.sl ≤ _; omega)) (ab_mkC s_Reader_beginOne (Nat.le_of_ble_eq_true rfl) (Nat.le_of_ble_eq_true rfl) (show (H.sh.length - c0) + (H11.sh.length - H.sh.length) ≤ C from by omega) (show (H.sl - s0) + (H11.sl - H.sl) ≤ Sl from by omega)) (k4 93 rfl rfl) i_Reader_beginOne v_Reader_beginOne q1 (by decide) rfl rfl (Nat.le_of_ble_eq_true rfl) ?_
  refine ab_widen (cells' := H11.sh.length - c0) (slots' := H11.sl - s0) (by show _ + (H11.sh.length - H.sh.length) ≤ _; omega) (by show _ + (H11.sl - H.sl) ≤ _; omega) ?_
  clear b_2l b_2s b_2m b_2n
  refine ab_aload_n d_Reader_readComponent_18 rfl rfl rfl ?_
  refine ab_aload_n d_Reader_readComponent_19 rfl rfl rfl ?_
  refine ab_iconst (v := 0) d_Reader_readComponent_20 (by decide) ?_
  refine ab_aload_n d_Reader_readComponent_21 rfl rfl rfl ?_
  refine hp_getI (f := 3) d_Reader_readComponent_22 q_5 (by decide) rfl (by decide) (k3 41 rfl rfl) rfl ?_
  refine ab_topxi ex13 ?_
  refine bT_c hG (fun x17 H16 z14 er => ?_) (fun v15 H16 z14 hF => ?_)
  · subst er
    have mz : Mo H11 H16 := (m_Reader_declare z14)
    have ml := mz.len
    have m2 := mz.2
    have hC9 : H16.sh.length ≤ c0 + C := hC
    have hS9 : H16.sl ≤ s0 + Sl := hS
    refine hp_callV_t (x := x17) (H1 := H16) (As := [.int 0, .int x13]) (rest := [.ref a5]) d_Reader_readComponent_25 (k_Reader_declare z14 (C := H16.sh.length - H11.sh.length) (Sl := H16.sl - H11.sl) (by show H16.sh.length ≤ _; omega) (by show H16.sl ≤ _; omega)) (ab_mkC s_Reader_declare (Nat.le_of_ble_eq_true rfl) (Nat.le_of_ble_eq_true rfl) (show (H11.sh.length - c0) + (H16.sh.length - H11.sh.length) ≤ C from by omega) (show (H11.sl - s0) + (H16.sl - H11.sl) ≤ Sl from by omega)) (k4 171 rfl rfl) i_Reader_declare v_Reader_declare q_3 (by decide) rfl rfl (Nat.le_of_ble_eq_true rfl) ?_
    exact ab_U_out rfl (by show _ + (H16.sh.length - H11.sh.length) ≤ C; omega) (by show _ + (H16.sl - H11.sl) ≤ Sl; omega) ⟨rfl, rfl⟩
  clear hG
  have mz_44 : Mo H11 H16 := (m_Reader_declare z14)
  have b_45l := (mz_44).len
  have b_45s := (mz_44).2
  have b_45c : c0 ≤ H16.sh.length := by omega
  have b_45d : s0 ≤ H16.sl := by omega
  have q_46 := (mz_44).get q_3
  have q_47 := (mz_44).get q_4
  have q_48 := (mz_44).get q_5
  have mf_49 : Mo H16 r.2 := by
    have hm := Mo.rf H16
    obtain ⟨a18, ea18, hG⟩ := on_s hF; clear hF
    subst ea18
    obtain ⟨v20, H21, z19, hF⟩ := bC_s hG; clear hG
    replace hm : Mo H16 H21 := hm.tr ((m_Shapes_open z19)).mo
    obtain ⟨a22, e23, hG⟩ := rf_s hF; clear hF
    obtain ⟨q24, hF⟩ := ck_s hG; clear hG
    refine bT_c hF (fun x28 H27 z25 er => ?_) (fun v26 H27 z25 hG => ?_)
    · subst er; exact hm.tr (m_Lexer_take z25)
    clear hF
    replace hm : Mo H16 H27 := hm.tr (m_Lexer_take z25)
    exact hm.tr (mB_Reader_readComponent_42 N a5 0 H27 r hG)
  have b_45m := (mf_49).len
  have b_45n := (mf_49).2
  have b_45p : H16.sh.length ≤ c0 + C := by omega
  have b_45q : H16.sl ≤ s0 + Sl := by omega
  refine hp_callV_a (v := ab_rf v15) (H1 := H16) (As := [.int 0, .int x13]) (rest := [.ref a5]) d_Reader_readComponent_25 (k_Reader_declare z14 (C := H16.sh.length - H11.sh.length) (Sl := H16.sl - H11.sl) (by show H16.sh.length ≤ _; omega) (by show H16.sl ≤ _; omega)) (ab_mkC s_Reader_declare (Nat.le_of_ble_eq_true rfl) (Nat.le_of_ble_eq_true rfl) (show (H11.sh.length - c0) + (H16.sh.length - H11.sh.length) ≤ C from by omega) (show (H11.sl - s0) + (H16.sl - H11.sl) ≤ Sl from by omega)) (k4 171 rfl rfl) i_Reader_declare v_Reader_declare q_3 (by decide) rfl rfl (Nat.le_of_ble_eq_true rfl) ?_
  refine ab_widen (cells' := H16.sh.length - c0) (slots' := H16.sl - s0) (by show _ + (H16.sh.length - H11.sh.length) ≤ _; omega) (by show _ + (H16.sl - H11.sl) ≤ _; omega) ?_
  clear b_45l b_45s b_45m b_45n b_2c b_2d b_2p b_2q
  obtain ⟨a18, ea18, hG⟩ := on_s hF; clear hF
  subst ea18
  obtain ⟨v20, H21, z19, hF⟩ := bC_s hG; clear hG
  refine hp_callV_v (H1 := H21) (As := [.ref a18]) (rest := []) d_Reader_readComponent_28 (k_Shapes_open z19) (ab_mkC s_Shapes_open (Nat.le_of_ble_eq_true rfl) (Nat.le_of_ble_eq_true rfl) (show (H16.sh.length - c0) + 0 ≤ C from by omega) (show (H16.sl - s0) + 0 ≤ Sl from by omega)) (k5 19 rfl rfl) i_Shapes_open v_Shapes_open q_48 (by decide) rfl rfl (Nat.le_of_ble_eq_true rfl) ?_
  have s_56 : Sa H16 H21 := (m_Shapes_open z19)
  refine ab_widen (cells' := H16.sh.length - c0) (slots' := H16.sl - s0) (by show (H16.sh.length - c0) + 0 ≤ _; omega) (by show (H16.sl - s0) + 0 ≤ _; omega) ?_
  refine ab_aload_n d_Reader_readComponent_31 rfl rfl rfl ?_
  obtain ⟨a22, e23, hG⟩ := rf_s hF; clear hF
  refine hp_getR (f := 0) d_Reader_readComponent_32 (by rw [(s_56).1]; exact q_46) (by decide) rfl (by decide) (k1 179 rfl rfl) rfl e23 ?_
  refine ab_bipush (v := 10) d_Reader_readComponent_35 (by decide) ?_
  obtain ⟨q24, hF⟩ := ck_s hG; clear hG
  rw [(s_56).1] at q24
  refine bT_c hF (fun x28 H27 z25 er => ?_) (fun v26 H27 z25 hG => ?_)
  · subst er
    refine ab_widen (cells' := H21.sh.length - c0) (slots' := H21.sl - s0) (by rw [(s_56).1]; exact Nat.le_refl _) (by rw [(s_56).2]; exact Nat.le_refl _) ?_
    have mz : Mo H21 H27 := (m_Lexer_take z25)
    have ml := mz.len
    have m2 := mz.2
    have be := congrArg List.length (s_56).1
    have bfx := (s_56).2
    have hC9 : H27.sh.length ≤ c0 + C := hC
    have hS9 : H27.sl ≤ s0 + Sl := hS
    refine hp_callV_t (x := x28) (H1 := H27) (As := [.int 10]) (rest := []) d_Reader_readComponent_37 (k_Lexer_take z25 (C := H27.sh.length - H21.sh.length) (Sl := H27.sl - H21.sl) (by show H27.sh.length ≤ _; omega) (by show H27.sl ≤ _; omega)) (ab_mkC s_Lexer_take (Nat.le_of_ble_eq_true rfl) (Nat.le_of_ble_eq_true rfl) (show (H21.sh.length - c0) + (H27.sh.length - H21.sh.length) ≤ C from by omega) (show (H21.sl - s0) + (H27.sl - H21.sl) ≤ Sl from by omega)) (k5 24 rfl rfl) i_Lexer_take v_Lexer_take (by rw [(s_56).1]; exact q24) (by decide) rfl rfl (Nat.le_of_ble_eq_true rfl) ?_
    exact ab_U_out rfl (by show _ + (H27.sh.length - H21.sh.length) ≤ C; omega) (by show _ + (H27.sl - H21.sl) ≤ Sl; omega) ⟨rfl, rfl⟩
  clear hF
  refine ab_widen (cells' := H21.sh.length - c0) (slots' := H21.sl - s0) (by rw [(s_56).1]; exact Nat.le_refl _) (by rw [(s_56).2]; exact Nat.le_refl _) ?_
  have mz_57 : Mo H21 H27 := (m_Lexer_take z25)
  have b_58l := (mz_57).len
  have b_58s := (mz_57).2
  have b_58e := congrArg List.length (s_56).1
  have b_58f := (s_56).2
  have b_58c : c0 ≤ H27.sh.length := by omega
  have b_58d : s0 ≤ H27.sl := by omega
  have q_59 := (mz_57).get (by rw [(s_56).1]; exact q_46)
  have q_60 := (mz_57).get (by rw [(s_56).1]; exact q_47)
  have q_61 := (mz_57).get (by rw [(s_56).1]; exact q_48)
  have q_62 := (mz_57).get (by rw [(s_56).1]; exact q24)
  have fH27 : Mo H27 r.2 := by
    have hm := Mo.rf H27
    exact hm.tr (mB_Reader_readComponent_42 N a5 0 H27 r hG)
  have b_58m := (fH27).len
  have b_58n := (fH27).2
  have b_58p : H27.sh.length ≤ c0 + C := by omega
  have b_58q : H27.sl ≤ s0 + Sl := by omega
  refine hp_callV_v (H1 := H27) (As := [.int 10]) (rest := []) d_Reader_readComponent_37 (k_Lexer_take z25 (C := H27.sh.length - H21.sh.length) (Sl := H27.sl - H21.sl) (by show H27.sh.length ≤ _; omega) (by show H27.sl ≤ _; omega)) (ab_mkC s_Lexer_take (Nat.le_of_ble_eq_true rfl) (Nat.le_of_ble_eq_true rfl) (show (H21.sh.length - c0) + (H27.sh.length - H21.sh.length) ≤ C from by omega) (show (H21.sl - s0) + (H27.sl - H21.sl) ≤ Sl from by omega)) (k5 24 rfl rfl) i_Lexer_take v_Lexer_take (by rw [(s_56).1]; exact q24) (by decide) rfl rfl (Nat.le_of_ble_eq_true rfl) ?_
  refine ab_widen (cells' := H27.sh.length - c0) (slots' := H27.sl - s0) (by show _ + (H27.sh.length - H21.sh.length) ≤ _; omega) (by show _ + (H27.sl - H21.sl) ≤ _; omega) ?_
  clear b_58l b_58s b_58m b_58n b_58e b_58f b_45c b_45d b_45p b_45q
  refine ab_iconst (v := 0) d_Reader_readComponent_40 (by decide) ?_
  refine ab_istore_n (lv' := [some (.ref p0), some (.ref a5), some (.int 0)]) d_Reader_readComponent_41 rfl (by decide) rfl ?_
  exact kB_Reader_readComponent_42 N a5 0 H27 r hG b_58c b_58d b_58p b_58q hC hS
def y_Reader_readEvent : ab_Y := (⟨"WorldEngine$Reader", "readEvent", "()V"⟩, prog_7_method_7_code, 3, none, [])
theorem d_Reader_readEvent_0 : decode y_Reader_readEvent.2.1 0 = .ok (.aload_n 0, 1) := by decide +kernel
theorem d_Reader_readEvent_1 : decode y_Reader_readEvent.2.1 1 = .ok (.getfield 22, 3) := by decide +kernel
theorem d_Reader_readEvent_4 : decode y_Reader_readEvent.2.1 4 = .ok (.getfield 121, 3) := by decide +kernel
theorem d_Reader_readEvent_7 : decode y_Reader_readEvent.2.1 7 = .ok (.astore_n 1, 1) := by decide +kernel
theorem d_Reader_readEvent_8 : decode y_Reader_readEvent.2.1 8 = .ok (.aload_n 0, 1) := by decide +kernel
theorem d_Reader_readEvent_9 : decode y_Reader_readEvent.2.1 9 = .ok (.aload_n 1, 1) := by decide +kernel
theorem d_Reader_readEvent_10 : decode y_Reader_readEvent.2.1 10 = .ok (.getfield 98, 3) := by decide +kernel
theorem d_Reader_readEvent_13 : decode y_Reader_readEvent.2.1 13 = .ok (.bipush 8, 2) := by decide +kernel
theorem d_Reader_readEvent_15 : decode y_Reader_readEvent.2.1 15 = .ok (.invokevirtual 103, 3) := by decide +kernel
theorem d_Reader_readEvent_18 : decode y_Reader_readEvent.2.1 18 = .ok (.aload_n 1, 1) := by decide +kernel
theorem d_Reader_readEvent_19 : decode y_Reader_readEvent.2.1 19 = .ok (.aload_n 0, 1) := by decide +kernel
theorem d_Reader_readEvent_20 : decode y_Reader_readEvent.2.1 20 = .ok (.iconst 1, 1) := by decide +kernel
theorem d_Reader_readEvent_21 : decode y_Reader_readEvent.2.1 21 = .ok (.aload_n 1, 1) := by decide +kernel
theorem d_Reader_readEvent_22 : decode y_Reader_readEvent.2.1 22 = .ok (.getfield 98, 3) := by decide +kernel
theorem d_Reader_readEvent_25 : decode y_Reader_readEvent.2.1 25 = .ok (.invokevirtual 106, 3) := by decide +kernel
theorem d_Reader_readEvent_28 : decode y_Reader_readEvent.2.1 28 = .ok (.invokevirtual 110, 3) := by decide +kernel
theorem d_Reader_readEvent_31 : decode y_Reader_readEvent.2.1 31 = .ok (.aload_n 0, 1) := by decide +kernel
theorem d_Reader_readEvent_32 : decode y_Reader_readEvent.2.1 32 = .ok (.getfield 7, 3) := by decide +kernel
theorem d_Reader_readEvent_35 : decode y_Reader_readEvent.2.1 35 = .ok (.bipush 12, 2) := by decide +kernel
theorem d_Reader_readEvent_37 : decode y_Reader_readEvent.2.1 37 = .ok (.invokevirtual 113, 3) := by decide +kernel
theorem d_Reader_readEvent_40 : decode y_Reader_readEvent.2.1 40 = .ok (.aload_n 0, 1) := by decide +kernel
theorem d_Reader_readEvent_41 : decode y_Reader_readEvent.2.1 41 = .ok (.getfield 7, 3) := by decide +kernel
theorem d_Reader_readEvent_44 : decode y_Reader_readEvent.2.1 44 = .ok (.getfield 36, 3) := by decide +kernel
theorem d_Reader_readEvent_47 : decode y_Reader_readEvent.2.1 47 = .ok (.bipush 13, 2) := by decide +kernel
theorem d_Reader_readEvent_49 : decode y_Reader_readEvent.2.1 49 = .ok (.if_icmp .eq 47, 3) := by decide +kernel
theorem d_Reader_readEvent_52 : decode y_Reader_readEvent.2.1 52 = .ok (.aload_n 0, 1) := by decide +kernel
theorem d_Reader_readEvent_53 : decode y_Reader_readEvent.2.1 53 = .ok (.aload_n 1, 1) := by decide +kernel
theorem d_Reader_readEvent_54 : decode y_Reader_readEvent.2.1 54 = .ok (.iconst 4, 1) := by decide +kernel
theorem d_Reader_readEvent_55 : decode y_Reader_readEvent.2.1 55 = .ok (.invokevirtual 117, 3) := by decide +kernel
theorem d_Reader_readEvent_58 : decode y_Reader_readEvent.2.1 58 = .ok (.iconst 0, 1) := by decide +kernel
theorem d_Reader_readEvent_59 : decode y_Reader_readEvent.2.1 59 = .ok (.istore_n 2, 1) := by decide +kernel
theorem d_Reader_readEvent_60 : decode y_Reader_readEvent.2.1 60 = .ok (.iload_n 2, 1) := by decide +kernel
theorem d_Reader_readEvent_61 : decode y_Reader_readEvent.2.1 61 = .ok (.iconst 4, 1) := by decide +kernel
theorem d_Reader_readEvent_62 : decode y_Reader_readEvent.2.1 62 = .ok (.if_icmp .gt 34, 3) := by decide +kernel
theorem d_Reader_readEvent_65 : decode y_Reader_readEvent.2.1 65 = .ok (.aload_n 0, 1) := by decide +kernel
theorem d_Reader_readEvent_66 : decode y_Reader_readEvent.2.1 66 = .ok (.getfield 7, 3) := by decide +kernel
theorem d_Reader_readEvent_69 : decode y_Reader_readEvent.2.1 69 = .ok (.getfield 36, 3) := by decide +kernel
theorem d_Reader_readEvent_72 : decode y_Reader_readEvent.2.1 72 = .ok (.bipush 14, 2) := by decide +kernel
theorem d_Reader_readEvent_74 : decode y_Reader_readEvent.2.1 74 = .ok (.if_icmp .ne 22, 3) := by decide +kernel
theorem d_Reader_readEvent_77 : decode y_Reader_readEvent.2.1 77 = .ok (.aload_n 0, 1) := by decide +kernel
theorem d_Reader_readEvent_78 : decode y_Reader_readEvent.2.1 78 = .ok (.getfield 7, 3) := by decide +kernel
theorem d_Reader_readEvent_81 : decode y_Reader_readEvent.2.1 81 = .ok (.invokevirtual 77, 3) := by decide +kernel
theorem d_Reader_readEvent_84 : decode y_Reader_readEvent.2.1 84 = .ok (.aload_n 0, 1) := by decide +kernel
theorem d_Reader_readEvent_85 : decode y_Reader_readEvent.2.1 85 = .ok (.aload_n 1, 1) := by decide +kernel
theorem d_Reader_readEvent_86 : decode y_Reader_readEvent.2.1 86 = .ok (.iconst 4, 1) := by decide +kernel
theorem d_Reader_readEvent_87 : decode y_Reader_readEvent.2.1 87 = .ok (.invokevirtual 117, 3) := by decide +kernel
theorem d_Reader_readEvent_90 : decode y_Reader_readEvent.2.1 90 = .ok (.iinc 2 1, 3) := by decide +kernel
theorem d_Reader_readEvent_93 : decode y_Reader_readEvent.2.1 93 = .ok (.goto (-33), 3) := by decide +kernel
theorem d_Reader_readEvent_96 : decode y_Reader_readEvent.2.1 96 = .ok (.aload_n 0, 1) := by decide +kernel
theorem d_Reader_readEvent_97 : decode y_Reader_readEvent.2.1 97 = .ok (.getfield 7, 3) := by decide +kernel
theorem d_Reader_readEvent_100 : decode y_Reader_readEvent.2.1 100 = .ok (.bipush 13, 2) := by decide +kernel
theorem d_Reader_readEvent_102 : decode y_Reader_readEvent.2.1 102 = .ok (.invokevirtual 113, 3) := by decide +kernel
theorem d_Reader_readEvent_105 : decode y_Reader_readEvent.2.1 105 = .ok (.aload_n 0, 1) := by decide +kernel
theorem d_Reader_readEvent_106 : decode y_Reader_readEvent.2.1 106 = .ok (.getfield 7, 3) := by decide +kernel
theorem d_Reader_readEvent_109 : decode y_Reader_readEvent.2.1 109 = .ok (.bipush 15, 2) := by decide +kernel
theorem d_Reader_readEvent_111 : decode y_Reader_readEvent.2.1 111 = .ok (.invokevirtual 113, 3) := by decide +kernel
theorem d_Reader_readEvent_114 : decode y_Reader_readEvent.2.1 114 = .ok (.return_, 1) := by decide +kernel
theorem s_Reader_readEvent : ab_Stat y_Reader_readEvent 0 := ⟨(k5 54 rfl rfl), (k1 7 rfl rfl), ⟨by decide, by decide⟩, by decide +kernel⟩
theorem i_Reader_readEvent : Cond.instanceMethod y_Reader_readEvent.1 ∈ ab_T := (k5 53 rfl rfl)
theorem v_Reader_readEvent : Cond.selects "WorldEngine$Reader" y_Reader_readEvent.1 y_Reader_readEvent.1 ∈ ab_T := ab_s (List.mem_of_getElem? (i := 13) rfl) rfl
def B_Reader_readEvent_96 (N : Nat) (p0 : Nat)  (H : Hp) : Option ((Ot Unit) × Hp) :=
    ck (H.sh[p0]? = some (5, 0)) <|
    rf (H.P p0 0) fun a35 =>
    ck (H.sh[a35]? = some (1, 0)) <|
    bT (F_Lexer_take N a35 (13 : Int32) H) fun v39 H40 =>
    rf (H40.P p0 0) fun a42 =>
    ck (H40.sh[a42]? = some (1, 0)) <|
    bT (F_Lexer_take N a42 (15 : Int32) H40) fun v46 H47 =>
    some (.inl (), H47)
set_option maxRecDepth 20000 in
set_option maxHeartbeats 2000000 in
theorem mB_Reader_readEvent_96 {N : Nat} {p0 : Nat}  {H : Hp} {r : (Ot Unit) × Hp} (hF : B_Reader_readEvent_96 N p0  H = some r) : Mo H r.2 := by
  unfold B_Reader_readEvent_96 at hF
  have hm := Mo.rf H
  obtain ⟨q49, hG⟩ := ck_s hF; clear hF
  obtain ⟨a50, e51, hF⟩ := rf_s hG; clear hG
  obtain ⟨q52, hG⟩ := ck_s hF; clear hF
  refine bT_c hG (fun x56 H55 z53 er => ?_) (fun v54 H55 z53 hF => ?_)
  · subst er; exact hm.tr (m_Lexer_take z53)
  clear hG
  replace hm : Mo H H55 := hm.tr (m_Lexer_take z53)
  obtain ⟨a57, e58, hG⟩ := rf_s hF; clear hF
  obtain ⟨q59, hF⟩ := ck_s hG; clear hG
  refine bT_c hF (fun x63 H62 z60 er => ?_) (fun v61 H62 z60 hG => ?_)
  · subst er; exact hm.tr (m_Lexer_take z60)
  clear hF
  replace hm : Mo H H62 := hm.tr (m_Lexer_take z60)
  have hr := Option.some.inj hG; subst hr
  exact hm
set_option maxRecDepth 20000 in
set_option maxHeartbeats 2000000 in
theorem kB_Reader_readEvent_96 {N : Nat} {p0 : Nat} {c0 s0 C Sl : Nat}  {H : Hp} {r : (Ot Unit) × Hp} (hF : B_Reader_readEvent_96 N p0  H = some r) (hc0 : c0 ≤ H.sh.length) (hs0 : s0 ≤ H.sl) (hcc : H.sh.length ≤ c0 + C) (hss : H.sl ≤ s0 + Sl) (hC : r.2.sh.length ≤ c0 + C) (hS : r.2.sl ≤ s0 + Sl) : ab_V y_Reader_readEvent { frames := 8, cells := C, slots := Sl, locals := 154 } (po (oV r.1) r.2) C Sl (H.sh.length - c0) (H.sl - s0) 96 [some (.ref p0), none, none] [] (hpw H) := by
  unfold B_Reader_readEvent_96 at hF
  refine ab_aload_n d_Reader_readEvent_96 rfl rfl rfl ?_
  obtain ⟨q34, hG⟩ := ck_s hF; clear hF
  obtain ⟨a35, e36, hF⟩ := rf_s hG; clear hG
  refine hp_getR (f := 0) d_Reader_readEvent_97 q34 (by decide) rfl (by decide) (k1 179 rfl rfl) rfl e36 ?_
  refine ab_bipush (v := 13) d_Reader_readEvent_100 (by decide) ?_
  obtain ⟨q37, hG⟩ := ck_s hF; clear hF
  refine bT_c hG (fun x41 H40 z38 er => ?_) (fun v39 H40 z38 hF => ?_)
  · subst er
    have mz : Mo H H40 := (m_Lexer_take z38)
    have ml := mz.len
    have m2 := mz.2
    have hC9 : H40.sh.length ≤ c0 + C := hC
    have hS9 : H40.sl ≤ s0 + Sl := hS
    refine hp_callV_t (x := x41) (H1 := H40) (As := [.int 13]) (rest := []) d_Reader_readEvent_102 (k_Lexer_take z38 (C := H40.sh.length - H.sh.length) (Sl := H40.sl - H.sl) (by show H40.sh.length ≤ _; omega) (by show H40.sl ≤ _; omega)) (ab_mkC s_Lexer_take (Nat.le_of_ble_eq_true rfl) (Nat.le_of_ble_eq_true rfl) (show (H.sh.length - c0) + (H40.sh.length - H.sh.length) ≤ C from by omega) (show (H.sl - s0) + (H40.sl - H.sl) ≤ Sl from by omega)) (k5 24 rfl rfl) i_Lexer_take v_Lexer_take q37 (by decide) rfl rfl (Nat.le_of_ble_eq_true rfl) ?_
    exact ab_U_out rfl (by show _ + (H40.sh.length - H.sh.length) ≤ C; omega) (by show _ + (H40.sl - H.sl) ≤ Sl; omega) ⟨rfl, rfl⟩
  clear hG
  have mz_16 : Mo H H40 := (m_Lexer_take z38)
  have b_17l := (mz_16).len
  have b_17s := (mz_16).2
  have b_17c : c0 ≤ H40.sh.length := by omega
  have b_17d : s0 ≤ H40.sl := by omega
  have q_18 := (mz_16).get q34
  have q_19 := (mz_16).get q37
  obtain ⟨a42, e43, hG⟩ := rf_s hF; clear hF
  have fH40 : Mo H40 r.2 := by
    have hm := Mo.rf H40
    obtain ⟨q44, hF⟩ := ck_s hG; clear hG
    refine bT_c hF (fun x48 H47 z45 er => ?_) (fun v46 H47 z45 hG => ?_)
    · subst er; exact hm.tr (m_Lexer_take z45)
    clear hF
    replace hm : Mo H40 H47 := hm.tr (m_Lexer_take z45)
    have hr := Option.some.inj hG; subst hr
    exact hm
  have b_17m := (fH40).len
  have b_17n := (fH40).2
  have b_17p : H40.sh.length ≤ c0 + C := by omega
  have b_17q : H40.sl ≤ s0 + Sl := by omega
  refine hp_callV_v (H1 := H40) (As := [.int 13]) (rest := []) d_Reader_readEvent_102 (k_Lexer_take z38 (C := H40.sh.length - H.sh.length) (Sl := H40.sl - H.sl) (by show H40.sh.length ≤ _; omega) (by show H40.sl ≤ _; omega)) (ab_mkC s_Lexer_take (Nat.le_of_ble_eq_true rfl) (Nat.le_of_ble_eq_true rfl) (show (H.sh.length - c0) + (H40.sh.length - H.sh.length) ≤ C from by omega) (show (H.sl - s0) + (H40.sl - H.sl) ≤ Sl from by omega)) (k5 24 rfl rfl) i_Lexer_take v_Lexer_take q37 (by decide) rfl rfl (Nat.le_of_ble_eq_true rfl) ?_
  refine ab_widen (cells' := H40.sh.length - c0) (slots' := H40.sl - s0) (by show _ + (H40.sh.length - H.sh.length) ≤ _; omega) (by show _ + (H40.sl - H.sl) ≤ _; omega) ?_
  clear b_17l b_17s b_17m b_17n
  refine ab_aload_n d_Reader_readEvent_105 rfl rfl rfl ?_
  refine hp_getR (f := 0) d_Reader_readEvent_106 q_18 (by decide) rfl (by decide) (k1 179 rfl rfl) rfl e43 ?_
  refine ab_bipush (v := 15) d_Reader_readEvent_109 (by decide) ?_
  obtain ⟨q44, hF⟩ := ck_s hG; clear hG
  refine bT_c hF (fun x48 H47 z45 er => ?_) (fun v46 H47 z45 hG => ?_)
  · subst er
    have mz : Mo H40 H47 := (m_Lexer_take z45)
    have ml := mz.len
    have m2 := mz.2
    have hC9 : H47.sh.length ≤ c0 + C := hC
    have hS9 : H47.sl ≤ s0 + Sl := hS
    refine hp_callV_t (x := x48) (H1 := H47) (As := [.int 15]) (rest := []) d_Reader_readEvent_111 (k_Lexer_take z45 (C := H47.sh.length - H40.sh.length) (Sl := H47.sl - H40.sl) (by show H47.sh.length ≤ _; omega) (by show H47.sl ≤ _; omega)) (ab_mkC s_Lexer_take (Nat.le_of_ble_eq_true rfl) (Nat.le_of_ble_eq_true rfl) (show (H40.sh.length - c0) + (H47.sh.length - H40.sh.length) ≤ C from by omega) (show (H40.sl - s0) + (H47.sl - H40.sl) ≤ Sl from by omega)) (k5 24 rfl rfl) i_Lexer_take v_Lexer_take q44 (by decide) rfl rfl (Nat.le_of_ble_eq_true rfl) ?_
    exact ab_U_out rfl (by show _ + (H47.sh.length - H40.sh.length) ≤ C; omega) (by show _ + (H47.sl - H40.sl) ≤ Sl; omega) ⟨rfl, rfl⟩
  clear hF
  have mz_24 : Mo H40 H47 := (m_Lexer_take z45)
  have b_25l := (mz_24).len
  have b_25s := (mz_24).2
  have b_25c : c0 ≤ H47.sh.length := by omega
  have b_25d : s0 ≤ H47.sl := by omega
  have q_26 := (mz_24).get q_18
  have q_27 := (mz_24).get q_19
  have q_28 := (mz_24).get q44
  have fH47 : Mo H47 r.2 := by
    have hm := Mo.rf H47
    have hr := Option.some.inj hG; subst hr
    exact hm
  have b_25m := (fH47).len
  have b_25n := (fH47).2
  have b_25p : H47.sh.length ≤ c0 + C := by omega
  have b_25q : H47.sl ≤ s0 + Sl := by omega
  refine hp_callV_v (H1 := H47) (As := [.int 15]) (rest := []) d_Reader_readEvent_111 (k_Lexer_take z45 (C := H47.sh.length - H40.sh.length) (Sl := H47.sl - H40.sl) (by show H47.sh.length ≤ _; omega) (by show H47.sl ≤ _; omega)) (ab_mkC s_Lexer_take (Nat.le_of_ble_eq_true rfl) (Nat.le_of_ble_eq_true rfl) (show (H40.sh.length - c0) + (H47.sh.length - H40.sh.length) ≤ C from by omega) (show (H40.sl - s0) + (H47.sl - H40.sl) ≤ Sl from by omega)) (k5 24 rfl rfl) i_Lexer_take v_Lexer_take q44 (by decide) rfl rfl (Nat.le_of_ble_eq_true rfl) ?_
  refine ab_widen (cells' := H47.sh.length - c0) (slots' := H47.sl - s0) (by show _ + (H47.sh.length - H40.sh.length) ≤ _; omega) (by show _ + (H47.sl - H40.sl) ≤ _; omega) ?_
  clear b_25l b_25s b_25m b_25n b_17c b_17d b_17p b_17q
  exact ab_vret d_Reader_readEvent_114 rfl (by show _ ≤ C; omega) (by show _ ≤ Sl; omega) (by have hr := Option.some.inj hG; subst hr; exact ⟨rfl, rfl⟩)
def B_Reader_readEvent_60 (N : Nat) (p0 : Nat) : Nat → Nat → Int32 → Hp → Option ((Ot Unit) × Hp)
  | 0, _, _, _ => none
  | n + 1, l1, l2, H =>
    if (4 : Int32) < l2 then
    B_Reader_readEvent_96 N p0  H
    else
    ck (H.sh[p0]? = some (5, 0)) <|
    rf (H.P p0 0) fun a70 =>
    ck (H.sh[a70]? = some (1, 0)) <|
    bnd ((H.D a70 2)) fun x73 =>
    if x73 = (14 : Int32) then
    rf (H.P p0 0) fun a75 =>
    ck (H.sh[a75]? = some (1, 0)) <|
    bC (F_Lexer_advance N a75 H) fun v79 H80 =>
    bT (F_Reader_readMember N p0 l1 (4 : Int32) H80) fun v82 H83 =>
    B_Reader_readEvent_60 N p0 n l1 (l2 + 1) H83
    else
    B_Reader_readEvent_96 N p0  H
termination_by structural n => n
set_option maxRecDepth 20000 in
set_option maxHeartbeats 2000000 in
theorem mB_Reader_readEvent_60 {N : Nat} {p0 : Nat} : ∀ (n : Nat) (l1 : Nat) (l2 : Int32) (H : Hp) (r : (Ot Unit) × Hp), B_Reader_readEvent_60 N p0 n l1 l2 H = some r → Mo H r.2 := by
  intro n
  induction n with
  | zero => intro l1 l2 H r hF; rw [B_Reader_readEvent_60] at hF; cases hF
  | succ n ih =>
    intro l1 l2 H r hF
    rw [B_Reader_readEvent_60] at hF
    have hm := Mo.rf H
    rcases ite_s hF with ⟨q_49, hG⟩ | ⟨q_49, hG⟩
    · clear hF
      exact hm.tr (mB_Reader_readEvent_96 hG)
    · clear hF
      obtain ⟨q86, hF⟩ := ck_s hG; clear hG
      obtain ⟨a87, e88, hG⟩ := rf_s hF; clear hF
      obtain ⟨q89, hF⟩ := ck_s hG; clear hG
      obtain ⟨x90, -, hG⟩ := bnd_g hF; clear hF
      rcases ite_s hG with ⟨q_50, hF⟩ | ⟨q_50, hF⟩
      · clear hG
        obtain ⟨a92, e93, hG⟩ := rf_s hF; clear hF
        obtain ⟨q94, hF⟩ := ck_s hG; clear hG
        obtain ⟨v96, H97, z95, hG⟩ := bC_s hF; clear hF
        replace hm : Mo H H97 := hm.tr ((m_Lexer_advance z95)).mo
        refine bT_c hG (fun x101 H100 z98 er => ?_) (fun v99 H100 z98 hF => ?_)
        · subst er; exact hm.tr (m_Reader_readMember z98)
        clear hG
        replace hm : Mo H H100 := hm.tr (m_Reader_readMember z98)
        exact hm.tr (ih l1 (l2 + 1) H100 r hF)
      · clear hG
        exact hm.tr (mB_Reader_readEvent_96 hF)
set_option maxRecDepth 20000 in
set_option maxHeartbeats 2000000 in
theorem kB_Reader_readEvent_60 {N : Nat} {p0 : Nat} {c0 s0 C Sl : Nat} : ∀ (n : Nat) (l1 : Nat) (l2 : Int32) (H : Hp) (r : (Ot Unit) × Hp), B_Reader_readEvent_60 N p0 n l1 l2 H = some r → c0 ≤ H.sh.length → s0 ≤ H.sl → H.sh.length ≤ c0 + C → H.sl ≤ s0 + Sl → r.2.sh.length ≤ c0 + C → r.2.sl ≤ s0 + Sl → ab_V y_Reader_readEvent { frames := 8, cells := C, slots := Sl, locals := 154 } (po (oV r.1) r.2) C Sl (H.sh.length - c0) (H.sl - s0) 60 [some (.ref p0), some (.ref l1), some (.int l2)] [] (hpw H) := by
  intro n
  induction n with
  | zero => intro l1 l2 H r hF; rw [B_Reader_readEvent_60] at hF; cases hF
  | succ n ih =>
    intro l1 l2 H r hF hc0 hs0 hcc hss hC hS
    rw [B_Reader_readEvent_60] at hF
    refine ab_iload_n d_Reader_readEvent_60 rfl rfl ?_
    refine ab_iconst (v := 4) d_Reader_readEvent_61 (by decide) ?_
    refine ab_icmp_gt (tgt := 96) d_Reader_readEvent_62 (by decide) (fun q68 => ?_) (fun q68 => ?_)
    · rw [if_pos q68] at hF
      refine ab_le (lv' := [some (.ref p0), none, none]) ⟨rfl, trivial⟩ ?_
      exact kB_Reader_readEvent_96 hF hc0 hs0 hcc hss hC hS
    · rw [if_neg q68] at hF
      refine ab_aload_n d_Reader_readEvent_65 rfl rfl rfl ?_
      obtain ⟨q69, hG⟩ := ck_s hF; clear hF
      obtain ⟨a70, e71, hF⟩ := rf_s hG; clear hG
      refine hp_getR (f := 0) d_Reader_readEvent_66 q69 (by decide) rfl (by decide) (k1 179 rfl rfl) rfl e71 ?_
      obtain ⟨q72, hG⟩ := ck_s hF; clear hF
      refine hp_getI (f := 2) d_Reader_readEvent_69 q72 (by decide) rfl (by decide) (k1 98 rfl rfl) rfl ?_
      refine ab_topi (fun x73 ex73 => ?_)
      replace hG := bnd_s ex73 hG
      refine ab_bipush (v := 14) d_Reader_readEvent_72 (by decide) ?_
      refine ab_icmp_ne (tgt := 96) d_Reader_readEvent_74 (by decide) (fun q74 => ?_) (fun q74 => ?_)
      · rw [if_neg q74] at hG
        refine ab_le (lv' := [some (.ref p0), none, none]) ⟨rfl, trivial⟩ ?_
        exact kB_Reader_readEvent_96 hG hc0 hs0 hcc hss hC hS
      · rw [if_pos q74] at hG
        refine ab_aload_n d_Reader_readEvent_77 rfl rfl rfl ?_
        obtain ⟨a75, e76, hF⟩ := rf_s hG; clear hG
        refine hp_getR (f := 0) d_Reader_readEvent_78 q69 (by decide) rfl (by decide) (k1 179 rfl rfl) rfl e76 ?_
        obtain ⟨q77, hG⟩ := ck_s hF; clear hF
        obtain ⟨v79, H80, z78, hF⟩ := bC_s hG; clear hG
        refine hp_callV_v (H1 := H80) (As := []) (rest := []) d_Reader_readEvent_81 (k_Lexer_advance z78) (ab_mkC s_Lexer_advance (Nat.le_of_ble_eq_true rfl) (Nat.le_of_ble_eq_true rfl) (show (H.sh.length - c0) + 0 ≤ C from by omega) (show (H.sl - s0) + 0 ≤ Sl from by omega)) (k4 167 rfl rfl) i_Lexer_advance v_Lexer_advance q77 (by decide) rfl rfl (Nat.le_of_ble_eq_true rfl) ?_
        have s_43 : Sa H H80 := (m_Lexer_advance z78)
        refine ab_widen (cells' := H.sh.length - c0) (slots' := H.sl - s0) (by show (H.sh.length - c0) + 0 ≤ _; omega) (by show (H.sl - s0) + 0 ≤ _; omega) ?_
        refine ab_aload_n d_Reader_readEvent_84 rfl rfl rfl ?_
        refine ab_aload_n d_Reader_readEvent_85 rfl rfl rfl ?_
        refine ab_iconst (v := 4) d_Reader_readEvent_86 (by decide) ?_
        refine bT_c hF (fun x84 H83 z81 er => ?_) (fun v82 H83 z81 hG => ?_)
        · subst er
          refine ab_widen (cells' := H80.sh.length - c0) (slots' := H80.sl - s0) (by rw [(s_43).1]; exact Nat.le_refl _) (by rw [(s_43).2]; exact Nat.le_refl _) ?_
          have mz : Mo H80 H83 := (m_Reader_readMember z81)
          have ml := mz.len
          have m2 := mz.2
          have be := congrArg List.length (s_43).1
          have bfx := (s_43).2
          have hC9 : H83.sh.length ≤ c0 + C := hC
          have hS9 : H83.sl ≤ s0 + Sl := hS
          refine hp_callV_t (x := x84) (H1 := H83) (As := [.ref l1, .int 4]) (rest := []) d_Reader_readEvent_87 (k_Reader_readMember z81 (C := H83.sh.length - H80.sh.length) (Sl := H83.sl - H80.sl) (by show H83.sh.length ≤ _; omega) (by show H83.sl ≤ _; omega)) (ab_mkC s_Reader_readMember (Nat.le_of_ble_eq_true rfl) (Nat.le_of_ble_eq_true rfl) (show (H80.sh.length - c0) + (H83.sh.length - H80.sh.length) ≤ C from by omega) (show (H80.sl - s0) + (H83.sl - H80.sl) ≤ Sl from by omega)) (k5 30 rfl rfl) i_Reader_readMember v_Reader_readMember (by rw [(s_43).1]; exact q69) (by decide) rfl rfl (Nat.le_of_ble_eq_true rfl) ?_
          exact ab_U_out rfl (by show _ + (H83.sh.length - H80.sh.length) ≤ C; omega) (by show _ + (H83.sl - H80.sl) ≤ Sl; omega) ⟨rfl, rfl⟩
        clear hF
        refine ab_widen (cells' := H80.sh.length - c0) (slots' := H80.sl - s0) (by rw [(s_43).1]; exact Nat.le_refl _) (by rw [(s_43).2]; exact Nat.le_refl _) ?_
        have mz_44 : Mo H80 H83 := (m_Reader_readMember z81)
        have b_45l := (mz_44).len
        have b_45s := (mz_44).2
        have b_45e := congrArg List.length (s_43).1
        have b_45f := (s_43).2
        have b_45c : c0 ≤ H83.sh.length := by omega
        have b_45d : s0 ≤ H83.sl := by omega
        have q_46 := (mz_44).get (by rw [(s_43).1]; exact q69)
        have q_47 := (mz_44).get (by rw [(s_43).1]; exact q72)
        have q_48 := (mz_44).get (by rw [(s_43).1]; exact q77)
        have fH83 : Mo H83 r.2 := by
          have hm := Mo.rf H83
          exact hm.tr (mB_Reader_readEvent_60 n l1 (l2 + 1) H83 r hG)
        have b_45m := (fH83).len
        have b_45n := (fH83).2
        have b_45p : H83.sh.length ≤ c0 + C := by omega
        have b_45q : H83.sl ≤ s0 + Sl := by omega
        refine hp_callV_v (H1 := H83) (As := [.ref l1, .int 4]) (rest := []) d_Reader_readEvent_87 (k_Reader_readMember z81 (C := H83.sh.length - H80.sh.length) (Sl := H83.sl - H80.sl) (by show H83.sh.length ≤ _; omega) (by show H83.sl ≤ _; omega)) (ab_mkC s_Reader_readMember (Nat.le_of_ble_eq_true rfl) (Nat.le_of_ble_eq_true rfl) (show (H80.sh.length - c0) + (H83.sh.length - H80.sh.length) ≤ C from by omega) (show (H80.sl - s0) + (H83.sl - H80.sl) ≤ Sl from by omega)) (k5 30 rfl rfl) i_Reader_readMember v_Reader_readMember (by rw [(s_43).1]; exact q69) (by decide) rfl rfl (Nat.le_of_ble_eq_true rfl) ?_
        refine ab_widen (cells' := H83.sh.length - c0) (slots' := H83.sl - s0) (by show _ + (H83.sh.length - H80.sh.length) ≤ _; omega) (by show _ + (H83.sl - H80.sl) ≤ _; omega) ?_
        clear b_45l b_45s b_45m b_45n b_45e b_45f
        refine ab_iinc (v := l2 + 1) (lv' := [some (.ref p0), some (.ref l1), some (.int (l2 + 1))]) d_Reader_readEvent_90 rfl rfl (by decide) rfl ?_
        refine ab_goto (tgt := 60) d_Reader_readEvent_93 (by decide) ?_
        exact ih l1 (l2 + 1) H83 r hG b_45c b_45d b_45p b_45q hC hS
def F_Reader_readEvent (N : Nat) (p0 : Nat) (H : Hp) : Option ((Ot Unit) × Hp) :=
    ck (H.sh[p0]? = some (5, 0)) <|
    rf (H.P p0 2) fun a2 =>
    ck (H.sh[a2]? = some (4, 0)) <|
    rf (H.P a2 3) fun a5 =>
    ck (H.sh[a5]? = some (3, 0)) <|
    bnd ((H.D a5 3)) fun x8 =>
    bT (F_Reader_beginOne N p0 x8 (8 : Int32) H) fun v10 H11 =>
    bnd ((H11.D a5 3)) fun x13 =>
    bT (F_Reader_declare N p0 (1 : Int32) x13 H11) fun v15 H16 =>
    on v15 fun a18 =>
    bC (F_Shapes_open N a5 a18 H16) fun v20 H21 =>
    rf (H21.P p0 0) fun a22 =>
    ck (H21.sh[a22]? = some (1, 0)) <|
    bT (F_Lexer_take N a22 (12 : Int32) H21) fun v26 H27 =>
    rf (H27.P p0 0) fun a29 =>
    ck (H27.sh[a29]? = some (1, 0)) <|
    bnd ((H27.D a29 2)) fun x32 =>
    if x32 = (13 : Int32) then
    B_Reader_readEvent_96 N p0  H27
    else
    bT (F_Reader_readMember N p0 a5 (4 : Int32) H27) fun v35 H36 =>
    B_Reader_readEvent_60 N p0 N a5 0 H36
set_option maxRecDepth 20000 in
set_option maxHeartbeats 2000000 in
theorem m_Reader_readEvent {N : Nat} {p0 : Nat} {H : Hp} {r : (Ot Unit) × Hp} (hF : F_Reader_readEvent N p0 H = some r) : Mo H r.2 := by
  unfold F_Reader_readEvent at hF
  have hm := Mo.rf H
  obtain ⟨q38, hG⟩ := ck_s hF; clear hF
  obtain ⟨a39, e40, hF⟩ := rf_s hG; clear hG
  obtain ⟨q41, hG⟩ := ck_s hF; clear hF
  obtain ⟨a42, e43, hF⟩ := rf_s hG; clear hG
  obtain ⟨q44, hG⟩ := ck_s hF; clear hF
  obtain ⟨x45, -, hF⟩ := bnd_g hG; clear hG
  refine bT_c hF (fun x49 H48 z46 er => ?_) (fun v47 H48 z46 hG => ?_)
  · subst er; exact hm.tr (m_Reader_beginOne z46)
  clear hF
  replace hm : Mo H H48 := hm.tr (m_Reader_beginOne z46)
  obtain ⟨x50, -, hF⟩ := bnd_g hG; clear hG
  refine bT_c hF (fun x54 H53 z51 er => ?_) (fun v52 H53 z51 hG => ?_)
  · subst er; exact hm.tr (m_Reader_declare z51)
  clear hF
  replace hm : Mo H H53 := hm.tr (m_Reader_declare z51)
  obtain ⟨a55, ea55, hF⟩ := on_s hG; clear hG
  subst ea55
  obtain ⟨v57, H58, z56, hG⟩ := bC_s hF; clear hF
  replace hm : Mo H H58 := hm.tr ((m_Shapes_open z56)).mo
  obtain ⟨a59, e60, hF⟩ := rf_s hG; clear hG
  obtain ⟨q61, hG⟩ := ck_s hF; clear hF
  refine bT_c hG (fun x65 H64 z62 er => ?_) (fun v63 H64 z62 hF => ?_)
  · subst er; exact hm.tr (m_Lexer_take z62)
  clear hG
  replace hm : Mo H H64 := hm.tr (m_Lexer_take z62)
  obtain ⟨a66, e67, hG⟩ := rf_s hF; clear hF
  obtain ⟨q68, hF⟩ := ck_s hG; clear hG
  obtain ⟨x69, -, hG⟩ := bnd_g hF; clear hF
  rcases ite_s hG with ⟨q_108, hF⟩ | ⟨q_108, hF⟩
  · clear hG
    exact hm.tr (mB_Reader_readEvent_96 hF)
  · clear hG
    refine bT_c hF (fun x74 H73 z71 er => ?_) (fun v72 H73 z71 hG => ?_)
    · subst er; exact hm.tr (m_Reader_readMember z71)
    clear hF
    replace hm : Mo H H73 := hm.tr (m_Reader_readMember z71)
    exact hm.tr (mB_Reader_readEvent_60 N a42 0 H73 r hG)
set_option maxRecDepth 20000 in
set_option maxHeartbeats 2000000 in
theorem k_Reader_readEvent {N : Nat} {p0 : Nat} {H : Hp} {r : (Ot Unit) × Hp} {C Sl : Nat} (hF : F_Reader_readEvent N p0 H = some r) (hC : r.2.sh.length ≤ H.sh.length + C) (hS : r.2.sl ≤ H.sl + Sl) : ab_M y_Reader_readEvent { frames := 8, cells := C, slots := Sl, locals := 154 } [.ref p0] (hpw H) (po (oV r.1) r.2) := by
  unfold F_Reader_readEvent at hF
  obtain ⟨c0, e0⟩ : ∃ q, q = H.sh.length := ⟨_, rfl⟩
  obtain ⟨s0, e1⟩ : ∃ q, q = H.sl := ⟨_, rfl⟩
  rw [← e0] at hC
  rw [← e1] at hS
  have hc0 : c0 ≤ H.sh.length := Nat.le_of_eq e0
  have hs0 : s0 ≤ H.sl := Nat.le_of_eq e1
  have hcc : H.sh.length ≤ c0 + C := by omega
  have hss : H.sl ≤ s0 + Sl := by omega
  refine ab_of2 (lv := [some (.ref p0), none, none]) 2 rfl rfl (Nat.le_of_ble_eq_true rfl) ?_
  refine ab_widen (cells' := H.sh.length - c0) (slots' := H.sl - s0) (Nat.zero_le _) (Nat.zero_le _) ?_
  refine ab_aload_n d_Reader_readEvent_0 rfl rfl rfl ?_
  obtain ⟨q1, hG⟩ := ck_s hF; clear hF
  obtain ⟨a2, e3, hF⟩ := rf_s hG; clear hG
  refine hp_getR (f := 2) d_Reader_readEvent_1 q1 (by decide) rfl (by decide) (k1 181 rfl rfl) rfl e3 ?_
  obtain ⟨q4, hG⟩ := ck_s hF; clear hF
  obtain ⟨a5, e6, hF⟩ := rf_s hG; clear hG
  refine hp_getR (f := 3) d_Reader_readEvent_4 q4 (by decide) rfl (by decide) (k3 64 rfl rfl) rfl e6 ?_
  refine ab_astore_n (lv' := [some (.ref p0), some (.ref a5), none]) d_Reader_readEvent_7 rfl (by decide) rfl rfl ?_
  refine ab_aload_n d_Reader_readEvent_8 rfl rfl rfl ?_
  refine ab_aload_n d_Reader_readEvent_9 rfl rfl rfl ?_
  obtain ⟨q7, hG⟩ := ck_s hF; clear hF
  refine hp_getI (f := 3) d_Reader_readEvent_10 q7 (by decide) rfl (by decide) (k3 41 rfl rfl) rfl ?_
  refine ab_topi (fun x8 ex8 => ?_)
  replace hG := bnd_s ex8 hG
  refine ab_bipush (v := 8) d_Reader_readEvent_13 (by decide) ?_
  refine bT_c hG (fun x12 H11 z9 er => ?_) (fun v10 H11 z9 hF => ?_)
  · subst er
    have mz : Mo H H11 := (m_Reader_beginOne z9)
    have ml := mz.len
    have m2 := mz.2
    have hC9 : H11.sh.length ≤ c0 + C := hC
    have hS9 : H11.sl ≤ s0 + Sl := hS
    refine hp_callV_t (x := x12) (H1 := H11) (As := [.int x8, .int 8]) (rest := []) d_Reader_readEvent_15 (k_Reader_beginOne z9 (C := H11.sh.length - H.sh.length) (Sl := H11.sl - H.sl) (by show H11.sh.length ≤ _; omega) (by show H11.sl ≤ _; omega)) (ab_mkC s_Reader_beginOne (Nat.le_of_ble_eq_true rfl) (Nat.le_of_ble_eq_true rfl) (show (H.sh.length - c0) + (H11.sh.length - H.sh.length) ≤ C from by omega) (show (H.sl - s0) + (H11.sl - H.sl) ≤ Sl from by omega)) (k4 93 rfl rfl) i_Reader_beginOne v_Reader_beginOne q1 (by decide) rfl rfl (Nat.le_of_ble_eq_true rfl) ?_
    exact ab_U_out rfl (by show _ + (H11.sh.length - H.sh.length) ≤ C; omega) (by show _ + (H11.sl - H.sl) ≤ Sl; omega) ⟨rfl, rfl⟩
  clear hG
  have mz_1 : Mo H H11 := (m_Reader_beginOne z9)
  have b_2l := (mz_1).len
  have b_2s := (mz_1).2
  have b_2c : c0 ≤ H11.sh.length := by omega
  have b_2d : s0 ≤ H11.sl := by omega
  have q_3 := (mz_1).get q1
  have q_4 := (mz_1).get q4
  have q_5 := (mz_1).get q7
  obtain ⟨x13, ex13, hG⟩ := bnd_g hF; clear hF
  have fH11 : Mo H11 r.2 := by
    have hm := Mo.rf H11
    refine bT_c hG (fun x17 H16 z14 er => ?_) (fun v15 H16 z14 hF => ?_)
    · subst er; exact hm.tr (m_Reader_declare z14)
    clear hG
    replace hm : Mo H11 H16 := hm.tr (m_Reader_declare z14)
    obtain ⟨a18, ea18, hG⟩ := on_s hF; clear hF
    subst ea18
    obtain ⟨v20, H21, z19, hF⟩ := bC_s hG; clear hG
    replace hm : Mo H11 H21 := hm.tr ((m_Shapes_open z19)).mo
    obtain ⟨a22, e23, hG⟩ := rf_s hF; clear hF
    obtain ⟨q24, hF⟩ := ck_s hG; clear hG
    refine bT_c hF (fun x28 H27 z25 er => ?_) (fun v26 H27 z25 hG => ?_)
    · subst er; exact hm.tr (m_Lexer_take z25)
    clear hF
    replace hm : Mo H11 H27 := hm.tr (m_Lexer_take z25)
    obtain ⟨a29, e30, hF⟩ := rf_s hG; clear hG
    obtain ⟨q31, hG⟩ := ck_s hF; clear hF
    obtain ⟨x32, -, hF⟩ := bnd_g hG; clear hG
    rcases ite_s hF with ⟨q_15, hG⟩ | ⟨q_15, hG⟩
    · clear hF
      exact hm.tr (mB_Reader_readEvent_96 hG)
    · clear hF
      refine bT_c hG (fun x67 H66 z64 er => ?_) (fun v65 H66 z64 hF => ?_)
      · subst er; exact hm.tr (m_Reader_readMember z64)
      clear hG
      replace hm : Mo H11 H66 := hm.tr (m_Reader_readMember z64)
      exact hm.tr (mB_Reader_readEvent_60 N a5 0 H66 r hF)
  have b_2m := (fH11).len
  have b_2n := (fH11).2
  have b_2p : H11.sh.length ≤ c0 + C := by omega
  have b_2q : H11.sl ≤ s0 + Sl := by omega
  refine hp_callV_v (H1 := H11) (As := [.int x8, .int 8]) (rest := []) d_Reader_readEvent_15 (k_Reader_beginOne z9 (C := H11.sh.length - H.sh.length) (Sl := H11.sl - H.sl) (by show H11.sh.length ≤ _; omega) (by show H11.sl ≤ _; omega)) (ab_mkC s_Reader_beginOne (Nat.le_of_ble_eq_true rfl) (Nat.le_of_ble_eq_true rfl) (show (H.sh.length - c0) + (H11.sh.length - H.sh.length) ≤ C from by omega) (show (H.sl - s0) + (H11.sl - H.sl) ≤ Sl from by omega)) (k4 93 rfl rfl) i_Reader_beginOne v_Reader_beginOne q1 (by decide) rfl rfl (Nat.le_of_ble_eq_true rfl) ?_
  refine ab_widen (cells' := H11.sh.length - c0) (slots' := H11.sl - s0) (by show _ + (H11.sh.length - H.sh.length) ≤ _; omega) (by show _ + (H11.sl - H.sl) ≤ _; omega) ?_
  clear b_2l b_2s b_2m b_2n
  refine ab_aload_n d_Reader_readEvent_18 rfl rfl rfl ?_
  refine ab_aload_n d_Reader_readEvent_19 rfl rfl rfl ?_
  refine ab_iconst (v := 1) d_Reader_readEvent_20 (by decide) ?_
  refine ab_aload_n d_Reader_readEvent_21 rfl rfl rfl ?_
  refine hp_getI (f := 3) d_Reader_readEvent_22 q_5 (by decide) rfl (by decide) (k3 41 rfl rfl) rfl ?_
  refine ab_topxi ex13 ?_
  refine bT_c hG (fun x17 H16 z14 er => ?_) (fun v15 H16 z14 hF => ?_)
  · subst er
    have mz : Mo H11 H16 := (m_Reader_declare z14)
    have ml := mz.len
    have m2 := mz.2
    have hC9 : H16.sh.length ≤ c0 + C := hC
    have hS9 : H16.sl ≤ s0 + Sl := hS
    refine hp_callV_t (x := x17) (H1 := H16) (As := [.int 1, .int x13]) (rest := [.ref a5]) d_Reader_readEvent_25 (k_Reader_declare z14 (C := H16.sh.length - H11.sh.length) (Sl := H16.sl - H11.sl) (by show H16.sh.length ≤ _; omega) (by show H16.sl ≤ _; omega)) (ab_mkC s_Reader_declare (Nat.le_of_ble_eq_true rfl) (Nat.le_of_ble_eq_true rfl) (show (H11.sh.length - c0) + (H16.sh.length - H11.sh.length) ≤ C from by omega) (show (H11.sl - s0) + (H16.sl - H11.sl) ≤ Sl from by omega)) (k4 171 rfl rfl) i_Reader_declare v_Reader_declare q_3 (by decide) rfl rfl (Nat.le_of_ble_eq_true rfl) ?_
    exact ab_U_out rfl (by show _ + (H16.sh.length - H11.sh.length) ≤ C; omega) (by show _ + (H16.sl - H11.sl) ≤ Sl; omega) ⟨rfl, rfl⟩
  clear hG
  have mz_55 : Mo H11 H16 := (m_Reader_declare z14)
  have b_56l := (mz_55).len
  have b_56s := (mz_55).2
  have b_56c : c0 ≤ H16.sh.length := by omega
  have b_56d : s0 ≤ H16.sl := by omega
  have q_57 := (mz_55).get q_3
  have q_58 := (mz_55).get q_4
  have q_59 := (mz_55).get q_5
  have mf_60 : Mo H16 r.2 := by
    have hm := Mo.rf H16
    obtain ⟨a18, ea18, hG⟩ := on_s hF; clear hF
    subst ea18
    obtain ⟨v20, H21, z19, hF⟩ := bC_s hG; clear hG
    replace hm : Mo H16 H21 := hm.tr ((m_Shapes_open z19)).mo
    obtain ⟨a22, e23, hG⟩ := rf_s hF; clear hF
    obtain ⟨q24, hF⟩ := ck_s hG; clear hG
    refine bT_c hF (fun x28 H27 z25 er => ?_) (fun v26 H27 z25 hG => ?_)
    · subst er; exact hm.tr (m_Lexer_take z25)
    clear hF
    replace hm : Mo H16 H27 := hm.tr (m_Lexer_take z25)
    obtain ⟨a29, e30, hF⟩ := rf_s hG; clear hG
    obtain ⟨q31, hG⟩ := ck_s hF; clear hF
    obtain ⟨x32, -, hF⟩ := bnd_g hG; clear hG
    rcases ite_s hF with ⟨q_66, hG⟩ | ⟨q_66, hG⟩
    · clear hF
      exact hm.tr (mB_Reader_readEvent_96 hG)
    · clear hF
      refine bT_c hG (fun x37 H36 z34 er => ?_) (fun v35 H36 z34 hF => ?_)
      · subst er; exact hm.tr (m_Reader_readMember z34)
      clear hG
      replace hm : Mo H16 H36 := hm.tr (m_Reader_readMember z34)
      exact hm.tr (mB_Reader_readEvent_60 N a5 0 H36 r hF)
  have b_56m := (mf_60).len
  have b_56n := (mf_60).2
  have b_56p : H16.sh.length ≤ c0 + C := by omega
  have b_56q : H16.sl ≤ s0 + Sl := by omega
  refine hp_callV_a (v := ab_rf v15) (H1 := H16) (As := [.int 1, .int x13]) (rest := [.ref a5]) d_Reader_readEvent_25 (k_Reader_declare z14 (C := H16.sh.length - H11.sh.length) (Sl := H16.sl - H11.sl) (by show H16.sh.length ≤ _; omega) (by show H16.sl ≤ _; omega)) (ab_mkC s_Reader_declare (Nat.le_of_ble_eq_true rfl) (Nat.le_of_ble_eq_true rfl) (show (H11.sh.length - c0) + (H16.sh.length - H11.sh.length) ≤ C from by omega) (show (H11.sl - s0) + (H16.sl - H11.sl) ≤ Sl from by omega)) (k4 171 rfl rfl) i_Reader_declare v_Reader_declare q_3 (by decide) rfl rfl (Nat.le_of_ble_eq_true rfl) ?_
  refine ab_widen (cells' := H16.sh.length - c0) (slots' := H16.sl - s0) (by show _ + (H16.sh.length - H11.sh.length) ≤ _; omega) (by show _ + (H16.sl - H11.sl) ≤ _; omega) ?_
  clear b_56l b_56s b_56m b_56n b_2c b_2d b_2p b_2q
  obtain ⟨a18, ea18, hG⟩ := on_s hF; clear hF
  subst ea18
  obtain ⟨v20, H21, z19, hF⟩ := bC_s hG; clear hG
  refine hp_callV_v (H1 := H21) (As := [.ref a18]) (rest := []) d_Reader_readEvent_28 (k_Shapes_open z19) (ab_mkC s_Shapes_open (Nat.le_of_ble_eq_true rfl) (Nat.le_of_ble_eq_true rfl) (show (H16.sh.length - c0) + 0 ≤ C from by omega) (show (H16.sl - s0) + 0 ≤ Sl from by omega)) (k5 19 rfl rfl) i_Shapes_open v_Shapes_open q_59 (by decide) rfl rfl (Nat.le_of_ble_eq_true rfl) ?_
  have s_74 : Sa H16 H21 := (m_Shapes_open z19)
  refine ab_widen (cells' := H16.sh.length - c0) (slots' := H16.sl - s0) (by show (H16.sh.length - c0) + 0 ≤ _; omega) (by show (H16.sl - s0) + 0 ≤ _; omega) ?_
  refine ab_aload_n d_Reader_readEvent_31 rfl rfl rfl ?_
  obtain ⟨a22, e23, hG⟩ := rf_s hF; clear hF
  refine hp_getR (f := 0) d_Reader_readEvent_32 (by rw [(s_74).1]; exact q_57) (by decide) rfl (by decide) (k1 179 rfl rfl) rfl e23 ?_
  refine ab_bipush (v := 12) d_Reader_readEvent_35 (by decide) ?_
  obtain ⟨q24, hF⟩ := ck_s hG; clear hG
  rw [(s_74).1] at q24
  refine bT_c hF (fun x28 H27 z25 er => ?_) (fun v26 H27 z25 hG => ?_)
  · subst er
    refine ab_widen (cells' := H21.sh.length - c0) (slots' := H21.sl - s0) (by rw [(s_74).1]; exact Nat.le_refl _) (by rw [(s_74).2]; exact Nat.le_refl _) ?_
    have mz : Mo H21 H27 := (m_Lexer_take z25)
    have ml := mz.len
    have m2 := mz.2
    have be := congrArg List.length (s_74).1
    have bfx := (s_74).2
    have hC9 : H27.sh.length ≤ c0 + C := hC
    have hS9 : H27.sl ≤ s0 + Sl := hS
    refine hp_callV_t (x := x28) (H1 := H27) (As := [.int 12]) (rest := []) d_Reader_readEvent_37 (k_Lexer_take z25 (C := H27.sh.length - H21.sh.length) (Sl := H27.sl - H21.sl) (by show H27.sh.length ≤ _; omega) (by show H27.sl ≤ _; omega)) (ab_mkC s_Lexer_take (Nat.le_of_ble_eq_true rfl) (Nat.le_of_ble_eq_true rfl) (show (H21.sh.length - c0) + (H27.sh.length - H21.sh.length) ≤ C from by omega) (show (H21.sl - s0) + (H27.sl - H21.sl) ≤ Sl from by omega)) (k5 24 rfl rfl) i_Lexer_take v_Lexer_take (by rw [(s_74).1]; exact q24) (by decide) rfl rfl (Nat.le_of_ble_eq_true rfl) ?_
    exact ab_U_out rfl (by show _ + (H27.sh.length - H21.sh.length) ≤ C; omega) (by show _ + (H27.sl - H21.sl) ≤ Sl; omega) ⟨rfl, rfl⟩
  clear hF
  refine ab_widen (cells' := H21.sh.length - c0) (slots' := H21.sl - s0) (by rw [(s_74).1]; exact Nat.le_refl _) (by rw [(s_74).2]; exact Nat.le_refl _) ?_
  have mz_75 : Mo H21 H27 := (m_Lexer_take z25)
  have b_76l := (mz_75).len
  have b_76s := (mz_75).2
  have b_76e := congrArg List.length (s_74).1
  have b_76f := (s_74).2
  have b_76c : c0 ≤ H27.sh.length := by omega
  have b_76d : s0 ≤ H27.sl := by omega
  have q_77 := (mz_75).get (by rw [(s_74).1]; exact q_57)
  have q_78 := (mz_75).get (by rw [(s_74).1]; exact q_58)
  have q_79 := (mz_75).get (by rw [(s_74).1]; exact q_59)
  have q_80 := (mz_75).get (by rw [(s_74).1]; exact q24)
  obtain ⟨a29, e30, hF⟩ := rf_s hG; clear hG
  obtain ⟨q31, hG⟩ := ck_s hF; clear hF
  obtain ⟨x32, ex32, hF⟩ := bnd_g hG; clear hG
  have fH27 : Mo H27 r.2 := by
    have hm := Mo.rf H27
    rcases ite_s hF with ⟨q_81, hG⟩ | ⟨q_81, hG⟩
    · clear hF
      exact hm.tr (mB_Reader_readEvent_96 hG)
    · clear hF
      refine bT_c hG (fun x37 H36 z34 er => ?_) (fun v35 H36 z34 hF => ?_)
      · subst er; exact hm.tr (m_Reader_readMember z34)
      clear hG
      replace hm : Mo H27 H36 := hm.tr (m_Reader_readMember z34)
      exact hm.tr (mB_Reader_readEvent_60 N a5 0 H36 r hF)
  have b_76m := (fH27).len
  have b_76n := (fH27).2
  have b_76p : H27.sh.length ≤ c0 + C := by omega
  have b_76q : H27.sl ≤ s0 + Sl := by omega
  refine hp_callV_v (H1 := H27) (As := [.int 12]) (rest := []) d_Reader_readEvent_37 (k_Lexer_take z25 (C := H27.sh.length - H21.sh.length) (Sl := H27.sl - H21.sl) (by show H27.sh.length ≤ _; omega) (by show H27.sl ≤ _; omega)) (ab_mkC s_Lexer_take (Nat.le_of_ble_eq_true rfl) (Nat.le_of_ble_eq_true rfl) (show (H21.sh.length - c0) + (H27.sh.length - H21.sh.length) ≤ C from by omega) (show (H21.sl - s0) + (H27.sl - H21.sl) ≤ Sl from by omega)) (k5 24 rfl rfl) i_Lexer_take v_Lexer_take (by rw [(s_74).1]; exact q24) (by decide) rfl rfl (Nat.le_of_ble_eq_true rfl) ?_
  refine ab_widen (cells' := H27.sh.length - c0) (slots' := H27.sl - s0) (by show _ + (H27.sh.length - H21.sh.length) ≤ _; omega) (by show _ + (H27.sl - H21.sl) ≤ _; omega) ?_
  clear b_76l b_76s b_76m b_76n b_76e b_76f b_56c b_56d b_56p b_56q
  refine ab_aload_n d_Reader_readEvent_40 rfl rfl rfl ?_
  refine hp_getR (f := 0) d_Reader_readEvent_41 q_77 (by decide) rfl (by decide) (k1 179 rfl rfl) rfl e30 ?_
  refine hp_getI (f := 2) d_Reader_readEvent_44 q31 (by decide) rfl (by decide) (k1 98 rfl rfl) rfl ?_
  refine ab_topxi ex32 ?_
  refine ab_bipush (v := 13) d_Reader_readEvent_47 (by decide) ?_
  refine ab_icmp_eq (tgt := 96) d_Reader_readEvent_49 (by decide) (fun q33 => ?_) (fun q33 => ?_)
  · rw [if_pos q33] at hF
    refine ab_le (lv' := [some (.ref p0), none, none]) ⟨rfl, trivial⟩ ?_
    exact kB_Reader_readEvent_96 hF b_76c b_76d b_76p b_76q hC hS
  · rw [if_neg q33] at hF
    refine ab_aload_n d_Reader_readEvent_52 rfl rfl rfl ?_
    refine ab_aload_n d_Reader_readEvent_53 rfl rfl rfl ?_
    refine ab_iconst (v := 4) d_Reader_readEvent_54 (by decide) ?_
    refine bT_c hF (fun x37 H36 z34 er => ?_) (fun v35 H36 z34 hG => ?_)
    · subst er
      have mz : Mo H27 H36 := (m_Reader_readMember z34)
      have ml := mz.len
      have m2 := mz.2
      have hC9 : H36.sh.length ≤ c0 + C := hC
      have hS9 : H36.sl ≤ s0 + Sl := hS
      refine hp_callV_t (x := x37) (H1 := H36) (As := [.ref a5, .int 4]) (rest := []) d_Reader_readEvent_55 (k_Reader_readMember z34 (C := H36.sh.length - H27.sh.length) (Sl := H36.sl - H27.sl) (by show H36.sh.length ≤ _; omega) (by show H36.sl ≤ _; omega)) (ab_mkC s_Reader_readMember (Nat.le_of_ble_eq_true rfl) (Nat.le_of_ble_eq_true rfl) (show (H27.sh.length - c0) + (H36.sh.length - H27.sh.length) ≤ C from by omega) (show (H27.sl - s0) + (H36.sl - H27.sl) ≤ Sl from by omega)) (k5 30 rfl rfl) i_Reader_readMember v_Reader_readMember q_77 (by decide) rfl rfl (Nat.le_of_ble_eq_true rfl) ?_
      exact ab_U_out rfl (by show _ + (H36.sh.length - H27.sh.length) ≤ C; omega) (by show _ + (H36.sl - H27.sl) ≤ Sl; omega) ⟨rfl, rfl⟩
    clear hF
    have mz_88 : Mo H27 H36 := (m_Reader_readMember z34)
    have b_89l := (mz_88).len
    have b_89s := (mz_88).2
    have b_89c : c0 ≤ H36.sh.length := by omega
    have b_89d : s0 ≤ H36.sl := by omega
    have q_90 := (mz_88).get q_77
    have q_91 := (mz_88).get q_78
    have q_92 := (mz_88).get q_79
    have q_93 := (mz_88).get q_80
    have q_94 := (mz_88).get q31
    have fH36 : Mo H36 r.2 := by
      have hm := Mo.rf H36
      exact hm.tr (mB_Reader_readEvent_60 N a5 0 H36 r hG)
    have b_89m := (fH36).len
    have b_89n := (fH36).2
    have b_89p : H36.sh.length ≤ c0 + C := by omega
    have b_89q : H36.sl ≤ s0 + Sl := by omega
    refine hp_callV_v (H1 := H36) (As := [.ref a5, .int 4]) (rest := []) d_Reader_readEvent_55 (k_Reader_readMember z34 (C := H36.sh.length - H27.sh.length) (Sl := H36.sl - H27.sl) (by show H36.sh.length ≤ _; omega) (by show H36.sl ≤ _; omega)) (ab_mkC s_Reader_readMember (Nat.le_of_ble_eq_true rfl) (Nat.le_of_ble_eq_true rfl) (show (H27.sh.length - c0) + (H36.sh.length - H27.sh.length) ≤ C from by omega) (show (H27.sl - s0) + (H36.sl - H27.sl) ≤ Sl from by omega)) (k5 30 rfl rfl) i_Reader_readMember v_Reader_readMember q_77 (by decide) rfl rfl (Nat.le_of_ble_eq_true rfl) ?_
    refine ab_widen (cells' := H36.sh.length - c0) (slots' := H36.sl - s0) (by show _ + (H36.sh.length - H27.sh.length) ≤ _; omega) (by show _ + (H36.sl - H27.sl) ≤ _; omega) ?_
    clear b_89l b_89s b_89m b_89n b_76c b_76d b_76p b_76q
    refine ab_iconst (v := 0) d_Reader_readEvent_58 (by decide) ?_
    refine ab_istore_n (lv' := [some (.ref p0), some (.ref a5), some (.int 0)]) d_Reader_readEvent_59 rfl (by decide) rfl ?_
    exact kB_Reader_readEvent_60 N a5 0 H36 r hG b_89c b_89d b_89p b_89q hC hS
def y_Program_firstValue : ab_Y := (⟨"WorldEngine$Program", "firstValue", "(I)I"⟩, prog_6_method_8_code, 2, (some FieldType.int), [])
theorem d_Program_firstValue_0 : decode y_Program_firstValue.2.1 0 = .ok (.aload_n 0, 1) := by decide +kernel
theorem d_Program_firstValue_1 : decode y_Program_firstValue.2.1 1 = .ok (.getfield 24, 3) := by decide +kernel
theorem d_Program_firstValue_4 : decode y_Program_firstValue.2.1 4 = .ok (.getfield 101, 3) := by decide +kernel
theorem d_Program_firstValue_7 : decode y_Program_firstValue.2.1 7 = .ok (.iload_n 1, 1) := by decide +kernel
theorem d_Program_firstValue_8 : decode y_Program_firstValue.2.1 8 = .ok (.aaload, 1) := by decide +kernel
theorem d_Program_firstValue_9 : decode y_Program_firstValue.2.1 9 = .ok (.getfield 104, 3) := by decide +kernel
theorem d_Program_firstValue_12 : decode y_Program_firstValue.2.1 12 = .ok (.iconst 4, 1) := by decide +kernel
theorem d_Program_firstValue_13 : decode y_Program_firstValue.2.1 13 = .ok (.if_icmp .ne 7, 3) := by decide +kernel
theorem d_Program_firstValue_16 : decode y_Program_firstValue.2.1 16 = .ok (.iconst (-1), 1) := by decide +kernel
theorem d_Program_firstValue_17 : decode y_Program_firstValue.2.1 17 = .ok (.goto 4, 3) := by decide +kernel
theorem d_Program_firstValue_20 : decode y_Program_firstValue.2.1 20 = .ok (.iconst 0, 1) := by decide +kernel
theorem d_Program_firstValue_21 : decode y_Program_firstValue.2.1 21 = .ok (.ireturn, 1) := by decide +kernel
theorem s_Program_firstValue : ab_Stat y_Program_firstValue 1 := ⟨(k5 62 rfl rfl), (k1 15 rfl rfl), ⟨by decide, by decide⟩, by decide +kernel⟩
theorem i_Program_firstValue : Cond.instanceMethod y_Program_firstValue.1 ∈ ab_T := (k5 60 rfl rfl)
theorem v_Program_firstValue : Cond.selects "WorldEngine$Program" y_Program_firstValue.1 y_Program_firstValue.1 ∈ ab_T := (k5 61 rfl rfl)
def F_Program_firstValue (N : Nat) (p0 : Nat) (p1 : Int32) (H : Hp) : Option (Int32 × Hp) :=
    ck (H.sh[p0]? = some (4, 0)) <|
    rf (H.P p0 2) fun a2 =>
    ck (H.sh[a2]? = some (3, 0)) <|
    rf (H.P a2 1) fun a5 =>
    ar H 106 a5 fun n7 =>
    ck (inb p1 n7) <|
    rf (H.P a5 (p1).toNatClampNeg) fun a10 =>
    ck (H.sh[a10]? = some (2, 0)) <|
    bnd ((H.D a10 3)) fun x13 =>
    if x13 = (4 : Int32) then
    some ((-1), H)
    else
    some (0, H)
set_option maxRecDepth 20000 in
set_option maxHeartbeats 2000000 in
theorem m_Program_firstValue {N : Nat} {p0 : Nat} {p1 : Int32} {H : Hp} {r : Int32 × Hp} (hF : F_Program_firstValue N p0 p1 H = some r) : Sa H r.2 := by
  unfold F_Program_firstValue at hF
  have hm := Sa.rf H
  obtain ⟨q15, hG⟩ := ck_s hF; clear hF
  obtain ⟨a16, e17, hF⟩ := rf_s hG; clear hG
  obtain ⟨q18, hG⟩ := ck_s hF; clear hF
  obtain ⟨a19, e20, hF⟩ := rf_s hG; clear hG
  obtain ⟨n21, q22, hG⟩ := ar_s hF; clear hF
  obtain ⟨q23, hF⟩ := ck_s hG; clear hG
  obtain ⟨a24, e25, hG⟩ := rf_s hF; clear hF
  obtain ⟨q26, hF⟩ := ck_s hG; clear hG
  obtain ⟨x27, -, hG⟩ := bnd_g hF; clear hF
  rcases ite_s hG with ⟨q_1, hF⟩ | ⟨q_1, hF⟩
  · clear hG
    have hr := Option.some.inj hF; subst hr
    exact hm
  · clear hG
    have hr := Option.some.inj hF; subst hr
    exact hm
set_option maxRecDepth 20000 in
set_option maxHeartbeats 2000000 in
theorem k_Program_firstValue {N : Nat} {p0 : Nat} {p1 : Int32} {H : Hp} {r : Int32 × Hp} (hF : F_Program_firstValue N p0 p1 H = some r) : ab_M y_Program_firstValue { frames := 0, cells := 0, slots := 0, locals := 0 } [.ref p0, .int p1] (hpw H) (po (.returned (some (.int r.1))) r.2) := by
  unfold F_Program_firstValue at hF
  refine ab_of2 (lv := [some (.ref p0), some (.int p1)]) 0 rfl rfl (Nat.le_of_ble_eq_true rfl) ?_
  refine ab_aload_n d_Program_firstValue_0 rfl rfl rfl ?_
  obtain ⟨q1, hG⟩ := ck_s hF; clear hF
  obtain ⟨a2, e3, hF⟩ := rf_s hG; clear hG
  refine hp_getR (f := 2) d_Program_firstValue_1 q1 (by decide) rfl (by decide) (k3 55 rfl rfl) rfl e3 ?_
  obtain ⟨q4, hG⟩ := ck_s hF; clear hF
  obtain ⟨a5, e6, hF⟩ := rf_s hG; clear hG
  refine hp_getR (f := 1) d_Program_firstValue_4 q4 (by decide) rfl (by decide) (k3 27 rfl rfl) rfl e6 ?_
  refine ab_iload_n d_Program_firstValue_7 rfl rfl ?_
  obtain ⟨n7, q8, hG⟩ := ar_s hF; clear hF
  obtain ⟨q9, hF⟩ := ck_s hG; clear hG
  obtain ⟨a10, e11, hG⟩ := rf_s hF; clear hF
  refine hp_aald (q := 106) d_Program_firstValue_8 (by decide) tN q8 q9 e11 ?_
  obtain ⟨q12, hF⟩ := ck_s hG; clear hG
  refine hp_getI (f := 3) d_Program_firstValue_9 q12 (by decide) rfl (by decide) (k3 0 rfl rfl) rfl ?_
  refine ab_topi (fun x13 ex13 => ?_)
  replace hF := bnd_s ex13 hF
  refine ab_iconst (v := 4) d_Program_firstValue_12 (by decide) ?_
  refine ab_icmp_ne (tgt := 20) d_Program_firstValue_13 (by decide) (fun q14 => ?_) (fun q14 => ?_)
  · rw [if_neg q14] at hF
    refine ab_iconst (v := 0) d_Program_firstValue_20 (by decide) ?_
    exact ab_iret d_Program_firstValue_21 rfl (Nat.le_refl _) (Nat.le_refl _) (by have hr := Option.some.inj hF; subst hr; exact ⟨rfl, rfl⟩)
  · rw [if_pos q14] at hF
    refine ab_iconst (v := (-1)) d_Program_firstValue_16 (by decide) ?_
    refine ab_goto (tgt := 21) d_Program_firstValue_17 (by decide) ?_
    exact ab_iret d_Program_firstValue_21 rfl (Nat.le_refl _) (Nat.le_refl _) (by have hr := Option.some.inj hF; subst hr; exact ⟨rfl, rfl⟩)
