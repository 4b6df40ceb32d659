def y_M_change : ab_Y := (⟨"WorldEngineModel", "change", "(III)I"⟩, prog_14_method_28_code, 5, (some FieldType.int), [])
theorem d_M_change_0 : decode y_M_change.2.1 0 = .ok (.aload_n 0, 1) := by decide +kernel
theorem d_M_change_1 : decode y_M_change.2.1 1 = .ok (.iconst 0, 1) := by decide +kernel
theorem d_M_change_2 : decode y_M_change.2.1 2 = .ok (.putfield 83, 3) := by decide +kernel
theorem d_M_change_5 : decode y_M_change.2.1 5 = .ok (.aload_n 0, 1) := by decide +kernel
theorem d_M_change_6 : decode y_M_change.2.1 6 = .ok (.invokevirtual 148, 3) := by decide +kernel
theorem d_M_change_9 : decode y_M_change.2.1 9 = .ok (.ifCond .ne 6, 3) := by decide +kernel
theorem d_M_change_12 : decode y_M_change.2.1 12 = .ok (.bipush (-10), 2) := by decide +kernel
theorem d_M_change_14 : decode y_M_change.2.1 14 = .ok (.ireturn, 1) := by decide +kernel
theorem d_M_change_15 : decode y_M_change.2.1 15 = .ok (.iload_n 1, 1) := by decide +kernel
theorem d_M_change_16 : decode y_M_change.2.1 16 = .ok (.i2l, 1) := by decide +kernel
theorem d_M_change_17 : decode y_M_change.2.1 17 = .ok (.lconst 0, 1) := by decide +kernel
theorem d_M_change_18 : decode y_M_change.2.1 18 = .ok (.ldc2_w 272, 3) := by decide +kernel
theorem d_M_change_21 : decode y_M_change.2.1 21 = .ok (.invokestatic 99, 3) := by decide +kernel
theorem d_M_change_24 : decode y_M_change.2.1 24 = .ok (.ifCond .eq 26, 3) := by decide +kernel
theorem d_M_change_27 : decode y_M_change.2.1 27 = .ok (.aload_n 0, 1) := by decide +kernel
theorem d_M_change_28 : decode y_M_change.2.1 28 = .ok (.getfield 37, 3) := by decide +kernel
theorem d_M_change_31 : decode y_M_change.2.1 31 = .ok (.iload_n 2, 1) := by decide +kernel
theorem d_M_change_32 : decode y_M_change.2.1 32 = .ok (.invokevirtual 274, 3) := by decide +kernel
theorem d_M_change_35 : decode y_M_change.2.1 35 = .ok (.ifCond .eq 15, 3) := by decide +kernel
theorem d_M_change_38 : decode y_M_change.2.1 38 = .ok (.iload_n 1, 1) := by decide +kernel
theorem d_M_change_39 : decode y_M_change.2.1 39 = .ok (.ifCond .le 13, 3) := by decide +kernel
theorem d_M_change_42 : decode y_M_change.2.1 42 = .ok (.aload_n 0, 1) := by decide +kernel
theorem d_M_change_43 : decode y_M_change.2.1 43 = .ok (.iload_n 3, 1) := by decide +kernel
theorem d_M_change_44 : decode y_M_change.2.1 44 = .ok (.invokevirtual 278, 3) := by decide +kernel
theorem d_M_change_47 : decode y_M_change.2.1 47 = .ok (.ifCond .ne 5, 3) := by decide +kernel
theorem d_M_change_50 : decode y_M_change.2.1 50 = .ok (.iconst (-1), 1) := by decide +kernel
theorem d_M_change_51 : decode y_M_change.2.1 51 = .ok (.ireturn, 1) := by decide +kernel
theorem d_M_change_52 : decode y_M_change.2.1 52 = .ok (.iload_n 1, 1) := by decide +kernel
theorem d_M_change_53 : decode y_M_change.2.1 53 = .ok (.ifCond .ne 14, 3) := by decide +kernel
theorem d_M_change_56 : decode y_M_change.2.1 56 = .ok (.aload_n 0, 1) := by decide +kernel
theorem d_M_change_57 : decode y_M_change.2.1 57 = .ok (.getfield 37, 3) := by decide +kernel
theorem d_M_change_60 : decode y_M_change.2.1 60 = .ok (.iload_n 2, 1) := by decide +kernel
theorem d_M_change_61 : decode y_M_change.2.1 61 = .ok (.invokevirtual 281, 3) := by decide +kernel
theorem d_M_change_64 : decode y_M_change.2.1 64 = .ok (.goto 33, 3) := by decide +kernel
theorem d_M_change_67 : decode y_M_change.2.1 67 = .ok (.iload_n 1, 1) := by decide +kernel
theorem d_M_change_68 : decode y_M_change.2.1 68 = .ok (.iconst 1, 1) := by decide +kernel
theorem d_M_change_69 : decode y_M_change.2.1 69 = .ok (.if_icmp .ne 19, 3) := by decide +kernel
theorem d_M_change_72 : decode y_M_change.2.1 72 = .ok (.aload_n 0, 1) := by decide +kernel
theorem d_M_change_73 : decode y_M_change.2.1 73 = .ok (.getfield 37, 3) := by decide +kernel
theorem d_M_change_76 : decode y_M_change.2.1 76 = .ok (.aload_n 0, 1) := by decide +kernel
theorem d_M_change_77 : decode y_M_change.2.1 77 = .ok (.getfield 16, 3) := by decide +kernel
theorem d_M_change_80 : decode y_M_change.2.1 80 = .ok (.iload_n 2, 1) := by decide +kernel
theorem d_M_change_81 : decode y_M_change.2.1 81 = .ok (.iload_n 3, 1) := by decide +kernel
theorem d_M_change_82 : decode y_M_change.2.1 82 = .ok (.invokevirtual 284, 3) := by decide +kernel
theorem d_M_change_85 : decode y_M_change.2.1 85 = .ok (.goto 12, 3) := by decide +kernel
theorem d_M_change_88 : decode y_M_change.2.1 88 = .ok (.aload_n 0, 1) := by decide +kernel
theorem d_M_change_89 : decode y_M_change.2.1 89 = .ok (.getfield 37, 3) := by decide +kernel
theorem d_M_change_92 : decode y_M_change.2.1 92 = .ok (.iload_n 2, 1) := by decide +kernel
theorem d_M_change_93 : decode y_M_change.2.1 93 = .ok (.iload_n 3, 1) := by decide +kernel
theorem d_M_change_94 : decode y_M_change.2.1 94 = .ok (.invokevirtual 288, 3) := by decide +kernel
theorem d_M_change_97 : decode y_M_change.2.1 97 = .ok (.istore 4, 2) := by decide +kernel
theorem d_M_change_99 : decode y_M_change.2.1 99 = .ok (.aload_n 0, 1) := by decide +kernel
theorem d_M_change_100 : decode y_M_change.2.1 100 = .ok (.getfield 33, 3) := by decide +kernel
theorem d_M_change_103 : decode y_M_change.2.1 103 = .ok (.aload_n 0, 1) := by decide +kernel
theorem d_M_change_104 : decode y_M_change.2.1 104 = .ok (.getfield 37, 3) := by decide +kernel
theorem d_M_change_107 : decode y_M_change.2.1 107 = .ok (.invokevirtual 129, 3) := by decide +kernel
theorem d_M_change_110 : decode y_M_change.2.1 110 = .ok (.iload 4, 2) := by decide +kernel
theorem d_M_change_112 : decode y_M_change.2.1 112 = .ok (.ifCond .eq 7, 3) := by decide +kernel
theorem d_M_change_115 : decode y_M_change.2.1 115 = .ok (.iconst 0, 1) := by decide +kernel
theorem d_M_change_116 : decode y_M_change.2.1 116 = .ok (.goto 5, 3) := by decide +kernel
theorem d_M_change_119 : decode y_M_change.2.1 119 = .ok (.bipush (-2), 2) := by decide +kernel
theorem d_M_change_121 : decode y_M_change.2.1 121 = .ok (.ireturn, 1) := by decide +kernel
theorem s_M_change : ab_Stat y_M_change 3 := ⟨(k12 187 rfl rfl), (k1 19 rfl rfl), ⟨by decide, by decide⟩, by decide +kernel⟩
theorem i_M_change : Cond.instanceMethod y_M_change.1 ∈ ab_T := (k12 185 rfl rfl)
theorem v_M_change : Cond.selects "WorldEngineModel" y_M_change.1 y_M_change.1 ∈ ab_T := (k12 186 rfl rfl)
def B_M_change_97 (N : Nat) (p0 : Nat) (p1 : Int32) (p2 : Int32) (p3 : Int32) (w0 : Int32) (H : Hp) : Option (Int32 × Hp) :=
    ck (H.sh[p0]? = some (12, 0)) <|
    rf (H.P p0 8) fun a29 =>
    rf (H.P p0 9) fun a31 =>
    ck (H.sh[a29]? = some (13, 0)) <|
    bC (F_MWorld_copies N a29 a31 H) fun v35 H36 =>
    if w0 = (0 : Int32) then
    some ((-2), H36)
    else
    some (0, H36)
set_option maxRecDepth 20000 in
set_option maxHeartbeats 2000000 in
theorem mB_M_change_97 {N : Nat} {p0 : Nat} {p1 : Int32} {p2 : Int32} {p3 : Int32} {w0 : Int32} {H : Hp} {r : Int32 × Hp} (hF : B_M_change_97 N p0 p1 p2 p3 w0 H = some r) : Sa H r.2 := by
  unfold B_M_change_97 at hF
  have hm := Sa.rf H
  obtain ⟨q38, hG⟩ := ck_s hF; clear hF
  obtain ⟨a39, e40, hF⟩ := rf_s hG; clear hG
  obtain ⟨a41, e42, hG⟩ := rf_s hF; clear hF
  obtain ⟨q43, hF⟩ := ck_s hG; clear hG
  obtain ⟨v45, H46, z44, hG⟩ := bC_s hF; clear hF
  replace hm : Sa H H46 := hm.tr (m_MWorld_copies z44)
  rcases ite_s hG with ⟨q_8, hF⟩ | ⟨q_8, hF⟩
  · clear hG
    have hr := Option.some.inj hF; subst hr
    exact hm
  · clear hG
    have hr := Option.some.inj hF; subst hr
    exact hm
set_option maxRecDepth 20000 in
set_option maxHeartbeats 2000000 in
theorem kB_M_change_97 {N : Nat} {p0 : Nat} {p1 : Int32} {p2 : Int32} {p3 : Int32} {w0 : Int32} {H : Hp} {r : Int32 × Hp} (hF : B_M_change_97 N p0 p1 p2 p3 w0 H = some r) : ab_V y_M_change { frames := 4, cells := 0, slots := 0, locals := 89 } (po (.returned (some (.int r.1))) r.2) 0 0 0 0 97 [some (.ref p0), some (.int p1), some (.int p2), some (.int p3), none] [.int w0] (hpw H) := by
  unfold B_M_change_97 at hF
  refine ab_istore (lv' := [some (.ref p0), some (.int p1), some (.int p2), some (.int p3), some (.int w0)]) d_M_change_97 (by decide) rfl ?_
  refine ab_aload_n d_M_change_99 rfl rfl rfl ?_
  obtain ⟨q28, hG⟩ := ck_s hF; clear hF
  obtain ⟨a29, e30, hF⟩ := rf_s hG; clear hG
  refine hp_getR (f := 8) d_M_change_100 q28 (by decide) rfl (by decide) (k10 1 rfl rfl) rfl e30 ?_
  refine ab_aload_n d_M_change_103 rfl rfl rfl ?_
  obtain ⟨a31, e32, hG⟩ := rf_s hF; clear hF
  refine hp_getR (f := 9) d_M_change_104 q28 (by decide) rfl (by decide) (k10 2 rfl rfl) rfl e32 ?_
  obtain ⟨q33, hF⟩ := ck_s hG; clear hG
  obtain ⟨v35, H36, z34, hG⟩ := bC_s hF; clear hF
  refine hp_callV_v (H1 := H36) (As := [.ref a31]) (rest := []) d_M_change_107 (k_MWorld_copies z34) (ab_mkC s_MWorld_copies (Nat.le_of_ble_eq_true rfl) (Nat.le_of_ble_eq_true rfl) (Nat.le_refl 0) (Nat.le_refl 0)) (k11 146 rfl rfl) i_MWorld_copies v_MWorld_copies q33 (by decide) rfl rfl (Nat.le_of_ble_eq_true rfl) ?_
  have s_6 : Sa H H36 := (m_MWorld_copies z34)
  refine ab_iload d_M_change_110 rfl ?_
  refine ab_if_eq (tgt := 119) d_M_change_112 (by decide) (fun q37 => ?_) (fun q37 => ?_)
  · rw [if_pos q37] at hG
    refine ab_bipush (v := (-2)) d_M_change_119 (by decide) ?_
    exact ab_iret d_M_change_121 rfl (Nat.le_refl _) (Nat.le_refl _) (by have hr := Option.some.inj hG; subst hr; exact ⟨rfl, rfl⟩)
  · rw [if_neg q37] at hG
    refine ab_iconst (v := 0) d_M_change_115 (by decide) ?_
    refine ab_goto (tgt := 121) d_M_change_116 (by decide) ?_
    exact ab_iret d_M_change_121 rfl (Nat.le_refl _) (Nat.le_refl _) (by have hr := Option.some.inj hG; subst hr; exact ⟨rfl, rfl⟩)
def B_M_change_52 (N : Nat) (p0 : Nat) (p1 : Int32) (p2 : Int32) (p3 : Int32)  (H : Hp) : Option (Int32 × Hp) :=
    if p1 = (0 : Int32) then
    ck (H.sh[p0]? = some (12, 0)) <|
    rf (H.P p0 9) fun a58 =>
    ck (H.sh[a58]? = some (13, 0)) <|
    bC (F_MWorld_drops N a58 p2 H) fun v62 H63 =>
    B_M_change_97 N p0 p1 p2 p3 v62 H63
    else
    if p1 = (1 : Int32) then
    ck (H.sh[p0]? = some (12, 0)) <|
    rf (H.P p0 9) fun a49 =>
    rf (H.P p0 3) fun a51 =>
    ck (H.sh[a49]? = some (13, 0)) <|
    bC (F_MWorld_gives N a49 a51 p2 p3 H) fun v55 H56 =>
    B_M_change_97 N p0 p1 p2 p3 v55 H56
    else
    ck (H.sh[p0]? = some (12, 0)) <|
    rf (H.P p0 9) fun a22 =>
    ck (H.sh[a22]? = some (13, 0)) <|
    bC (F_MWorld_takes N a22 p2 p3 H) fun v26 H27 =>
    B_M_change_97 N p0 p1 p2 p3 v26 H27
set_option maxRecDepth 20000 in
set_option maxHeartbeats 2000000 in
theorem mB_M_change_52 {N : Nat} {p0 : Nat} {p1 : Int32} {p2 : Int32} {p3 : Int32}  {H : Hp} {r : Int32 × Hp} (hF : B_M_change_52 N p0 p1 p2 p3  H = some r) : Sa H r.2 := by
  unfold B_M_change_52 at hF
  have hm := Sa.rf H
  rcases ite_s hF with ⟨q_11, hG⟩ | ⟨q_11, hG⟩
  · clear hF
    obtain ⟨q65, hF⟩ := ck_s hG; clear hG
    obtain ⟨a66, e67, hG⟩ := rf_s hF; clear hF
    obtain ⟨q68, hF⟩ := ck_s hG; clear hG
    obtain ⟨v70, H71, z69, hG⟩ := bC_s hF; clear hF
    replace hm : Sa H H71 := hm.tr (m_MWorld_drops z69)
    exact hm.tr (mB_M_change_97 hG)
  · clear hF
    rcases ite_s hG with ⟨q_13, hF⟩ | ⟨q_13, hF⟩
    · clear hG
      obtain ⟨q73, hG⟩ := ck_s hF; clear hF
      obtain ⟨a74, e75, hF⟩ := rf_s hG; clear hG
      obtain ⟨a76, e77, hG⟩ := rf_s hF; clear hF
      obtain ⟨q78, hF⟩ := ck_s hG; clear hG
      obtain ⟨v80, H81, z79, hG⟩ := bC_s hF; clear hF
      replace hm : Sa H H81 := hm.tr (m_MWorld_gives z79)
      exact hm.tr (mB_M_change_97 hG)
    · clear hG
      obtain ⟨q82, hG⟩ := ck_s hF; clear hF
      obtain ⟨a83, e84, hF⟩ := rf_s hG; clear hG
      obtain ⟨q85, hG⟩ := ck_s hF; clear hF
      obtain ⟨v87, H88, z86, hF⟩ := bC_s hG; clear hG
      replace hm : Sa H H88 := hm.tr (m_MWorld_takes z86)
      exact hm.tr (mB_M_change_97 hF)
set_option maxRecDepth 20000 in
set_option maxHeartbeats 2000000 in
theorem kB_M_change_52 {N : Nat} {p0 : Nat} {p1 : Int32} {p2 : Int32} {p3 : Int32}  {H : Hp} {r : Int32 × Hp} (hF : B_M_change_52 N p0 p1 p2 p3  H = some r) : ab_V y_M_change { frames := 4, cells := 0, slots := 0, locals := 89 } (po (.returned (some (.int r.1))) r.2) 0 0 0 0 52 [some (.ref p0), some (.int p1), some (.int p2), some (.int p3), none] [] (hpw H) := by
  unfold B_M_change_52 at hF
  refine ab_iload_n d_M_change_52 rfl rfl ?_
  refine ab_if_ne (tgt := 67) d_M_change_53 (by decide) (fun q19 => ?_) (fun q19 => ?_)
  · rw [if_neg q19] at hF
    refine ab_iload_n d_M_change_67 rfl rfl ?_
    refine ab_iconst (v := 1) d_M_change_68 (by decide) ?_
    refine ab_icmp_ne (tgt := 88) d_M_change_69 (by decide) (fun q20 => ?_) (fun q20 => ?_)
    · rw [if_neg q20] at hF
      refine ab_aload_n d_M_change_88 rfl rfl rfl ?_
      obtain ⟨q21, hG⟩ := ck_s hF; clear hF
      obtain ⟨a22, e23, hF⟩ := rf_s hG; clear hG
      refine hp_getR (f := 9) d_M_change_89 q21 (by decide) rfl (by decide) (k10 2 rfl rfl) rfl e23 ?_
      refine ab_iload_n d_M_change_92 rfl rfl ?_
      refine ab_iload_n d_M_change_93 rfl rfl ?_
      obtain ⟨q24, hG⟩ := ck_s hF; clear hF
      obtain ⟨v26, H27, z25, hF⟩ := bC_s hG; clear hG
      refine hp_callV_a (v := .int v26) (H1 := H27) (As := [.int p2, .int p3]) (rest := []) d_M_change_94 (k_MWorld_takes z25) (ab_mkC s_MWorld_takes (Nat.le_of_ble_eq_true rfl) (Nat.le_of_ble_eq_true rfl) (Nat.le_refl 0) (Nat.le_refl 0)) (k12 196 rfl rfl) i_MWorld_takes v_MWorld_takes q24 (by decide) rfl rfl (Nat.le_of_ble_eq_true rfl) ?_
      have s_5 : Sa H H27 := (m_MWorld_takes z25)
      exact kB_M_change_97 hF
    · rw [if_pos q20] at hF
      refine ab_aload_n d_M_change_72 rfl rfl rfl ?_
      obtain ⟨q48, hG⟩ := ck_s hF; clear hF
      obtain ⟨a49, e50, hF⟩ := rf_s hG; clear hG
      refine hp_getR (f := 9) d_M_change_73 q48 (by decide) rfl (by decide) (k10 2 rfl rfl) rfl e50 ?_
      refine ab_aload_n d_M_change_76 rfl rfl rfl ?_
      obtain ⟨a51, e52, hG⟩ := rf_s hF; clear hF
      refine hp_getR (f := 3) d_M_change_77 q48 (by decide) rfl (by decide) (k9 236 rfl rfl) rfl e52 ?_
      refine ab_iload_n d_M_change_80 rfl rfl ?_
      refine ab_iload_n d_M_change_81 rfl rfl ?_
      obtain ⟨q53, hF⟩ := ck_s hG; clear hG
      obtain ⟨v55, H56, z54, hG⟩ := bC_s hF; clear hF
      refine hp_callV_a (v := .int v55) (H1 := H56) (As := [.ref a51, .int p2, .int p3]) (rest := []) d_M_change_82 (k_MWorld_gives z54) (ab_mkC s_MWorld_gives (Nat.le_of_ble_eq_true rfl) (Nat.le_of_ble_eq_true rfl) (Nat.le_refl 0) (Nat.le_refl 0)) (k12 195 rfl rfl) i_MWorld_gives v_MWorld_gives q53 (by decide) rfl rfl (Nat.le_of_ble_eq_true rfl) ?_
      have s_9 : Sa H H56 := (m_MWorld_gives z54)
      refine ab_goto (tgt := 97) d_M_change_85 (by decide) ?_
      exact kB_M_change_97 hG
  · rw [if_pos q19] at hF
    refine ab_aload_n d_M_change_56 rfl rfl rfl ?_
    obtain ⟨q57, hG⟩ := ck_s hF; clear hF
    obtain ⟨a58, e59, hF⟩ := rf_s hG; clear hG
    refine hp_getR (f := 9) d_M_change_57 q57 (by decide) rfl (by decide) (k10 2 rfl rfl) rfl e59 ?_
    refine ab_iload_n d_M_change_60 rfl rfl ?_
    obtain ⟨q60, hG⟩ := ck_s hF; clear hF
    obtain ⟨v62, H63, z61, hF⟩ := bC_s hG; clear hG
    refine hp_callV_a (v := .int v62) (H1 := H63) (As := [.int p2]) (rest := []) d_M_change_61 (k_MWorld_drops z61) (ab_mkC s_MWorld_drops (Nat.le_of_ble_eq_true rfl) (Nat.le_of_ble_eq_true rfl) (Nat.le_refl 0) (Nat.le_refl 0)) (k12 194 rfl rfl) i_MWorld_drops v_MWorld_drops q60 (by decide) rfl rfl (Nat.le_of_ble_eq_true rfl) ?_
    have s_10 : Sa H H63 := (m_MWorld_drops z61)
    refine ab_goto (tgt := 97) d_M_change_64 (by decide) ?_
    exact kB_M_change_97 hF
def F_M_change (N : Nat) (p0 : Nat) (p1 : Int32) (p2 : Int32) (p3 : Int32) (H : Hp) : Option (Int32 × Hp) :=
    ck (H.sh[p0]? = some (12, 0)) <|
    bnd (H.sD p0 0 (0 : Int32)) fun H2 =>
    bC (F_M_isQuiet N p0 H2) fun v4 H5 =>
    if v4 = (0 : Int32) then
    some ((-10), H5)
    else
    bC (F_M_in N ((p1 : Int32).toInt64) (0 : Int64) (2 : Int64) H5) fun v8 H9 =>
    if v8 = (0 : Int32) then
    some ((-1), H9)
    else
    rf (H9.P p0 9) fun a11 =>
    ck (H9.sh[a11]? = some (13, 0)) <|
    bC (F_MWorld_isAlive N a11 p2 H9) fun v15 H16 =>
    if v15 = (0 : Int32) then
    some ((-1), H16)
    else
    if p1 ≤ (0 : Int32) then
    B_M_change_52 N p0 p1 p2 p3  H16
    else
    bC (F_M_isComponent N p0 p3 H16) fun v90 H91 =>
    if v90 = (0 : Int32) then
    some ((-1), H91)
    else
    B_M_change_52 N p0 p1 p2 p3  H91
set_option maxRecDepth 20000 in
set_option maxHeartbeats 2000000 in
theorem m_M_change {N : Nat} {p0 : Nat} {p1 : Int32} {p2 : Int32} {p3 : Int32} {H : Hp} {r : Int32 × Hp} (hF : F_M_change N p0 p1 p2 p3 H = some r) : Sa H r.2 := by
  unfold F_M_change at hF
  have hm := Sa.rf H
  obtain ⟨q93, hG⟩ := ck_s hF; clear hF
  obtain ⟨H94, eH94, hF⟩ := bnd_g hG; clear hG
  replace hm : Sa H H94 := by rw [eH94]; exact hm
  obtain ⟨v96, H97, z95, hG⟩ := bC_s hF; clear hF
  replace hm : Sa H H97 := hm.tr (m_M_isQuiet z95)
  rcases ite_s hG with ⟨q_19, hF⟩ | ⟨q_19, hF⟩
  · clear hG
    have hr := Option.some.inj hF; subst hr
    exact hm
  · clear hG
    obtain ⟨v100, H101, z99, hG⟩ := bC_s hF; clear hF
    replace hm : Sa H H101 := hm.tr (m_M_in z99)
    rcases ite_s hG with ⟨q_21, hF⟩ | ⟨q_21, hF⟩
    · clear hG
      have hr := Option.some.inj hF; subst hr
      exact hm
    · clear hG
      obtain ⟨a103, e104, hG⟩ := rf_s hF; clear hF
      obtain ⟨q105, hF⟩ := ck_s hG; clear hG
      obtain ⟨v107, H108, z106, hG⟩ := bC_s hF; clear hF
      replace hm : Sa H H108 := hm.tr (m_MWorld_isAlive z106)
      rcases ite_s hG with ⟨q_23, hF⟩ | ⟨q_23, hF⟩
      · clear hG
        have hr := Option.some.inj hF; subst hr
        exact hm
      · clear hG
        rcases ite_s hF with ⟨q_24, hG⟩ | ⟨q_24, hG⟩
        · clear hF
          exact hm.tr (mB_M_change_52 hG)
        · clear hF
          obtain ⟨v112, H113, z111, hF⟩ := bC_s hG; clear hG
          replace hm : Sa H H113 := hm.tr (m_M_isComponent z111)
          rcases ite_s hF with ⟨q_26, hG⟩ | ⟨q_26, hG⟩
          · clear hF
            have hr := Option.some.inj hG; subst hr
            exact hm
          · clear hF
            exact hm.tr (mB_M_change_52 hG)
set_option maxRecDepth 20000 in
set_option maxHeartbeats 2000000 in
theorem k_M_change {N : Nat} {p0 : Nat} {p1 : Int32} {p2 : Int32} {p3 : Int32} {H : Hp} {r : Int32 × Hp} (hF : F_M_change N p0 p1 p2 p3 H = some r) : ab_M y_M_change { frames := 4, cells := 0, slots := 0, locals := 89 } [.ref p0, .int p1, .int p2, .int p3] (hpw H) (po (.returned (some (.int r.1))) r.2) := by
  unfold F_M_change at hF
  refine ab_of2 (lv := [some (.ref p0), some (.int p1), some (.int p2), some (.int p3), none]) 1 rfl rfl (Nat.le_of_ble_eq_true rfl) ?_
  refine ab_aload_n d_M_change_0 rfl rfl rfl ?_
  refine ab_iconst (v := 0) d_M_change_1 (by decide) ?_
  obtain ⟨q1, hG⟩ := ck_s hF; clear hF
  refine hp_putI (v := 0) (f := 0) d_M_change_2 q1 (by decide) rfl (by decide) (k9 233 rfl rfl) rfl rfl (fun _ => rfl) (fun _ => rfl) rfl ?_
  refine hp_gen (fun H2 eH2 => ?_)
  replace hG := bnd_s eH2 hG
  have s_1 : Sa H H2 := by rw [eH2]; exact Sa.rf _
  refine ab_aload_n d_M_change_5 rfl rfl rfl ?_
  obtain ⟨v4, H5, z3, hF⟩ := bC_s hG; clear hG
  refine hp_callV_a (v := .int v4) (H1 := H5) (As := []) (rest := []) d_M_change_6 (k_M_isQuiet z3) (ab_mkC s_M_isQuiet (Nat.le_of_ble_eq_true rfl) (Nat.le_of_ble_eq_true rfl) (Nat.le_refl 0) (Nat.le_refl 0)) (k11 166 rfl rfl) i_M_isQuiet v_M_isQuiet (by rw [(s_1).1]; exact q1) (by decide) rfl rfl (Nat.le_of_ble_eq_true rfl) ?_
  have s_2 : Sa H H5 := (s_1).tr (m_M_isQuiet z3)
  refine ab_if_ne (tgt := 15) d_M_change_9 (by decide) (fun q6 => ?_) (fun q6 => ?_)
  · rw [if_neg q6] at hF
    refine ab_iload_n d_M_change_15 rfl rfl ?_
    refine ab_i2l d_M_change_16 ?_
    refine ab_lconst (v := 0) d_M_change_17 (by decide) ?_
    refine ab_ldc2 d_M_change_18 (k12 188 rfl rfl) ?_
    obtain ⟨v8, H9, z7, hG⟩ := bC_s hF; clear hF
    refine hp_callS_a (v := .int v8) (H1 := H9) (As := [.long ((p1 : Int32).toInt64), .long 0, .long 2]) (rest := []) d_M_change_21 (k_M_in z7) (ab_mkC s_M_in (Nat.le_of_ble_eq_true rfl) (Nat.le_of_ble_eq_true rfl) (Nat.le_refl 0) (Nat.le_refl 0)) (k10 93 rfl rfl) t_M_in rfl (Nat.le_of_ble_eq_true rfl) ?_
    have s_3 : Sa H H9 := (s_2).tr (m_M_in z7)
    refine ab_if_eq (tgt := 50) d_M_change_24 (by decide) (fun q10 => ?_) (fun q10 => ?_)
    · rw [if_pos q10] at hG
      refine ab_iconst (v := (-1)) d_M_change_50 (by decide) ?_
      exact ab_iret d_M_change_51 rfl (Nat.le_refl _) (Nat.le_refl _) (by have hr := Option.some.inj hG; subst hr; exact ⟨rfl, rfl⟩)
    · rw [if_neg q10] at hG
      refine ab_aload_n d_M_change_27 rfl rfl rfl ?_
      obtain ⟨a11, e12, hF⟩ := rf_s hG; clear hG
      refine hp_getR (f := 9) d_M_change_28 (by rw [(s_3).1]; exact q1) (by decide) rfl (by decide) (k10 2 rfl rfl) rfl e12 ?_
      refine ab_iload_n d_M_change_31 rfl rfl ?_
      obtain ⟨q13, hG⟩ := ck_s hF; clear hF
      rw [(s_3).1] at q13
      obtain ⟨v15, H16, z14, hF⟩ := bC_s hG; clear hG
      refine hp_callV_a (v := .int v15) (H1 := H16) (As := [.int p2]) (rest := []) d_M_change_32 (k_MWorld_isAlive z14) (ab_mkC s_MWorld_isAlive (Nat.le_of_ble_eq_true rfl) (Nat.le_of_ble_eq_true rfl) (Nat.le_refl 0) (Nat.le_refl 0)) (k12 189 rfl rfl) i_MWorld_isAlive v_MWorld_isAlive (by rw [(s_3).1]; exact q13) (by decide) rfl rfl (Nat.le_of_ble_eq_true rfl) ?_
      have s_4 : Sa H H16 := (s_3).tr (m_MWorld_isAlive z14)
      refine ab_if_eq (tgt := 50) d_M_change_35 (by decide) (fun q17 => ?_) (fun q17 => ?_)
      · rw [if_pos q17] at hF
        refine ab_iconst (v := (-1)) d_M_change_50 (by decide) ?_
        exact ab_iret d_M_change_51 rfl (Nat.le_refl _) (Nat.le_refl _) (by have hr := Option.some.inj hF; subst hr; exact ⟨rfl, rfl⟩)
      · rw [if_neg q17] at hF
        refine ab_iload_n d_M_change_38 rfl rfl ?_
        refine ab_if_le (tgt := 52) d_M_change_39 (by decide) (fun q18 => ?_) (fun q18 => ?_)
        · rw [if_pos q18] at hF
          exact kB_M_change_52 hF
        · rw [if_neg q18] at hF
          refine ab_aload_n d_M_change_42 rfl rfl rfl ?_
          refine ab_iload_n d_M_change_43 rfl rfl ?_
          obtain ⟨v90, H91, z89, hG⟩ := bC_s hF; clear hF
          refine hp_callV_a (v := .int v90) (H1 := H91) (As := [.int p3]) (rest := []) d_M_change_44 (k_M_isComponent z89) (ab_mkC s_M_isComponent (Nat.le_of_ble_eq_true rfl) (Nat.le_of_ble_eq_true rfl) (Nat.le_refl 0) (Nat.le_refl 0)) (k12 190 rfl rfl) i_M_isComponent v_M_isComponent (by rw [(s_4).1]; exact q1) (by decide) rfl rfl (Nat.le_of_ble_eq_true rfl) ?_
          have s_16 : Sa H H91 := (s_4).tr (m_M_isComponent z89)
          refine ab_if_ne (tgt := 52) d_M_change_47 (by decide) (fun q92 => ?_) (fun q92 => ?_)
          · rw [if_neg q92] at hG
            exact kB_M_change_52 hG
          · rw [if_pos q92] at hG
            refine ab_iconst (v := (-1)) d_M_change_50 (by decide) ?_
            exact ab_iret d_M_change_51 rfl (Nat.le_refl _) (Nat.le_refl _) (by have hr := Option.some.inj hG; subst hr; exact ⟨rfl, rfl⟩)
  · rw [if_pos q6] at hF
    refine ab_bipush (v := (-10)) d_M_change_12 (by decide) ?_
    exact ab_iret d_M_change_14 rfl (Nat.le_refl _) (Nat.le_refl _) (by have hr := Option.some.inj hF; subst hr; exact ⟨rfl, rfl⟩)
def y_M_isMember : ab_Y := (⟨"WorldEngineModel", "isMember", "(III)Z"⟩, prog_14_method_29_code, 4, (some FieldType.boolean), [])
theorem d_M_isMember_0 : decode y_M_isMember.2.1 0 = .ok (.aload_n 0, 1) := by decide +kernel
theorem d_M_isMember_1 : decode y_M_isMember.2.1 1 = .ok (.iload_n 2, 1) := by decide +kernel
theorem d_M_isMember_2 : decode y_M_isMember.2.1 2 = .ok (.invokevirtual 278, 3) := by decide +kernel
theorem d_M_isMember_5 : decode y_M_isMember.2.1 5 = .ok (.ifCond .eq 52, 3) := by decide +kernel
theorem d_M_isMember_8 : decode y_M_isMember.2.1 8 = .ok (.aload_n 0, 1) := by decide +kernel
theorem d_M_isMember_9 : decode y_M_isMember.2.1 9 = .ok (.getfield 37, 3) := by decide +kernel
theorem d_M_isMember_12 : decode y_M_isMember.2.1 12 = .ok (.iload_n 1, 1) := by decide +kernel
theorem d_M_isMember_13 : decode y_M_isMember.2.1 13 = .ok (.iload_n 2, 1) := by decide +kernel
theorem d_M_isMember_14 : decode y_M_isMember.2.1 14 = .ok (.invokevirtual 291, 3) := by decide +kernel
theorem d_M_isMember_17 : decode y_M_isMember.2.1 17 = .ok (.ifCond .eq 40, 3) := by decide +kernel
theorem d_M_isMember_20 : decode y_M_isMember.2.1 20 = .ok (.iload_n 3, 1) := by decide +kernel
theorem d_M_isMember_21 : decode y_M_isMember.2.1 21 = .ok (.i2l, 1) := by decide +kernel
theorem d_M_isMember_22 : decode y_M_isMember.2.1 22 = .ok (.lconst 0, 1) := by decide +kernel
theorem d_M_isMember_23 : decode y_M_isMember.2.1 23 = .ok (.aload_n 0, 1) := by decide +kernel
theorem d_M_isMember_24 : decode y_M_isMember.2.1 24 = .ok (.getfield 16, 3) := by decide +kernel
theorem d_M_isMember_27 : decode y_M_isMember.2.1 27 = .ok (.getfield 171, 3) := by decide +kernel
theorem d_M_isMember_30 : decode y_M_isMember.2.1 30 = .ok (.iload_n 2, 1) := by decide +kernel
theorem d_M_isMember_31 : decode y_M_isMember.2.1 31 = .ok (.iconst 1, 1) := by decide +kernel
theorem d_M_isMember_32 : decode y_M_isMember.2.1 32 = .ok (.iadd, 1) := by decide +kernel
theorem d_M_isMember_33 : decode y_M_isMember.2.1 33 = .ok (.iaload, 1) := by decide +kernel
theorem d_M_isMember_34 : decode y_M_isMember.2.1 34 = .ok (.aload_n 0, 1) := by decide +kernel
theorem d_M_isMember_35 : decode y_M_isMember.2.1 35 = .ok (.getfield 16, 3) := by decide +kernel
theorem d_M_isMember_38 : decode y_M_isMember.2.1 38 = .ok (.getfield 171, 3) := by decide +kernel
theorem d_M_isMember_41 : decode y_M_isMember.2.1 41 = .ok (.iload_n 2, 1) := by decide +kernel
theorem d_M_isMember_42 : decode y_M_isMember.2.1 42 = .ok (.iaload, 1) := by decide +kernel
theorem d_M_isMember_43 : decode y_M_isMember.2.1 43 = .ok (.isub, 1) := by decide +kernel
theorem d_M_isMember_44 : decode y_M_isMember.2.1 44 = .ok (.iconst 1, 1) := by decide +kernel
theorem d_M_isMember_45 : decode y_M_isMember.2.1 45 = .ok (.isub, 1) := by decide +kernel
theorem d_M_isMember_46 : decode y_M_isMember.2.1 46 = .ok (.i2l, 1) := by decide +kernel
theorem d_M_isMember_47 : decode y_M_isMember.2.1 47 = .ok (.invokestatic 99, 3) := by decide +kernel
theorem d_M_isMember_50 : decode y_M_isMember.2.1 50 = .ok (.ifCond .eq 7, 3) := by decide +kernel
theorem d_M_isMember_53 : decode y_M_isMember.2.1 53 = .ok (.iconst 1, 1) := by decide +kernel
theorem d_M_isMember_54 : decode y_M_isMember.2.1 54 = .ok (.goto 4, 3) := by decide +kernel
theorem d_M_isMember_57 : decode y_M_isMember.2.1 57 = .ok (.iconst 0, 1) := by decide +kernel
theorem d_M_isMember_58 : decode y_M_isMember.2.1 58 = .ok (.ireturn, 1) := by decide +kernel
theorem s_M_isMember : ab_Stat y_M_isMember 3 := ⟨(k12 204 rfl rfl), (k1 19 rfl rfl), ⟨by decide, by decide⟩, by decide +kernel⟩
theorem i_M_isMember : Cond.instanceMethod y_M_isMember.1 ∈ ab_T := (k12 203 rfl rfl)
theorem v_M_isMember : Cond.selects "WorldEngineModel" y_M_isMember.1 y_M_isMember.1 ∈ ab_T := ab_s (List.mem_of_getElem? (i := 208) rfl) rfl
def F_M_isMember (N : Nat) (p0 : Nat) (p1 : Int32) (p2 : Int32) (p3 : Int32) (H : Hp) : Option (Int32 × Hp) :=
    ck (H.sh[p0]? = some (12, 0)) <|
    bC (F_M_isComponent N p0 p2 H) fun v3 H4 =>
    if v3 = (0 : Int32) then
    some (0, H4)
    else
    rf (H4.P p0 9) fun a6 =>
    ck (H4.sh[a6]? = some (13, 0)) <|
    bC (F_MWorld_has N a6 p1 p2 H4) fun v10 H11 =>
    if v10 = (0 : Int32) then
    some (0, H11)
    else
    rf (H11.P p0 3) fun a13 =>
    ck (H11.sh[a13]? = some (14, 0)) <|
    rf (H11.P a13 18) fun a16 =>
    ar H11 100 a16 fun n18 =>
    ck (inb (p2 + (1 : Int32)) n18) <|
    bnd ((H11.D a16 ((p2 + (1 : Int32))).toNatClampNeg)) fun x21 =>
    rf (H11.P p0 3) fun a22 =>
    ck (H11.sh[a22]? = some (14, 0)) <|
    rf (H11.P a22 18) fun a25 =>
    ar H11 100 a25 fun n27 =>
    ck (inb p2 n27) <|
    bnd ((H11.D a25 (p2).toNatClampNeg)) fun x30 =>
    bC (F_M_in N ((p3 : Int32).toInt64) (0 : Int64) ((((x21 - x30) - (1 : Int32)) : Int32).toInt64) H11) fun v32 H33 =>
    if v32 = (0 : Int32) then
    some (0, H33)
    else
    some (1, H33)
set_option maxRecDepth 20000 in
set_option maxHeartbeats 2000000 in
theorem m_M_isMember {N : Nat} {p0 : Nat} {p1 : Int32} {p2 : Int32} {p3 : Int32} {H : Hp} {r : Int32 × Hp} (hF : F_M_isMember N p0 p1 p2 p3 H = some r) : Sa H r.2 := by
  unfold F_M_isMember at hF
  have hm := Sa.rf H
  obtain ⟨q35, hG⟩ := ck_s hF; clear hF
  obtain ⟨v37, H38, z36, hF⟩ := bC_s hG; clear hG
  replace hm : Sa H H38 := hm.tr (m_M_isComponent z36)
  rcases ite_s hF with ⟨q_5, hG⟩ | ⟨q_5, hG⟩
  · clear hF
    have hr := Option.some.inj hG; subst hr
    exact hm
  · clear hF
    obtain ⟨a40, e41, hF⟩ := rf_s hG; clear hG
    obtain ⟨q42, hG⟩ := ck_s hF; clear hF
    obtain ⟨v44, H45, z43, hF⟩ := bC_s hG; clear hG
    replace hm : Sa H H45 := hm.tr (m_MWorld_has z43)
    rcases ite_s hF with ⟨q_7, hG⟩ | ⟨q_7, hG⟩
    · clear hF
      have hr := Option.some.inj hG; subst hr
      exact hm
    · clear hF
      obtain ⟨a47, e48, hF⟩ := rf_s hG; clear hG
      obtain ⟨q49, hG⟩ := ck_s hF; clear hF
      obtain ⟨a50, e51, hF⟩ := rf_s hG; clear hG
      obtain ⟨n52, q53, hG⟩ := ar_s hF; clear hF
      obtain ⟨q54, hF⟩ := ck_s hG; clear hG
      obtain ⟨x55, -, hG⟩ := bnd_g hF; clear hF
      obtain ⟨a56, e57, hF⟩ := rf_s hG; clear hG
      obtain ⟨q58, hG⟩ := ck_s hF; clear hF
      obtain ⟨a59, e60, hF⟩ := rf_s hG; clear hG
      obtain ⟨n61, q62, hG⟩ := ar_s hF; clear hF
      obtain ⟨q63, hF⟩ := ck_s hG; clear hG
      obtain ⟨x64, -, hG⟩ := bnd_g hF; clear hF
      obtain ⟨v66, H67, z65, hF⟩ := bC_s hG; clear hG
      replace hm : Sa H H67 := hm.tr (m_M_in z65)
      rcases ite_s hF with ⟨q_9, hG⟩ | ⟨q_9, hG⟩
      · clear hF
        have hr := Option.some.inj hG; subst hr
        exact hm
      · clear hF
        have hr := Option.some.inj hG; subst hr
        exact hm
set_option maxRecDepth 20000 in
set_option maxHeartbeats 2000000 in
theorem k_M_isMember {N : Nat} {p0 : Nat} {p1 : Int32} {p2 : Int32} {p3 : Int32} {H : Hp} {r : Int32 × Hp} (hF : F_M_isMember N p0 p1 p2 p3 H = some r) : ab_M y_M_isMember { frames := 3, cells := 0, slots := 0, locals := 65 } [.ref p0, .int p1, .int p2, .int p3] (hpw H) (po (.returned (some (.int r.1))) r.2) := by
  unfold F_M_isMember at hF
  refine ab_of2 (lv := [some (.ref p0), some (.int p1), some (.int p2), some (.int p3)]) 0 rfl rfl (Nat.le_of_ble_eq_true rfl) ?_
  refine ab_aload_n d_M_isMember_0 rfl rfl rfl ?_
  refine ab_iload_n d_M_isMember_1 rfl rfl ?_
  obtain ⟨q1, hG⟩ := ck_s hF; clear hF
  obtain ⟨v3, H4, z2, hF⟩ := bC_s hG; clear hG
  refine hp_callV_a (v := .int v3) (H1 := H4) (As := [.int p2]) (rest := []) d_M_isMember_2 (k_M_isComponent z2) (ab_mkC s_M_isComponent (Nat.le_of_ble_eq_true rfl) (Nat.le_of_ble_eq_true rfl) (Nat.le_refl 0) (Nat.le_refl 0)) (k12 190 rfl rfl) i_M_isComponent v_M_isComponent q1 (by decide) rfl rfl (Nat.le_of_ble_eq_true rfl) ?_
  have s_1 : Sa H H4 := (m_M_isComponent z2)
  refine ab_if_eq (tgt := 57) d_M_isMember_5 (by decide) (fun q5 => ?_) (fun q5 => ?_)
  · rw [if_pos q5] at hF
    refine ab_iconst (v := 0) d_M_isMember_57 (by decide) ?_
    exact ab_zret d_M_isMember_58 rfl rfl (Nat.le_refl _) (Nat.le_refl _) (by have hr := Option.some.inj hF; subst hr; exact ⟨rfl, rfl⟩)
  · rw [if_neg q5] at hF
    refine ab_aload_n d_M_isMember_8 rfl rfl rfl ?_
    obtain ⟨a6, e7, hG⟩ := rf_s hF; clear hF
    refine hp_getR (f := 9) d_M_isMember_9 (by rw [(s_1).1]; exact q1) (by decide) rfl (by decide) (k10 2 rfl rfl) rfl e7 ?_
    refine ab_iload_n d_M_isMember_12 rfl rfl ?_
    refine ab_iload_n d_M_isMember_13 rfl rfl ?_
    obtain ⟨q8, hF⟩ := ck_s hG; clear hG
    rw [(s_1).1] at q8
    obtain ⟨v10, H11, z9, hG⟩ := bC_s hF; clear hF
    refine hp_callV_a (v := .int v10) (H1 := H11) (As := [.int p1, .int p2]) (rest := []) d_M_isMember_14 (k_MWorld_has z9) (ab_mkC s_MWorld_has (Nat.le_of_ble_eq_true rfl) (Nat.le_of_ble_eq_true rfl) (Nat.le_refl 0) (Nat.le_refl 0)) (k12 205 rfl rfl) i_MWorld_has v_MWorld_has (by rw [(s_1).1]; exact q8) (by decide) rfl rfl (Nat.le_of_ble_eq_true rfl) ?_
    have s_2 : Sa H H11 := (s_1).tr (m_MWorld_has z9)
    refine ab_if_eq (tgt := 57) d_M_isMember_17 (by decide) (fun q12 => ?_) (fun q12 => ?_)
    · rw [if_pos q12] at hG
      refine ab_iconst (v := 0) d_M_isMember_57 (by decide) ?_
      exact ab_zret d_M_isMember_58 rfl rfl (Nat.le_refl _) (Nat.le_refl _) (by have hr := Option.some.inj hG; subst hr; exact ⟨rfl, rfl⟩)
    · rw [if_neg q12] at hG
      refine ab_iload_n d_M_isMember_20 rfl rfl ?_
      refine ab_i2l d_M_isMember_21 ?_
      refine ab_lconst (v := 0) d_M_isMember_22 (by decide) ?_
      refine ab_aload_n d_M_isMember_23 rfl rfl rfl ?_
      obtain ⟨a13, e14, hF⟩ := rf_s hG; clear hG
      refine hp_getR (f := 3) d_M_isMember_24 (by rw [(s_2).1]; exact q1) (by decide) rfl (by decide) (k9 236 rfl rfl) rfl e14 ?_
      obtain ⟨q15, hG⟩ := ck_s hF; clear hF
      rw [(s_2).1] at q15
      obtain ⟨a16, e17, hF⟩ := rf_s hG; clear hG
      refine hp_getRN (f := 18) d_M_isMember_27 (by rw [(s_2).1]; exact q15) (by decide) rfl (by decide) (k8 187 rfl rfl) rfl e17 ?_
      refine ab_iload_n d_M_isMember_30 rfl rfl ?_
      refine ab_iconst (v := 1) d_M_isMember_31 (by decide) ?_
      refine ab_iadd d_M_isMember_32 ?_
      obtain ⟨n18, q19, hG⟩ := ar_s hF; clear hF
      rw [(s_2).1] at q19
      obtain ⟨q20, hF⟩ := ck_s hG; clear hG
      refine hp_iald d_M_isMember_33 tI (by rw [(s_2).1]; exact q19) q20 ?_
      refine ab_topi (fun x21 ex21 => ?_)
      replace hF := bnd_s ex21 hF
      refine ab_aload_n d_M_isMember_34 rfl rfl rfl ?_
      obtain ⟨a22, e23, hG⟩ := rf_s hF; clear hF
      refine hp_getR (f := 3) d_M_isMember_35 (by rw [(s_2).1]; exact q1) (by decide) rfl (by decide) (k9 236 rfl rfl) rfl e23 ?_
      obtain ⟨q24, hF⟩ := ck_s hG; clear hG
      rw [(s_2).1] at q24
      obtain ⟨a25, e26, hG⟩ := rf_s hF; clear hF
      refine hp_getRN (f := 18) d_M_isMember_38 (by rw [(s_2).1]; exact q24) (by decide) rfl (by decide) (k8 187 rfl rfl) rfl e26 ?_
      refine ab_iload_n d_M_isMember_41 rfl rfl ?_
      obtain ⟨n27, q28, hF⟩ := ar_s hG; clear hG
      rw [(s_2).1] at q28
      obtain ⟨q29, hG⟩ := ck_s hF; clear hF
      refine hp_iald d_M_isMember_42 tI (by rw [(s_2).1]; exact q28) q29 ?_
      refine ab_topi (fun x30 ex30 => ?_)
      replace hG := bnd_s ex30 hG
      refine ab_isub d_M_isMember_43 ?_
      refine ab_iconst (v := 1) d_M_isMember_44 (by decide) ?_
      refine ab_isub d_M_isMember_45 ?_
      refine ab_i2l d_M_isMember_46 ?_
      obtain ⟨v32, H33, z31, hF⟩ := bC_s hG; clear hG
      refine hp_callS_a (v := .int v32) (H1 := H33) (As := [.long ((p3 : Int32).toInt64), .long 0, .long ((((x21 - x30) - (1 : Int32)) : Int32).toInt64)]) (rest := []) d_M_isMember_47 (k_M_in z31) (ab_mkC s_M_in (Nat.le_of_ble_eq_true rfl) (Nat.le_of_ble_eq_true rfl) (Nat.le_refl 0) (Nat.le_refl 0)) (k10 93 rfl rfl) t_M_in rfl (Nat.le_of_ble_eq_true rfl) ?_
      have s_3 : Sa H H33 := (s_2).tr (m_M_in z31)
      refine ab_if_eq (tgt := 57) d_M_isMember_50 (by decide) (fun q34 => ?_) (fun q34 => ?_)
      · rw [if_pos q34] at hF
        refine ab_iconst (v := 0) d_M_isMember_57 (by decide) ?_
        exact ab_zret d_M_isMember_58 rfl rfl (Nat.le_refl _) (Nat.le_refl _) (by have hr := Option.some.inj hF; subst hr; exact ⟨rfl, rfl⟩)
      · rw [if_neg q34] at hF
        refine ab_iconst (v := 1) d_M_isMember_53 (by decide) ?_
        refine ab_goto (tgt := 58) d_M_isMember_54 (by decide) ?_
        exact ab_zret d_M_isMember_58 rfl rfl (Nat.le_refl _) (Nat.le_refl _) (by have hr := Option.some.inj hF; subst hr; exact ⟨rfl, rfl⟩)
def y_M_set : ab_Y := (⟨"WorldEngineModel", "set", "(IIII)I"⟩, prog_14_method_30_code, 7, (some FieldType.int), [])
theorem d_M_set_0 : decode y_M_set.2.1 0 = .ok (.aload_n 0, 1) := by decide +kernel
theorem d_M_set_1 : decode y_M_set.2.1 1 = .ok (.iconst 0, 1) := by decide +kernel
theorem d_M_set_2 : decode y_M_set.2.1 2 = .ok (.putfield 83, 3) := by decide +kernel
theorem d_M_set_5 : decode y_M_set.2.1 5 = .ok (.aload_n 0, 1) := by decide +kernel
theorem d_M_set_6 : decode y_M_set.2.1 6 = .ok (.invokevirtual 148, 3) := by decide +kernel
theorem d_M_set_9 : decode y_M_set.2.1 9 = .ok (.ifCond .ne 6, 3) := by decide +kernel
theorem d_M_set_12 : decode y_M_set.2.1 12 = .ok (.bipush (-10), 2) := by decide +kernel
theorem d_M_set_14 : decode y_M_set.2.1 14 = .ok (.ireturn, 1) := by decide +kernel
theorem d_M_set_15 : decode y_M_set.2.1 15 = .ok (.aload_n 0, 1) := by decide +kernel
theorem d_M_set_16 : decode y_M_set.2.1 16 = .ok (.iload_n 1, 1) := by decide +kernel
theorem d_M_set_17 : decode y_M_set.2.1 17 = .ok (.iload_n 2, 1) := by decide +kernel
theorem d_M_set_18 : decode y_M_set.2.1 18 = .ok (.iload_n 3, 1) := by decide +kernel
theorem d_M_set_19 : decode y_M_set.2.1 19 = .ok (.invokevirtual 293, 3) := by decide +kernel
theorem d_M_set_22 : decode y_M_set.2.1 22 = .ok (.ifCond .ne 5, 3) := by decide +kernel
theorem d_M_set_25 : decode y_M_set.2.1 25 = .ok (.iconst (-1), 1) := by decide +kernel
theorem d_M_set_26 : decode y_M_set.2.1 26 = .ok (.ireturn, 1) := by decide +kernel
theorem d_M_set_27 : decode y_M_set.2.1 27 = .ok (.aload_n 0, 1) := by decide +kernel
theorem d_M_set_28 : decode y_M_set.2.1 28 = .ok (.getfield 16, 3) := by decide +kernel
theorem d_M_set_31 : decode y_M_set.2.1 31 = .ok (.getfield 171, 3) := by decide +kernel
theorem d_M_set_34 : decode y_M_set.2.1 34 = .ok (.iload_n 2, 1) := by decide +kernel
theorem d_M_set_35 : decode y_M_set.2.1 35 = .ok (.iaload, 1) := by decide +kernel
theorem d_M_set_36 : decode y_M_set.2.1 36 = .ok (.iload_n 3, 1) := by decide +kernel
theorem d_M_set_37 : decode y_M_set.2.1 37 = .ok (.iadd, 1) := by decide +kernel
theorem d_M_set_38 : decode y_M_set.2.1 38 = .ok (.istore 5, 2) := by decide +kernel
theorem d_M_set_40 : decode y_M_set.2.1 40 = .ok (.aload_n 0, 1) := by decide +kernel
theorem d_M_set_41 : decode y_M_set.2.1 41 = .ok (.getfield 16, 3) := by decide +kernel
theorem d_M_set_44 : decode y_M_set.2.1 44 = .ok (.getfield 184, 3) := by decide +kernel
theorem d_M_set_47 : decode y_M_set.2.1 47 = .ok (.iload 5, 2) := by decide +kernel
theorem d_M_set_49 : decode y_M_set.2.1 49 = .ok (.iaload, 1) := by decide +kernel
theorem d_M_set_50 : decode y_M_set.2.1 50 = .ok (.istore 6, 2) := by decide +kernel
theorem d_M_set_52 : decode y_M_set.2.1 52 = .ok (.aload_n 0, 1) := by decide +kernel
theorem d_M_set_53 : decode y_M_set.2.1 53 = .ok (.getfield 37, 3) := by decide +kernel
theorem d_M_set_56 : decode y_M_set.2.1 56 = .ok (.getfield 181, 3) := by decide +kernel
theorem d_M_set_59 : decode y_M_set.2.1 59 = .ok (.bipush 48, 2) := by decide +kernel
theorem d_M_set_61 : decode y_M_set.2.1 61 = .ok (.iload_n 1, 1) := by decide +kernel
theorem d_M_set_62 : decode y_M_set.2.1 62 = .ok (.sipush 255, 3) := by decide +kernel
theorem d_M_set_65 : decode y_M_set.2.1 65 = .ok (.iand, 1) := by decide +kernel
theorem d_M_set_66 : decode y_M_set.2.1 66 = .ok (.imul, 1) := by decide +kernel
theorem d_M_set_67 : decode y_M_set.2.1 67 = .ok (.iload 5, 2) := by decide +kernel
theorem d_M_set_69 : decode y_M_set.2.1 69 = .ok (.iadd, 1) := by decide +kernel
theorem d_M_set_70 : decode y_M_set.2.1 70 = .ok (.iload 6, 2) := by decide +kernel
theorem d_M_set_72 : decode y_M_set.2.1 72 = .ok (.iconst 3, 1) := by decide +kernel
theorem d_M_set_73 : decode y_M_set.2.1 73 = .ok (.if_icmp .ne 10, 3) := by decide +kernel
theorem d_M_set_76 : decode y_M_set.2.1 76 = .ok (.iload 4, 2) := by decide +kernel
theorem d_M_set_78 : decode y_M_set.2.1 78 = .ok (.iconst 1, 1) := by decide +kernel
theorem d_M_set_79 : decode y_M_set.2.1 79 = .ok (.iand, 1) := by decide +kernel
theorem d_M_set_80 : decode y_M_set.2.1 80 = .ok (.goto 31, 3) := by decide +kernel
theorem d_M_set_83 : decode y_M_set.2.1 83 = .ok (.iload 6, 2) := by decide +kernel
theorem d_M_set_85 : decode y_M_set.2.1 85 = .ok (.iconst 4, 1) := by decide +kernel
theorem d_M_set_86 : decode y_M_set.2.1 86 = .ok (.if_icmp .ne 17, 3) := by decide +kernel
theorem d_M_set_89 : decode y_M_set.2.1 89 = .ok (.iload 4, 2) := by decide +kernel
theorem d_M_set_91 : decode y_M_set.2.1 91 = .ok (.ifCond .ge 7, 3) := by decide +kernel
theorem d_M_set_94 : decode y_M_set.2.1 94 = .ok (.iconst (-1), 1) := by decide +kernel
theorem d_M_set_95 : decode y_M_set.2.1 95 = .ok (.goto 16, 3) := by decide +kernel
theorem d_M_set_98 : decode y_M_set.2.1 98 = .ok (.iload 4, 2) := by decide +kernel
theorem d_M_set_100 : decode y_M_set.2.1 100 = .ok (.goto 11, 3) := by decide +kernel
theorem d_M_set_103 : decode y_M_set.2.1 103 = .ok (.iload 6, 2) := by decide +kernel
theorem d_M_set_105 : decode y_M_set.2.1 105 = .ok (.iload 4, 2) := by decide +kernel
theorem d_M_set_107 : decode y_M_set.2.1 107 = .ok (.i2l, 1) := by decide +kernel
theorem d_M_set_108 : decode y_M_set.2.1 108 = .ok (.invokestatic 223, 3) := by decide +kernel
theorem d_M_set_111 : decode y_M_set.2.1 111 = .ok (.iastore, 1) := by decide +kernel
theorem d_M_set_112 : decode y_M_set.2.1 112 = .ok (.aload_n 0, 1) := by decide +kernel
theorem d_M_set_113 : decode y_M_set.2.1 113 = .ok (.getfield 33, 3) := by decide +kernel
theorem d_M_set_116 : decode y_M_set.2.1 116 = .ok (.aload_n 0, 1) := by decide +kernel
theorem d_M_set_117 : decode y_M_set.2.1 117 = .ok (.getfield 37, 3) := by decide +kernel
theorem d_M_set_120 : decode y_M_set.2.1 120 = .ok (.invokevirtual 129, 3) := by decide +kernel
theorem d_M_set_123 : decode y_M_set.2.1 123 = .ok (.iconst 0, 1) := by decide +kernel
theorem d_M_set_124 : decode y_M_set.2.1 124 = .ok (.ireturn, 1) := by decide +kernel
theorem s_M_set : ab_Stat y_M_set 4 := ⟨(k12 200 rfl rfl), (k1 19 rfl rfl), ⟨by decide, by decide⟩, by decide +kernel⟩
theorem i_M_set : Cond.instanceMethod y_M_set.1 ∈ ab_T := (k12 198 rfl rfl)
theorem v_M_set : Cond.selects "WorldEngineModel" y_M_set.1 y_M_set.1 ∈ ab_T := (k12 199 rfl rfl)
def B_M_set_111 (N : Nat) (p0 : Nat) (p1 : Int32) (p2 : Int32) (p3 : Int32) (p4 : Int32) (w0 : Nat) (w1 : Int32) (w2 : Int32) (H : Hp) : Option (Int32 × Hp) :=
    ar H 100 w0 fun n39 =>
    ck (inb w1 n39) <|
    bnd (H.sD w0 (w1).toNatClampNeg w2) fun H42 =>
    ck (H42.sh[p0]? = some (12, 0)) <|
    rf (H42.P p0 8) fun a44 =>
    rf (H42.P p0 9) fun a46 =>
    ck (H42.sh[a44]? = some (13, 0)) <|
    bC (F_MWorld_copies N a44 a46 H42) fun v50 H51 =>
    some (0, H51)
set_option maxRecDepth 20000 in
set_option maxHeartbeats 2000000 in
theorem mB_M_set_111 {N : Nat} {p0 : Nat} {p1 : Int32} {p2 : Int32} {p3 : Int32} {p4 : Int32} {w0 : Nat} {w1 : Int32} {w2 : Int32} {H : Hp} {r : Int32 × Hp} (hF : B_M_set_111 N p0 p1 p2 p3 p4 w0 w1 w2 H = some r) : Sa H r.2 := by
  unfold B_M_set_111 at hF
  have hm := Sa.rf H
  obtain ⟨n52, q53, hG⟩ := ar_s hF; clear hF
  obtain ⟨q54, hF⟩ := ck_s hG; clear hG
  obtain ⟨H55, eH55, hG⟩ := bnd_g hF; clear hF
  replace hm : Sa H H55 := by rw [eH55]; exact hm
  obtain ⟨q56, hF⟩ := ck_s hG; clear hG
  obtain ⟨a57, e58, hG⟩ := rf_s hF; clear hF
  obtain ⟨a59, e60, hF⟩ := rf_s hG; clear hG
  obtain ⟨q61, hG⟩ := ck_s hF; clear hF
  obtain ⟨v63, H64, z62, hF⟩ := bC_s hG; clear hG
  replace hm : Sa H H64 := hm.tr (m_MWorld_copies z62)
  have hr := Option.some.inj hF; subst hr
  exact hm
set_option maxRecDepth 20000 in
set_option maxHeartbeats 2000000 in
theorem kB_M_set_111 {N : Nat} {p0 : Nat} {p1 : Int32} {p2 : Int32} {p3 : Int32} {p4 : Int32} {w0 : Nat} {w1 : Int32} {w2 : Int32} {H : Hp} {r : Int32 × Hp} (hF : B_M_set_111 N p0 p1 p2 p3 p4 w0 w1 w2 H = some r) : ab_V y_M_set { frames := 4, cells := 0, slots := 0, locals := 88 } (po (.returned (some (.int r.1))) r.2) 0 0 0 0 111 [some (.ref p0), some (.int p1), some (.int p2), some (.int p3), some (.int p4), none, none] [.int w2, .int w1, .ref w0] (hpw H) := by
  unfold B_M_set_111 at hF
  obtain ⟨n39, q40, hG⟩ := ar_s hF; clear hF
  obtain ⟨q41, hF⟩ := ck_s hG; clear hG
  refine hp_iast d_M_set_111 tI q40 q41 ?_
  refine hp_gen (fun H42 eH42 => ?_)
  replace hF := bnd_s eH42 hF
  have s_5 : Sa H H42 := by rw [eH42]; exact Sa.rf _
  refine ab_aload_n d_M_set_112 rfl rfl rfl ?_
  obtain ⟨q43, hG⟩ := ck_s hF; clear hF
  rw [(s_5).1] at q43
  obtain ⟨a44, e45, hF⟩ := rf_s hG; clear hG
  refine hp_getR (f := 8) d_M_set_113 (by rw [(s_5).1]; exact q43) (by decide) rfl (by decide) (k10 1 rfl rfl) rfl e45 ?_
  refine ab_aload_n d_M_set_116 rfl rfl rfl ?_
  obtain ⟨a46, e47, hG⟩ := rf_s hF; clear hF
  refine hp_getR (f := 9) d_M_set_117 (by rw [(s_5).1]; exact q43) (by decide) rfl (by decide) (k10 2 rfl rfl) rfl e47 ?_
  obtain ⟨q48, hF⟩ := ck_s hG; clear hG
  rw [(s_5).1] at q48
  obtain ⟨v50, H51, z49, hG⟩ := bC_s hF; clear hF
  refine hp_callV_v (H1 := H51) (As := [.ref a46]) (rest := []) d_M_set_120 (k_MWorld_copies z49) (ab_mkC s_MWorld_copies (Nat.le_of_ble_eq_true rfl) (Nat.le_of_ble_eq_true rfl) (Nat.le_refl 0) (Nat.le_refl 0)) (k11 146 rfl rfl) i_MWorld_copies v_MWorld_copies (by rw [(s_5).1]; exact q48) (by decide) rfl rfl (Nat.le_of_ble_eq_true rfl) ?_
  have s_6 : Sa H H51 := (s_5).tr (m_MWorld_copies z49)
  refine ab_iconst (v := 0) d_M_set_123 (by decide) ?_
  exact ab_iret d_M_set_124 rfl (Nat.le_refl _) (Nat.le_refl _) (by have hr := Option.some.inj hG; subst hr; exact ⟨rfl, rfl⟩)
def F_M_set (N : Nat) (p0 : Nat) (p1 : Int32) (p2 : Int32) (p3 : Int32) (p4 : Int32) (H : Hp) : Option (Int32 × Hp) :=
    ck (H.sh[p0]? = some (12, 0)) <|
    bnd (H.sD p0 0 (0 : Int32)) fun H2 =>
    bC (F_M_isQuiet N p0 H2) fun v4 H5 =>
    if v4 = (0 : Int32) then
    some ((-10), H5)
    else
    bC (F_M_isMember N p0 p1 p2 p3 H5) fun v8 H9 =>
    if v8 = (0 : Int32) then
    some ((-1), H9)
    else
    rf (H9.P p0 3) fun a11 =>
    ck (H9.sh[a11]? = some (14, 0)) <|
    rf (H9.P a11 18) fun a14 =>
    ar H9 100 a14 fun n16 =>
    ck (inb p2 n16) <|
    bnd ((H9.D a14 (p2).toNatClampNeg)) fun x19 =>
    rf (H9.P p0 3) fun a20 =>
    ck (H9.sh[a20]? = some (14, 0)) <|
    rf (H9.P a20 19) fun a23 =>
    ar H9 100 a23 fun n25 =>
    ck (inb (x19 + p3) n25) <|
    bnd ((H9.D a23 ((x19 + p3)).toNatClampNeg)) fun x28 =>
    rf (H9.P p0 9) fun a29 =>
    ck (H9.sh[a29]? = some (13, 0)) <|
    rf (H9.P a29 7) fun a32 =>
    if x28 = (3 : Int32) then
    B_M_set_111 N p0 p1 p2 p3 p4 a32 (((48 : Int32) * (p1 &&& (255 : Int32))) + (x19 + p3)) (p4 &&& (1 : Int32)) H9
    else
    if x28 = (4 : Int32) then
    if (0 : Int32) ≤ p4 then
    B_M_set_111 N p0 p1 p2 p3 p4 a32 (((48 : Int32) * (p1 &&& (255 : Int32))) + (x19 + p3)) p4 H9
    else
    B_M_set_111 N p0 p1 p2 p3 p4 a32 (((48 : Int32) * (p1 &&& (255 : Int32))) + (x19 + p3)) (-1) H9
    else
    bC (F_M_held N x28 ((p4 : Int32).toInt64) H9) fun v37 H38 =>
    B_M_set_111 N p0 p1 p2 p3 p4 a32 (((48 : Int32) * (p1 &&& (255 : Int32))) + (x19 + p3)) v37 H38
set_option maxRecDepth 20000 in
set_option maxHeartbeats 2000000 in
theorem m_M_set {N : Nat} {p0 : Nat} {p1 : Int32} {p2 : Int32} {p3 : Int32} {p4 : Int32} {H : Hp} {r : Int32 × Hp} (hF : F_M_set N p0 p1 p2 p3 p4 H = some r) : Sa H r.2 := by
  unfold F_M_set at hF
  have hm := Sa.rf H
  obtain ⟨q66, hG⟩ := ck_s hF; clear hF
  obtain ⟨H67, eH67, hF⟩ := bnd_g hG; clear hG
  replace hm : Sa H H67 := by rw [eH67]; exact hm
  obtain ⟨v69, H70, z68, hG⟩ := bC_s hF; clear hF
  replace hm : Sa H H70 := hm.tr (m_M_isQuiet z68)
  rcases ite_s hG with ⟨q_11, hF⟩ | ⟨q_11, hF⟩
  · clear hG
    have hr := Option.some.inj hF; subst hr
    exact hm
  · clear hG
    obtain ⟨v73, H74, z72, hG⟩ := bC_s hF; clear hF
    replace hm : Sa H H74 := hm.tr (m_M_isMember z72)
    rcases ite_s hG with ⟨q_13, hF⟩ | ⟨q_13, hF⟩
    · clear hG
      have hr := Option.some.inj hF; subst hr
      exact hm
    · clear hG
      obtain ⟨a76, e77, hG⟩ := rf_s hF; clear hF
      obtain ⟨q78, hF⟩ := ck_s hG; clear hG
      obtain ⟨a79, e80, hG⟩ := rf_s hF; clear hF
      obtain ⟨n81, q82, hF⟩ := ar_s hG; clear hG
      obtain ⟨q83, hG⟩ := ck_s hF; clear hF
      obtain ⟨x84, -, hF⟩ := bnd_g hG; clear hG
      obtain ⟨a85, e86, hG⟩ := rf_s hF; clear hF
      obtain ⟨q87, hF⟩ := ck_s hG; clear hG
      obtain ⟨a88, e89, hG⟩ := rf_s hF; clear hF
      obtain ⟨n90, q91, hF⟩ := ar_s hG; clear hG
      obtain ⟨q92, hG⟩ := ck_s hF; clear hF
      obtain ⟨x93, -, hF⟩ := bnd_g hG; clear hG
      obtain ⟨a94, e95, hG⟩ := rf_s hF; clear hF
      obtain ⟨q96, hF⟩ := ck_s hG; clear hG
      obtain ⟨a97, e98, hG⟩ := rf_s hF; clear hF
      rcases ite_s hG with ⟨q_14, hF⟩ | ⟨q_14, hF⟩
      · clear hG
        exact hm.tr (mB_M_set_111 hF)
      · clear hG
        rcases ite_s hF with ⟨q_15, hG⟩ | ⟨q_15, hG⟩
        · clear hF
          rcases ite_s hG with ⟨q_16, hF⟩ | ⟨q_16, hF⟩
          · clear hG
            exact hm.tr (mB_M_set_111 hF)
          · clear hG
            exact hm.tr (mB_M_set_111 hF)
        · clear hF
          obtain ⟨v103, H104, z102, hF⟩ := bC_s hG; clear hG
          replace hm : Sa H H104 := hm.tr (m_M_held z102)
          exact hm.tr (mB_M_set_111 hF)
set_option maxRecDepth 20000 in
set_option maxHeartbeats 2000000 in
theorem k_M_set {N : Nat} {p0 : Nat} {p1 : Int32} {p2 : Int32} {p3 : Int32} {p4 : Int32} {H : Hp} {r : Int32 × Hp} (hF : F_M_set N p0 p1 p2 p3 p4 H = some r) : ab_M y_M_set { frames := 4, cells := 0, slots := 0, locals := 88 } [.ref p0, .int p1, .int p2, .int p3, .int p4] (hpw H) (po (.returned (some (.int r.1))) r.2) := by
  unfold F_M_set at hF
  refine ab_of2 (lv := [some (.ref p0), some (.int p1), some (.int p2), some (.int p3), some (.int p4), none, none]) 2 rfl rfl (Nat.le_of_ble_eq_true rfl) ?_
  refine ab_aload_n d_M_set_0 rfl rfl rfl ?_
  refine ab_iconst (v := 0) d_M_set_1 (by decide) ?_
  obtain ⟨q1, hG⟩ := ck_s hF; clear hF
  refine hp_putI (v := 0) (f := 0) d_M_set_2 q1 (by decide) rfl (by decide) (k9 233 rfl rfl) rfl rfl (fun _ => rfl) (fun _ => rfl) rfl ?_
  refine hp_gen (fun H2 eH2 => ?_)
  replace hG := bnd_s eH2 hG
  have s_1 : Sa H H2 := by rw [eH2]; exact Sa.rf _
  refine ab_aload_n d_M_set_5 rfl rfl rfl ?_
  obtain ⟨v4, H5, z3, hF⟩ := bC_s hG; clear hG
  refine hp_callV_a (v := .int v4) (H1 := H5) (As := []) (rest := []) d_M_set_6 (k_M_isQuiet z3) (ab_mkC s_M_isQuiet (Nat.le_of_ble_eq_true rfl) (Nat.le_of_ble_eq_true rfl) (Nat.le_refl 0) (Nat.le_refl 0)) (k11 166 rfl rfl) i_M_isQuiet v_M_isQuiet (by rw [(s_1).1]; exact q1) (by decide) rfl rfl (Nat.le_of_ble_eq_true rfl) ?_
  have s_2 : Sa H H5 := (s_1).tr (m_M_isQuiet z3)
  refine ab_if_ne (tgt := 15) d_M_set_9 (by decide) (fun q6 => ?_) (fun q6 => ?_)
  · rw [if_neg q6] at hF
    refine ab_aload_n d_M_set_15 rfl rfl rfl ?_
    refine ab_iload_n d_M_set_16 rfl rfl ?_
    refine ab_iload_n d_M_set_17 rfl rfl ?_
    refine ab_iload_n d_M_set_18 rfl rfl ?_
    obtain ⟨v8, H9, z7, hG⟩ := bC_s hF; clear hF
    refine hp_callV_a (v := .int v8) (H1 := H9) (As := [.int p1, .int p2, .int p3]) (rest := []) d_M_set_19 (k_M_isMember z7) (ab_mkC s_M_isMember (Nat.le_of_ble_eq_true rfl) (Nat.le_of_ble_eq_true rfl) (Nat.le_refl 0) (Nat.le_refl 0)) (k12 201 rfl rfl) i_M_isMember v_M_isMember (by rw [(s_2).1]; exact q1) (by decide) rfl rfl (Nat.le_of_ble_eq_true rfl) ?_
    have s_3 : Sa H H9 := (s_2).tr (m_M_isMember z7)
    refine ab_if_ne (tgt := 27) d_M_set_22 (by decide) (fun q10 => ?_) (fun q10 => ?_)
    · rw [if_neg q10] at hG
      refine ab_aload_n d_M_set_27 rfl rfl rfl ?_
      obtain ⟨a11, e12, hF⟩ := rf_s hG; clear hG
      refine hp_getR (f := 3) d_M_set_28 (by rw [(s_3).1]; exact q1) (by decide) rfl (by decide) (k9 236 rfl rfl) rfl e12 ?_
      obtain ⟨q13, hG⟩ := ck_s hF; clear hF
      rw [(s_3).1] at q13
      obtain ⟨a14, e15, hF⟩ := rf_s hG; clear hG
      refine hp_getRN (f := 18) d_M_set_31 (by rw [(s_3).1]; exact q13) (by decide) rfl (by decide) (k8 187 rfl rfl) rfl e15 ?_
      refine ab_iload_n d_M_set_34 rfl rfl ?_
      obtain ⟨n16, q17, hG⟩ := ar_s hF; clear hF
      rw [(s_3).1] at q17
      obtain ⟨q18, hF⟩ := ck_s hG; clear hG
      refine hp_iald d_M_set_35 tI (by rw [(s_3).1]; exact q17) q18 ?_
      refine ab_topi (fun x19 ex19 => ?_)
      replace hF := bnd_s ex19 hF
      refine ab_iload_n d_M_set_36 rfl rfl ?_
      refine ab_iadd d_M_set_37 ?_
      refine ab_istore (lv' := [some (.ref p0), some (.int p1), some (.int p2), some (.int p3), some (.int p4), some (.int (x19 + p3)), none]) d_M_set_38 (by decide) rfl ?_
      refine ab_aload_n d_M_set_40 rfl rfl rfl ?_
      obtain ⟨a20, e21, hG⟩ := rf_s hF; clear hF
      refine hp_getR (f := 3) d_M_set_41 (by rw [(s_3).1]; exact q1) (by decide) rfl (by decide) (k9 236 rfl rfl) rfl e21 ?_
      obtain ⟨q22, hF⟩ := ck_s hG; clear hG
      rw [(s_3).1] at q22
      obtain ⟨a23, e24, hG⟩ := rf_s hF; clear hF
      refine hp_getRN (f := 19) d_M_set_44 (by rw [(s_3).1]; exact q22) (by decide) rfl (by decide) (k8 191 rfl rfl) rfl e24 ?_
      refine ab_iload d_M_set_47 rfl ?_
      obtain ⟨n25, q26, hF⟩ := ar_s hG; clear hG
      rw [(s_3).1] at q26
      obtain ⟨q27, hG⟩ := ck_s hF; clear hF
      refine hp_iald d_M_set_49 tI (by rw [(s_3).1]; exact q26) q27 ?_
      refine ab_topi (fun x28 ex28 => ?_)
      replace hG := bnd_s ex28 hG
      refine ab_istore (lv' := [some (.ref p0), some (.int p1), some (.int p2), some (.int p3), some (.int p4), some (.int (x19 + p3)), some (.int x28)]) d_M_set_50 (by decide) rfl ?_
      refine ab_aload_n d_M_set_52 rfl rfl rfl ?_
      obtain ⟨a29, e30, hF⟩ := rf_s hG; clear hG
      refine hp_getR (f := 9) d_M_set_53 (by rw [(s_3).1]; exact q1) (by decide) rfl (by decide) (k10 2 rfl rfl) rfl e30 ?_
      obtain ⟨q31, hG⟩ := ck_s hF; clear hF
      rw [(s_3).1] at q31
      obtain ⟨a32, e33, hF⟩ := rf_s hG; clear hG
      refine hp_getRN (f := 7) d_M_set_56 (by rw [(s_3).1]; exact q31) (by decide) rfl (by decide) (k9 110 rfl rfl) rfl e33 ?_
      refine ab_bipush (v := 48) d_M_set_59 (by decide) ?_
      refine ab_iload_n d_M_set_61 rfl rfl ?_
      refine ab_sipush (v := 255) d_M_set_62 (by decide) ?_
      refine ab_iand d_M_set_65 ?_
      refine ab_imul d_M_set_66 ?_
      refine ab_iload d_M_set_67 rfl ?_
      refine ab_iadd d_M_set_69 ?_
      refine ab_iload d_M_set_70 rfl ?_
      refine ab_iconst (v := 3) d_M_set_72 (by decide) ?_
      refine ab_icmp_ne (tgt := 83) d_M_set_73 (by decide) (fun q34 => ?_) (fun q34 => ?_)
      · rw [if_neg q34] at hF
        refine ab_iload d_M_set_83 rfl ?_
        refine ab_iconst (v := 4) d_M_set_85 (by decide) ?_
        refine ab_icmp_ne (tgt := 103) d_M_set_86 (by decide) (fun q35 => ?_) (fun q35 => ?_)
        · rw [if_neg q35] at hF
          refine ab_iload d_M_set_103 rfl ?_
          refine ab_iload d_M_set_105 rfl ?_
          refine ab_i2l d_M_set_107 ?_
          obtain ⟨v37, H38, z36, hG⟩ := bC_s hF; clear hF
          refine hp_callS_a (v := .int v37) (H1 := H38) (As := [.int x28, .long ((p4 : Int32).toInt64)]) (rest := [.int (((48 : Int32) * (p1 &&& (255 : Int32))) + (x19 + p3)), .ref a32]) d_M_set_108 (k_M_held z36) (ab_mkC s_M_held (Nat.le_of_ble_eq_true rfl) (Nat.le_of_ble_eq_true rfl) (Nat.le_refl 0) (Nat.le_refl 0)) (k11 184 rfl rfl) t_M_held rfl (Nat.le_of_ble_eq_true rfl) ?_
          have s_4 : Sa H H38 := (s_3).tr (m_M_held z36)
          refine ab_le (lv' := [some (.ref p0), some (.int p1), some (.int p2), some (.int p3), some (.int p4), none, none]) ⟨rfl, ⟨rfl, ⟨rfl, ⟨rfl, ⟨rfl, trivial⟩⟩⟩⟩⟩ ?_
          exact kB_M_set_111 hG
        · rw [if_pos q35] at hF
          refine ab_iload d_M_set_89 rfl ?_
          refine ab_if_ge (tgt := 98) d_M_set_91 (by decide) (fun q65 => ?_) (fun q65 => ?_)
          · rw [if_pos q65] at hF
            refine ab_iload d_M_set_98 rfl ?_
            refine ab_goto (tgt := 111) d_M_set_100 (by decide) ?_
            refine ab_le (lv' := [some (.ref p0), some (.int p1), some (.int p2), some (.int p3), some (.int p4), none, none]) ⟨rfl, ⟨rfl, ⟨rfl, ⟨rfl, ⟨rfl, trivial⟩⟩⟩⟩⟩ ?_
            exact kB_M_set_111 hF
          · rw [if_neg q65] at hF
            refine ab_iconst (v := (-1)) d_M_set_94 (by decide) ?_
            refine ab_goto (tgt := 111) d_M_set_95 (by decide) ?_
            refine ab_le (lv' := [some (.ref p0), some (.int p1), some (.int p2), some (.int p3), some (.int p4), none, none]) ⟨rfl, ⟨rfl, ⟨rfl, ⟨rfl, ⟨rfl, trivial⟩⟩⟩⟩⟩ ?_
            exact kB_M_set_111 hF
      · rw [if_pos q34] at hF
        refine ab_iload d_M_set_76 rfl ?_
        refine ab_iconst (v := 1) d_M_set_78 (by decide) ?_
        refine ab_iand d_M_set_79 ?_
        refine ab_goto (tgt := 111) d_M_set_80 (by decide) ?_
        refine ab_le (lv' := [some (.ref p0), some (.int p1), some (.int p2), some (.int p3), some (.int p4), none, none]) ⟨rfl, ⟨rfl, ⟨rfl, ⟨rfl, ⟨rfl, trivial⟩⟩⟩⟩⟩ ?_
        exact kB_M_set_111 hF
    · rw [if_pos q10] at hG
      refine ab_iconst (v := (-1)) d_M_set_25 (by decide) ?_
      exact ab_iret d_M_set_26 rfl (Nat.le_refl _) (Nat.le_refl _) (by have hr := Option.some.inj hG; subst hr; exact ⟨rfl, rfl⟩)
  · rw [if_pos q6] at hF
    refine ab_bipush (v := (-10)) d_M_set_12 (by decide) ?_
    exact ab_iret d_M_set_14 rfl (Nat.le_refl _) (Nat.le_refl _) (by have hr := Option.some.inj hF; subst hr; exact ⟨rfl, rfl⟩)
def y_M_get : ab_Y := (⟨"WorldEngineModel", "get", "(III)I"⟩, prog_14_method_31_code, 4, (some FieldType.int), [])
theorem d_M_get_0 : decode y_M_get.2.1 0 = .ok (.aload_n 0, 1) := by decide +kernel
theorem d_M_get_1 : decode y_M_get.2.1 1 = .ok (.aload_n 0, 1) := by decide +kernel
theorem d_M_get_2 : decode y_M_get.2.1 2 = .ok (.iload_n 1, 1) := by decide +kernel
theorem d_M_get_3 : decode y_M_get.2.1 3 = .ok (.iload_n 2, 1) := by decide +kernel
theorem d_M_get_4 : decode y_M_get.2.1 4 = .ok (.iload_n 3, 1) := by decide +kernel
theorem d_M_get_5 : decode y_M_get.2.1 5 = .ok (.invokevirtual 293, 3) := by decide +kernel
theorem d_M_get_8 : decode y_M_get.2.1 8 = .ok (.ifCond .eq 7, 3) := by decide +kernel
theorem d_M_get_11 : decode y_M_get.2.1 11 = .ok (.iconst 0, 1) := by decide +kernel
theorem d_M_get_12 : decode y_M_get.2.1 12 = .ok (.goto 4, 3) := by decide +kernel
theorem d_M_get_15 : decode y_M_get.2.1 15 = .ok (.iconst 1, 1) := by decide +kernel
theorem d_M_get_16 : decode y_M_get.2.1 16 = .ok (.putfield 83, 3) := by decide +kernel
theorem d_M_get_19 : decode y_M_get.2.1 19 = .ok (.aload_n 0, 1) := by decide +kernel
theorem d_M_get_20 : decode y_M_get.2.1 20 = .ok (.getfield 83, 3) := by decide +kernel
theorem d_M_get_23 : decode y_M_get.2.1 23 = .ok (.ifCond .le 7, 3) := by decide +kernel
theorem d_M_get_26 : decode y_M_get.2.1 26 = .ok (.iconst 0, 1) := by decide +kernel
theorem d_M_get_27 : decode y_M_get.2.1 27 = .ok (.goto 31, 3) := by decide +kernel
theorem d_M_get_30 : decode y_M_get.2.1 30 = .ok (.aload_n 0, 1) := by decide +kernel
theorem d_M_get_31 : decode y_M_get.2.1 31 = .ok (.getfield 37, 3) := by decide +kernel
theorem d_M_get_34 : decode y_M_get.2.1 34 = .ok (.getfield 181, 3) := by decide +kernel
theorem d_M_get_37 : decode y_M_get.2.1 37 = .ok (.bipush 48, 2) := by decide +kernel
theorem d_M_get_39 : decode y_M_get.2.1 39 = .ok (.iload_n 1, 1) := by decide +kernel
theorem d_M_get_40 : decode y_M_get.2.1 40 = .ok (.sipush 255, 3) := by decide +kernel
theorem d_M_get_43 : decode y_M_get.2.1 43 = .ok (.iand, 1) := by decide +kernel
theorem d_M_get_44 : decode y_M_get.2.1 44 = .ok (.imul, 1) := by decide +kernel
theorem d_M_get_45 : decode y_M_get.2.1 45 = .ok (.aload_n 0, 1) := by decide +kernel
theorem d_M_get_46 : decode y_M_get.2.1 46 = .ok (.getfield 16, 3) := by decide +kernel
theorem d_M_get_49 : decode y_M_get.2.1 49 = .ok (.getfield 171, 3) := by decide +kernel
theorem d_M_get_52 : decode y_M_get.2.1 52 = .ok (.iload_n 2, 1) := by decide +kernel
theorem d_M_get_53 : decode y_M_get.2.1 53 = .ok (.iaload, 1) := by decide +kernel
theorem d_M_get_54 : decode y_M_get.2.1 54 = .ok (.iadd, 1) := by decide +kernel
theorem d_M_get_55 : decode y_M_get.2.1 55 = .ok (.iload_n 3, 1) := by decide +kernel
theorem d_M_get_56 : decode y_M_get.2.1 56 = .ok (.iadd, 1) := by decide +kernel
theorem d_M_get_57 : decode y_M_get.2.1 57 = .ok (.iaload, 1) := by decide +kernel
theorem d_M_get_58 : decode y_M_get.2.1 58 = .ok (.ireturn, 1) := by decide +kernel
theorem s_M_get : ab_Stat y_M_get 3 := ⟨(k12 209 rfl rfl), (k1 19 rfl rfl), ⟨by decide, by decide⟩, by decide +kernel⟩
theorem i_M_get : Cond.instanceMethod y_M_get.1 ∈ ab_T := (k12 207 rfl rfl)
theorem v_M_get : Cond.selects "WorldEngineModel" y_M_get.1 y_M_get.1 ∈ ab_T := (k12 208 rfl rfl)
def B_M_get_16 (N : Nat) (p0 : Nat) (p1 : Int32) (p2 : Int32) (p3 : Int32) (w0 : Nat) (w1 : Int32) (H : Hp) : Option (Int32 × Hp) :=
    ck (H.sh[w0]? = some (12, 0)) <|
    bnd (H.sD w0 0 w1) fun H7 =>
    ck (H7.sh[p0]? = some (12, 0)) <|
    bnd ((H7.D p0 0)) fun x9 =>
    if x9 ≤ (0 : Int32) then
    rf (H7.P p0 9) fun a11 =>
    ck (H7.sh[a11]? = some (13, 0)) <|
    rf (H7.P a11 7) fun a14 =>
    rf (H7.P p0 3) fun a16 =>
    ck (H7.sh[a16]? = some (14, 0)) <|
    rf (H7.P a16 18) fun a19 =>
    ar H7 100 a19 fun n21 =>
    ck (inb p2 n21) <|
    bnd ((H7.D a19 (p2).toNatClampNeg)) fun x24 =>
    ar H7 100 a14 fun n25 =>
    ck (inb ((((48 : Int32) * (p1 &&& (255 : Int32))) + x24) + p3) n25) <|
    bnd ((H7.D a14 (((((48 : Int32) * (p1 &&& (255 : Int32))) + x24) + p3)).toNatClampNeg)) fun x28 =>
    some (x28, H7)
    else
    some (0, H7)
set_option maxRecDepth 20000 in
set_option maxHeartbeats 2000000 in
theorem mB_M_get_16 {N : Nat} {p0 : Nat} {p1 : Int32} {p2 : Int32} {p3 : Int32} {w0 : Nat} {w1 : Int32} {H : Hp} {r : Int32 × Hp} (hF : B_M_get_16 N p0 p1 p2 p3 w0 w1 H = some r) : Sa H r.2 := by
  unfold B_M_get_16 at hF
  have hm := Sa.rf H
  obtain ⟨q29, hG⟩ := ck_s hF; clear hF
  obtain ⟨H30, eH30, hF⟩ := bnd_g hG; clear hG
  replace hm : Sa H H30 := by rw [eH30]; exact hm
  obtain ⟨q31, hG⟩ := ck_s hF; clear hF
  obtain ⟨x32, -, hF⟩ := bnd_g hG; clear hG
  rcases ite_s hF with ⟨q_4, hG⟩ | ⟨q_4, hG⟩
  · clear hF
    obtain ⟨a34, e35, hF⟩ := rf_s hG; clear hG
    obtain ⟨q36, hG⟩ := ck_s hF; clear hF
    obtain ⟨a37, e38, hF⟩ := rf_s hG; clear hG
    obtain ⟨a39, e40, hG⟩ := rf_s hF; clear hF
    obtain ⟨q41, hF⟩ := ck_s hG; clear hG
    obtain ⟨a42, e43, hG⟩ := rf_s hF; clear hF
    obtain ⟨n44, q45, hF⟩ := ar_s hG; clear hG
    obtain ⟨q46, hG⟩ := ck_s hF; clear hF
    obtain ⟨x47, -, hF⟩ := bnd_g hG; clear hG
    obtain ⟨n48, q49, hG⟩ := ar_s hF; clear hF
    obtain ⟨q50, hF⟩ := ck_s hG; clear hG
    obtain ⟨x51, -, hG⟩ := bnd_g hF; clear hF
    have hr := Option.some.inj hG; subst hr
    exact hm
  · clear hF
    have hr := Option.some.inj hG; subst hr
    exact hm
set_option maxRecDepth 20000 in
set_option maxHeartbeats 2000000 in
theorem kB_M_get_16 {N : Nat} {p0 : Nat} {p1 : Int32} {p2 : Int32} {p3 : Int32} {w0 : Nat} {w1 : Int32} {H : Hp} {r : Int32 × Hp} (hF : B_M_get_16 N p0 p1 p2 p3 w0 w1 H = some r) : ab_V y_M_get { frames := 4, cells := 0, slots := 0, locals := 88 } (po (.returned (some (.int r.1))) r.2) 0 0 0 0 16 [some (.ref p0), some (.int p1), some (.int p2), some (.int p3)] [.int w1, .ref w0] (hpw H) := by
  unfold B_M_get_16 at hF
  obtain ⟨q6, hG⟩ := ck_s hF; clear hF
  refine hp_putI (v := w1) (f := 0) d_M_get_16 q6 (by decide) rfl (by decide) (k9 233 rfl rfl) rfl rfl (fun _ => rfl) (fun _ => rfl) rfl ?_
  refine hp_gen (fun H7 eH7 => ?_)
  replace hG := bnd_s eH7 hG
  have s_2 : Sa H H7 := by rw [eH7]; exact Sa.rf _
  refine ab_aload_n d_M_get_19 rfl rfl rfl ?_
  obtain ⟨q8, hF⟩ := ck_s hG; clear hG
  rw [(s_2).1] at q8
  refine hp_getI (f := 0) d_M_get_20 (by rw [(s_2).1]; exact q8) (by decide) rfl (by decide) (k9 233 rfl rfl) rfl ?_
  refine ab_topi (fun x9 ex9 => ?_)
  replace hF := bnd_s ex9 hF
  refine ab_if_le (tgt := 30) d_M_get_23 (by decide) (fun q10 => ?_) (fun q10 => ?_)
  · rw [if_pos q10] at hF
    refine ab_aload_n d_M_get_30 rfl rfl rfl ?_
    obtain ⟨a11, e12, hG⟩ := rf_s hF; clear hF
    refine hp_getR (f := 9) d_M_get_31 (by rw [(s_2).1]; exact q8) (by decide) rfl (by decide) (k10 2 rfl rfl) rfl e12 ?_
    obtain ⟨q13, hF⟩ := ck_s hG; clear hG
    rw [(s_2).1] at q13
    obtain ⟨a14, e15, hG⟩ := rf_s hF; clear hF
    refine hp_getRN (f := 7) d_M_get_34 (by rw [(s_2).1]; exact q13) (by decide) rfl (by decide) (k9 110 rfl rfl) rfl e15 ?_
    refine ab_bipush (v := 48) d_M_get_37 (by decide) ?_
    refine ab_iload_n d_M_get_39 rfl rfl ?_
    refine ab_sipush (v := 255) d_M_get_40 (by decide) ?_
    refine ab_iand d_M_get_43 ?_
    refine ab_imul d_M_get_44 ?_
    refine ab_aload_n d_M_get_45 rfl rfl rfl ?_
    obtain ⟨a16, e17, hF⟩ := rf_s hG; clear hG
    refine hp_getR (f := 3) d_M_get_46 (by rw [(s_2).1]; exact q8) (by decide) rfl (by decide) (k9 236 rfl rfl) rfl e17 ?_
    obtain ⟨q18, hG⟩ := ck_s hF; clear hF
    rw [(s_2).1] at q18
    obtain ⟨a19, e20, hF⟩ := rf_s hG; clear hG
    refine hp_getRN (f := 18) d_M_get_49 (by rw [(s_2).1]; exact q18) (by decide) rfl (by decide) (k8 187 rfl rfl) rfl e20 ?_
    refine ab_iload_n d_M_get_52 rfl rfl ?_
    obtain ⟨n21, q22, hG⟩ := ar_s hF; clear hF
    rw [(s_2).1] at q22
    obtain ⟨q23, hF⟩ := ck_s hG; clear hG
    refine hp_iald d_M_get_53 tI (by rw [(s_2).1]; exact q22) q23 ?_
    refine ab_topi (fun x24 ex24 => ?_)
    replace hF := bnd_s ex24 hF
    refine ab_iadd d_M_get_54 ?_
    refine ab_iload_n d_M_get_55 rfl rfl ?_
    refine ab_iadd d_M_get_56 ?_
    obtain ⟨n25, q26, hG⟩ := ar_s hF; clear hF
    rw [(s_2).1] at q26
    obtain ⟨q27, hF⟩ := ck_s hG; clear hG
    refine hp_iald d_M_get_57 tI (by rw [(s_2).1]; exact q26) q27 ?_
    refine ab_topi (fun x28 ex28 => ?_)
    replace hF := bnd_s ex28 hF
    exact ab_iret d_M_get_58 rfl (Nat.le_refl _) (Nat.le_refl _) (by have hr := Option.some.inj hF; subst hr; exact ⟨rfl, rfl⟩)
  · rw [if_neg q10] at hF
    refine ab_iconst (v := 0) d_M_get_26 (by decide) ?_
    refine ab_goto (tgt := 58) d_M_get_27 (by decide) ?_
    exact ab_iret d_M_get_58 rfl (Nat.le_refl _) (Nat.le_refl _) (by have hr := Option.some.inj hF; subst hr; exact ⟨rfl, rfl⟩)
def F_M_get (N : Nat) (p0 : Nat) (p1 : Int32) (p2 : Int32) (p3 : Int32) (H : Hp) : Option (Int32 × Hp) :=
    ck (H.sh[p0]? = some (12, 0)) <|
    bC (F_M_isMember N p0 p1 p2 p3 H) fun v3 H4 =>
    if v3 = (0 : Int32) then
    B_M_get_16 N p0 p1 p2 p3 p0 1 H4
    else
    B_M_get_16 N p0 p1 p2 p3 p0 0 H4
set_option maxRecDepth 20000 in
set_option maxHeartbeats 2000000 in
theorem m_M_get {N : Nat} {p0 : Nat} {p1 : Int32} {p2 : Int32} {p3 : Int32} {H : Hp} {r : Int32 × Hp} (hF : F_M_get N p0 p1 p2 p3 H = some r) : Sa H r.2 := by
  unfold F_M_get at hF
  have hm := Sa.rf H
  obtain ⟨q52, hG⟩ := ck_s hF; clear hF
  obtain ⟨v54, H55, z53, hF⟩ := bC_s hG; clear hG
  replace hm : Sa H H55 := hm.tr (m_M_isMember z53)
  rcases ite_s hF with ⟨q_6, hG⟩ | ⟨q_6, hG⟩
  · clear hF
    exact hm.tr (mB_M_get_16 hG)
  · clear hF
    exact hm.tr (mB_M_get_16 hG)
set_option maxRecDepth 20000 in
set_option maxHeartbeats 2000000 in
theorem k_M_get {N : Nat} {p0 : Nat} {p1 : Int32} {p2 : Int32} {p3 : Int32} {H : Hp} {r : Int32 × Hp} (hF : F_M_get N p0 p1 p2 p3 H = some r) : ab_M y_M_get { frames := 4, cells := 0, slots := 0, locals := 88 } [.ref p0, .int p1, .int p2, .int p3] (hpw H) (po (.returned (some (.int r.1))) r.2) := by
  unfold F_M_get at hF
  refine ab_of2 (lv := [some (.ref p0), some (.int p1), some (.int p2), some (.int p3)]) 0 rfl rfl (Nat.le_of_ble_eq_true rfl) ?_
  refine ab_aload_n d_M_get_0 rfl rfl rfl ?_
  refine ab_aload_n d_M_get_1 rfl rfl rfl ?_
  refine ab_iload_n d_M_get_2 rfl rfl ?_
  refine ab_iload_n d_M_get_3 rfl rfl ?_
  refine ab_iload_n d_M_get_4 rfl rfl ?_
  obtain ⟨q1, hG⟩ := ck_s hF; clear hF
  obtain ⟨v3, H4, z2, hF⟩ := bC_s hG; clear hG
  refine hp_callV_a (v := .int v3) (H1 := H4) (As := [.int p1, .int p2, .int p3]) (rest := [.ref p0]) d_M_get_5 (k_M_isMember z2) (ab_mkC s_M_isMember (Nat.le_of_ble_eq_true rfl) (Nat.le_of_ble_eq_true rfl) (Nat.le_refl 0) (Nat.le_refl 0)) (k12 201 rfl rfl) i_M_isMember v_M_isMember q1 (by decide) rfl rfl (Nat.le_of_ble_eq_true rfl) ?_
  have s_1 : Sa H H4 := (m_M_isMember z2)
  refine ab_if_eq (tgt := 15) d_M_get_8 (by decide) (fun q5 => ?_) (fun q5 => ?_)
  · rw [if_pos q5] at hF
    refine ab_iconst (v := 1) d_M_get_15 (by decide) ?_
    exact kB_M_get_16 hF
  · rw [if_neg q5] at hF
    refine ab_iconst (v := 0) d_M_get_11 (by decide) ?_
    refine ab_goto (tgt := 16) d_M_get_12 (by decide) ?_
    exact kB_M_get_16 hF
def y_M_has : ab_Y := (⟨"WorldEngineModel", "has", "(II)Z"⟩, prog_14_method_32_code, 3, (some FieldType.boolean), [])
theorem d_M_has_0 : decode y_M_has.2.1 0 = .ok (.aload_n 0, 1) := by decide +kernel
theorem d_M_has_1 : decode y_M_has.2.1 1 = .ok (.iconst 0, 1) := by decide +kernel
theorem d_M_has_2 : decode y_M_has.2.1 2 = .ok (.putfield 83, 3) := by decide +kernel
theorem d_M_has_5 : decode y_M_has.2.1 5 = .ok (.aload_n 0, 1) := by decide +kernel
theorem d_M_has_6 : decode y_M_has.2.1 6 = .ok (.iload_n 2, 1) := by decide +kernel
theorem d_M_has_7 : decode y_M_has.2.1 7 = .ok (.invokevirtual 278, 3) := by decide +kernel
theorem d_M_has_10 : decode y_M_has.2.1 10 = .ok (.ifCond .eq 19, 3) := by decide +kernel
theorem d_M_has_13 : decode y_M_has.2.1 13 = .ok (.aload_n 0, 1) := by decide +kernel
theorem d_M_has_14 : decode y_M_has.2.1 14 = .ok (.getfield 37, 3) := by decide +kernel
theorem d_M_has_17 : decode y_M_has.2.1 17 = .ok (.iload_n 1, 1) := by decide +kernel
theorem d_M_has_18 : decode y_M_has.2.1 18 = .ok (.iload_n 2, 1) := by decide +kernel
theorem d_M_has_19 : decode y_M_has.2.1 19 = .ok (.invokevirtual 291, 3) := by decide +kernel
theorem d_M_has_22 : decode y_M_has.2.1 22 = .ok (.ifCond .eq 7, 3) := by decide +kernel
theorem d_M_has_25 : decode y_M_has.2.1 25 = .ok (.iconst 1, 1) := by decide +kernel
theorem d_M_has_26 : decode y_M_has.2.1 26 = .ok (.goto 4, 3) := by decide +kernel
theorem d_M_has_29 : decode y_M_has.2.1 29 = .ok (.iconst 0, 1) := by decide +kernel
theorem d_M_has_30 : decode y_M_has.2.1 30 = .ok (.ireturn, 1) := by decide +kernel
theorem s_M_has : ab_Stat y_M_has 2 := ⟨(k12 213 rfl rfl), (k1 19 rfl rfl), ⟨by decide, by decide⟩, by decide +kernel⟩
theorem i_M_has : Cond.instanceMethod y_M_has.1 ∈ ab_T := (k12 211 rfl rfl)
theorem v_M_has : Cond.selects "WorldEngineModel" y_M_has.1 y_M_has.1 ∈ ab_T := (k12 212 rfl rfl)
def F_M_has (N : Nat) (p0 : Nat) (p1 : Int32) (p2 : Int32) (H : Hp) : Option (Int32 × Hp) :=
    ck (H.sh[p0]? = some (12, 0)) <|
    bnd (H.sD p0 0 (0 : Int32)) fun H2 =>
    bC (F_M_isComponent N p0 p2 H2) fun v4 H5 =>
    if v4 = (0 : Int32) then
    some (0, H5)
    else
    rf (H5.P p0 9) fun a7 =>
    ck (H5.sh[a7]? = some (13, 0)) <|
    bC (F_MWorld_has N a7 p1 p2 H5) fun v11 H12 =>
    if v11 = (0 : Int32) then
    some (0, H12)
    else
    some (1, H12)
set_option maxRecDepth 20000 in
set_option maxHeartbeats 2000000 in
theorem m_M_has {N : Nat} {p0 : Nat} {p1 : Int32} {p2 : Int32} {H : Hp} {r : Int32 × Hp} (hF : F_M_has N p0 p1 p2 H = some r) : Sa H r.2 := by
  unfold F_M_has at hF
  have hm := Sa.rf H
  obtain ⟨q14, hG⟩ := ck_s hF; clear hF
  obtain ⟨H15, eH15, hF⟩ := bnd_g hG; clear hG
  replace hm : Sa H H15 := by rw [eH15]; exact hm
  obtain ⟨v17, H18, z16, hG⟩ := bC_s hF; clear hF
  replace hm : Sa H H18 := hm.tr (m_M_isComponent z16)
  rcases ite_s hG with ⟨q_6, hF⟩ | ⟨q_6, hF⟩
  · clear hG
    have hr := Option.some.inj hF; subst hr
    exact hm
  · clear hG
    obtain ⟨a20, e21, hG⟩ := rf_s hF; clear hF
    obtain ⟨q22, hF⟩ := ck_s hG; clear hG
    obtain ⟨v24, H25, z23, hG⟩ := bC_s hF; clear hF
    replace hm : Sa H H25 := hm.tr (m_MWorld_has z23)
    rcases ite_s hG with ⟨q_8, hF⟩ | ⟨q_8, hF⟩
    · clear hG
      have hr := Option.some.inj hF; subst hr
      exact hm
    · clear hG
      have hr := Option.some.inj hF; subst hr
      exact hm
set_option maxRecDepth 20000 in
set_option maxHeartbeats 2000000 in
theorem k_M_has {N : Nat} {p0 : Nat} {p1 : Int32} {p2 : Int32} {H : Hp} {r : Int32 × Hp} (hF : F_M_has N p0 p1 p2 H = some r) : ab_M y_M_has { frames := 3, cells := 0, slots := 0, locals := 65 } [.ref p0, .int p1, .int p2] (hpw H) (po (.returned (some (.int r.1))) r.2) := by
  unfold F_M_has at hF
  refine ab_of2 (lv := [some (.ref p0), some (.int p1), some (.int p2)]) 0 rfl rfl (Nat.le_of_ble_eq_true rfl) ?_
  refine ab_aload_n d_M_has_0 rfl rfl rfl ?_
  refine ab_iconst (v := 0) d_M_has_1 (by decide) ?_
  obtain ⟨q1, hG⟩ := ck_s hF; clear hF
  refine hp_putI (v := 0) (f := 0) d_M_has_2 q1 (by decide) rfl (by decide) (k9 233 rfl rfl) rfl rfl (fun _ => rfl) (fun _ => rfl) rfl ?_
  refine hp_gen (fun H2 eH2 => ?_)
  replace hG := bnd_s eH2 hG
  have s_1 : Sa H H2 := by rw [eH2]; exact Sa.rf _
  refine ab_aload_n d_M_has_5 rfl rfl rfl ?_
  refine ab_iload_n d_M_has_6 rfl rfl ?_
  obtain ⟨v4, H5, z3, hF⟩ := bC_s hG; clear hG
  refine hp_callV_a (v := .int v4) (H1 := H5) (As := [.int p2]) (rest := []) d_M_has_7 (k_M_isComponent z3) (ab_mkC s_M_isComponent (Nat.le_of_ble_eq_true rfl) (Nat.le_of_ble_eq_true rfl) (Nat.le_refl 0) (Nat.le_refl 0)) (k12 190 rfl rfl) i_M_isComponent v_M_isComponent (by rw [(s_1).1]; exact q1) (by decide) rfl rfl (Nat.le_of_ble_eq_true rfl) ?_
  have s_2 : Sa H H5 := (s_1).tr (m_M_isComponent z3)
  refine ab_if_eq (tgt := 29) d_M_has_10 (by decide) (fun q6 => ?_) (fun q6 => ?_)
  · rw [if_pos q6] at hF
    refine ab_iconst (v := 0) d_M_has_29 (by decide) ?_
    exact ab_zret d_M_has_30 rfl rfl (Nat.le_refl _) (Nat.le_refl _) (by have hr := Option.some.inj hF; subst hr; exact ⟨rfl, rfl⟩)
  · rw [if_neg q6] at hF
    refine ab_aload_n d_M_has_13 rfl rfl rfl ?_
    obtain ⟨a7, e8, hG⟩ := rf_s hF; clear hF
    refine hp_getR (f := 9) d_M_has_14 (by rw [(s_2).1]; exact q1) (by decide) rfl (by decide) (k10 2 rfl rfl) rfl e8 ?_
    refine ab_iload_n d_M_has_17 rfl rfl ?_
    refine ab_iload_n d_M_has_18 rfl rfl ?_
    obtain ⟨q9, hF⟩ := ck_s hG; clear hG
    rw [(s_2).1] at q9
    obtain ⟨v11, H12, z10, hG⟩ := bC_s hF; clear hF
    refine hp_callV_a (v := .int v11) (H1 := H12) (As := [.int p1, .int p2]) (rest := []) d_M_has_19 (k_MWorld_has z10) (ab_mkC s_MWorld_has (Nat.le_of_ble_eq_true rfl) (Nat.le_of_ble_eq_true rfl) (Nat.le_refl 0) (Nat.le_refl 0)) (k12 205 rfl rfl) i_MWorld_has v_MWorld_has (by rw [(s_2).1]; exact q9) (by decide) rfl rfl (Nat.le_of_ble_eq_true rfl) ?_
    have s_3 : Sa H H12 := (s_2).tr (m_MWorld_has z10)
    refine ab_if_eq (tgt := 29) d_M_has_22 (by decide) (fun q13 => ?_) (fun q13 => ?_)
    · rw [if_pos q13] at hG
      refine ab_iconst (v := 0) d_M_has_29 (by decide) ?_
      exact ab_zret d_M_has_30 rfl rfl (Nat.le_refl _) (Nat.le_refl _) (by have hr := Option.some.inj hG; subst hr; exact ⟨rfl, rfl⟩)
    · rw [if_neg q13] at hG
      refine ab_iconst (v := 1) d_M_has_25 (by decide) ?_
      refine ab_goto (tgt := 30) d_M_has_26 (by decide) ?_
      exact ab_zret d_M_has_30 rfl rfl (Nat.le_refl _) (Nat.le_refl _) (by have hr := Option.some.inj hG; subst hr; exact ⟨rfl, rfl⟩)
def y_M_entity : ab_Y := (⟨"WorldEngineModel", "entity", "(I)I"⟩, prog_14_method_33_code, 4, (some FieldType.int), [])
theorem d_M_entity_0 : decode y_M_entity.2.1 0 = .ok (.aload_n 0, 1) := by decide +kernel
theorem d_M_entity_1 : decode y_M_entity.2.1 1 = .ok (.iconst 0, 1) := by decide +kernel
theorem d_M_entity_2 : decode y_M_entity.2.1 2 = .ok (.putfield 83, 3) := by decide +kernel
theorem d_M_entity_5 : decode y_M_entity.2.1 5 = .ok (.iload_n 1, 1) := by decide +kernel
theorem d_M_entity_6 : decode y_M_entity.2.1 6 = .ok (.istore_n 2, 1) := by decide +kernel
theorem d_M_entity_7 : decode y_M_entity.2.1 7 = .ok (.iconst 0, 1) := by decide +kernel
theorem d_M_entity_8 : decode y_M_entity.2.1 8 = .ok (.istore_n 3, 1) := by decide +kernel
theorem d_M_entity_9 : decode y_M_entity.2.1 9 = .ok (.iload_n 3, 1) := by decide +kernel
theorem d_M_entity_10 : decode y_M_entity.2.1 10 = .ok (.sipush 256, 3) := by decide +kernel
theorem d_M_entity_13 : decode y_M_entity.2.1 13 = .ok (.if_icmp .ge 44, 3) := by decide +kernel
theorem d_M_entity_16 : decode y_M_entity.2.1 16 = .ok (.iload_n 1, 1) := by decide +kernel
theorem d_M_entity_17 : decode y_M_entity.2.1 17 = .ok (.ifCond .lt 40, 3) := by decide +kernel
theorem d_M_entity_20 : decode y_M_entity.2.1 20 = .ok (.aload_n 0, 1) := by decide +kernel
theorem d_M_entity_21 : decode y_M_entity.2.1 21 = .ok (.getfield 37, 3) := by decide +kernel
theorem d_M_entity_24 : decode y_M_entity.2.1 24 = .ok (.getfield 158, 3) := by decide +kernel
theorem d_M_entity_27 : decode y_M_entity.2.1 27 = .ok (.iload_n 3, 1) := by decide +kernel
theorem d_M_entity_28 : decode y_M_entity.2.1 28 = .ok (.baload, 1) := by decide +kernel
theorem d_M_entity_29 : decode y_M_entity.2.1 29 = .ok (.ifCond .ne 6, 3) := by decide +kernel
theorem d_M_entity_32 : decode y_M_entity.2.1 32 = .ok (.goto 19, 3) := by decide +kernel
theorem d_M_entity_35 : decode y_M_entity.2.1 35 = .ok (.iload_n 2, 1) := by decide +kernel
theorem d_M_entity_36 : decode y_M_entity.2.1 36 = .ok (.ifCond .ne 12, 3) := by decide +kernel
theorem d_M_entity_39 : decode y_M_entity.2.1 39 = .ok (.aload_n 0, 1) := by decide +kernel
theorem d_M_entity_40 : decode y_M_entity.2.1 40 = .ok (.getfield 37, 3) := by decide +kernel
theorem d_M_entity_43 : decode y_M_entity.2.1 43 = .ok (.iload_n 3, 1) := by decide +kernel
theorem d_M_entity_44 : decode y_M_entity.2.1 44 = .ok (.invokevirtual 269, 3) := by decide +kernel
theorem d_M_entity_47 : decode y_M_entity.2.1 47 = .ok (.ireturn, 1) := by decide +kernel
theorem d_M_entity_48 : decode y_M_entity.2.1 48 = .ok (.iinc 2 (-1), 3) := by decide +kernel
theorem d_M_entity_51 : decode y_M_entity.2.1 51 = .ok (.iinc 3 1, 3) := by decide +kernel
theorem d_M_entity_54 : decode y_M_entity.2.1 54 = .ok (.goto (-45), 3) := by decide +kernel
theorem d_M_entity_57 : decode y_M_entity.2.1 57 = .ok (.iconst (-1), 1) := by decide +kernel
theorem d_M_entity_58 : decode y_M_entity.2.1 58 = .ok (.ireturn, 1) := by decide +kernel
theorem s_M_entity : ab_Stat y_M_entity 1 := ⟨(k12 217 rfl rfl), (k1 19 rfl rfl), ⟨by decide, by decide⟩, by decide +kernel⟩
theorem i_M_entity : Cond.instanceMethod y_M_entity.1 ∈ ab_T := (k12 215 rfl rfl)
theorem v_M_entity : Cond.selects "WorldEngineModel" y_M_entity.1 y_M_entity.1 ∈ ab_T := (k12 216 rfl rfl)
def B_M_entity_51 (N : Nat) (p0 : Nat) (p1 : Int32) (kq9 : Int32 → Int32 → Hp → Option (Int32 × Hp)) (l2 : Int32) (l3 : Int32) (H : Hp) : Option (Int32 × Hp) :=
    kq9 l2 (l3 + 1) H
set_option maxRecDepth 20000 in
set_option maxHeartbeats 2000000 in
theorem mB_M_entity_51 {N : Nat} {p0 : Nat} {p1 : Int32} {kq9 : Int32 → Int32 → Hp → Option (Int32 × Hp)} (hm9 : ∀ (l2 : Int32) (l3 : Int32) (H : Hp) (r : Int32 × Hp), kq9 l2 l3 H = some r → Sa H r.2) {l2 : Int32} {l3 : Int32} {H : Hp} {r : Int32 × Hp} (hF : B_M_entity_51 N p0 p1 kq9 l2 l3 H = some r) : Sa H r.2 := by
  unfold B_M_entity_51 at hF
  have hm := Sa.rf H
  exact hm.tr (hm9 l2 (l3 + 1) H r hF)
set_option maxRecDepth 20000 in
set_option maxHeartbeats 2000000 in
theorem kB_M_entity_51 {N : Nat} {p0 : Nat} {p1 : Int32} {kq9 : Int32 → Int32 → Hp → Option (Int32 × Hp)} (hm9 : ∀ (l2 : Int32) (l3 : Int32) (H : Hp) (r : Int32 × Hp), kq9 l2 l3 H = some r → Sa H r.2) (hk9 : ∀ (l2 : Int32) (l3 : Int32) (H : Hp) (r : Int32 × Hp), kq9 l2 l3 H = some r → ab_V y_M_entity { frames := 1, cells := 0, slots := 0, locals := 21 } (po (.returned (some (.int r.1))) r.2) 0 0 0 0 9 [some (.ref p0), some (.int p1), some (.int l2), some (.int l3)] [] (hpw H)) {l2 : Int32} {l3 : Int32} {H : Hp} {r : Int32 × Hp} (hF : B_M_entity_51 N p0 p1 kq9 l2 l3 H = some r) : ab_V y_M_entity { frames := 1, cells := 0, slots := 0, locals := 21 } (po (.returned (some (.int r.1))) r.2) 0 0 0 0 51 [some (.ref p0), some (.int p1), some (.int l2), some (.int l3)] [] (hpw H) := by
  unfold B_M_entity_51 at hF
  refine ab_iinc (v := l3 + 1) (lv' := [some (.ref p0), some (.int p1), some (.int l2), some (.int (l3 + 1))]) d_M_entity_51 rfl rfl (by decide) rfl ?_
  refine ab_goto (tgt := 9) d_M_entity_54 (by decide) ?_
  exact hk9 l2 (l3 + 1) H r hF
def B_M_entity_9 (N : Nat) (p0 : Nat) (p1 : Int32) : Nat → Int32 → Int32 → Hp → Option (Int32 × Hp)
  | 0, _, _, _ => none
  | n + 1, l2, l3, H =>
    if (256 : Int32) ≤ l3 then
    some ((-1), H)
    else
    if p1 < (0 : Int32) then
    some ((-1), H)
    else
    ck (H.sh[p0]? = some (12, 0)) <|
    rf (H.P p0 9) fun a6 =>
    ck (H.sh[a6]? = some (13, 0)) <|
    rf (H.P a6 5) fun a9 =>
    ar H 102 a9 fun n11 =>
    ck (inb l3 n11) <|
    bnd ((H.D a9 (l3).toNatClampNeg)) fun x14 =>
    if x14 = (0 : Int32) then
    B_M_entity_51 N p0 p1 (fun l2 l3 H => B_M_entity_9 N p0 p1 n l2 l3 H) l2 l3 H
    else
    if l2 = (0 : Int32) then
    rf (H.P p0 9) fun a17 =>
    ck (H.sh[a17]? = some (13, 0)) <|
    bC (F_MWorld_number N a17 l3 H) fun v21 H22 =>
    some (v21, H22)
    else
    B_M_entity_51 N p0 p1 (fun l2 l3 H => B_M_entity_9 N p0 p1 n l2 l3 H) (l2 + (-1)) l3 H
termination_by structural n => n
set_option maxRecDepth 20000 in
set_option maxHeartbeats 2000000 in
theorem mB_M_entity_9 {N : Nat} {p0 : Nat} {p1 : Int32} : ∀ (n : Nat) (l2 : Int32) (l3 : Int32) (H : Hp) (r : Int32 × Hp), B_M_entity_9 N p0 p1 n l2 l3 H = some r → Sa H r.2 := by
  intro n
  induction n with
  | zero => intro l2 l3 H r hF; rw [B_M_entity_9] at hF; cases hF
  | succ n ih =>
    intro l2 l3 H r hF
    rw [B_M_entity_9] at hF
    have hm := Sa.rf H
    rcases ite_s hF with ⟨q_3, hG⟩ | ⟨q_3, hG⟩
    · clear hF
      have hr := Option.some.inj hG; subst hr
      exact hm
    · clear hF
      rcases ite_s hG with ⟨q_4, hF⟩ | ⟨q_4, hF⟩
      · clear hG
        have hr := Option.some.inj hF; subst hr
        exact hm
      · clear hG
        obtain ⟨q25, hG⟩ := ck_s hF; clear hF
        obtain ⟨a26, e27, hF⟩ := rf_s hG; clear hG
        obtain ⟨q28, hG⟩ := ck_s hF; clear hF
        obtain ⟨a29, e30, hF⟩ := rf_s hG; clear hG
        obtain ⟨n31, q32, hG⟩ := ar_s hF; clear hF
        obtain ⟨q33, hF⟩ := ck_s hG; clear hG
        obtain ⟨x34, -, hG⟩ := bnd_g hF; clear hF
        rcases ite_s hG with ⟨q_5, hF⟩ | ⟨q_5, hF⟩
        · clear hG
          exact hm.tr (mB_M_entity_51 ih hF)
        · clear hG
          rcases ite_s hF with ⟨q_6, hG⟩ | ⟨q_6, hG⟩
          · clear hF
            obtain ⟨a37, e38, hF⟩ := rf_s hG; clear hG
            obtain ⟨q39, hG⟩ := ck_s hF; clear hF
            obtain ⟨v41, H42, z40, hF⟩ := bC_s hG; clear hG
            replace hm : Sa H H42 := hm.tr (m_MWorld_number z40)
            have hr := Option.some.inj hF; subst hr
            exact hm
          · clear hF
            exact hm.tr (mB_M_entity_51 ih hG)
set_option maxRecDepth 20000 in
set_option maxHeartbeats 2000000 in
theorem kB_M_entity_9 {N : Nat} {p0 : Nat} {p1 : Int32} : ∀ (n : Nat) (l2 : Int32) (l3 : Int32) (H : Hp) (r : Int32 × Hp), B_M_entity_9 N p0 p1 n l2 l3 H = some r → ab_V y_M_entity { frames := 1, cells := 0, slots := 0, locals := 21 } (po (.returned (some (.int r.1))) r.2) 0 0 0 0 9 [some (.ref p0), some (.int p1), some (.int l2), some (.int l3)] [] (hpw H) := by
  intro n
  induction n with
  | zero => intro l2 l3 H r hF; rw [B_M_entity_9] at hF; cases hF
  | succ n ih =>
    intro l2 l3 H r hF
    rw [B_M_entity_9] at hF
    refine ab_iload_n d_M_entity_9 rfl rfl ?_
    refine ab_sipush (v := 256) d_M_entity_10 (by decide) ?_
    refine ab_icmp_ge (tgt := 57) d_M_entity_13 (by decide) (fun q3 => ?_) (fun q3 => ?_)
    · rw [if_pos q3] at hF
      refine ab_iconst (v := (-1)) d_M_entity_57 (by decide) ?_
      exact ab_iret d_M_entity_58 rfl (Nat.le_refl _) (Nat.le_refl _) (by have hr := Option.some.inj hF; subst hr; exact ⟨rfl, rfl⟩)
    · rw [if_neg q3] at hF
      refine ab_iload_n d_M_entity_16 rfl rfl ?_
      refine ab_if_lt (tgt := 57) d_M_entity_17 (by decide) (fun q4 => ?_) (fun q4 => ?_)
      · rw [if_pos q4] at hF
        refine ab_iconst (v := (-1)) d_M_entity_57 (by decide) ?_
        exact ab_iret d_M_entity_58 rfl (Nat.le_refl _) (Nat.le_refl _) (by have hr := Option.some.inj hF; subst hr; exact ⟨rfl, rfl⟩)
      · rw [if_neg q4] at hF
        refine ab_aload_n d_M_entity_20 rfl rfl rfl ?_
        obtain ⟨q5, hG⟩ := ck_s hF; clear hF
        obtain ⟨a6, e7, hF⟩ := rf_s hG; clear hG
        refine hp_getR (f := 9) d_M_entity_21 q5 (by decide) rfl (by decide) (k10 2 rfl rfl) rfl e7 ?_
        obtain ⟨q8, hG⟩ := ck_s hF; clear hF
        obtain ⟨a9, e10, hF⟩ := rf_s hG; clear hG
        refine hp_getRN (f := 5) d_M_entity_24 q8 (by decide) rfl (by decide) (k9 102 rfl rfl) rfl e10 ?_
        refine ab_iload_n d_M_entity_27 rfl rfl ?_
        obtain ⟨n11, q12, hG⟩ := ar_s hF; clear hF
        obtain ⟨q13, hF⟩ := ck_s hG; clear hG
        refine hp_zald d_M_entity_28 tZ q12 q13 ?_
        refine ab_topi (fun x14 ex14 => ?_)
        replace hF := bnd_s ex14 hF
        refine ab_if_ne (tgt := 35) d_M_entity_29 (by decide) (fun q15 => ?_) (fun q15 => ?_)
        · rw [if_neg q15] at hF
          refine ab_iload_n d_M_entity_35 rfl rfl ?_
          refine ab_if_ne (tgt := 48) d_M_entity_36 (by decide) (fun q16 => ?_) (fun q16 => ?_)
          · rw [if_neg q16] at hF
            refine ab_iinc (v := l2 + (-1)) (lv' := [some (.ref p0), some (.int p1), some (.int (l2 + (-1))), some (.int l3)]) d_M_entity_48 rfl rfl (by decide) rfl ?_
            exact kB_M_entity_51 (mB_M_entity_9 n) ih hF
          · rw [if_pos q16] at hF
            refine ab_aload_n d_M_entity_39 rfl rfl rfl ?_
            obtain ⟨a17, e18, hG⟩ := rf_s hF; clear hF
            refine hp_getR (f := 9) d_M_entity_40 q5 (by decide) rfl (by decide) (k10 2 rfl rfl) rfl e18 ?_
            refine ab_iload_n d_M_entity_43 rfl rfl ?_
            obtain ⟨q19, hF⟩ := ck_s hG; clear hG
            obtain ⟨v21, H22, z20, hG⟩ := bC_s hF; clear hF
            refine hp_callV_a (v := .int v21) (H1 := H22) (As := [.int l3]) (rest := []) d_M_entity_44 (k_MWorld_number z20) (ab_mkC s_MWorld_number (Nat.le_of_ble_eq_true rfl) (Nat.le_of_ble_eq_true rfl) (Nat.le_refl 0) (Nat.le_refl 0)) (k12 183 rfl rfl) i_MWorld_number v_MWorld_number q19 (by decide) rfl rfl (Nat.le_of_ble_eq_true rfl) ?_
            have s_2 : Sa H H22 := (m_MWorld_number z20)
            exact ab_iret d_M_entity_47 rfl (Nat.le_refl _) (Nat.le_refl _) (by have hr := Option.some.inj hG; subst hr; exact ⟨rfl, rfl⟩)
        · rw [if_pos q15] at hF
          refine ab_goto (tgt := 51) d_M_entity_32 (by decide) ?_
          exact kB_M_entity_51 (mB_M_entity_9 n) ih hF
def F_M_entity (N : Nat) (p0 : Nat) (p1 : Int32) (H : Hp) : Option (Int32 × Hp) :=
    ck (H.sh[p0]? = some (12, 0)) <|
    bnd (H.sD p0 0 (0 : Int32)) fun H2 =>
    B_M_entity_9 N p0 p1 N p1 0 H2
set_option maxRecDepth 20000 in
set_option maxHeartbeats 2000000 in
theorem m_M_entity {N : Nat} {p0 : Nat} {p1 : Int32} {H : Hp} {r : Int32 × Hp} (hF : F_M_entity N p0 p1 H = some r) : Sa H r.2 := by
  unfold F_M_entity at hF
  have hm := Sa.rf H
  obtain ⟨q43, hG⟩ := ck_s hF; clear hF
  obtain ⟨H44, eH44, hF⟩ := bnd_g hG; clear hG
  replace hm : Sa H H44 := by rw [eH44]; exact hm
  exact hm.tr (mB_M_entity_9 N p1 0 H44 r hF)
set_option maxRecDepth 20000 in
set_option maxHeartbeats 2000000 in
theorem k_M_entity {N : Nat} {p0 : Nat} {p1 : Int32} {H : Hp} {r : Int32 × Hp} (hF : F_M_entity N p0 p1 H = some r) : ab_M y_M_entity { frames := 1, cells := 0, slots := 0, locals := 21 } [.ref p0, .int p1] (hpw H) (po (.returned (some (.int r.1))) r.2) := by
  unfold F_M_entity at hF
  refine ab_of2 (lv := [some (.ref p0), some (.int p1), none, none]) 2 rfl rfl (Nat.le_of_ble_eq_true rfl) ?_
  refine ab_aload_n d_M_entity_0 rfl rfl rfl ?_
  refine ab_iconst (v := 0) d_M_entity_1 (by decide) ?_
  obtain ⟨q1, hG⟩ := ck_s hF; clear hF
  refine hp_putI (v := 0) (f := 0) d_M_entity_2 q1 (by decide) rfl (by decide) (k9 233 rfl rfl) rfl rfl (fun _ => rfl) (fun _ => rfl) rfl ?_
  refine hp_gen (fun H2 eH2 => ?_)
  replace hG := bnd_s eH2 hG
  have s_1 : Sa H H2 := by rw [eH2]; exact Sa.rf _
  refine ab_iload_n d_M_entity_5 rfl rfl ?_
  refine ab_istore_n (lv' := [some (.ref p0), some (.int p1), some (.int p1), none]) d_M_entity_6 rfl (by decide) rfl ?_
  refine ab_iconst (v := 0) d_M_entity_7 (by decide) ?_
  refine ab_istore_n (lv' := [some (.ref p0), some (.int p1), some (.int p1), some (.int 0)]) d_M_entity_8 rfl (by decide) rfl ?_
  exact kB_M_entity_9 N p1 0 H2 r hG
def y_M_row : ab_Y := (⟨"WorldEngineModel", "row", "(II)I"⟩, prog_14_method_34_code, 5, (some FieldType.int), [])
theorem d_M_row_0 : decode y_M_row.2.1 0 = .ok (.aload_n 0, 1) := by decide +kernel
theorem d_M_row_1 : decode y_M_row.2.1 1 = .ok (.iconst 0, 1) := by decide +kernel
theorem d_M_row_2 : decode y_M_row.2.1 2 = .ok (.putfield 83, 3) := by decide +kernel
theorem d_M_row_5 : decode y_M_row.2.1 5 = .ok (.iload_n 2, 1) := by decide +kernel
theorem d_M_row_6 : decode y_M_row.2.1 6 = .ok (.istore_n 3, 1) := by decide +kernel
theorem d_M_row_7 : decode y_M_row.2.1 7 = .ok (.iconst 0, 1) := by decide +kernel
theorem d_M_row_8 : decode y_M_row.2.1 8 = .ok (.istore 4, 2) := by decide +kernel
theorem d_M_row_10 : decode y_M_row.2.1 10 = .ok (.iload 4, 2) := by decide +kernel
theorem d_M_row_12 : decode y_M_row.2.1 12 = .ok (.sipush 256, 3) := by decide +kernel
theorem d_M_row_15 : decode y_M_row.2.1 15 = .ok (.if_icmp .ge 69, 3) := by decide +kernel
theorem d_M_row_18 : decode y_M_row.2.1 18 = .ok (.iload_n 2, 1) := by decide +kernel
theorem d_M_row_19 : decode y_M_row.2.1 19 = .ok (.ifCond .lt 65, 3) := by decide +kernel
theorem d_M_row_22 : decode y_M_row.2.1 22 = .ok (.iload_n 1, 1) := by decide +kernel
theorem d_M_row_23 : decode y_M_row.2.1 23 = .ok (.i2l, 1) := by decide +kernel
theorem d_M_row_24 : decode y_M_row.2.1 24 = .ok (.lconst 0, 1) := by decide +kernel
theorem d_M_row_25 : decode y_M_row.2.1 25 = .ok (.aload_n 0, 1) := by decide +kernel
theorem d_M_row_26 : decode y_M_row.2.1 26 = .ok (.getfield 16, 3) := by decide +kernel
theorem d_M_row_29 : decode y_M_row.2.1 29 = .ok (.getfield 142, 3) := by decide +kernel
theorem d_M_row_32 : decode y_M_row.2.1 32 = .ok (.iconst 1, 1) := by decide +kernel
theorem d_M_row_33 : decode y_M_row.2.1 33 = .ok (.isub, 1) := by decide +kernel
theorem d_M_row_34 : decode y_M_row.2.1 34 = .ok (.i2l, 1) := by decide +kernel
theorem d_M_row_35 : decode y_M_row.2.1 35 = .ok (.invokestatic 99, 3) := by decide +kernel
theorem d_M_row_38 : decode y_M_row.2.1 38 = .ok (.ifCond .eq 46, 3) := by decide +kernel
theorem d_M_row_41 : decode y_M_row.2.1 41 = .ok (.aload_n 0, 1) := by decide +kernel
theorem d_M_row_42 : decode y_M_row.2.1 42 = .ok (.getfield 16, 3) := by decide +kernel
theorem d_M_row_45 : decode y_M_row.2.1 45 = .ok (.iload_n 1, 1) := by decide +kernel
theorem d_M_row_46 : decode y_M_row.2.1 46 = .ok (.aload_n 0, 1) := by decide +kernel
theorem d_M_row_47 : decode y_M_row.2.1 47 = .ok (.getfield 37, 3) := by decide +kernel
theorem d_M_row_50 : decode y_M_row.2.1 50 = .ok (.iload 4, 2) := by decide +kernel
theorem d_M_row_52 : decode y_M_row.2.1 52 = .ok (.invokevirtual 297, 3) := by decide +kernel
theorem d_M_row_55 : decode y_M_row.2.1 55 = .ok (.ifCond .ne 6, 3) := by decide +kernel
theorem d_M_row_58 : decode y_M_row.2.1 58 = .ok (.goto 20, 3) := by decide +kernel
theorem d_M_row_61 : decode y_M_row.2.1 61 = .ok (.iload_n 3, 1) := by decide +kernel
theorem d_M_row_62 : decode y_M_row.2.1 62 = .ok (.ifCond .ne 13, 3) := by decide +kernel
theorem d_M_row_65 : decode y_M_row.2.1 65 = .ok (.aload_n 0, 1) := by decide +kernel
theorem d_M_row_66 : decode y_M_row.2.1 66 = .ok (.getfield 37, 3) := by decide +kernel
theorem d_M_row_69 : decode y_M_row.2.1 69 = .ok (.iload 4, 2) := by decide +kernel
theorem d_M_row_71 : decode y_M_row.2.1 71 = .ok (.invokevirtual 269, 3) := by decide +kernel
theorem d_M_row_74 : decode y_M_row.2.1 74 = .ok (.ireturn, 1) := by decide +kernel
theorem d_M_row_75 : decode y_M_row.2.1 75 = .ok (.iinc 3 (-1), 3) := by decide +kernel
theorem d_M_row_78 : decode y_M_row.2.1 78 = .ok (.iinc 4 1, 3) := by decide +kernel
theorem d_M_row_81 : decode y_M_row.2.1 81 = .ok (.goto (-71), 3) := by decide +kernel
theorem d_M_row_84 : decode y_M_row.2.1 84 = .ok (.iconst (-1), 1) := by decide +kernel
theorem d_M_row_85 : decode y_M_row.2.1 85 = .ok (.ireturn, 1) := by decide +kernel
theorem s_M_row : ab_Stat y_M_row 2 := ⟨(k12 221 rfl rfl), (k1 19 rfl rfl), ⟨by decide, by decide⟩, by decide +kernel⟩
theorem i_M_row : Cond.instanceMethod y_M_row.1 ∈ ab_T := (k12 219 rfl rfl)
theorem v_M_row : Cond.selects "WorldEngineModel" y_M_row.1 y_M_row.1 ∈ ab_T := (k12 220 rfl rfl)
def B_M_row_78 (N : Nat) (p0 : Nat) (p1 : Int32) (p2 : Int32) (kq10 : Int32 → Int32 → Hp → Option (Int32 × Hp)) (l3 : Int32) (l4 : Int32) (H : Hp) : Option (Int32 × Hp) :=
    kq10 l3 (l4 + 1) H
set_option maxRecDepth 20000 in
set_option maxHeartbeats 2000000 in
theorem mB_M_row_78 {N : Nat} {p0 : Nat} {p1 : Int32} {p2 : Int32} {kq10 : Int32 → Int32 → Hp → Option (Int32 × Hp)} (hm10 : ∀ (l3 : Int32) (l4 : Int32) (H : Hp) (r : Int32 × Hp), kq10 l3 l4 H = some r → Sa H r.2) {l3 : Int32} {l4 : Int32} {H : Hp} {r : Int32 × Hp} (hF : B_M_row_78 N p0 p1 p2 kq10 l3 l4 H = some r) : Sa H r.2 := by
  unfold B_M_row_78 at hF
  have hm := Sa.rf H
  exact hm.tr (hm10 l3 (l4 + 1) H r hF)
set_option maxRecDepth 20000 in
set_option maxHeartbeats 2000000 in
theorem kB_M_row_78 {N : Nat} {p0 : Nat} {p1 : Int32} {p2 : Int32} {kq10 : Int32 → Int32 → Hp → Option (Int32 × Hp)} (hm10 : ∀ (l3 : Int32) (l4 : Int32) (H : Hp) (r : Int32 × Hp), kq10 l3 l4 H = some r → Sa H r.2) (hk10 : ∀ (l3 : Int32) (l4 : Int32) (H : Hp) (r : Int32 × Hp), kq10 l3 l4 H = some r → ab_V y_M_row { frames := 1, cells := 0, slots := 0, locals := 25 } (po (.returned (some (.int r.1))) r.2) 0 0 0 0 10 [some (.ref p0), some (.int p1), some (.int p2), some (.int l3), some (.int l4)] [] (hpw H)) {l3 : Int32} {l4 : Int32} {H : Hp} {r : Int32 × Hp} (hF : B_M_row_78 N p0 p1 p2 kq10 l3 l4 H = some r) : ab_V y_M_row { frames := 1, cells := 0, slots := 0, locals := 25 } (po (.returned (some (.int r.1))) r.2) 0 0 0 0 78 [some (.ref p0), some (.int p1), some (.int p2), some (.int l3), some (.int l4)] [] (hpw H) := by
  unfold B_M_row_78 at hF
  refine ab_iinc (v := l4 + 1) (lv' := [some (.ref p0), some (.int p1), some (.int p2), some (.int l3), some (.int (l4 + 1))]) d_M_row_78 rfl rfl (by decide) rfl ?_
  refine ab_goto (tgt := 10) d_M_row_81 (by decide) ?_
  exact hk10 l3 (l4 + 1) H r hF
def B_M_row_10 (N : Nat) (p0 : Nat) (p1 : Int32) (p2 : Int32) : Nat → Int32 → Int32 → Hp → Option (Int32 × Hp)
  | 0, _, _, _ => none
  | n + 1, l3, l4, H =>
    if (256 : Int32) ≤ l4 then
    some ((-1), H)
    else
    if p2 < (0 : Int32) then
    some ((-1), H)
    else
    ck (H.sh[p0]? = some (12, 0)) <|
    rf (H.P p0 3) fun a6 =>
    ck (H.sh[a6]? = some (14, 0)) <|
    bnd ((H.D a6 29)) fun x9 =>
    bC (F_M_in N ((p1 : Int32).toInt64) (0 : Int64) (((x9 - (1 : Int32)) : Int32).toInt64) H) fun v11 H12 =>
    if v11 = (0 : Int32) then
    some ((-1), H12)
    else
    rf (H12.P p0 3) fun a14 =>
    rf (H12.P p0 9) fun a16 =>
    ck (H12.sh[a14]? = some (14, 0)) <|
    bC (F_MText_isRow N a14 p1 a16 l4 H12) fun v20 H21 =>
    if v20 = (0 : Int32) then
    B_M_row_78 N p0 p1 p2 (fun l3 l4 H => B_M_row_10 N p0 p1 p2 n l3 l4 H) l3 l4 H21
    else
    if l3 = (0 : Int32) then
    rf (H21.P p0 9) fun a24 =>
    ck (H21.sh[a24]? = some (13, 0)) <|
    bC (F_MWorld_number N a24 l4 H21) fun v28 H29 =>
    some (v28, H29)
    else
    B_M_row_78 N p0 p1 p2 (fun l3 l4 H => B_M_row_10 N p0 p1 p2 n l3 l4 H) (l3 + (-1)) l4 H21
termination_by structural n => n
set_option maxRecDepth 20000 in
set_option maxHeartbeats 2000000 in
theorem mB_M_row_10 {N : Nat} {p0 : Nat} {p1 : Int32} {p2 : Int32} : ∀ (n : Nat) (l3 : Int32) (l4 : Int32) (H : Hp) (r : Int32 × Hp), B_M_row_10 N p0 p1 p2 n l3 l4 H = some r → Sa H r.2 := by
  intro n
  induction n with
  | zero => intro l3 l4 H r hF; rw [B_M_row_10] at hF; cases hF
  | succ n ih =>
    intro l3 l4 H r hF
    rw [B_M_row_10] at hF
    have hm := Sa.rf H
    rcases ite_s hF with ⟨q_5, hG⟩ | ⟨q_5, hG⟩
    · clear hF
      have hr := Option.some.inj hG; subst hr
      exact hm
    · clear hF
      rcases ite_s hG with ⟨q_6, hF⟩ | ⟨q_6, hF⟩
      · clear hG
        have hr := Option.some.inj hF; subst hr
        exact hm
      · clear hG
        obtain ⟨q32, hG⟩ := ck_s hF; clear hF
        obtain ⟨a33, e34, hF⟩ := rf_s hG; clear hG
        obtain ⟨q35, hG⟩ := ck_s hF; clear hF
        obtain ⟨x36, -, hF⟩ := bnd_g hG; clear hG
        obtain ⟨v38, H39, z37, hG⟩ := bC_s hF; clear hF
        replace hm : Sa H H39 := hm.tr (m_M_in z37)
        rcases ite_s hG with ⟨q_8, hF⟩ | ⟨q_8, hF⟩
        · clear hG
          have hr := Option.some.inj hF; subst hr
          exact hm
        · clear hG
          obtain ⟨a41, e42, hG⟩ := rf_s hF; clear hF
          obtain ⟨a43, e44, hF⟩ := rf_s hG; clear hG
          obtain ⟨q45, hG⟩ := ck_s hF; clear hF
          obtain ⟨v47, H48, z46, hF⟩ := bC_s hG; clear hG
          replace hm : Sa H H48 := hm.tr (m_MText_isRow z46)
          rcases ite_s hF with ⟨q_10, hG⟩ | ⟨q_10, hG⟩
          · clear hF
            exact hm.tr (mB_M_row_78 ih hG)
          · clear hF
            rcases ite_s hG with ⟨q_11, hF⟩ | ⟨q_11, hF⟩
            · clear hG
              obtain ⟨a51, e52, hG⟩ := rf_s hF; clear hF
              obtain ⟨q53, hF⟩ := ck_s hG; clear hG
              obtain ⟨v55, H56, z54, hG⟩ := bC_s hF; clear hF
              replace hm : Sa H H56 := hm.tr (m_MWorld_number z54)
              have hr := Option.some.inj hG; subst hr
              exact hm
            · clear hG
              exact hm.tr (mB_M_row_78 ih hF)
set_option maxRecDepth 20000 in
set_option maxHeartbeats 2000000 in
theorem kB_M_row_10 {N : Nat} {p0 : Nat} {p1 : Int32} {p2 : Int32} : ∀ (n : Nat) (l3 : Int32) (l4 : Int32) (H : Hp) (r : Int32 × Hp), B_M_row_10 N p0 p1 p2 n l3 l4 H = some r → ab_V y_M_row { frames := 1, cells := 0, slots := 0, locals := 25 } (po (.returned (some (.int r.1))) r.2) 0 0 0 0 10 [some (.ref p0), some (.int p1), some (.int p2), some (.int l3), some (.int l4)] [] (hpw H) := by
  intro n
  induction n with
  | zero => intro l3 l4 H r hF; rw [B_M_row_10] at hF; cases hF
  | succ n ih =>
    intro l3 l4 H r hF
    rw [B_M_row_10] at hF
    refine ab_iload d_M_row_10 rfl ?_
    refine ab_sipush (v := 256) d_M_row_12 (by decide) ?_
    refine ab_icmp_ge (tgt := 84) d_M_row_15 (by decide) (fun q3 => ?_) (fun q3 => ?_)
    · rw [if_pos q3] at hF
      refine ab_iconst (v := (-1)) d_M_row_84 (by decide) ?_
      exact ab_iret d_M_row_85 rfl (Nat.le_refl _) (Nat.le_refl _) (by have hr := Option.some.inj hF; subst hr; exact ⟨rfl, rfl⟩)
    · rw [if_neg q3] at hF
      refine ab_iload_n d_M_row_18 rfl rfl ?_
      refine ab_if_lt (tgt := 84) d_M_row_19 (by decide) (fun q4 => ?_) (fun q4 => ?_)
      · rw [if_pos q4] at hF
        refine ab_iconst (v := (-1)) d_M_row_84 (by decide) ?_
        exact ab_iret d_M_row_85 rfl (Nat.le_refl _) (Nat.le_refl _) (by have hr := Option.some.inj hF; subst hr; exact ⟨rfl, rfl⟩)
      · rw [if_neg q4] at hF
        refine ab_iload_n d_M_row_22 rfl rfl ?_
        refine ab_i2l d_M_row_23 ?_
        refine ab_lconst (v := 0) d_M_row_24 (by decide) ?_
        refine ab_aload_n d_M_row_25 rfl rfl rfl ?_
        obtain ⟨q5, hG⟩ := ck_s hF; clear hF
        obtain ⟨a6, e7, hF⟩ := rf_s hG; clear hG
        refine hp_getR (f := 3) d_M_row_26 q5 (by decide) rfl (by decide) (k9 236 rfl rfl) rfl e7 ?_
        obtain ⟨q8, hG⟩ := ck_s hF; clear hF
        refine hp_getIN (f := 29) d_M_row_29 q8 (by decide) rfl (by decide) (k8 212 rfl rfl) rfl ?_
        refine ab_topi (fun x9 ex9 => ?_)
        replace hG := bnd_s ex9 hG
        refine ab_iconst (v := 1) d_M_row_32 (by decide) ?_
        refine ab_isub d_M_row_33 ?_
        refine ab_i2l d_M_row_34 ?_
        obtain ⟨v11, H12, z10, hF⟩ := bC_s hG; clear hG
        refine hp_callS_a (v := .int v11) (H1 := H12) (As := [.long ((p1 : Int32).toInt64), .long 0, .long (((x9 - (1 : Int32)) : Int32).toInt64)]) (rest := []) d_M_row_35 (k_M_in z10) (ab_mkC s_M_in (Nat.le_of_ble_eq_true rfl) (Nat.le_of_ble_eq_true rfl) (Nat.le_refl 0) (Nat.le_refl 0)) (k10 93 rfl rfl) t_M_in rfl (Nat.le_of_ble_eq_true rfl) ?_
        have s_2 : Sa H H12 := (m_M_in z10)
        refine ab_if_eq (tgt := 84) d_M_row_38 (by decide) (fun q13 => ?_) (fun q13 => ?_)
        · rw [if_pos q13] at hF
          refine ab_iconst (v := (-1)) d_M_row_84 (by decide) ?_
          exact ab_iret d_M_row_85 rfl (Nat.le_refl _) (Nat.le_refl _) (by have hr := Option.some.inj hF; subst hr; exact ⟨rfl, rfl⟩)
        · rw [if_neg q13] at hF
          refine ab_aload_n d_M_row_41 rfl rfl rfl ?_
          obtain ⟨a14, e15, hG⟩ := rf_s hF; clear hF
          refine hp_getR (f := 3) d_M_row_42 (by rw [(s_2).1]; exact q5) (by decide) rfl (by decide) (k9 236 rfl rfl) rfl e15 ?_
          refine ab_iload_n d_M_row_45 rfl rfl ?_
          refine ab_aload_n d_M_row_46 rfl rfl rfl ?_
          obtain ⟨a16, e17, hF⟩ := rf_s hG; clear hG
          refine hp_getR (f := 9) d_M_row_47 (by rw [(s_2).1]; exact q5) (by decide) rfl (by decide) (k10 2 rfl rfl) rfl e17 ?_
          refine ab_iload d_M_row_50 rfl ?_
          obtain ⟨q18, hG⟩ := ck_s hF; clear hF
          rw [(s_2).1] at q18
          obtain ⟨v20, H21, z19, hF⟩ := bC_s hG; clear hG
          refine hp_callV_a (v := .int v20) (H1 := H21) (As := [.int p1, .ref a16, .int l4]) (rest := []) d_M_row_52 (k_MText_isRow z19) (ab_mkC s_MText_isRow (Nat.le_of_ble_eq_true rfl) (Nat.le_of_ble_eq_true rfl) (Nat.le_refl 0) (Nat.le_refl 0)) (k12 222 rfl rfl) i_MText_isRow v_MText_isRow (by rw [(s_2).1]; exact q18) (by decide) rfl rfl (Nat.le_of_ble_eq_true rfl) ?_
          have s_3 : Sa H H21 := (s_2).tr (m_MText_isRow z19)
          refine ab_if_ne (tgt := 61) d_M_row_55 (by decide) (fun q22 => ?_) (fun q22 => ?_)
          · rw [if_neg q22] at hF
            refine ab_iload_n d_M_row_61 rfl rfl ?_
            refine ab_if_ne (tgt := 75) d_M_row_62 (by decide) (fun q23 => ?_) (fun q23 => ?_)
            · rw [if_neg q23] at hF
              refine ab_iinc (v := l3 + (-1)) (lv' := [some (.ref p0), some (.int p1), some (.int p2), some (.int (l3 + (-1))), some (.int l4)]) d_M_row_75 rfl rfl (by decide) rfl ?_
              exact kB_M_row_78 (mB_M_row_10 n) ih hF
            · rw [if_pos q23] at hF
              refine ab_aload_n d_M_row_65 rfl rfl rfl ?_
              obtain ⟨a24, e25, hG⟩ := rf_s hF; clear hF
              refine hp_getR (f := 9) d_M_row_66 (by rw [(s_3).1]; exact q5) (by decide) rfl (by decide) (k10 2 rfl rfl) rfl e25 ?_
              refine ab_iload d_M_row_69 rfl ?_
              obtain ⟨q26, hF⟩ := ck_s hG; clear hG
              rw [(s_3).1] at q26
              obtain ⟨v28, H29, z27, hG⟩ := bC_s hF; clear hF
              refine hp_callV_a (v := .int v28) (H1 := H29) (As := [.int l4]) (rest := []) d_M_row_71 (k_MWorld_number z27) (ab_mkC s_MWorld_number (Nat.le_of_ble_eq_true rfl) (Nat.le_of_ble_eq_true rfl) (Nat.le_refl 0) (Nat.le_refl 0)) (k12 183 rfl rfl) i_MWorld_number v_MWorld_number (by rw [(s_3).1]; exact q26) (by decide) rfl rfl (Nat.le_of_ble_eq_true rfl) ?_
              have s_4 : Sa H H29 := (s_3).tr (m_MWorld_number z27)
              exact ab_iret d_M_row_74 rfl (Nat.le_refl _) (Nat.le_refl _) (by have hr := Option.some.inj hG; subst hr; exact ⟨rfl, rfl⟩)
          · rw [if_pos q22] at hF
            refine ab_goto (tgt := 78) d_M_row_58 (by decide) ?_
            exact kB_M_row_78 (mB_M_row_10 n) ih hF
def F_M_row (N : Nat) (p0 : Nat) (p1 : Int32) (p2 : Int32) (H : Hp) : Option (Int32 × Hp) :=
    ck (H.sh[p0]? = some (12, 0)) <|
    bnd (H.sD p0 0 (0 : Int32)) fun H2 =>
    B_M_row_10 N p0 p1 p2 N p2 0 H2
set_option maxRecDepth 20000 in
set_option maxHeartbeats 2000000 in
theorem m_M_row {N : Nat} {p0 : Nat} {p1 : Int32} {p2 : Int32} {H : Hp} {r : Int32 × Hp} (hF : F_M_row N p0 p1 p2 H = some r) : Sa H r.2 := by
  unfold F_M_row at hF
  have hm := Sa.rf H
  obtain ⟨q57, hG⟩ := ck_s hF; clear hF
  obtain ⟨H58, eH58, hF⟩ := bnd_g hG; clear hG
  replace hm : Sa H H58 := by rw [eH58]; exact hm
  exact hm.tr (mB_M_row_10 N p2 0 H58 r hF)
set_option maxRecDepth 20000 in
set_option maxHeartbeats 2000000 in
theorem k_M_row {N : Nat} {p0 : Nat} {p1 : Int32} {p2 : Int32} {H : Hp} {r : Int32 × Hp} (hF : F_M_row N p0 p1 p2 H = some r) : ab_M y_M_row { frames := 1, cells := 0, slots := 0, locals := 25 } [.ref p0, .int p1, .int p2] (hpw H) (po (.returned (some (.int r.1))) r.2) := by
  unfold F_M_row at hF
  refine ab_of2 (lv := [some (.ref p0), some (.int p1), some (.int p2), none, none]) 2 rfl rfl (Nat.le_of_ble_eq_true rfl) ?_
  refine ab_aload_n d_M_row_0 rfl rfl rfl ?_
  refine ab_iconst (v := 0) d_M_row_1 (by decide) ?_
  obtain ⟨q1, hG⟩ := ck_s hF; clear hF
  refine hp_putI (v := 0) (f := 0) d_M_row_2 q1 (by decide) rfl (by decide) (k9 233 rfl rfl) rfl rfl (fun _ => rfl) (fun _ => rfl) rfl ?_
  refine hp_gen (fun H2 eH2 => ?_)
  replace hG := bnd_s eH2 hG
  have s_1 : Sa H H2 := by rw [eH2]; exact Sa.rf _
  refine ab_iload_n d_M_row_5 rfl rfl ?_
  refine ab_istore_n (lv' := [some (.ref p0), some (.int p1), some (.int p2), some (.int p2), none]) d_M_row_6 rfl (by decide) rfl ?_
  refine ab_iconst (v := 0) d_M_row_7 (by decide) ?_
  refine ab_istore (lv' := [some (.ref p0), some (.int p1), some (.int p2), some (.int p2), some (.int 0)]) d_M_row_8 (by decide) rfl ?_
  exact kB_M_row_10 N p2 0 H2 r hG
def y_M_group : ab_Y := (⟨"WorldEngineModel", "group", "(I)I"⟩, prog_14_method_35_code, 2, (some FieldType.int), [])
theorem d_M_group_0 : decode y_M_group.2.1 0 = .ok (.aload_n 0, 1) := by decide +kernel
theorem d_M_group_1 : decode y_M_group.2.1 1 = .ok (.iconst 0, 1) := by decide +kernel
theorem d_M_group_2 : decode y_M_group.2.1 2 = .ok (.putfield 83, 3) := by decide +kernel
theorem d_M_group_5 : decode y_M_group.2.1 5 = .ok (.iload_n 1, 1) := by decide +kernel
theorem d_M_group_6 : decode y_M_group.2.1 6 = .ok (.i2l, 1) := by decide +kernel
theorem d_M_group_7 : decode y_M_group.2.1 7 = .ok (.lconst 0, 1) := by decide +kernel
theorem d_M_group_8 : decode y_M_group.2.1 8 = .ok (.aload_n 0, 1) := by decide +kernel
theorem d_M_group_9 : decode y_M_group.2.1 9 = .ok (.getfield 16, 3) := by decide +kernel
theorem d_M_group_12 : decode y_M_group.2.1 12 = .ok (.getfield 142, 3) := by decide +kernel
theorem d_M_group_15 : decode y_M_group.2.1 15 = .ok (.iconst 1, 1) := by decide +kernel
theorem d_M_group_16 : decode y_M_group.2.1 16 = .ok (.isub, 1) := by decide +kernel
theorem d_M_group_17 : decode y_M_group.2.1 17 = .ok (.i2l, 1) := by decide +kernel
theorem d_M_group_18 : decode y_M_group.2.1 18 = .ok (.invokestatic 99, 3) := by decide +kernel
theorem d_M_group_21 : decode y_M_group.2.1 21 = .ok (.ifCond .eq 15, 3) := by decide +kernel
theorem d_M_group_24 : decode y_M_group.2.1 24 = .ok (.aload_n 0, 1) := by decide +kernel
theorem d_M_group_25 : decode y_M_group.2.1 25 = .ok (.getfield 16, 3) := by decide +kernel
theorem d_M_group_28 : decode y_M_group.2.1 28 = .ok (.getfield 301, 3) := by decide +kernel
theorem d_M_group_31 : decode y_M_group.2.1 31 = .ok (.iload_n 1, 1) := by decide +kernel
theorem d_M_group_32 : decode y_M_group.2.1 32 = .ok (.iaload, 1) := by decide +kernel
theorem d_M_group_33 : decode y_M_group.2.1 33 = .ok (.goto 4, 3) := by decide +kernel
theorem d_M_group_36 : decode y_M_group.2.1 36 = .ok (.iconst (-1), 1) := by decide +kernel
theorem d_M_group_37 : decode y_M_group.2.1 37 = .ok (.ireturn, 1) := by decide +kernel
theorem s_M_group : ab_Stat y_M_group 1 := ⟨(k12 226 rfl rfl), (k1 19 rfl rfl), ⟨by decide, by decide⟩, by decide +kernel⟩
theorem i_M_group : Cond.instanceMethod y_M_group.1 ∈ ab_T := (k12 224 rfl rfl)
theorem v_M_group : Cond.selects "WorldEngineModel" y_M_group.1 y_M_group.1 ∈ ab_T := (k12 225 rfl rfl)
def F_M_group (N : Nat) (p0 : Nat) (p1 : Int32) (H : Hp) : Option (Int32 × Hp) :=
    ck (H.sh[p0]? = some (12, 0)) <|
    bnd (H.sD p0 0 (0 : Int32)) fun H2 =>
    rf (H2.P p0 3) fun a3 =>
    ck (H2.sh[a3]? = some (14, 0)) <|
    bnd ((H2.D a3 29)) fun x6 =>
    bC (F_M_in N ((p1 : Int32).toInt64) (0 : Int64) (((x6 - (1 : Int32)) : Int32).toInt64) H2) fun v8 H9 =>
    if v8 = (0 : Int32) then
    some ((-1), H9)
    else
    rf (H9.P p0 3) fun a11 =>
    ck (H9.sh[a11]? = some (14, 0)) <|
    rf (H9.P a11 36) fun a14 =>
    ar H9 100 a14 fun n16 =>
    ck (inb p1 n16) <|
    bnd ((H9.D a14 (p1).toNatClampNeg)) fun x19 =>
    some (x19, H9)
set_option maxRecDepth 20000 in
set_option maxHeartbeats 2000000 in
theorem m_M_group {N : Nat} {p0 : Nat} {p1 : Int32} {H : Hp} {r : Int32 × Hp} (hF : F_M_group N p0 p1 H = some r) : Sa H r.2 := by
  unfold F_M_group at hF
  have hm := Sa.rf H
  obtain ⟨q20, hG⟩ := ck_s hF; clear hF
  obtain ⟨H21, eH21, hF⟩ := bnd_g hG; clear hG
  replace hm : Sa H H21 := by rw [eH21]; exact hm
  obtain ⟨a22, e23, hG⟩ := rf_s hF; clear hF
  obtain ⟨q24, hF⟩ := ck_s hG; clear hG
  obtain ⟨x25, -, hG⟩ := bnd_g hF; clear hF
  obtain ⟨v27, H28, z26, hF⟩ := bC_s hG; clear hG
  replace hm : Sa H H28 := hm.tr (m_M_in z26)
  rcases ite_s hF with ⟨q_5, hG⟩ | ⟨q_5, hG⟩
  · clear hF
    have hr := Option.some.inj hG; subst hr
    exact hm
  · clear hF
    obtain ⟨a30, e31, hF⟩ := rf_s hG; clear hG
    obtain ⟨q32, hG⟩ := ck_s hF; clear hF
    obtain ⟨a33, e34, hF⟩ := rf_s hG; clear hG
    obtain ⟨n35, q36, hG⟩ := ar_s hF; clear hF
    obtain ⟨q37, hF⟩ := ck_s hG; clear hG
    obtain ⟨x38, -, hG⟩ := bnd_g hF; clear hF
    have hr := Option.some.inj hG; subst hr
    exact hm
set_option maxRecDepth 20000 in
set_option maxHeartbeats 2000000 in
theorem k_M_group {N : Nat} {p0 : Nat} {p1 : Int32} {H : Hp} {r : Int32 × Hp} (hF : F_M_group N p0 p1 H = some r) : ab_M y_M_group { frames := 1, cells := 0, slots := 0, locals := 25 } [.ref p0, .int p1] (hpw H) (po (.returned (some (.int r.1))) r.2) := by
  unfold F_M_group at hF
  refine ab_of2 (lv := [some (.ref p0), some (.int p1)]) 0 rfl rfl (Nat.le_of_ble_eq_true rfl) ?_
  refine ab_aload_n d_M_group_0 rfl rfl rfl ?_
  refine ab_iconst (v := 0) d_M_group_1 (by decide) ?_
  obtain ⟨q1, hG⟩ := ck_s hF; clear hF
  refine hp_putI (v := 0) (f := 0) d_M_group_2 q1 (by decide) rfl (by decide) (k9 233 rfl rfl) rfl rfl (fun _ => rfl) (fun _ => rfl) rfl ?_
  refine hp_gen (fun H2 eH2 => ?_)
  replace hG := bnd_s eH2 hG
  have s_1 : Sa H H2 := by rw [eH2]; exact Sa.rf _
  refine ab_iload_n d_M_group_5 rfl rfl ?_
  refine ab_i2l d_M_group_6 ?_
  refine ab_lconst (v := 0) d_M_group_7 (by decide) ?_
  refine ab_aload_n d_M_group_8 rfl rfl rfl ?_
  obtain ⟨a3, e4, hF⟩ := rf_s hG; clear hG
  refine hp_getR (f := 3) d_M_group_9 (by rw [(s_1).1]; exact q1) (by decide) rfl (by decide) (k9 236 rfl rfl) rfl e4 ?_
  obtain ⟨q5, hG⟩ := ck_s hF; clear hF
  rw [(s_1).1] at q5
  refine hp_getIN (f := 29) d_M_group_12 (by rw [(s_1).1]; exact q5) (by decide) rfl (by decide) (k8 212 rfl rfl) rfl ?_
  refine ab_topi (fun x6 ex6 => ?_)
  replace hG := bnd_s ex6 hG
  refine ab_iconst (v := 1) d_M_group_15 (by decide) ?_
  refine ab_isub d_M_group_16 ?_
  refine ab_i2l d_M_group_17 ?_
  obtain ⟨v8, H9, z7, hF⟩ := bC_s hG; clear hG
  refine hp_callS_a (v := .int v8) (H1 := H9) (As := [.long ((p1 : Int32).toInt64), .long 0, .long (((x6 - (1 : Int32)) : Int32).toInt64)]) (rest := []) d_M_group_18 (k_M_in z7) (ab_mkC s_M_in (Nat.le_of_ble_eq_true rfl) (Nat.le_of_ble_eq_true rfl) (Nat.le_refl 0) (Nat.le_refl 0)) (k10 93 rfl rfl) t_M_in rfl (Nat.le_of_ble_eq_true rfl) ?_
  have s_2 : Sa H H9 := (s_1).tr (m_M_in z7)
  refine ab_if_eq (tgt := 36) d_M_group_21 (by decide) (fun q10 => ?_) (fun q10 => ?_)
  · rw [if_pos q10] at hF
    refine ab_iconst (v := (-1)) d_M_group_36 (by decide) ?_
    exact ab_iret d_M_group_37 rfl (Nat.le_refl _) (Nat.le_refl _) (by have hr := Option.some.inj hF; subst hr; exact ⟨rfl, rfl⟩)
  · rw [if_neg q10] at hF
    refine ab_aload_n d_M_group_24 rfl rfl rfl ?_
    obtain ⟨a11, e12, hG⟩ := rf_s hF; clear hF
    refine hp_getR (f := 3) d_M_group_25 (by rw [(s_2).1]; exact q1) (by decide) rfl (by decide) (k9 236 rfl rfl) rfl e12 ?_
    obtain ⟨q13, hF⟩ := ck_s hG; clear hG
    rw [(s_2).1] at q13
    obtain ⟨a14, e15, hG⟩ := rf_s hF; clear hF
    refine hp_getRN (f := 36) d_M_group_28 (by rw [(s_2).1]; exact q13) (by decide) rfl (by decide) (k8 223 rfl rfl) rfl e15 ?_
    refine ab_iload_n d_M_group_31 rfl rfl ?_
    obtain ⟨n16, q17, hF⟩ := ar_s hG; clear hG
    rw [(s_2).1] at q17
    obtain ⟨q18, hG⟩ := ck_s hF; clear hF
    refine hp_iald d_M_group_32 tI (by rw [(s_2).1]; exact q17) q18 ?_
    refine ab_topi (fun x19 ex19 => ?_)
    replace hG := bnd_s ex19 hG
    refine ab_goto (tgt := 37) d_M_group_33 (by decide) ?_
    exact ab_iret d_M_group_37 rfl (Nat.le_refl _) (Nat.le_refl _) (by have hr := Option.some.inj hG; subst hr; exact ⟨rfl, rfl⟩)
def y_M_shown : ab_Y := (⟨"WorldEngineModel", "shown", "(I)I"⟩, prog_14_method_36_code, 2, (some FieldType.int), [])
theorem d_M_shown_0 : decode y_M_shown.2.1 0 = .ok (.aload_n 0, 1) := by decide +kernel
theorem d_M_shown_1 : decode y_M_shown.2.1 1 = .ok (.iload_n 1, 1) := by decide +kernel
theorem d_M_shown_2 : decode y_M_shown.2.1 2 = .ok (.i2l, 1) := by decide +kernel
theorem d_M_shown_3 : decode y_M_shown.2.1 3 = .ok (.lconst 0, 1) := by decide +kernel
theorem d_M_shown_4 : decode y_M_shown.2.1 4 = .ok (.aload_n 0, 1) := by decide +kernel
theorem d_M_shown_5 : decode y_M_shown.2.1 5 = .ok (.getfield 136, 3) := by decide +kernel
theorem d_M_shown_8 : decode y_M_shown.2.1 8 = .ok (.sipush 256, 3) := by decide +kernel
theorem d_M_shown_11 : decode y_M_shown.2.1 11 = .ok (.if_icmp .ge 10, 3) := by decide +kernel
theorem d_M_shown_14 : decode y_M_shown.2.1 14 = .ok (.aload_n 0, 1) := by decide +kernel
theorem d_M_shown_15 : decode y_M_shown.2.1 15 = .ok (.getfield 136, 3) := by decide +kernel
theorem d_M_shown_18 : decode y_M_shown.2.1 18 = .ok (.goto 6, 3) := by decide +kernel
theorem d_M_shown_21 : decode y_M_shown.2.1 21 = .ok (.sipush 256, 3) := by decide +kernel
theorem d_M_shown_24 : decode y_M_shown.2.1 24 = .ok (.iconst 1, 1) := by decide +kernel
theorem d_M_shown_25 : decode y_M_shown.2.1 25 = .ok (.isub, 1) := by decide +kernel
theorem d_M_shown_26 : decode y_M_shown.2.1 26 = .ok (.i2l, 1) := by decide +kernel
theorem d_M_shown_27 : decode y_M_shown.2.1 27 = .ok (.invokestatic 99, 3) := by decide +kernel
theorem d_M_shown_30 : decode y_M_shown.2.1 30 = .ok (.ifCond .eq 7, 3) := by decide +kernel
theorem d_M_shown_33 : decode y_M_shown.2.1 33 = .ok (.iconst 0, 1) := by decide +kernel
theorem d_M_shown_34 : decode y_M_shown.2.1 34 = .ok (.goto 4, 3) := by decide +kernel
theorem d_M_shown_37 : decode y_M_shown.2.1 37 = .ok (.iconst 1, 1) := by decide +kernel
theorem d_M_shown_38 : decode y_M_shown.2.1 38 = .ok (.putfield 83, 3) := by decide +kernel
theorem d_M_shown_41 : decode y_M_shown.2.1 41 = .ok (.aload_n 0, 1) := by decide +kernel
theorem d_M_shown_42 : decode y_M_shown.2.1 42 = .ok (.getfield 83, 3) := by decide +kernel
theorem d_M_shown_45 : decode y_M_shown.2.1 45 = .ok (.ifCond .le 7, 3) := by decide +kernel
theorem d_M_shown_48 : decode y_M_shown.2.1 48 = .ok (.iconst 0, 1) := by decide +kernel
theorem d_M_shown_49 : decode y_M_shown.2.1 49 = .ok (.goto 20, 3) := by decide +kernel
theorem d_M_shown_52 : decode y_M_shown.2.1 52 = .ok (.aload_n 0, 1) := by decide +kernel
theorem d_M_shown_53 : decode y_M_shown.2.1 53 = .ok (.getfield 70, 3) := by decide +kernel
theorem d_M_shown_56 : decode y_M_shown.2.1 56 = .ok (.aload_n 0, 1) := by decide +kernel
theorem d_M_shown_57 : decode y_M_shown.2.1 57 = .ok (.getfield 136, 3) := by decide +kernel
theorem d_M_shown_60 : decode y_M_shown.2.1 60 = .ok (.iconst 1, 1) := by decide +kernel
theorem d_M_shown_61 : decode y_M_shown.2.1 61 = .ok (.isub, 1) := by decide +kernel
theorem d_M_shown_62 : decode y_M_shown.2.1 62 = .ok (.iload_n 1, 1) := by decide +kernel
theorem d_M_shown_63 : decode y_M_shown.2.1 63 = .ok (.isub, 1) := by decide +kernel
theorem d_M_shown_64 : decode y_M_shown.2.1 64 = .ok (.sipush 255, 3) := by decide +kernel
theorem d_M_shown_67 : decode y_M_shown.2.1 67 = .ok (.iand, 1) := by decide +kernel
theorem d_M_shown_68 : decode y_M_shown.2.1 68 = .ok (.iaload, 1) := by decide +kernel
theorem d_M_shown_69 : decode y_M_shown.2.1 69 = .ok (.ireturn, 1) := by decide +kernel
theorem s_M_shown : ab_Stat y_M_shown 1 := ⟨(k12 230 rfl rfl), (k1 19 rfl rfl), ⟨by decide, by decide⟩, by decide +kernel⟩
theorem i_M_shown : Cond.instanceMethod y_M_shown.1 ∈ ab_T := (k12 228 rfl rfl)
theorem v_M_shown : Cond.selects "WorldEngineModel" y_M_shown.1 y_M_shown.1 ∈ ab_T := (k12 229 rfl rfl)
def B_M_shown_38 (N : Nat) (p0 : Nat) (p1 : Int32) (w0 : Nat) (w1 : Int32) (H : Hp) : Option (Int32 × Hp) :=
    ck (H.sh[w0]? = some (12, 0)) <|
    bnd (H.sD w0 0 w1) fun H9 =>
    ck (H9.sh[p0]? = some (12, 0)) <|
    bnd ((H9.D p0 0)) fun x11 =>
    if x11 ≤ (0 : Int32) then
    rf (H9.P p0 19) fun a13 =>
    bnd ((H9.D p0 20)) fun x15 =>
    ar H9 100 a13 fun n16 =>
    ck (inb (((x15 - (1 : Int32)) - p1) &&& (255 : Int32)) n16) <|
    bnd ((H9.D a13 ((((x15 - (1 : Int32)) - p1) &&& (255 : Int32))).toNatClampNeg)) fun x19 =>
    some (x19, H9)
    else
    some (0, H9)
set_option maxRecDepth 20000 in
set_option maxHeartbeats 2000000 in
theorem mB_M_shown_38 {N : Nat} {p0 : Nat} {p1 : Int32} {w0 : Nat} {w1 : Int32} {H : Hp} {r : Int32 × Hp} (hF : B_M_shown_38 N p0 p1 w0 w1 H = some r) : Sa H r.2 := by
  unfold B_M_shown_38 at hF
  have hm := Sa.rf H
  obtain ⟨q20, hG⟩ := ck_s hF; clear hF
  obtain ⟨H21, eH21, hF⟩ := bnd_g hG; clear hG
  replace hm : Sa H H21 := by rw [eH21]; exact hm
  obtain ⟨q22, hG⟩ := ck_s hF; clear hF
  obtain ⟨x23, -, hF⟩ := bnd_g hG; clear hG
  rcases ite_s hF with ⟨q_4, hG⟩ | ⟨q_4, hG⟩
  · clear hF
    obtain ⟨a25, e26, hF⟩ := rf_s hG; clear hG
    obtain ⟨x27, -, hG⟩ := bnd_g hF; clear hF
    obtain ⟨n28, q29, hF⟩ := ar_s hG; clear hG
    obtain ⟨q30, hG⟩ := ck_s hF; clear hF
    obtain ⟨x31, -, hF⟩ := bnd_g hG; clear hG
    have hr := Option.some.inj hF; subst hr
    exact hm
  · clear hF
    have hr := Option.some.inj hG; subst hr
    exact hm
set_option maxRecDepth 20000 in
set_option maxHeartbeats 2000000 in
theorem kB_M_shown_38 {N : Nat} {p0 : Nat} {p1 : Int32} {w0 : Nat} {w1 : Int32} {H : Hp} {r : Int32 × Hp} (hF : B_M_shown_38 N p0 p1 w0 w1 H = some r) : ab_V y_M_shown { frames := 1, cells := 0, slots := 0, locals := 25 } (po (.returned (some (.int r.1))) r.2) 0 0 0 0 38 [some (.ref p0), some (.int p1)] [.int w1, .ref w0] (hpw H) := by
  unfold B_M_shown_38 at hF
  obtain ⟨q8, hG⟩ := ck_s hF; clear hF
  refine hp_putI (v := w1) (f := 0) d_M_shown_38 q8 (by decide) rfl (by decide) (k9 233 rfl rfl) rfl rfl (fun _ => rfl) (fun _ => rfl) rfl ?_
  refine hp_gen (fun H9 eH9 => ?_)
  replace hG := bnd_s eH9 hG
  have s_2 : Sa H H9 := by rw [eH9]; exact Sa.rf _
  refine ab_aload_n d_M_shown_41 rfl rfl rfl ?_
  obtain ⟨q10, hF⟩ := ck_s hG; clear hG
  rw [(s_2).1] at q10
  refine hp_getI (f := 0) d_M_shown_42 (by rw [(s_2).1]; exact q10) (by decide) rfl (by decide) (k9 233 rfl rfl) rfl ?_
  refine ab_topi (fun x11 ex11 => ?_)
  replace hF := bnd_s ex11 hF
  refine ab_if_le (tgt := 52) d_M_shown_45 (by decide) (fun q12 => ?_) (fun q12 => ?_)
  · rw [if_pos q12] at hF
    refine ab_aload_n d_M_shown_52 rfl rfl rfl ?_
    obtain ⟨a13, e14, hG⟩ := rf_s hF; clear hF
    refine hp_getR (f := 19) d_M_shown_53 (by rw [(s_2).1]; exact q10) (by decide) rfl (by decide) (k10 12 rfl rfl) rfl e14 ?_
    refine ab_aload_n d_M_shown_56 rfl rfl rfl ?_
    refine hp_getI (f := 20) d_M_shown_57 (by rw [(s_2).1]; exact q10) (by decide) rfl (by decide) (k10 13 rfl rfl) rfl ?_
    refine ab_topi (fun x15 ex15 => ?_)
    replace hG := bnd_s ex15 hG
    refine ab_iconst (v := 1) d_M_shown_60 (by decide) ?_
    refine ab_isub d_M_shown_61 ?_
    refine ab_iload_n d_M_shown_62 rfl rfl ?_
    refine ab_isub d_M_shown_63 ?_
    refine ab_sipush (v := 255) d_M_shown_64 (by decide) ?_
    refine ab_iand d_M_shown_67 ?_
    obtain ⟨n16, q17, hF⟩ := ar_s hG; clear hG
    rw [(s_2).1] at q17
    obtain ⟨q18, hG⟩ := ck_s hF; clear hF
    refine hp_iald d_M_shown_68 tI (by rw [(s_2).1]; exact q17) q18 ?_
    refine ab_topi (fun x19 ex19 => ?_)
    replace hG := bnd_s ex19 hG
    exact ab_iret d_M_shown_69 rfl (Nat.le_refl _) (Nat.le_refl _) (by have hr := Option.some.inj hG; subst hr; exact ⟨rfl, rfl⟩)
  · rw [if_neg q12] at hF
    refine ab_iconst (v := 0) d_M_shown_48 (by decide) ?_
    refine ab_goto (tgt := 69) d_M_shown_49 (by decide) ?_
    exact ab_iret d_M_shown_69 rfl (Nat.le_refl _) (Nat.le_refl _) (by have hr := Option.some.inj hF; subst hr; exact ⟨rfl, rfl⟩)
def B_M_shown_24 (N : Nat) (p0 : Nat) (p1 : Int32) (w0 : Nat) (w1 : Int64) (w2 : Int64) (w3 : Int32) (H : Hp) : Option (Int32 × Hp) :=
    bC (F_M_in N w1 w2 (((w3 - (1 : Int32)) : Int32).toInt64) H) fun v5 H6 =>
    if v5 = (0 : Int32) then
    B_M_shown_38 N p0 p1 w0 1 H6
    else
    B_M_shown_38 N p0 p1 w0 0 H6
set_option maxRecDepth 20000 in
set_option maxHeartbeats 2000000 in
theorem mB_M_shown_24 {N : Nat} {p0 : Nat} {p1 : Int32} {w0 : Nat} {w1 : Int64} {w2 : Int64} {w3 : Int32} {H : Hp} {r : Int32 × Hp} (hF : B_M_shown_24 N p0 p1 w0 w1 w2 w3 H = some r) : Sa H r.2 := by
  unfold B_M_shown_24 at hF
  have hm := Sa.rf H
  obtain ⟨v33, H34, z32, hG⟩ := bC_s hF; clear hF
  replace hm : Sa H H34 := hm.tr (m_M_in z32)
  rcases ite_s hG with ⟨q_6, hF⟩ | ⟨q_6, hF⟩
  · clear hG
    exact hm.tr (mB_M_shown_38 hF)
  · clear hG
    exact hm.tr (mB_M_shown_38 hF)
set_option maxRecDepth 20000 in
set_option maxHeartbeats 2000000 in
theorem kB_M_shown_24 {N : Nat} {p0 : Nat} {p1 : Int32} {w0 : Nat} {w1 : Int64} {w2 : Int64} {w3 : Int32} {H : Hp} {r : Int32 × Hp} (hF : B_M_shown_24 N p0 p1 w0 w1 w2 w3 H = some r) : ab_V y_M_shown { frames := 1, cells := 0, slots := 0, locals := 25 } (po (.returned (some (.int r.1))) r.2) 0 0 0 0 24 [some (.ref p0), some (.int p1)] [.int w3, .long w2, .long w1, .ref w0] (hpw H) := by
  unfold B_M_shown_24 at hF
  refine ab_iconst (v := 1) d_M_shown_24 (by decide) ?_
  refine ab_isub d_M_shown_25 ?_
  refine ab_i2l d_M_shown_26 ?_
  obtain ⟨v5, H6, z4, hG⟩ := bC_s hF; clear hF
  refine hp_callS_a (v := .int v5) (H1 := H6) (As := [.long w1, .long w2, .long (((w3 - (1 : Int32)) : Int32).toInt64)]) (rest := [.ref w0]) d_M_shown_27 (k_M_in z4) (ab_mkC s_M_in (Nat.le_of_ble_eq_true rfl) (Nat.le_of_ble_eq_true rfl) (Nat.le_refl 0) (Nat.le_refl 0)) (k10 93 rfl rfl) t_M_in rfl (Nat.le_of_ble_eq_true rfl) ?_
  have s_1 : Sa H H6 := (m_M_in z4)
  refine ab_if_eq (tgt := 37) d_M_shown_30 (by decide) (fun q7 => ?_) (fun q7 => ?_)
  · rw [if_pos q7] at hG
    refine ab_iconst (v := 1) d_M_shown_37 (by decide) ?_
    exact kB_M_shown_38 hG
  · rw [if_neg q7] at hG
    refine ab_iconst (v := 0) d_M_shown_33 (by decide) ?_
    refine ab_goto (tgt := 38) d_M_shown_34 (by decide) ?_
    exact kB_M_shown_38 hG
def F_M_shown (N : Nat) (p0 : Nat) (p1 : Int32) (H : Hp) : Option (Int32 × Hp) :=
    ck (H.sh[p0]? = some (12, 0)) <|
    bnd ((H.D p0 20)) fun x2 =>
    if (256 : Int32) ≤ x2 then
    B_M_shown_24 N p0 p1 p0 ((p1 : Int32).toInt64) 0 256 H
    else
    bnd ((H.D p0 20)) fun x36 =>
    B_M_shown_24 N p0 p1 p0 ((p1 : Int32).toInt64) 0 x36 H
set_option maxRecDepth 20000 in
set_option maxHeartbeats 2000000 in
theorem m_M_shown {N : Nat} {p0 : Nat} {p1 : Int32} {H : Hp} {r : Int32 × Hp} (hF : F_M_shown N p0 p1 H = some r) : Sa H r.2 := by
  unfold F_M_shown at hF
  have hm := Sa.rf H
  obtain ⟨q37, hG⟩ := ck_s hF; clear hF
  obtain ⟨x38, -, hF⟩ := bnd_g hG; clear hG
  rcases ite_s hF with ⟨q_7, hG⟩ | ⟨q_7, hG⟩
  · clear hF
    exact hm.tr (mB_M_shown_24 hG)
  · clear hF
    obtain ⟨x40, -, hF⟩ := bnd_g hG; clear hG
    exact hm.tr (mB_M_shown_24 hF)
set_option maxRecDepth 20000 in
set_option maxHeartbeats 2000000 in
theorem k_M_shown {N : Nat} {p0 : Nat} {p1 : Int32} {H : Hp} {r : Int32 × Hp} (hF : F_M_shown N p0 p1 H = some r) : ab_M y_M_shown { frames := 1, cells := 0, slots := 0, locals := 25 } [.ref p0, .int p1] (hpw H) (po (.returned (some (.int r.1))) r.2) := by
  unfold F_M_shown at hF
  refine ab_of2 (lv := [some (.ref p0), some (.int p1)]) 0 rfl rfl (Nat.le_of_ble_eq_true rfl) ?_
  refine ab_aload_n d_M_shown_0 rfl rfl rfl ?_
  refine ab_iload_n d_M_shown_1 rfl rfl ?_
  refine ab_i2l d_M_shown_2 ?_
  refine ab_lconst (v := 0) d_M_shown_3 (by decide) ?_
  refine ab_aload_n d_M_shown_4 rfl rfl rfl ?_
  obtain ⟨q1, hG⟩ := ck_s hF; clear hF
  refine hp_getI (f := 20) d_M_shown_5 q1 (by decide) rfl (by decide) (k10 13 rfl rfl) rfl ?_
  refine ab_topi (fun x2 ex2 => ?_)
  replace hG := bnd_s ex2 hG
  refine ab_sipush (v := 256) d_M_shown_8 (by decide) ?_
  refine ab_icmp_ge (tgt := 21) d_M_shown_11 (by decide) (fun q3 => ?_) (fun q3 => ?_)
  · rw [if_pos q3] at hG
    refine ab_sipush (v := 256) d_M_shown_21 (by decide) ?_
    exact kB_M_shown_24 hG
  · rw [if_neg q3] at hG
    refine ab_aload_n d_M_shown_14 rfl rfl rfl ?_
    refine hp_getI (f := 20) d_M_shown_15 q1 (by decide) rfl (by decide) (k10 13 rfl rfl) rfl ?_
    refine ab_topi (fun x36 ex36 => ?_)
    replace hG := bnd_s ex36 hG
    refine ab_goto (tgt := 24) d_M_shown_18 (by decide) ?_
    exact kB_M_shown_24 hG
