def y_Program_tell : ab_Y := (⟨"WorldEngine$Program", "tell", "(Ljava/lang/String;III)V"⟩, prog_6_method_4_code, 5, none, [])
theorem d_Program_tell_0 : decode y_Program_tell.2.1 0 = .ok (.aload_n 0, 1) := by decide +kernel
theorem d_Program_tell_1 : decode y_Program_tell.2.1 1 = .ok (.getfield 62, 3) := by decide +kernel
theorem d_Program_tell_4 : decode y_Program_tell.2.1 4 = .ok (.bipush 68, 2) := by decide +kernel
theorem d_Program_tell_6 : decode y_Program_tell.2.1 6 = .ok (.if_icmp .ge 30, 3) := by decide +kernel
theorem d_Program_tell_9 : decode y_Program_tell.2.1 9 = .ok (.aload_n 0, 1) := by decide +kernel
theorem d_Program_tell_10 : decode y_Program_tell.2.1 10 = .ok (.getfield 15, 3) := by decide +kernel
theorem d_Program_tell_13 : decode y_Program_tell.2.1 13 = .ok (.aload_n 0, 1) := by decide +kernel
theorem d_Program_tell_14 : decode y_Program_tell.2.1 14 = .ok (.getfield 62, 3) := by decide +kernel
theorem d_Program_tell_17 : decode y_Program_tell.2.1 17 = .ok (.aaload, 1) := by decide +kernel
theorem d_Program_tell_18 : decode y_Program_tell.2.1 18 = .ok (.aload_n 1, 1) := by decide +kernel
theorem d_Program_tell_19 : decode y_Program_tell.2.1 19 = .ok (.iload_n 2, 1) := by decide +kernel
theorem d_Program_tell_20 : decode y_Program_tell.2.1 20 = .ok (.iload_n 3, 1) := by decide +kernel
theorem d_Program_tell_21 : decode y_Program_tell.2.1 21 = .ok (.iload 4, 2) := by decide +kernel
theorem d_Program_tell_23 : decode y_Program_tell.2.1 23 = .ok (.invokevirtual 91, 3) := by decide +kernel
theorem d_Program_tell_26 : decode y_Program_tell.2.1 26 = .ok (.aload_n 0, 1) := by decide +kernel
theorem d_Program_tell_27 : decode y_Program_tell.2.1 27 = .ok (.dup, 1) := by decide +kernel
theorem d_Program_tell_28 : decode y_Program_tell.2.1 28 = .ok (.getfield 62, 3) := by decide +kernel
theorem d_Program_tell_31 : decode y_Program_tell.2.1 31 = .ok (.iconst 1, 1) := by decide +kernel
theorem d_Program_tell_32 : decode y_Program_tell.2.1 32 = .ok (.iadd, 1) := by decide +kernel
theorem d_Program_tell_33 : decode y_Program_tell.2.1 33 = .ok (.putfield 62, 3) := by decide +kernel
theorem d_Program_tell_36 : decode y_Program_tell.2.1 36 = .ok (.return_, 1) := by decide +kernel
theorem s_Program_tell : ab_Stat y_Program_tell 4 := ⟨(k5 14 rfl rfl), (k1 15 rfl rfl), ⟨by decide, by decide⟩, by decide +kernel⟩
theorem i_Program_tell : Cond.instanceMethod y_Program_tell.1 ∈ ab_T := (k5 12 rfl rfl)
theorem v_Program_tell : Cond.selects "WorldEngine$Program" y_Program_tell.1 y_Program_tell.1 ∈ ab_T := (k5 13 rfl rfl)
def F_Program_tell (N : Nat) (p0 : Nat) (p1 : Nat) (p2 : Int32) (p3 : Int32) (p4 : Int32) (H : Hp) : Option (Unit × Hp) :=
    ck (H.sh[p0]? = some (4, 0)) <|
    bnd ((H.D p0 1)) fun x2 =>
    if (68 : Int32) ≤ x2 then
    some ((), H)
    else
    rf (H.P p0 0) fun a4 =>
    bnd ((H.D p0 1)) fun x6 =>
    ar H 106 a4 fun n7 =>
    ck (inb x6 n7) <|
    rf (H.P a4 (x6).toNatClampNeg) fun a10 =>
    ck (H.sh[a10]? = some (2, 0)) <|
    bC (F_Named_tell N a10 p1 p2 p3 p4 H) fun v14 H15 =>
    bnd ((H15.D p0 1)) fun x16 =>
    bnd (H15.sD p0 1 (x16 + (1 : Int32))) fun H17 =>
    some ((), H17)
set_option maxRecDepth 20000 in
set_option maxHeartbeats 2000000 in
theorem m_Program_tell {N : Nat} {p0 : Nat} {p1 : Nat} {p2 : Int32} {p3 : Int32} {p4 : Int32} {H : Hp} {r : Unit × Hp} (hF : F_Program_tell N p0 p1 p2 p3 p4 H = some r) : Sa H r.2 := by
  unfold F_Program_tell at hF
  have hm := Sa.rf H
  obtain ⟨q18, hG⟩ := ck_s hF; clear hF
  obtain ⟨x19, -, hF⟩ := bnd_g hG; clear hG
  rcases ite_s hF with ⟨q_3, hG⟩ | ⟨q_3, hG⟩
  · clear hF
    have hr := Option.some.inj hG; subst hr
    exact hm
  · clear hF
    obtain ⟨a21, e22, hF⟩ := rf_s hG; clear hG
    obtain ⟨x23, -, hG⟩ := bnd_g hF; clear hF
    obtain ⟨n24, q25, hF⟩ := ar_s hG; clear hG
    obtain ⟨q26, hG⟩ := ck_s hF; clear hF
    obtain ⟨a27, e28, hF⟩ := rf_s hG; clear hG
    obtain ⟨q29, hG⟩ := ck_s hF; clear hF
    obtain ⟨v31, H32, z30, hF⟩ := bC_s hG; clear hG
    replace hm : Sa H H32 := hm.tr (m_Named_tell z30)
    obtain ⟨x33, -, hG⟩ := bnd_g hF; clear hF
    obtain ⟨H34, eH34, hF⟩ := bnd_g hG; clear hG
    replace hm : Sa H H34 := by rw [eH34]; exact hm
    have hr := Option.some.inj hF; subst hr
    exact hm
set_option maxRecDepth 20000 in
set_option maxHeartbeats 2000000 in
theorem k_Program_tell {N : Nat} {p0 : Nat} {p1 : Nat} {p2 : Int32} {p3 : Int32} {p4 : Int32} {H : Hp} {r : Unit × Hp} (hF : F_Program_tell N p0 p1 p2 p3 p4 H = some r) : ab_M y_Program_tell { frames := 1, cells := 0, slots := 0, locals := 24 } [.ref p0, .ref p1, .int p2, .int p3, .int p4] (hpw H) (po (.returned none) r.2) := by
  unfold F_Program_tell at hF
  refine ab_of2 (lv := [some (.ref p0), some (.ref p1), some (.int p2), some (.int p3), some (.int p4)]) 0 rfl rfl (Nat.le_of_ble_eq_true rfl) ?_
  refine ab_aload_n d_Program_tell_0 rfl rfl rfl ?_
  obtain ⟨q1, hG⟩ := ck_s hF; clear hF
  refine hp_getI (f := 1) d_Program_tell_1 q1 (by decide) rfl (by decide) (k3 54 rfl rfl) rfl ?_
  refine ab_topi (fun x2 ex2 => ?_)
  replace hG := bnd_s ex2 hG
  refine ab_bipush (v := 68) d_Program_tell_4 (by decide) ?_
  refine ab_icmp_ge (tgt := 36) d_Program_tell_6 (by decide) (fun q3 => ?_) (fun q3 => ?_)
  · rw [if_pos q3] at hG
    exact ab_vret d_Program_tell_36 rfl (Nat.le_refl _) (Nat.le_refl _) (by have hr := Option.some.inj hG; subst hr; exact ⟨rfl, rfl⟩)
  · rw [if_neg q3] at hG
    refine ab_aload_n d_Program_tell_9 rfl rfl rfl ?_
    obtain ⟨a4, e5, hF⟩ := rf_s hG; clear hG
    refine hp_getR (f := 0) d_Program_tell_10 q1 (by decide) rfl (by decide) (k3 53 rfl rfl) rfl e5 ?_
    refine ab_aload_n d_Program_tell_13 rfl rfl rfl ?_
    refine hp_getI (f := 1) d_Program_tell_14 q1 (by decide) rfl (by decide) (k3 54 rfl rfl) rfl ?_
    refine ab_topi (fun x6 ex6 => ?_)
    replace hF := bnd_s ex6 hF
    obtain ⟨n7, q8, hG⟩ := ar_s hF; clear hF
    obtain ⟨q9, hF⟩ := ck_s hG; clear hG
    obtain ⟨a10, e11, hG⟩ := rf_s hF; clear hF
    refine hp_aald (q := 106) d_Program_tell_17 (by decide) tN q8 q9 e11 ?_
    refine ab_aload_n d_Program_tell_18 rfl rfl rfl ?_
    refine ab_iload_n d_Program_tell_19 rfl rfl ?_
    refine ab_iload_n d_Program_tell_20 rfl rfl ?_
    refine ab_iload d_Program_tell_21 rfl ?_
    obtain ⟨q12, hF⟩ := ck_s hG; clear hG
    obtain ⟨v14, H15, z13, hG⟩ := bC_s hF; clear hF
    refine hp_callV_v (H1 := H15) (As := [.ref p1, .int p2, .int p3, .int p4]) (rest := []) d_Program_tell_23 (k_Named_tell z13) (ab_mkC s_Named_tell (Nat.le_of_ble_eq_true rfl) (Nat.le_of_ble_eq_true rfl) (Nat.le_refl 0) (Nat.le_refl 0)) (k5 15 rfl rfl) i_Named_tell v_Named_tell q12 (by decide) rfl rfl (Nat.le_of_ble_eq_true rfl) ?_
    have s_1 : Sa H H15 := (m_Named_tell z13)
    refine ab_aload_n d_Program_tell_26 rfl rfl rfl ?_
    refine ab_dup d_Program_tell_27 rfl ?_
    refine hp_getI (f := 1) d_Program_tell_28 (by rw [(s_1).1]; exact q1) (by decide) rfl (by decide) (k3 54 rfl rfl) rfl ?_
    refine ab_topi (fun x16 ex16 => ?_)
    replace hG := bnd_s ex16 hG
    refine ab_iconst (v := 1) d_Program_tell_31 (by decide) ?_
    refine ab_iadd d_Program_tell_32 ?_
    refine hp_putI (v := x16 + (1 : Int32)) (f := 1) d_Program_tell_33 (by rw [(s_1).1]; exact q1) (by decide) rfl (by decide) (k3 54 rfl rfl) rfl rfl (fun _ => rfl) (fun _ => rfl) rfl ?_
    refine hp_gen (fun H17 eH17 => ?_)
    replace hG := bnd_s eH17 hG
    have s_2 : Sa H H17 := by rw [eH17]; exact s_1
    exact ab_vret d_Program_tell_36 rfl (Nat.le_refl _) (Nat.le_refl _) (by have hr := Option.some.inj hG; subst hr; exact ⟨rfl, rfl⟩)
def y_Reader_declare : ab_Y := (⟨"WorldEngine$Reader", "declare", "(II)Ljava/lang/String;"⟩, prog_7_method_4_code, 5, (some (FieldType.object "java/lang/String")), [])
theorem d_Reader_declare_0 : decode y_Reader_declare.2.1 0 = .ok (.aload_n 0, 1) := by decide +kernel
theorem d_Reader_declare_1 : decode y_Reader_declare.2.1 1 = .ok (.getfield 7, 3) := by decide +kernel
theorem d_Reader_declare_4 : decode y_Reader_declare.2.1 4 = .ok (.getfield 65, 3) := by decide +kernel
theorem d_Reader_declare_7 : decode y_Reader_declare.2.1 7 = .ok (.istore_n 3, 1) := by decide +kernel
theorem d_Reader_declare_8 : decode y_Reader_declare.2.1 8 = .ok (.aload_n 0, 1) := by decide +kernel
theorem d_Reader_declare_9 : decode y_Reader_declare.2.1 9 = .ok (.getfield 7, 3) := by decide +kernel
theorem d_Reader_declare_12 : decode y_Reader_declare.2.1 12 = .ok (.invokevirtual 80, 3) := by decide +kernel
theorem d_Reader_declare_15 : decode y_Reader_declare.2.1 15 = .ok (.astore 4, 2) := by decide +kernel
theorem d_Reader_declare_17 : decode y_Reader_declare.2.1 17 = .ok (.aload_n 0, 1) := by decide +kernel
theorem d_Reader_declare_18 : decode y_Reader_declare.2.1 18 = .ok (.getfield 22, 3) := by decide +kernel
theorem d_Reader_declare_21 : decode y_Reader_declare.2.1 21 = .ok (.aload 4, 2) := by decide +kernel
theorem d_Reader_declare_23 : decode y_Reader_declare.2.1 23 = .ok (.invokevirtual 84, 3) := by decide +kernel
theorem d_Reader_declare_26 : decode y_Reader_declare.2.1 26 = .ok (.ifnull 12, 3) := by decide +kernel
theorem d_Reader_declare_29 : decode y_Reader_declare.2.1 29 = .ok (.aload_n 0, 1) := by decide +kernel
theorem d_Reader_declare_30 : decode y_Reader_declare.2.1 30 = .ok (.getfield 7, 3) := by decide +kernel
theorem d_Reader_declare_33 : decode y_Reader_declare.2.1 33 = .ok (.iconst 3, 1) := by decide +kernel
theorem d_Reader_declare_34 : decode y_Reader_declare.2.1 34 = .ok (.iload_n 3, 1) := by decide +kernel
theorem d_Reader_declare_35 : decode y_Reader_declare.2.1 35 = .ok (.invokevirtual 68, 3) := by decide +kernel
theorem d_Reader_declare_38 : decode y_Reader_declare.2.1 38 = .ok (.aload_n 0, 1) := by decide +kernel
theorem d_Reader_declare_39 : decode y_Reader_declare.2.1 39 = .ok (.getfield 22, 3) := by decide +kernel
theorem d_Reader_declare_42 : decode y_Reader_declare.2.1 42 = .ok (.aload 4, 2) := by decide +kernel
theorem d_Reader_declare_44 : decode y_Reader_declare.2.1 44 = .ok (.iload_n 1, 1) := by decide +kernel
theorem d_Reader_declare_45 : decode y_Reader_declare.2.1 45 = .ok (.iload_n 2, 1) := by decide +kernel
theorem d_Reader_declare_46 : decode y_Reader_declare.2.1 46 = .ok (.iconst 0, 1) := by decide +kernel
theorem d_Reader_declare_47 : decode y_Reader_declare.2.1 47 = .ok (.invokevirtual 90, 3) := by decide +kernel
theorem d_Reader_declare_50 : decode y_Reader_declare.2.1 50 = .ok (.aload 4, 2) := by decide +kernel
theorem d_Reader_declare_52 : decode y_Reader_declare.2.1 52 = .ok (.areturn, 1) := by decide +kernel
theorem s_Reader_declare : ab_Stat y_Reader_declare 2 := ⟨(k4 174 rfl rfl), (k1 7 rfl rfl), ⟨by decide, by decide⟩, by decide +kernel⟩
theorem i_Reader_declare : Cond.instanceMethod y_Reader_declare.1 ∈ ab_T := (k4 173 rfl rfl)
theorem v_Reader_declare : Cond.selects "WorldEngine$Reader" y_Reader_declare.1 y_Reader_declare.1 ∈ ab_T := ab_s (List.mem_of_getElem? (i := 11) rfl) rfl
def B_Reader_declare_38 (N : Nat) (p0 : Nat) (p1 : Int32) (p2 : Int32) (l4 : Nat) (H : Hp) : Option ((Ot (Option Nat)) × Hp) :=
    ck (H.sh[p0]? = some (5, 0)) <|
    rf (H.P p0 2) fun a22 =>
    ck (H.sh[a22]? = some (4, 0)) <|
    bC (F_Program_tell N a22 l4 p1 p2 (0 : Int32) H) fun v26 H27 =>
    some (.inl (some l4), H27)
set_option maxRecDepth 20000 in
set_option maxHeartbeats 2000000 in
theorem mB_Reader_declare_38 {N : Nat} {p0 : Nat} {p1 : Int32} {p2 : Int32} {l4 : Nat} {H : Hp} {r : (Ot (Option Nat)) × Hp} (hF : B_Reader_declare_38 N p0 p1 p2 l4 H = some r) : Mo H r.2 := by
  unfold B_Reader_declare_38 at hF
  have hm := Mo.rf H
  obtain ⟨q28, hG⟩ := ck_s hF; clear hF
  obtain ⟨a29, e30, hF⟩ := rf_s hG; clear hG
  obtain ⟨q31, hG⟩ := ck_s hF; clear hF
  obtain ⟨v33, H34, z32, hF⟩ := bC_s hG; clear hG
  replace hm : Mo H H34 := hm.tr ((m_Program_tell z32)).mo
  have hr := Option.some.inj hF; subst hr
  exact hm
set_option maxRecDepth 20000 in
set_option maxHeartbeats 2000000 in
theorem kB_Reader_declare_38 {N : Nat} {p0 : Nat} {p1 : Int32} {p2 : Int32} {c0 s0 C Sl : Nat} {l4 : Nat} {H : Hp} {r : (Ot (Option Nat)) × Hp} (hF : B_Reader_declare_38 N p0 p1 p2 l4 H = some r) (hc0 : c0 ≤ H.sh.length) (hs0 : s0 ≤ H.sl) (hcc : H.sh.length ≤ c0 + C) (hss : H.sl ≤ s0 + Sl) (hC : r.2.sh.length ≤ c0 + C) (hS : r.2.sl ≤ s0 + Sl) : ab_V y_Reader_declare { frames := 7, cells := C, slots := Sl, locals := 128 } (po (oA r.1) r.2) C Sl (H.sh.length - c0) (H.sl - s0) 38 [some (.ref p0), some (.int p1), some (.int p2), none, some (.ref l4)] [] (hpw H) := by
  unfold B_Reader_declare_38 at hF
  refine ab_aload_n d_Reader_declare_38 rfl rfl rfl ?_
  obtain ⟨q21, hG⟩ := ck_s hF; clear hF
  obtain ⟨a22, e23, hF⟩ := rf_s hG; clear hG
  refine hp_getR (f := 2) d_Reader_declare_39 q21 (by decide) rfl (by decide) (k1 181 rfl rfl) rfl e23 ?_
  refine ab_aload d_Reader_declare_42 rfl rfl ?_
  refine ab_iload_n d_Reader_declare_44 rfl rfl ?_
  refine ab_iload_n d_Reader_declare_45 rfl rfl ?_
  refine ab_iconst (v := 0) d_Reader_declare_46 (by decide) ?_
  obtain ⟨q24, hG⟩ := ck_s hF; clear hF
  obtain ⟨v26, H27, z25, hF⟩ := bC_s hG; clear hG
  refine hp_callV_v (H1 := H27) (As := [.ref l4, .int p1, .int p2, .int 0]) (rest := []) d_Reader_declare_47 (k_Program_tell z25) (ab_mkC s_Program_tell (Nat.le_of_ble_eq_true rfl) (Nat.le_of_ble_eq_true rfl) (show (H.sh.length - c0) + 0 ≤ C from by omega) (show (H.sl - s0) + 0 ≤ Sl from by omega)) (k5 11 rfl rfl) i_Program_tell v_Program_tell q24 (by decide) rfl rfl (Nat.le_of_ble_eq_true rfl) ?_
  have s_8 : Sa H H27 := (m_Program_tell z25)
  refine ab_widen (cells' := H.sh.length - c0) (slots' := H.sl - s0) (by show (H.sh.length - c0) + 0 ≤ _; omega) (by show (H.sl - s0) + 0 ≤ _; omega) ?_
  refine ab_aload d_Reader_declare_50 rfl rfl ?_
  exact ab_aret d_Reader_declare_52 rfl (Or.inl ⟨_, rfl⟩) rfl (by show _ ≤ C; omega) (by show _ ≤ Sl; omega) (by have hr := Option.some.inj hF; subst hr; exact ⟨rfl, rfl⟩)
def F_Reader_declare (N : Nat) (p0 : Nat) (p1 : Int32) (p2 : Int32) (H : Hp) : Option ((Ot (Option Nat)) × Hp) :=
    ck (H.sh[p0]? = some (5, 0)) <|
    rf (H.P p0 0) fun a2 =>
    ck (H.sh[a2]? = some (1, 0)) <|
    bnd ((H.D a2 3)) fun x5 =>
    rf (H.P p0 0) fun a6 =>
    ck (H.sh[a6]? = some (1, 0)) <|
    bT (F_Lexer_takeName N a6 H) fun v10 H11 =>
    on v10 fun a13 =>
    rf (H11.P p0 2) fun a14 =>
    ck (H11.sh[a14]? = some (4, 0)) <|
    bC (F_Program_find N a14 a13 H11) fun v18 H19 =>
    nl v18 (B_Reader_declare_38 N p0 p1 p2 a13 H19) fun a20 =>
    rf (H19.P p0 0) fun a21 =>
    ck (H19.sh[a21]? = some (1, 0)) <|
    bT (F_Lexer_refuse N a21 (3 : Int32) x5 H19) fun v25 H26 =>
    B_Reader_declare_38 N p0 p1 p2 a13 H26
set_option maxRecDepth 20000 in
set_option maxHeartbeats 2000000 in
theorem m_Reader_declare {N : Nat} {p0 : Nat} {p1 : Int32} {p2 : Int32} {H : Hp} {r : (Ot (Option Nat)) × Hp} (hF : F_Reader_declare N p0 p1 p2 H = some r) : Mo H r.2 := by
  unfold F_Reader_declare at hF
  have hm := Mo.rf H
  obtain ⟨q28, hG⟩ := ck_s hF; clear hF
  obtain ⟨a29, e30, hF⟩ := rf_s hG; clear hG
  obtain ⟨q31, hG⟩ := ck_s hF; clear hF
  obtain ⟨x32, -, hF⟩ := bnd_g hG; clear hG
  obtain ⟨a33, e34, hG⟩ := rf_s hF; clear hF
  obtain ⟨q35, hF⟩ := ck_s hG; clear hG
  refine bT_c hF (fun x39 H38 z36 er => ?_) (fun v37 H38 z36 hG => ?_)
  · subst er; exact hm.tr (m_Lexer_takeName z36)
  clear hF
  replace hm : Mo H H38 := hm.tr (m_Lexer_takeName z36)
  obtain ⟨a40, ea40, hF⟩ := on_s hG; clear hG
  subst ea40
  obtain ⟨a41, e42, hG⟩ := rf_s hF; clear hF
  obtain ⟨q43, hF⟩ := ck_s hG; clear hG
  obtain ⟨v45, H46, z44, hG⟩ := bC_s hF; clear hF
  replace hm : Mo H H46 := hm.tr ((m_Program_find z44)).mo
  refine nl_c hG (fun ea47 hF => ?_) (fun a47 ea47 hF => ?_)
  · clear hG; subst ea47
    exact hm.tr (mB_Reader_declare_38 hF)
  clear hG; subst ea47
  obtain ⟨a48, e49, hG⟩ := rf_s hF; clear hF
  obtain ⟨q50, hF⟩ := ck_s hG; clear hG
  refine bT_c hF (fun x54 H53 z51 er => ?_) (fun v52 H53 z51 hG => ?_)
  · subst er; exact hm.tr (m_Lexer_refuse z51)
  clear hF
  replace hm : Mo H H53 := hm.tr (m_Lexer_refuse z51)
  exact hm.tr (mB_Reader_declare_38 hG)
set_option maxRecDepth 20000 in
set_option maxHeartbeats 2000000 in
theorem k_Reader_declare {N : Nat} {p0 : Nat} {p1 : Int32} {p2 : Int32} {H : Hp} {r : (Ot (Option Nat)) × Hp} {C Sl : Nat} (hF : F_Reader_declare N p0 p1 p2 H = some r) (hC : r.2.sh.length ≤ H.sh.length + C) (hS : r.2.sl ≤ H.sl + Sl) : ab_M y_Reader_declare { frames := 7, cells := C, slots := Sl, locals := 128 } [.ref p0, .int p1, .int p2] (hpw H) (po (oA r.1) r.2) := by
  unfold F_Reader_declare at hF
  obtain ⟨c0, e0⟩ : ∃ q, q = H.sh.length := ⟨_, rfl⟩
  obtain ⟨s0, e1⟩ : ∃ q, q = H.sl := ⟨_, rfl⟩
  rw [← e0] at hC
  rw [← e1] at hS
  have hc0 : c0 ≤ H.sh.length := Nat.le_of_eq e0
  have hs0 : s0 ≤ H.sl := Nat.le_of_eq e1
  have hcc : H.sh.length ≤ c0 + C := by omega
  have hss : H.sl ≤ s0 + Sl := by omega
  refine ab_of2 (lv := [some (.ref p0), some (.int p1), some (.int p2), none, none]) 2 rfl rfl (Nat.le_of_ble_eq_true rfl) ?_
  refine ab_widen (cells' := H.sh.length - c0) (slots' := H.sl - s0) (Nat.zero_le _) (Nat.zero_le _) ?_
  refine ab_aload_n d_Reader_declare_0 rfl rfl rfl ?_
  obtain ⟨q1, hG⟩ := ck_s hF; clear hF
  obtain ⟨a2, e3, hF⟩ := rf_s hG; clear hG
  refine hp_getR (f := 0) d_Reader_declare_1 q1 (by decide) rfl (by decide) (k1 179 rfl rfl) rfl e3 ?_
  obtain ⟨q4, hG⟩ := ck_s hF; clear hF
  refine hp_getI (f := 3) d_Reader_declare_4 q4 (by decide) rfl (by decide) (k1 101 rfl rfl) rfl ?_
  refine ab_topi (fun x5 ex5 => ?_)
  replace hG := bnd_s ex5 hG
  refine ab_istore_n (lv' := [some (.ref p0), some (.int p1), some (.int p2), some (.int x5), none]) d_Reader_declare_7 rfl (by decide) rfl ?_
  refine ab_aload_n d_Reader_declare_8 rfl rfl rfl ?_
  obtain ⟨a6, e7, hF⟩ := rf_s hG; clear hG
  refine hp_getR (f := 0) d_Reader_declare_9 q1 (by decide) rfl (by decide) (k1 179 rfl rfl) rfl e7 ?_
  obtain ⟨q8, hG⟩ := ck_s hF; clear hF
  refine bT_c hG (fun x12 H11 z9 er => ?_) (fun v10 H11 z9 hF => ?_)
  · subst er
    have mz : Mo H H11 := (m_Lexer_takeName z9)
    have ml := mz.len
    have m2 := mz.2
    have hC9 : H11.sh.length ≤ c0 + C := hC
    have hS9 : H11.sl ≤ s0 + Sl := hS
    refine hp_callV_t (x := x12) (H1 := H11) (As := []) (rest := []) d_Reader_declare_12 (k_Lexer_takeName z9 (C := H11.sh.length - H.sh.length) (Sl := H11.sl - H.sl) (by show H11.sh.length ≤ _; omega) (by show H11.sl ≤ _; omega)) (ab_mkC s_Lexer_takeName (Nat.le_of_ble_eq_true rfl) (Nat.le_of_ble_eq_true rfl) (show (H.sh.length - c0) + (H11.sh.length - H.sh.length) ≤ C from by omega) (show (H.sl - s0) + (H11.sl - H.sl) ≤ Sl from by omega)) (k4 175 rfl rfl) i_Lexer_takeName v_Lexer_takeName q8 (by decide) rfl rfl (Nat.le_of_ble_eq_true rfl) ?_
    exact ab_U_out rfl (by show _ + (H11.sh.length - H.sh.length) ≤ C; omega) (by show _ + (H11.sl - H.sl) ≤ Sl; omega) ⟨rfl, rfl⟩
  clear hG
  have mz_1 : Mo H H11 := (m_Lexer_takeName z9)
  have b_2l := (mz_1).len
  have b_2s := (mz_1).2
  have b_2c : c0 ≤ H11.sh.length := by omega
  have b_2d : s0 ≤ H11.sl := by omega
  have q_3 := (mz_1).get q1
  have q_4 := (mz_1).get q4
  have q_5 := (mz_1).get q8
  have mf_6 : Mo H11 r.2 := by
    have hm := Mo.rf H11
    obtain ⟨a13, ea13, hG⟩ := on_s hF; clear hF
    subst ea13
    obtain ⟨a14, e15, hF⟩ := rf_s hG; clear hG
    obtain ⟨q16, hG⟩ := ck_s hF; clear hF
    obtain ⟨v18, H19, z17, hF⟩ := bC_s hG; clear hG
    replace hm : Mo H11 H19 := hm.tr ((m_Program_find z17)).mo
    refine nl_c hF (fun ea20 hG => ?_) (fun a20 ea20 hG => ?_)
    · clear hF; subst ea20
      exact hm.tr (mB_Reader_declare_38 hG)
    clear hF; subst ea20
    obtain ⟨a35, e36, hF⟩ := rf_s hG; clear hG
    obtain ⟨q37, hG⟩ := ck_s hF; clear hF
    refine bT_c hG (fun x41 H40 z38 er => ?_) (fun v39 H40 z38 hF => ?_)
    · subst er; exact hm.tr (m_Lexer_refuse z38)
    clear hG
    replace hm : Mo H11 H40 := hm.tr (m_Lexer_refuse z38)
    exact hm.tr (mB_Reader_declare_38 hF)
  have b_2m := (mf_6).len
  have b_2n := (mf_6).2
  have b_2p : H11.sh.length ≤ c0 + C := by omega
  have b_2q : H11.sl ≤ s0 + Sl := by omega
  refine hp_callV_a (v := ab_rf v10) (H1 := H11) (As := []) (rest := []) d_Reader_declare_12 (k_Lexer_takeName z9 (C := H11.sh.length - H.sh.length) (Sl := H11.sl - H.sl) (by show H11.sh.length ≤ _; omega) (by show H11.sl ≤ _; omega)) (ab_mkC s_Lexer_takeName (Nat.le_of_ble_eq_true rfl) (Nat.le_of_ble_eq_true rfl) (show (H.sh.length - c0) + (H11.sh.length - H.sh.length) ≤ C from by omega) (show (H.sl - s0) + (H11.sl - H.sl) ≤ Sl from by omega)) (k4 175 rfl rfl) i_Lexer_takeName v_Lexer_takeName q8 (by decide) rfl rfl (Nat.le_of_ble_eq_true rfl) ?_
  refine ab_widen (cells' := H11.sh.length - c0) (slots' := H11.sl - s0) (by show _ + (H11.sh.length - H.sh.length) ≤ _; omega) (by show _ + (H11.sl - H.sl) ≤ _; omega) ?_
  clear b_2l b_2s b_2m b_2n
  obtain ⟨a13, ea13, hG⟩ := on_s hF; clear hF
  subst ea13
  refine ab_astore (lv' := [some (.ref p0), some (.int p1), some (.int p2), some (.int x5), some (.ref a13)]) d_Reader_declare_15 (by decide) rfl rfl ?_
  refine ab_aload_n d_Reader_declare_17 rfl rfl rfl ?_
  obtain ⟨a14, e15, hF⟩ := rf_s hG; clear hG
  refine hp_getR (f := 2) d_Reader_declare_18 q_3 (by decide) rfl (by decide) (k1 181 rfl rfl) rfl e15 ?_
  refine ab_aload d_Reader_declare_21 rfl rfl ?_
  obtain ⟨q16, hG⟩ := ck_s hF; clear hF
  obtain ⟨v18, H19, z17, hF⟩ := bC_s hG; clear hG
  refine hp_callV_a (v := ab_rf v18) (H1 := H19) (As := [.ref a13]) (rest := []) d_Reader_declare_23 (k_Program_find z17) (ab_mkC s_Program_find (Nat.le_of_ble_eq_true rfl) (Nat.le_of_ble_eq_true rfl) (show (H11.sh.length - c0) + 0 ≤ C from by omega) (show (H11.sl - s0) + 0 ≤ Sl from by omega)) (k4 239 rfl rfl) i_Program_find v_Program_find q16 (by decide) rfl rfl (Nat.le_of_ble_eq_true rfl) ?_
  have s_16 : Sa H11 H19 := (m_Program_find z17)
  refine ab_widen (cells' := H11.sh.length - c0) (slots' := H11.sl - s0) (by show (H11.sh.length - c0) + 0 ≤ _; omega) (by show (H11.sl - s0) + 0 ≤ _; omega) ?_
  refine nl_c hF (fun ea20 hG => ?_) (fun a20 ea20 hG => ?_)
  · clear hF; subst ea20
    refine ab_ifnullN (tgt := 38) d_Reader_declare_26 (by decide) ?_
    refine ab_le (lv' := [some (.ref p0), some (.int p1), some (.int p2), none, some (.ref a13)]) ⟨rfl, ⟨rfl, ⟨rfl, ⟨rfl, trivial⟩⟩⟩⟩ ?_
    refine ab_widen (cells' := H19.sh.length - c0) (slots' := H19.sl - s0) (by rw [(s_16).1]; exact Nat.le_refl _) (by rw [(s_16).2]; exact Nat.le_refl _) ?_
    exact kB_Reader_declare_38 hG (by rw [(s_16).1]; exact b_2c) (by rw [(s_16).2]; exact b_2d) (by rw [(s_16).1]; exact b_2p) (by rw [(s_16).2]; exact b_2q) hC hS
  clear hF; subst ea20
  refine ab_ifnull d_Reader_declare_26 ?_
  refine ab_aload_n d_Reader_declare_29 rfl rfl rfl ?_
  obtain ⟨a21, e22, hF⟩ := rf_s hG; clear hG
  refine hp_getR (f := 0) d_Reader_declare_30 (by rw [(s_16).1]; exact q_3) (by decide) rfl (by decide) (k1 179 rfl rfl) rfl e22 ?_
  refine ab_iconst (v := 3) d_Reader_declare_33 (by decide) ?_
  refine ab_iload_n d_Reader_declare_34 rfl rfl ?_
  obtain ⟨q23, hG⟩ := ck_s hF; clear hF
  rw [(s_16).1] at q23
  refine bT_c hG (fun x27 H26 z24 er => ?_) (fun v25 H26 z24 hF => ?_)
  · subst er
    refine ab_widen (cells' := H19.sh.length - c0) (slots' := H19.sl - s0) (by rw [(s_16).1]; exact Nat.le_refl _) (by rw [(s_16).2]; exact Nat.le_refl _) ?_
    have mz : Mo H19 H26 := (m_Lexer_refuse z24)
    have ml := mz.len
    have m2 := mz.2
    have be := congrArg List.length (s_16).1
    have bfx := (s_16).2
    have hC9 : H26.sh.length ≤ c0 + C := hC
    have hS9 : H26.sl ≤ s0 + Sl := hS
    refine hp_callV_t (x := x27) (H1 := H26) (As := [.int 3, .int x5]) (rest := []) d_Reader_declare_35 (k_Lexer_refuse z24 (C := H26.sh.length - H19.sh.length) (Sl := H26.sl - H19.sl) (by show H26.sh.length ≤ _; omega) (by show H26.sl ≤ _; omega)) (ab_mkC s_Lexer_refuse (Nat.le_of_ble_eq_true rfl) (Nat.le_of_ble_eq_true rfl) (show (H19.sh.length - c0) + (H26.sh.length - H19.sh.length) ≤ C from by omega) (show (H19.sl - s0) + (H26.sl - H19.sl) ≤ Sl from by omega)) (k4 97 rfl rfl) i_Lexer_refuse v_Lexer_refuse (by rw [(s_16).1]; exact q23) (by decide) rfl rfl (Nat.le_of_ble_eq_true rfl) ?_
    exact ab_U_out rfl (by show _ + (H26.sh.length - H19.sh.length) ≤ C; omega) (by show _ + (H26.sl - H19.sl) ≤ Sl; omega) ⟨rfl, rfl⟩
  clear hG
  refine ab_widen (cells' := H19.sh.length - c0) (slots' := H19.sl - s0) (by rw [(s_16).1]; exact Nat.le_refl _) (by rw [(s_16).2]; exact Nat.le_refl _) ?_
  have mz_17 : Mo H19 H26 := (m_Lexer_refuse z24)
  have b_18l := (mz_17).len
  have b_18s := (mz_17).2
  have b_18e := congrArg List.length (s_16).1
  have b_18f := (s_16).2
  have b_18c : c0 ≤ H26.sh.length := by omega
  have b_18d : s0 ≤ H26.sl := by omega
  have q_19 := (mz_17).get (by rw [(s_16).1]; exact q_3)
  have q_20 := (mz_17).get (by rw [(s_16).1]; exact q_4)
  have q_21 := (mz_17).get (by rw [(s_16).1]; exact q_5)
  have q_22 := (mz_17).get (by rw [(s_16).1]; exact q16)
  have q_23 := (mz_17).get (by rw [(s_16).1]; exact q23)
  have fH26 : Mo H26 r.2 := by
    have hm := Mo.rf H26
    exact hm.tr (mB_Reader_declare_38 hF)
  have b_18m := (fH26).len
  have b_18n := (fH26).2
  have b_18p : H26.sh.length ≤ c0 + C := by omega
  have b_18q : H26.sl ≤ s0 + Sl := by omega
  refine hp_callV_v (H1 := H26) (As := [.int 3, .int x5]) (rest := []) d_Reader_declare_35 (k_Lexer_refuse z24 (C := H26.sh.length - H19.sh.length) (Sl := H26.sl - H19.sl) (by show H26.sh.length ≤ _; omega) (by show H26.sl ≤ _; omega)) (ab_mkC s_Lexer_refuse (Nat.le_of_ble_eq_true rfl) (Nat.le_of_ble_eq_true rfl) (show (H19.sh.length - c0) + (H26.sh.length - H19.sh.length) ≤ C from by omega) (show (H19.sl - s0) + (H26.sl - H19.sl) ≤ Sl from by omega)) (k4 97 rfl rfl) i_Lexer_refuse v_Lexer_refuse (by rw [(s_16).1]; exact q23) (by decide) rfl rfl (Nat.le_of_ble_eq_true rfl) ?_
  refine ab_widen (cells' := H26.sh.length - c0) (slots' := H26.sl - s0) (by show _ + (H26.sh.length - H19.sh.length) ≤ _; omega) (by show _ + (H26.sl - H19.sl) ≤ _; omega) ?_
  clear b_18l b_18s b_18m b_18n b_18e b_18f b_2c b_2d b_2p b_2q
  refine ab_le (lv' := [some (.ref p0), some (.int p1), some (.int p2), none, some (.ref a13)]) ⟨rfl, ⟨rfl, ⟨rfl, ⟨rfl, trivial⟩⟩⟩⟩ ?_
  exact kB_Reader_declare_38 hF b_18c b_18d b_18p b_18q hC hS
def y_Shapes_open : ab_Y := (⟨"WorldEngine$Shapes", "open", "(Ljava/lang/String;)V"⟩, prog_9_method_3_code, 2, none, [])
theorem d_Shapes_open_0 : decode y_Shapes_open.2.1 0 = .ok (.aload_n 0, 1) := by decide +kernel
theorem d_Shapes_open_1 : decode y_Shapes_open.2.1 1 = .ok (.getfield 32, 3) := by decide +kernel
theorem d_Shapes_open_4 : decode y_Shapes_open.2.1 4 = .ok (.aload_n 0, 1) := by decide +kernel
theorem d_Shapes_open_5 : decode y_Shapes_open.2.1 5 = .ok (.getfield 13, 3) := by decide +kernel
theorem d_Shapes_open_8 : decode y_Shapes_open.2.1 8 = .ok (.arraylength, 1) := by decide +kernel
theorem d_Shapes_open_9 : decode y_Shapes_open.2.1 9 = .ok (.if_icmp .ge 52, 3) := by decide +kernel
theorem d_Shapes_open_12 : decode y_Shapes_open.2.1 12 = .ok (.aload_n 0, 1) := by decide +kernel
theorem d_Shapes_open_13 : decode y_Shapes_open.2.1 13 = .ok (.getfield 13, 3) := by decide +kernel
theorem d_Shapes_open_16 : decode y_Shapes_open.2.1 16 = .ok (.aload_n 0, 1) := by decide +kernel
theorem d_Shapes_open_17 : decode y_Shapes_open.2.1 17 = .ok (.getfield 32, 3) := by decide +kernel
theorem d_Shapes_open_20 : decode y_Shapes_open.2.1 20 = .ok (.aaload, 1) := by decide +kernel
theorem d_Shapes_open_21 : decode y_Shapes_open.2.1 21 = .ok (.aload_n 1, 1) := by decide +kernel
theorem d_Shapes_open_22 : decode y_Shapes_open.2.1 22 = .ok (.iconst 0, 1) := by decide +kernel
theorem d_Shapes_open_23 : decode y_Shapes_open.2.1 23 = .ok (.aload_n 0, 1) := by decide +kernel
theorem d_Shapes_open_24 : decode y_Shapes_open.2.1 24 = .ok (.getfield 32, 3) := by decide +kernel
theorem d_Shapes_open_27 : decode y_Shapes_open.2.1 27 = .ok (.iconst 0, 1) := by decide +kernel
theorem d_Shapes_open_28 : decode y_Shapes_open.2.1 28 = .ok (.invokevirtual 36, 3) := by decide +kernel
theorem d_Shapes_open_31 : decode y_Shapes_open.2.1 31 = .ok (.aload_n 0, 1) := by decide +kernel
theorem d_Shapes_open_32 : decode y_Shapes_open.2.1 32 = .ok (.getfield 28, 3) := by decide +kernel
theorem d_Shapes_open_35 : decode y_Shapes_open.2.1 35 = .ok (.aload_n 0, 1) := by decide +kernel
theorem d_Shapes_open_36 : decode y_Shapes_open.2.1 36 = .ok (.getfield 32, 3) := by decide +kernel
theorem d_Shapes_open_39 : decode y_Shapes_open.2.1 39 = .ok (.iconst 1, 1) := by decide +kernel
theorem d_Shapes_open_40 : decode y_Shapes_open.2.1 40 = .ok (.iadd, 1) := by decide +kernel
theorem d_Shapes_open_41 : decode y_Shapes_open.2.1 41 = .ok (.aload_n 0, 1) := by decide +kernel
theorem d_Shapes_open_42 : decode y_Shapes_open.2.1 42 = .ok (.getfield 28, 3) := by decide +kernel
theorem d_Shapes_open_45 : decode y_Shapes_open.2.1 45 = .ok (.aload_n 0, 1) := by decide +kernel
theorem d_Shapes_open_46 : decode y_Shapes_open.2.1 46 = .ok (.getfield 32, 3) := by decide +kernel
theorem d_Shapes_open_49 : decode y_Shapes_open.2.1 49 = .ok (.iaload, 1) := by decide +kernel
theorem d_Shapes_open_50 : decode y_Shapes_open.2.1 50 = .ok (.iastore, 1) := by decide +kernel
theorem d_Shapes_open_51 : decode y_Shapes_open.2.1 51 = .ok (.aload_n 0, 1) := by decide +kernel
theorem d_Shapes_open_52 : decode y_Shapes_open.2.1 52 = .ok (.dup, 1) := by decide +kernel
theorem d_Shapes_open_53 : decode y_Shapes_open.2.1 53 = .ok (.getfield 32, 3) := by decide +kernel
theorem d_Shapes_open_56 : decode y_Shapes_open.2.1 56 = .ok (.iconst 1, 1) := by decide +kernel
theorem d_Shapes_open_57 : decode y_Shapes_open.2.1 57 = .ok (.iadd, 1) := by decide +kernel
theorem d_Shapes_open_58 : decode y_Shapes_open.2.1 58 = .ok (.putfield 32, 3) := by decide +kernel
theorem d_Shapes_open_61 : decode y_Shapes_open.2.1 61 = .ok (.return_, 1) := by decide +kernel
theorem s_Shapes_open : ab_Stat y_Shapes_open 1 := ⟨(k5 22 rfl rfl), (k1 18 rfl rfl), ⟨by decide, by decide⟩, by decide +kernel⟩
theorem i_Shapes_open : Cond.instanceMethod y_Shapes_open.1 ∈ ab_T := (k5 20 rfl rfl)
theorem v_Shapes_open : Cond.selects "WorldEngine$Shapes" y_Shapes_open.1 y_Shapes_open.1 ∈ ab_T := (k5 21 rfl rfl)
def F_Shapes_open (N : Nat) (p0 : Nat) (p1 : Nat) (H : Hp) : Option (Unit × Hp) :=
    ck (H.sh[p0]? = some (3, 0)) <|
    bnd ((H.D p0 3)) fun x2 =>
    rf (H.P p0 0) fun a3 =>
    ar H 106 a3 fun n5 =>
    if (Int32.ofNat n5) ≤ x2 then
    some ((), H)
    else
    rf (H.P p0 0) fun a8 =>
    bnd ((H.D p0 3)) fun x10 =>
    ar H 106 a8 fun n11 =>
    ck (inb x10 n11) <|
    rf (H.P a8 (x10).toNatClampNeg) fun a14 =>
    bnd ((H.D p0 3)) fun x16 =>
    ck (H.sh[a14]? = some (2, 0)) <|
    bC (F_Named_tell N a14 p1 (0 : Int32) x16 (0 : Int32) H) fun v19 H20 =>
    rf (H20.P p0 2) fun a21 =>
    bnd ((H20.D p0 3)) fun x23 =>
    rf (H20.P p0 2) fun a24 =>
    bnd ((H20.D p0 3)) fun x26 =>
    ar H20 100 a24 fun n27 =>
    ck (inb x26 n27) <|
    bnd ((H20.D a24 (x26).toNatClampNeg)) fun x30 =>
    ar H20 100 a21 fun n31 =>
    ck (inb (x23 + (1 : Int32)) n31) <|
    bnd (H20.sD a21 ((x23 + (1 : Int32))).toNatClampNeg x30) fun H34 =>
    bnd ((H34.D p0 3)) fun x35 =>
    bnd (H34.sD p0 3 (x35 + (1 : Int32))) fun H36 =>
    some ((), H36)
set_option maxRecDepth 20000 in
set_option maxHeartbeats 2000000 in
theorem m_Shapes_open {N : Nat} {p0 : Nat} {p1 : Nat} {H : Hp} {r : Unit × Hp} (hF : F_Shapes_open N p0 p1 H = some r) : Sa H r.2 := by
  unfold F_Shapes_open at hF
  have hm := Sa.rf H
  obtain ⟨q37, hG⟩ := ck_s hF; clear hF
  obtain ⟨x38, -, hF⟩ := bnd_g hG; clear hG
  obtain ⟨a39, e40, hG⟩ := rf_s hF; clear hF
  obtain ⟨n41, q42, hF⟩ := ar_s hG; clear hG
  rcases ite_s hF with ⟨q_4, hG⟩ | ⟨q_4, hG⟩
  · clear hF
    have hr := Option.some.inj hG; subst hr
    exact hm
  · clear hF
    obtain ⟨a44, e45, hF⟩ := rf_s hG; clear hG
    obtain ⟨x46, -, hG⟩ := bnd_g hF; clear hF
    obtain ⟨n47, q48, hF⟩ := ar_s hG; clear hG
    obtain ⟨q49, hG⟩ := ck_s hF; clear hF
    obtain ⟨a50, e51, hF⟩ := rf_s hG; clear hG
    obtain ⟨x52, -, hG⟩ := bnd_g hF; clear hF
    obtain ⟨q53, hF⟩ := ck_s hG; clear hG
    obtain ⟨v55, H56, z54, hG⟩ := bC_s hF; clear hF
    replace hm : Sa H H56 := hm.tr (m_Named_tell z54)
    obtain ⟨a57, e58, hF⟩ := rf_s hG; clear hG
    obtain ⟨x59, -, hG⟩ := bnd_g hF; clear hF
    obtain ⟨a60, e61, hF⟩ := rf_s hG; clear hG
    obtain ⟨x62, -, hG⟩ := bnd_g hF; clear hF
    obtain ⟨n63, q64, hF⟩ := ar_s hG; clear hG
    obtain ⟨q65, hG⟩ := ck_s hF; clear hF
    obtain ⟨x66, -, hF⟩ := bnd_g hG; clear hG
    obtain ⟨n67, q68, hG⟩ := ar_s hF; clear hF
    obtain ⟨q69, hF⟩ := ck_s hG; clear hG
    obtain ⟨H70, eH70, hG⟩ := bnd_g hF; clear hF
    replace hm : Sa H H70 := by rw [eH70]; exact hm
    obtain ⟨x71, -, hF⟩ := bnd_g hG; clear hG
    obtain ⟨H72, eH72, hG⟩ := bnd_g hF; clear hF
    replace hm : Sa H H72 := by rw [eH72]; exact hm
    have hr := Option.some.inj hG; subst hr
    exact hm
set_option maxRecDepth 20000 in
set_option maxHeartbeats 2000000 in
theorem k_Shapes_open {N : Nat} {p0 : Nat} {p1 : Nat} {H : Hp} {r : Unit × Hp} (hF : F_Shapes_open N p0 p1 H = some r) : ab_M y_Shapes_open { frames := 1, cells := 0, slots := 0, locals := 24 } [.ref p0, .ref p1] (hpw H) (po (.returned none) r.2) := by
  unfold F_Shapes_open at hF
  refine ab_of2 (lv := [some (.ref p0), some (.ref p1)]) 0 rfl rfl (Nat.le_of_ble_eq_true rfl) ?_
  refine ab_aload_n d_Shapes_open_0 rfl rfl rfl ?_
  obtain ⟨q1, hG⟩ := ck_s hF; clear hF
  refine hp_getI (f := 3) d_Shapes_open_1 q1 (by decide) rfl (by decide) (k3 39 rfl rfl) rfl ?_
  refine ab_topi (fun x2 ex2 => ?_)
  replace hG := bnd_s ex2 hG
  refine ab_aload_n d_Shapes_open_4 rfl rfl rfl ?_
  obtain ⟨a3, e4, hF⟩ := rf_s hG; clear hG
  refine hp_getR (f := 0) d_Shapes_open_5 q1 (by decide) rfl (by decide) (k3 23 rfl rfl) rfl e4 ?_
  obtain ⟨n5, q6, hG⟩ := ar_s hF; clear hF
  refine hp_alen (q := 106) d_Shapes_open_8 q6 (Or.inr ⟨by decide, rfl⟩) tN ?_
  refine ab_icmp_ge (tgt := 61) d_Shapes_open_9 (by decide) (fun q7 => ?_) (fun q7 => ?_)
  · rw [if_pos q7] at hG
    exact ab_vret d_Shapes_open_61 rfl (Nat.le_refl _) (Nat.le_refl _) (by have hr := Option.some.inj hG; subst hr; exact ⟨rfl, rfl⟩)
  · rw [if_neg q7] at hG
    refine ab_aload_n d_Shapes_open_12 rfl rfl rfl ?_
    obtain ⟨a8, e9, hF⟩ := rf_s hG; clear hG
    refine hp_getR (f := 0) d_Shapes_open_13 q1 (by decide) rfl (by decide) (k3 23 rfl rfl) rfl e9 ?_
    refine ab_aload_n d_Shapes_open_16 rfl rfl rfl ?_
    refine hp_getI (f := 3) d_Shapes_open_17 q1 (by decide) rfl (by decide) (k3 39 rfl rfl) rfl ?_
    refine ab_topi (fun x10 ex10 => ?_)
    replace hF := bnd_s ex10 hF
    obtain ⟨n11, q12, hG⟩ := ar_s hF; clear hF
    obtain ⟨q13, hF⟩ := ck_s hG; clear hG
    obtain ⟨a14, e15, hG⟩ := rf_s hF; clear hF
    refine hp_aald (q := 106) d_Shapes_open_20 (by decide) tN q12 q13 e15 ?_
    refine ab_aload_n d_Shapes_open_21 rfl rfl rfl ?_
    refine ab_iconst (v := 0) d_Shapes_open_22 (by decide) ?_
    refine ab_aload_n d_Shapes_open_23 rfl rfl rfl ?_
    refine hp_getI (f := 3) d_Shapes_open_24 q1 (by decide) rfl (by decide) (k3 39 rfl rfl) rfl ?_
    refine ab_topi (fun x16 ex16 => ?_)
    replace hG := bnd_s ex16 hG
    refine ab_iconst (v := 0) d_Shapes_open_27 (by decide) ?_
    obtain ⟨q17, hF⟩ := ck_s hG; clear hG
    obtain ⟨v19, H20, z18, hG⟩ := bC_s hF; clear hF
    refine hp_callV_v (H1 := H20) (As := [.ref p1, .int 0, .int x16, .int 0]) (rest := []) d_Shapes_open_28 (k_Named_tell z18) (ab_mkC s_Named_tell (Nat.le_of_ble_eq_true rfl) (Nat.le_of_ble_eq_true rfl) (Nat.le_refl 0) (Nat.le_refl 0)) (k5 23 rfl rfl) i_Named_tell v_Named_tell q17 (by decide) rfl rfl (Nat.le_of_ble_eq_true rfl) ?_
    have s_1 : Sa H H20 := (m_Named_tell z18)
    refine ab_aload_n d_Shapes_open_31 rfl rfl rfl ?_
    obtain ⟨a21, e22, hF⟩ := rf_s hG; clear hG
    refine hp_getR (f := 2) d_Shapes_open_32 (by rw [(s_1).1]; exact q1) (by decide) rfl (by decide) (k3 32 rfl rfl) rfl e22 ?_
    refine ab_aload_n d_Shapes_open_35 rfl rfl rfl ?_
    refine hp_getI (f := 3) d_Shapes_open_36 (by rw [(s_1).1]; exact q1) (by decide) rfl (by decide) (k3 39 rfl rfl) rfl ?_
    refine ab_topi (fun x23 ex23 => ?_)
    replace hF := bnd_s ex23 hF
    refine ab_iconst (v := 1) d_Shapes_open_39 (by decide) ?_
    refine ab_iadd d_Shapes_open_40 ?_
    refine ab_aload_n d_Shapes_open_41 rfl rfl rfl ?_
    obtain ⟨a24, e25, hG⟩ := rf_s hF; clear hF
    refine hp_getR (f := 2) d_Shapes_open_42 (by rw [(s_1).1]; exact q1) (by decide) rfl (by decide) (k3 32 rfl rfl) rfl e25 ?_
    refine ab_aload_n d_Shapes_open_45 rfl rfl rfl ?_
    refine hp_getI (f := 3) d_Shapes_open_46 (by rw [(s_1).1]; exact q1) (by decide) rfl (by decide) (k3 39 rfl rfl) rfl ?_
    refine ab_topi (fun x26 ex26 => ?_)
    replace hG := bnd_s ex26 hG
    obtain ⟨n27, q28, hF⟩ := ar_s hG; clear hG
    rw [(s_1).1] at q28
    obtain ⟨q29, hG⟩ := ck_s hF; clear hF
    refine hp_iald d_Shapes_open_49 tI (by rw [(s_1).1]; exact q28) q29 ?_
    refine ab_topi (fun x30 ex30 => ?_)
    replace hG := bnd_s ex30 hG
    obtain ⟨n31, q32, hF⟩ := ar_s hG; clear hG
    rw [(s_1).1] at q32
    obtain ⟨q33, hG⟩ := ck_s hF; clear hF
    refine hp_iast d_Shapes_open_50 tI (by rw [(s_1).1]; exact q32) q33 ?_
    refine hp_gen (fun H34 eH34 => ?_)
    replace hG := bnd_s eH34 hG
    have s_2 : Sa H H34 := by rw [eH34]; exact s_1
    refine ab_aload_n d_Shapes_open_51 rfl rfl rfl ?_
    refine ab_dup d_Shapes_open_52 rfl ?_
    refine hp_getI (f := 3) d_Shapes_open_53 (by rw [(s_2).1]; exact q1) (by decide) rfl (by decide) (k3 39 rfl rfl) rfl ?_
    refine ab_topi (fun x35 ex35 => ?_)
    replace hG := bnd_s ex35 hG
    refine ab_iconst (v := 1) d_Shapes_open_56 (by decide) ?_
    refine ab_iadd d_Shapes_open_57 ?_
    refine hp_putI (v := x35 + (1 : Int32)) (f := 3) d_Shapes_open_58 (by rw [(s_2).1]; exact q1) (by decide) rfl (by decide) (k3 39 rfl rfl) rfl rfl (fun _ => rfl) (fun _ => rfl) rfl ?_
    refine hp_gen (fun H36 eH36 => ?_)
    replace hG := bnd_s eH36 hG
    have s_3 : Sa H H36 := by rw [eH36]; exact s_2
    exact ab_vret d_Shapes_open_61 rfl (Nat.le_refl _) (Nat.le_refl _) (by have hr := Option.some.inj hG; subst hr; exact ⟨rfl, rfl⟩)
def y_Lexer_take : ab_Y := (⟨"WorldEngine$Lexer", "take", "(I)V"⟩, prog_3_method_17_code, 2, none, [])
theorem d_Lexer_take_0 : decode y_Lexer_take.2.1 0 = .ok (.aload_n 0, 1) := by decide +kernel
theorem d_Lexer_take_1 : decode y_Lexer_take.2.1 1 = .ok (.getfield 68, 3) := by decide +kernel
theorem d_Lexer_take_4 : decode y_Lexer_take.2.1 4 = .ok (.iload_n 1, 1) := by decide +kernel
theorem d_Lexer_take_5 : decode y_Lexer_take.2.1 5 = .ok (.if_icmp .eq 12, 3) := by decide +kernel
theorem d_Lexer_take_8 : decode y_Lexer_take.2.1 8 = .ok (.aload_n 0, 1) := by decide +kernel
theorem d_Lexer_take_9 : decode y_Lexer_take.2.1 9 = .ok (.iconst 1, 1) := by decide +kernel
theorem d_Lexer_take_10 : decode y_Lexer_take.2.1 10 = .ok (.aload_n 0, 1) := by decide +kernel
theorem d_Lexer_take_11 : decode y_Lexer_take.2.1 11 = .ok (.getfield 71, 3) := by decide +kernel
theorem d_Lexer_take_14 : decode y_Lexer_take.2.1 14 = .ok (.invokevirtual 134, 3) := by decide +kernel
theorem d_Lexer_take_17 : decode y_Lexer_take.2.1 17 = .ok (.aload_n 0, 1) := by decide +kernel
theorem d_Lexer_take_18 : decode y_Lexer_take.2.1 18 = .ok (.invokevirtual 138, 3) := by decide +kernel
theorem d_Lexer_take_21 : decode y_Lexer_take.2.1 21 = .ok (.return_, 1) := by decide +kernel
theorem s_Lexer_take : ab_Stat y_Lexer_take 1 := ⟨(k5 27 rfl rfl), (k1 2 rfl rfl), ⟨by decide, by decide⟩, by decide +kernel⟩
theorem i_Lexer_take : Cond.instanceMethod y_Lexer_take.1 ∈ ab_T := (k5 25 rfl rfl)
theorem v_Lexer_take : Cond.selects "WorldEngine$Lexer" y_Lexer_take.1 y_Lexer_take.1 ∈ ab_T := (k5 26 rfl rfl)
def B_Lexer_take_17 (N : Nat) (p0 : Nat) (p1 : Int32)  (H : Hp) : Option ((Ot Unit) × Hp) :=
    ck (H.sh[p0]? = some (1, 0)) <|
    bC (F_Lexer_advance N p0 H) fun v6 H7 =>
    some (.inl (), H7)
set_option maxRecDepth 20000 in
set_option maxHeartbeats 2000000 in
theorem mB_Lexer_take_17 {N : Nat} {p0 : Nat} {p1 : Int32}  {H : Hp} {r : (Ot Unit) × Hp} (hF : B_Lexer_take_17 N p0 p1  H = some r) : Mo H r.2 := by
  unfold B_Lexer_take_17 at hF
  have hm := Mo.rf H
  obtain ⟨q8, hG⟩ := ck_s hF; clear hF
  obtain ⟨v10, H11, z9, hF⟩ := bC_s hG; clear hG
  replace hm : Mo H H11 := hm.tr ((m_Lexer_advance z9)).mo
  have hr := Option.some.inj hF; subst hr
  exact hm
set_option maxRecDepth 20000 in
set_option maxHeartbeats 2000000 in
theorem kB_Lexer_take_17 {N : Nat} {p0 : Nat} {p1 : Int32} {c0 s0 C Sl : Nat}  {H : Hp} {r : (Ot Unit) × Hp} (hF : B_Lexer_take_17 N p0 p1  H = some r) (hc0 : c0 ≤ H.sh.length) (hs0 : s0 ≤ H.sl) (hcc : H.sh.length ≤ c0 + C) (hss : H.sl ≤ s0 + Sl) (hC : r.2.sh.length ≤ c0 + C) (hS : r.2.sl ≤ s0 + Sl) : ab_V y_Lexer_take { frames := 7, cells := C, slots := Sl, locals := 122 } (po (oV r.1) r.2) C Sl (H.sh.length - c0) (H.sl - s0) 17 [some (.ref p0), some (.int p1)] [] (hpw H) := by
  unfold B_Lexer_take_17 at hF
  refine ab_aload_n d_Lexer_take_17 rfl rfl rfl ?_
  obtain ⟨q4, hG⟩ := ck_s hF; clear hF
  obtain ⟨v6, H7, z5, hF⟩ := bC_s hG; clear hG
  refine hp_callV_v (H1 := H7) (As := []) (rest := []) d_Lexer_take_18 (k_Lexer_advance z5) (ab_mkC s_Lexer_advance (Nat.le_of_ble_eq_true rfl) (Nat.le_of_ble_eq_true rfl) (show (H.sh.length - c0) + 0 ≤ C from by omega) (show (H.sl - s0) + 0 ≤ Sl from by omega)) (k5 29 rfl rfl) i_Lexer_advance v_Lexer_advance q4 (by decide) rfl rfl (Nat.le_of_ble_eq_true rfl) ?_
  have s_2 : Sa H H7 := (m_Lexer_advance z5)
  refine ab_widen (cells' := H.sh.length - c0) (slots' := H.sl - s0) (by show (H.sh.length - c0) + 0 ≤ _; omega) (by show (H.sl - s0) + 0 ≤ _; omega) ?_
  exact ab_vret d_Lexer_take_21 rfl (by show _ ≤ C; omega) (by show _ ≤ Sl; omega) (by have hr := Option.some.inj hF; subst hr; exact ⟨rfl, rfl⟩)
def F_Lexer_take (N : Nat) (p0 : Nat) (p1 : Int32) (H : Hp) : Option ((Ot Unit) × Hp) :=
    ck (H.sh[p0]? = some (1, 0)) <|
    bnd ((H.D p0 2)) fun x2 =>
    if x2 = p1 then
    B_Lexer_take_17 N p0 p1  H
    else
    bnd ((H.D p0 3)) fun x12 =>
    bT (F_Lexer_refuse N p0 (1 : Int32) x12 H) fun v14 H15 =>
    B_Lexer_take_17 N p0 p1  H15
set_option maxRecDepth 20000 in
set_option maxHeartbeats 2000000 in
theorem m_Lexer_take {N : Nat} {p0 : Nat} {p1 : Int32} {H : Hp} {r : (Ot Unit) × Hp} (hF : F_Lexer_take N p0 p1 H = some r) : Mo H r.2 := by
  unfold F_Lexer_take at hF
  have hm := Mo.rf H
  obtain ⟨q17, hG⟩ := ck_s hF; clear hF
  obtain ⟨x18, -, hF⟩ := bnd_g hG; clear hG
  rcases ite_s hF with ⟨q_6, hG⟩ | ⟨q_6, hG⟩
  · clear hF
    exact hm.tr (mB_Lexer_take_17 hG)
  · clear hF
    obtain ⟨x20, -, hF⟩ := bnd_g hG; clear hG
    refine bT_c hF (fun x24 H23 z21 er => ?_) (fun v22 H23 z21 hG => ?_)
    · subst er; exact hm.tr (m_Lexer_refuse z21)
    clear hF
    replace hm : Mo H H23 := hm.tr (m_Lexer_refuse z21)
    exact hm.tr (mB_Lexer_take_17 hG)
set_option maxRecDepth 20000 in
set_option maxHeartbeats 2000000 in
theorem k_Lexer_take {N : Nat} {p0 : Nat} {p1 : Int32} {H : Hp} {r : (Ot Unit) × Hp} {C Sl : Nat} (hF : F_Lexer_take N p0 p1 H = some r) (hC : r.2.sh.length ≤ H.sh.length + C) (hS : r.2.sl ≤ H.sl + Sl) : ab_M y_Lexer_take { frames := 7, cells := C, slots := Sl, locals := 122 } [.ref p0, .int p1] (hpw H) (po (oV r.1) r.2) := by
  unfold F_Lexer_take at hF
  obtain ⟨c0, e0⟩ : ∃ q, q = H.sh.length := ⟨_, rfl⟩
  obtain ⟨s0, e1⟩ : ∃ q, q = H.sl := ⟨_, rfl⟩
  rw [← e0] at hC
  rw [← e1] at hS
  have hc0 : c0 ≤ H.sh.length := Nat.le_of_eq e0
  have hs0 : s0 ≤ H.sl := Nat.le_of_eq e1
  have hcc : H.sh.length ≤ c0 + C := by omega
  have hss : H.sl ≤ s0 + Sl := by omega
  refine ab_of2 (lv := [some (.ref p0), some (.int p1)]) 0 rfl rfl (Nat.le_of_ble_eq_true rfl) ?_
  refine ab_widen (cells' := H.sh.length - c0) (slots' := H.sl - s0) (Nat.zero_le _) (Nat.zero_le _) ?_
  refine ab_aload_n d_Lexer_take_0 rfl rfl rfl ?_
  obtain ⟨q1, hG⟩ := ck_s hF; clear hF
  refine hp_getI (f := 2) d_Lexer_take_1 q1 (by decide) rfl (by decide) (k1 100 rfl rfl) rfl ?_
  refine ab_topi (fun x2 ex2 => ?_)
  replace hG := bnd_s ex2 hG
  refine ab_iload_n d_Lexer_take_4 rfl rfl ?_
  refine ab_icmp_eq (tgt := 17) d_Lexer_take_5 (by decide) (fun q3 => ?_) (fun q3 => ?_)
  · rw [if_pos q3] at hG
    exact kB_Lexer_take_17 hG hc0 hs0 hcc hss hC hS
  · rw [if_neg q3] at hG
    refine ab_aload_n d_Lexer_take_8 rfl rfl rfl ?_
    refine ab_iconst (v := 1) d_Lexer_take_9 (by decide) ?_
    refine ab_aload_n d_Lexer_take_10 rfl rfl rfl ?_
    refine hp_getI (f := 3) d_Lexer_take_11 q1 (by decide) rfl (by decide) (k1 102 rfl rfl) rfl ?_
    refine ab_topi (fun x12 ex12 => ?_)
    replace hG := bnd_s ex12 hG
    refine bT_c hG (fun x16 H15 z13 er => ?_) (fun v14 H15 z13 hF => ?_)
    · subst er
      have mz : Mo H H15 := (m_Lexer_refuse z13)
      have ml := mz.len
      have m2 := mz.2
      have hC9 : H15.sh.length ≤ c0 + C := hC
      have hS9 : H15.sl ≤ s0 + Sl := hS
      refine hp_callV_t (x := x16) (H1 := H15) (As := [.int 1, .int x12]) (rest := []) d_Lexer_take_14 (k_Lexer_refuse z13 (C := H15.sh.length - H.sh.length) (Sl := H15.sl - H.sl) (by show H15.sh.length ≤ _; omega) (by show H15.sl ≤ _; omega)) (ab_mkC s_Lexer_refuse (Nat.le_of_ble_eq_true rfl) (Nat.le_of_ble_eq_true rfl) (show (H.sh.length - c0) + (H15.sh.length - H.sh.length) ≤ C from by omega) (show (H.sl - s0) + (H15.sl - H.sl) ≤ Sl from by omega)) (k5 28 rfl rfl) i_Lexer_refuse v_Lexer_refuse q1 (by decide) rfl rfl (Nat.le_of_ble_eq_true rfl) ?_
      exact ab_U_out rfl (by show _ + (H15.sh.length - H.sh.length) ≤ C; omega) (by show _ + (H15.sl - H.sl) ≤ Sl; omega) ⟨rfl, rfl⟩
    clear hG
    have mz_3 : Mo H H15 := (m_Lexer_refuse z13)
    have b_4l := (mz_3).len
    have b_4s := (mz_3).2
    have b_4c : c0 ≤ H15.sh.length := by omega
    have b_4d : s0 ≤ H15.sl := by omega
    have q_5 := (mz_3).get q1
    have fH15 : Mo H15 r.2 := by
      have hm := Mo.rf H15
      exact hm.tr (mB_Lexer_take_17 hF)
    have b_4m := (fH15).len
    have b_4n := (fH15).2
    have b_4p : H15.sh.length ≤ c0 + C := by omega
    have b_4q : H15.sl ≤ s0 + Sl := by omega
    refine hp_callV_v (H1 := H15) (As := [.int 1, .int x12]) (rest := []) d_Lexer_take_14 (k_Lexer_refuse z13 (C := H15.sh.length - H.sh.length) (Sl := H15.sl - H.sl) (by show H15.sh.length ≤ _; omega) (by show H15.sl ≤ _; omega)) (ab_mkC s_Lexer_refuse (Nat.le_of_ble_eq_true rfl) (Nat.le_of_ble_eq_true rfl) (show (H.sh.length - c0) + (H15.sh.length - H.sh.length) ≤ C from by omega) (show (H.sl - s0) + (H15.sl - H.sl) ≤ Sl from by omega)) (k5 28 rfl rfl) i_Lexer_refuse v_Lexer_refuse q1 (by decide) rfl rfl (Nat.le_of_ble_eq_true rfl) ?_
    refine ab_widen (cells' := H15.sh.length - c0) (slots' := H15.sl - s0) (by show _ + (H15.sh.length - H.sh.length) ≤ _; omega) (by show _ + (H15.sl - H.sl) ≤ _; omega) ?_
    clear b_4l b_4s b_4m b_4n
    exact kB_Lexer_take_17 hF b_4c b_4d b_4p b_4q hC hS
def y_Shapes_sizeOf : ab_Y := (⟨"WorldEngine$Shapes", "sizeOf", "(I)I"⟩, prog_9_method_6_code, 2, (some FieldType.int), [])
theorem d_Shapes_sizeOf_0 : decode y_Shapes_sizeOf.2.1 0 = .ok (.iload_n 1, 1) := by decide +kernel
theorem d_Shapes_sizeOf_1 : decode y_Shapes_sizeOf.2.1 1 = .ok (.ifCond .lt 11, 3) := by decide +kernel
theorem d_Shapes_sizeOf_4 : decode y_Shapes_sizeOf.2.1 4 = .ok (.iload_n 1, 1) := by decide +kernel
theorem d_Shapes_sizeOf_5 : decode y_Shapes_sizeOf.2.1 5 = .ok (.aload_n 0, 1) := by decide +kernel
theorem d_Shapes_sizeOf_6 : decode y_Shapes_sizeOf.2.1 6 = .ok (.getfield 32, 3) := by decide +kernel
theorem d_Shapes_sizeOf_9 : decode y_Shapes_sizeOf.2.1 9 = .ok (.if_icmp .lt 7, 3) := by decide +kernel
theorem d_Shapes_sizeOf_12 : decode y_Shapes_sizeOf.2.1 12 = .ok (.iconst 0, 1) := by decide +kernel
theorem d_Shapes_sizeOf_13 : decode y_Shapes_sizeOf.2.1 13 = .ok (.goto 18, 3) := by decide +kernel
theorem d_Shapes_sizeOf_16 : decode y_Shapes_sizeOf.2.1 16 = .ok (.aload_n 0, 1) := by decide +kernel
theorem d_Shapes_sizeOf_17 : decode y_Shapes_sizeOf.2.1 17 = .ok (.getfield 28, 3) := by decide +kernel
theorem d_Shapes_sizeOf_20 : decode y_Shapes_sizeOf.2.1 20 = .ok (.iload_n 1, 1) := by decide +kernel
theorem d_Shapes_sizeOf_21 : decode y_Shapes_sizeOf.2.1 21 = .ok (.iconst 1, 1) := by decide +kernel
theorem d_Shapes_sizeOf_22 : decode y_Shapes_sizeOf.2.1 22 = .ok (.iadd, 1) := by decide +kernel
theorem d_Shapes_sizeOf_23 : decode y_Shapes_sizeOf.2.1 23 = .ok (.iaload, 1) := by decide +kernel
theorem d_Shapes_sizeOf_24 : decode y_Shapes_sizeOf.2.1 24 = .ok (.aload_n 0, 1) := by decide +kernel
theorem d_Shapes_sizeOf_25 : decode y_Shapes_sizeOf.2.1 25 = .ok (.getfield 28, 3) := by decide +kernel
theorem d_Shapes_sizeOf_28 : decode y_Shapes_sizeOf.2.1 28 = .ok (.iload_n 1, 1) := by decide +kernel
theorem d_Shapes_sizeOf_29 : decode y_Shapes_sizeOf.2.1 29 = .ok (.iaload, 1) := by decide +kernel
theorem d_Shapes_sizeOf_30 : decode y_Shapes_sizeOf.2.1 30 = .ok (.isub, 1) := by decide +kernel
theorem d_Shapes_sizeOf_31 : decode y_Shapes_sizeOf.2.1 31 = .ok (.ireturn, 1) := by decide +kernel
theorem s_Shapes_sizeOf : ab_Stat y_Shapes_sizeOf 1 := ⟨(k5 37 rfl rfl), (k1 18 rfl rfl), ⟨by decide, by decide⟩, by decide +kernel⟩
theorem i_Shapes_sizeOf : Cond.instanceMethod y_Shapes_sizeOf.1 ∈ ab_T := (k5 35 rfl rfl)
theorem v_Shapes_sizeOf : Cond.selects "WorldEngine$Shapes" y_Shapes_sizeOf.1 y_Shapes_sizeOf.1 ∈ ab_T := (k5 36 rfl rfl)
def B_Shapes_sizeOf_12 (N : Nat) (p0 : Nat) (p1 : Int32)  (H : Hp) : Option (Int32 × Hp) :=
    some (0, H)
set_option maxRecDepth 20000 in
set_option maxHeartbeats 2000000 in
theorem mB_Shapes_sizeOf_12 {N : Nat} {p0 : Nat} {p1 : Int32}  {H : Hp} {r : Int32 × Hp} (hF : B_Shapes_sizeOf_12 N p0 p1  H = some r) : Sa H r.2 := by
  unfold B_Shapes_sizeOf_12 at hF
  have hm := Sa.rf H
  have hr := Option.some.inj hF; subst hr
  exact hm
set_option maxRecDepth 20000 in
set_option maxHeartbeats 2000000 in
theorem kB_Shapes_sizeOf_12 {N : Nat} {p0 : Nat} {p1 : Int32}  {H : Hp} {r : Int32 × Hp} (hF : B_Shapes_sizeOf_12 N p0 p1  H = some r) : ab_V y_Shapes_sizeOf { frames := 0, cells := 0, slots := 0, locals := 0 } (po (.returned (some (.int r.1))) r.2) 0 0 0 0 12 [some (.ref p0), some (.int p1)] [] (hpw H) := by
  unfold B_Shapes_sizeOf_12 at hF
  refine ab_iconst (v := 0) d_Shapes_sizeOf_12 (by decide) ?_
  refine ab_goto (tgt := 31) d_Shapes_sizeOf_13 (by decide) ?_
  exact ab_iret d_Shapes_sizeOf_31 rfl (Nat.le_refl _) (Nat.le_refl _) (by have hr := Option.some.inj hF; subst hr; exact ⟨rfl, rfl⟩)
def F_Shapes_sizeOf (N : Nat) (p0 : Nat) (p1 : Int32) (H : Hp) : Option (Int32 × Hp) :=
    if p1 < (0 : Int32) then
    B_Shapes_sizeOf_12 N p0 p1  H
    else
    ck (H.sh[p0]? = some (3, 0)) <|
    bnd ((H.D p0 3)) fun x3 =>
    if p1 < x3 then
    rf (H.P p0 2) fun a5 =>
    ar H 100 a5 fun n7 =>
    ck (inb (p1 + (1 : Int32)) n7) <|
    bnd ((H.D a5 ((p1 + (1 : Int32))).toNatClampNeg)) fun x10 =>
    rf (H.P p0 2) fun a11 =>
    ar H 100 a11 fun n13 =>
    ck (inb p1 n13) <|
    bnd ((H.D a11 (p1).toNatClampNeg)) fun x16 =>
    some (x10 - x16, H)
    else
    B_Shapes_sizeOf_12 N p0 p1  H
set_option maxRecDepth 20000 in
set_option maxHeartbeats 2000000 in
theorem m_Shapes_sizeOf {N : Nat} {p0 : Nat} {p1 : Int32} {H : Hp} {r : Int32 × Hp} (hF : F_Shapes_sizeOf N p0 p1 H = some r) : Sa H r.2 := by
  unfold F_Shapes_sizeOf at hF
  have hm := Sa.rf H
  rcases ite_s hF with ⟨q_1, hG⟩ | ⟨q_1, hG⟩
  · clear hF
    exact hm.tr (mB_Shapes_sizeOf_12 hG)
  · clear hF
    obtain ⟨q18, hF⟩ := ck_s hG; clear hG
    obtain ⟨x19, -, hG⟩ := bnd_g hF; clear hF
    rcases ite_s hG with ⟨q_2, hF⟩ | ⟨q_2, hF⟩
    · clear hG
      obtain ⟨a21, e22, hG⟩ := rf_s hF; clear hF
      obtain ⟨n23, q24, hF⟩ := ar_s hG; clear hG
      obtain ⟨q25, hG⟩ := ck_s hF; clear hF
      obtain ⟨x26, -, hF⟩ := bnd_g hG; clear hG
      obtain ⟨a27, e28, hG⟩ := rf_s hF; clear hF
      obtain ⟨n29, q30, hF⟩ := ar_s hG; clear hG
      obtain ⟨q31, hG⟩ := ck_s hF; clear hF
      obtain ⟨x32, -, hF⟩ := bnd_g hG; clear hG
      have hr := Option.some.inj hF; subst hr
      exact hm
    · clear hG
      exact hm.tr (mB_Shapes_sizeOf_12 hF)
set_option maxRecDepth 20000 in
set_option maxHeartbeats 2000000 in
theorem k_Shapes_sizeOf {N : Nat} {p0 : Nat} {p1 : Int32} {H : Hp} {r : Int32 × Hp} (hF : F_Shapes_sizeOf N p0 p1 H = some r) : ab_M y_Shapes_sizeOf { frames := 0, cells := 0, slots := 0, locals := 0 } [.ref p0, .int p1] (hpw H) (po (.returned (some (.int r.1))) r.2) := by
  unfold F_Shapes_sizeOf at hF
  refine ab_of2 (lv := [some (.ref p0), some (.int p1)]) 0 rfl rfl (Nat.le_of_ble_eq_true rfl) ?_
  refine ab_iload_n d_Shapes_sizeOf_0 rfl rfl ?_
  refine ab_if_lt (tgt := 12) d_Shapes_sizeOf_1 (by decide) (fun q1 => ?_) (fun q1 => ?_)
  · rw [if_pos q1] at hF
    exact kB_Shapes_sizeOf_12 hF
  · rw [if_neg q1] at hF
    refine ab_iload_n d_Shapes_sizeOf_4 rfl rfl ?_
    refine ab_aload_n d_Shapes_sizeOf_5 rfl rfl rfl ?_
    obtain ⟨q2, hG⟩ := ck_s hF; clear hF
    refine hp_getI (f := 3) d_Shapes_sizeOf_6 q2 (by decide) rfl (by decide) (k3 39 rfl rfl) rfl ?_
    refine ab_topi (fun x3 ex3 => ?_)
    replace hG := bnd_s ex3 hG
    refine ab_icmp_lt (tgt := 16) d_Shapes_sizeOf_9 (by decide) (fun q4 => ?_) (fun q4 => ?_)
    · rw [if_pos q4] at hG
      refine ab_aload_n d_Shapes_sizeOf_16 rfl rfl rfl ?_
      obtain ⟨a5, e6, hF⟩ := rf_s hG; clear hG
      refine hp_getR (f := 2) d_Shapes_sizeOf_17 q2 (by decide) rfl (by decide) (k3 32 rfl rfl) rfl e6 ?_
      refine ab_iload_n d_Shapes_sizeOf_20 rfl rfl ?_
      refine ab_iconst (v := 1) d_Shapes_sizeOf_21 (by decide) ?_
      refine ab_iadd d_Shapes_sizeOf_22 ?_
      obtain ⟨n7, q8, hG⟩ := ar_s hF; clear hF
      obtain ⟨q9, hF⟩ := ck_s hG; clear hG
      refine hp_iald d_Shapes_sizeOf_23 tI q8 q9 ?_
      refine ab_topi (fun x10 ex10 => ?_)
      replace hF := bnd_s ex10 hF
      refine ab_aload_n d_Shapes_sizeOf_24 rfl rfl rfl ?_
      obtain ⟨a11, e12, hG⟩ := rf_s hF; clear hF
      refine hp_getR (f := 2) d_Shapes_sizeOf_25 q2 (by decide) rfl (by decide) (k3 32 rfl rfl) rfl e12 ?_
      refine ab_iload_n d_Shapes_sizeOf_28 rfl rfl ?_
      obtain ⟨n13, q14, hF⟩ := ar_s hG; clear hG
      obtain ⟨q15, hG⟩ := ck_s hF; clear hF
      refine hp_iald d_Shapes_sizeOf_29 tI q14 q15 ?_
      refine ab_topi (fun x16 ex16 => ?_)
      replace hG := bnd_s ex16 hG
      refine ab_isub d_Shapes_sizeOf_30 ?_
      exact ab_iret d_Shapes_sizeOf_31 rfl (Nat.le_refl _) (Nat.le_refl _) (by have hr := Option.some.inj hG; subst hr; exact ⟨rfl, rfl⟩)
    · rw [if_neg q4] at hG
      exact kB_Shapes_sizeOf_12 hG
def y_Shapes_total : ab_Y := (⟨"WorldEngine$Shapes", "total", "()I"⟩, prog_9_method_5_code, 1, (some FieldType.int), [])
theorem d_Shapes_total_0 : decode y_Shapes_total.2.1 0 = .ok (.aload_n 0, 1) := by decide +kernel
theorem d_Shapes_total_1 : decode y_Shapes_total.2.1 1 = .ok (.getfield 28, 3) := by decide +kernel
theorem d_Shapes_total_4 : decode y_Shapes_total.2.1 4 = .ok (.aload_n 0, 1) := by decide +kernel
theorem d_Shapes_total_5 : decode y_Shapes_total.2.1 5 = .ok (.getfield 32, 3) := by decide +kernel
theorem d_Shapes_total_8 : decode y_Shapes_total.2.1 8 = .ok (.iaload, 1) := by decide +kernel
theorem d_Shapes_total_9 : decode y_Shapes_total.2.1 9 = .ok (.ireturn, 1) := by decide +kernel
theorem s_Shapes_total : ab_Stat y_Shapes_total 0 := ⟨(k5 41 rfl rfl), (k1 18 rfl rfl), ⟨by decide, by decide⟩, by decide +kernel⟩
theorem i_Shapes_total : Cond.instanceMethod y_Shapes_total.1 ∈ ab_T := (k5 39 rfl rfl)
theorem v_Shapes_total : Cond.selects "WorldEngine$Shapes" y_Shapes_total.1 y_Shapes_total.1 ∈ ab_T := (k5 40 rfl rfl)
def F_Shapes_total (N : Nat) (p0 : Nat) (H : Hp) : Option (Int32 × Hp) :=
    ck (H.sh[p0]? = some (3, 0)) <|
    rf (H.P p0 2) fun a2 =>
    bnd ((H.D p0 3)) fun x4 =>
    ar H 100 a2 fun n5 =>
    ck (inb x4 n5) <|
    bnd ((H.D a2 (x4).toNatClampNeg)) fun x8 =>
    some (x8, H)
set_option maxRecDepth 20000 in
set_option maxHeartbeats 2000000 in
theorem m_Shapes_total {N : Nat} {p0 : Nat} {H : Hp} {r : Int32 × Hp} (hF : F_Shapes_total N p0 H = some r) : Sa H r.2 := by
  unfold F_Shapes_total at hF
  have hm := Sa.rf H
  obtain ⟨q9, hG⟩ := ck_s hF; clear hF
  obtain ⟨a10, e11, hF⟩ := rf_s hG; clear hG
  obtain ⟨x12, -, hG⟩ := bnd_g hF; clear hF
  obtain ⟨n13, q14, hF⟩ := ar_s hG; clear hG
  obtain ⟨q15, hG⟩ := ck_s hF; clear hF
  obtain ⟨x16, -, hF⟩ := bnd_g hG; clear hG
  have hr := Option.some.inj hF; subst hr
  exact hm
set_option maxRecDepth 20000 in
set_option maxHeartbeats 2000000 in
theorem k_Shapes_total {N : Nat} {p0 : Nat} {H : Hp} {r : Int32 × Hp} (hF : F_Shapes_total N p0 H = some r) : ab_M y_Shapes_total { frames := 0, cells := 0, slots := 0, locals := 0 } [.ref p0] (hpw H) (po (.returned (some (.int r.1))) r.2) := by
  unfold F_Shapes_total at hF
  refine ab_of2 (lv := [some (.ref p0)]) 0 rfl rfl (Nat.le_of_ble_eq_true rfl) ?_
  refine ab_aload_n d_Shapes_total_0 rfl rfl rfl ?_
  obtain ⟨q1, hG⟩ := ck_s hF; clear hF
  obtain ⟨a2, e3, hF⟩ := rf_s hG; clear hG
  refine hp_getR (f := 2) d_Shapes_total_1 q1 (by decide) rfl (by decide) (k3 32 rfl rfl) rfl e3 ?_
  refine ab_aload_n d_Shapes_total_4 rfl rfl rfl ?_
  refine hp_getI (f := 3) d_Shapes_total_5 q1 (by decide) rfl (by decide) (k3 39 rfl rfl) rfl ?_
  refine ab_topi (fun x4 ex4 => ?_)
  replace hF := bnd_s ex4 hF
  obtain ⟨n5, q6, hG⟩ := ar_s hF; clear hF
  obtain ⟨q7, hF⟩ := ck_s hG; clear hG
  refine hp_iald d_Shapes_total_8 tI q6 q7 ?_
  refine ab_topi (fun x8 ex8 => ?_)
  replace hF := bnd_s ex8 hF
  exact ab_iret d_Shapes_total_9 rfl (Nat.le_refl _) (Nat.le_refl _) (by have hr := Option.some.inj hF; subst hr; exact ⟨rfl, rfl⟩)
def y_Shapes_memberNamed : ab_Y := (⟨"WorldEngine$Shapes", "memberNamed", "(ILjava/lang/String;)I"⟩, prog_9_method_8_code, 4, (some FieldType.int), [])
theorem d_Shapes_memberNamed_0 : decode y_Shapes_memberNamed.2.1 0 = .ok (.iload_n 1, 1) := by decide +kernel
theorem d_Shapes_memberNamed_1 : decode y_Shapes_memberNamed.2.1 1 = .ok (.ifCond .lt 11, 3) := by decide +kernel
theorem d_Shapes_memberNamed_4 : decode y_Shapes_memberNamed.2.1 4 = .ok (.iload_n 1, 1) := by decide +kernel
theorem d_Shapes_memberNamed_5 : decode y_Shapes_memberNamed.2.1 5 = .ok (.aload_n 0, 1) := by decide +kernel
theorem d_Shapes_memberNamed_6 : decode y_Shapes_memberNamed.2.1 6 = .ok (.getfield 32, 3) := by decide +kernel
theorem d_Shapes_memberNamed_9 : decode y_Shapes_memberNamed.2.1 9 = .ok (.if_icmp .lt 5, 3) := by decide +kernel
theorem d_Shapes_memberNamed_12 : decode y_Shapes_memberNamed.2.1 12 = .ok (.iconst (-1), 1) := by decide +kernel
theorem d_Shapes_memberNamed_13 : decode y_Shapes_memberNamed.2.1 13 = .ok (.ireturn, 1) := by decide +kernel
theorem d_Shapes_memberNamed_14 : decode y_Shapes_memberNamed.2.1 14 = .ok (.aload_n 0, 1) := by decide +kernel
theorem d_Shapes_memberNamed_15 : decode y_Shapes_memberNamed.2.1 15 = .ok (.getfield 28, 3) := by decide +kernel
theorem d_Shapes_memberNamed_18 : decode y_Shapes_memberNamed.2.1 18 = .ok (.iload_n 1, 1) := by decide +kernel
theorem d_Shapes_memberNamed_19 : decode y_Shapes_memberNamed.2.1 19 = .ok (.iaload, 1) := by decide +kernel
theorem d_Shapes_memberNamed_20 : decode y_Shapes_memberNamed.2.1 20 = .ok (.istore_n 3, 1) := by decide +kernel
theorem d_Shapes_memberNamed_21 : decode y_Shapes_memberNamed.2.1 21 = .ok (.iload_n 3, 1) := by decide +kernel
theorem d_Shapes_memberNamed_22 : decode y_Shapes_memberNamed.2.1 22 = .ok (.aload_n 0, 1) := by decide +kernel
theorem d_Shapes_memberNamed_23 : decode y_Shapes_memberNamed.2.1 23 = .ok (.getfield 28, 3) := by decide +kernel
theorem d_Shapes_memberNamed_26 : decode y_Shapes_memberNamed.2.1 26 = .ok (.iload_n 1, 1) := by decide +kernel
theorem d_Shapes_memberNamed_27 : decode y_Shapes_memberNamed.2.1 27 = .ok (.iconst 1, 1) := by decide +kernel
theorem d_Shapes_memberNamed_28 : decode y_Shapes_memberNamed.2.1 28 = .ok (.iadd, 1) := by decide +kernel
theorem d_Shapes_memberNamed_29 : decode y_Shapes_memberNamed.2.1 29 = .ok (.iaload, 1) := by decide +kernel
theorem d_Shapes_memberNamed_30 : decode y_Shapes_memberNamed.2.1 30 = .ok (.if_icmp .ge 27, 3) := by decide +kernel
theorem d_Shapes_memberNamed_33 : decode y_Shapes_memberNamed.2.1 33 = .ok (.aload_n 0, 1) := by decide +kernel
theorem d_Shapes_memberNamed_34 : decode y_Shapes_memberNamed.2.1 34 = .ok (.getfield 19, 3) := by decide +kernel
theorem d_Shapes_memberNamed_37 : decode y_Shapes_memberNamed.2.1 37 = .ok (.iload_n 3, 1) := by decide +kernel
theorem d_Shapes_memberNamed_38 : decode y_Shapes_memberNamed.2.1 38 = .ok (.aaload, 1) := by decide +kernel
theorem d_Shapes_memberNamed_39 : decode y_Shapes_memberNamed.2.1 39 = .ok (.getfield 40, 3) := by decide +kernel
theorem d_Shapes_memberNamed_42 : decode y_Shapes_memberNamed.2.1 42 = .ok (.aload_n 2, 1) := by decide +kernel
theorem d_Shapes_memberNamed_43 : decode y_Shapes_memberNamed.2.1 43 = .ok (.invokevirtual 44, 3) := by decide +kernel
theorem d_Shapes_memberNamed_46 : decode y_Shapes_memberNamed.2.1 46 = .ok (.ifCond .eq 5, 3) := by decide +kernel
theorem d_Shapes_memberNamed_49 : decode y_Shapes_memberNamed.2.1 49 = .ok (.iload_n 3, 1) := by decide +kernel
theorem d_Shapes_memberNamed_50 : decode y_Shapes_memberNamed.2.1 50 = .ok (.ireturn, 1) := by decide +kernel
theorem d_Shapes_memberNamed_51 : decode y_Shapes_memberNamed.2.1 51 = .ok (.iinc 3 1, 3) := by decide +kernel
theorem d_Shapes_memberNamed_54 : decode y_Shapes_memberNamed.2.1 54 = .ok (.goto (-33), 3) := by decide +kernel
theorem d_Shapes_memberNamed_57 : decode y_Shapes_memberNamed.2.1 57 = .ok (.iconst (-1), 1) := by decide +kernel
theorem d_Shapes_memberNamed_58 : decode y_Shapes_memberNamed.2.1 58 = .ok (.ireturn, 1) := by decide +kernel
theorem s_Shapes_memberNamed : ab_Stat y_Shapes_memberNamed 2 := ⟨(k5 45 rfl rfl), (k1 18 rfl rfl), ⟨by decide, by decide⟩, by decide +kernel⟩
theorem i_Shapes_memberNamed : Cond.instanceMethod y_Shapes_memberNamed.1 ∈ ab_T := (k5 43 rfl rfl)
theorem v_Shapes_memberNamed : Cond.selects "WorldEngine$Shapes" y_Shapes_memberNamed.1 y_Shapes_memberNamed.1 ∈ ab_T := (k5 44 rfl rfl)
def B_Shapes_memberNamed_21 (N : Nat) (p0 : Nat) (p1 : Int32) (p2 : Nat) : Nat → Int32 → Hp → Option (Int32 × Hp)
  | 0, _, _ => none
  | n + 1, l3, H =>
    ck (H.sh[p0]? = some (3, 0)) <|
    rf (H.P p0 2) fun a12 =>
    ar H 100 a12 fun n14 =>
    ck (inb (p1 + (1 : Int32)) n14) <|
    bnd ((H.D a12 ((p1 + (1 : Int32))).toNatClampNeg)) fun x17 =>
    if x17 ≤ l3 then
    some ((-1), H)
    else
    rf (H.P p0 1) fun a19 =>
    ar H 106 a19 fun n21 =>
    ck (inb l3 n21) <|
    rf (H.P a19 (l3).toNatClampNeg) fun a24 =>
    ck (H.sh[a24]? = some (2, 0)) <|
    rf (H.P a24 0) fun a27 =>
    ck (H.sh[a27]? = some (16, 0)) <|
    bC (F_Str_equals N a27 p2 H) fun v31 H32 =>
    if v31 = (0 : Int32) then
    B_Shapes_memberNamed_21 N p0 p1 p2 n (l3 + 1) H32
    else
    some (l3, H32)
termination_by structural n => n
set_option maxRecDepth 20000 in
set_option maxHeartbeats 2000000 in
theorem mB_Shapes_memberNamed_21 {N : Nat} {p0 : Nat} {p1 : Int32} {p2 : Nat} : ∀ (n : Nat) (l3 : Int32) (H : Hp) (r : Int32 × Hp), B_Shapes_memberNamed_21 N p0 p1 p2 n l3 H = some r → Sa H r.2 := by
  intro n
  induction n with
  | zero => intro l3 H r hF; rw [B_Shapes_memberNamed_21] at hF; cases hF
  | succ n ih =>
    intro l3 H r hF
    rw [B_Shapes_memberNamed_21] at hF
    have hm := Sa.rf H
    obtain ⟨q34, hG⟩ := ck_s hF; clear hF
    obtain ⟨a35, e36, hF⟩ := rf_s hG; clear hG
    obtain ⟨n37, q38, hG⟩ := ar_s hF; clear hF
    obtain ⟨q39, hF⟩ := ck_s hG; clear hG
    obtain ⟨x40, -, hG⟩ := bnd_g hF; clear hF
    rcases ite_s hG with ⟨q_2, hF⟩ | ⟨q_2, hF⟩
    · clear hG
      have hr := Option.some.inj hF; subst hr
      exact hm
    · clear hG
      obtain ⟨a42, e43, hG⟩ := rf_s hF; clear hF
      obtain ⟨n44, q45, hF⟩ := ar_s hG; clear hG
      obtain ⟨q46, hG⟩ := ck_s hF; clear hF
      obtain ⟨a47, e48, hF⟩ := rf_s hG; clear hG
      obtain ⟨q49, hG⟩ := ck_s hF; clear hF
      obtain ⟨a50, e51, hF⟩ := rf_s hG; clear hG
      obtain ⟨q52, hG⟩ := ck_s hF; clear hF
      obtain ⟨v54, H55, z53, hF⟩ := bC_s hG; clear hG
      replace hm : Sa H H55 := hm.tr (m_Str_equals z53)
      rcases ite_s hF with ⟨q_4, hG⟩ | ⟨q_4, hG⟩
      · clear hF
        exact hm.tr (ih (l3 + 1) H55 r hG)
      · clear hF
        have hr := Option.some.inj hG; subst hr
        exact hm
set_option maxRecDepth 20000 in
set_option maxHeartbeats 2000000 in
theorem kB_Shapes_memberNamed_21 {N : Nat} {p0 : Nat} {p1 : Int32} {p2 : Nat} : ∀ (n : Nat) (l3 : Int32) (H : Hp) (r : Int32 × Hp), B_Shapes_memberNamed_21 N p0 p1 p2 n l3 H = some r → ab_V y_Shapes_memberNamed { frames := 2, cells := 0, slots := 0, locals := 44 } (po (.returned (some (.int r.1))) r.2) 0 0 0 0 21 [some (.ref p0), some (.int p1), some (.ref p2), some (.int l3)] [] (hpw H) := by
  intro n
  induction n with
  | zero => intro l3 H r hF; rw [B_Shapes_memberNamed_21] at hF; cases hF
  | succ n ih =>
    intro l3 H r hF
    rw [B_Shapes_memberNamed_21] at hF
    refine ab_iload_n d_Shapes_memberNamed_21 rfl rfl ?_
    refine ab_aload_n d_Shapes_memberNamed_22 rfl rfl rfl ?_
    obtain ⟨q11, hG⟩ := ck_s hF; clear hF
    obtain ⟨a12, e13, hF⟩ := rf_s hG; clear hG
    refine hp_getR (f := 2) d_Shapes_memberNamed_23 q11 (by decide) rfl (by decide) (k3 32 rfl rfl) rfl e13 ?_
    refine ab_iload_n d_Shapes_memberNamed_26 rfl rfl ?_
    refine ab_iconst (v := 1) d_Shapes_memberNamed_27 (by decide) ?_
    refine ab_iadd d_Shapes_memberNamed_28 ?_
    obtain ⟨n14, q15, hG⟩ := ar_s hF; clear hF
    obtain ⟨q16, hF⟩ := ck_s hG; clear hG
    refine hp_iald d_Shapes_memberNamed_29 tI q15 q16 ?_
    refine ab_topi (fun x17 ex17 => ?_)
    replace hF := bnd_s ex17 hF
    refine ab_icmp_ge (tgt := 57) d_Shapes_memberNamed_30 (by decide) (fun q18 => ?_) (fun q18 => ?_)
    · rw [if_pos q18] at hF
      refine ab_iconst (v := (-1)) d_Shapes_memberNamed_57 (by decide) ?_
      exact ab_iret d_Shapes_memberNamed_58 rfl (Nat.le_refl _) (Nat.le_refl _) (by have hr := Option.some.inj hF; subst hr; exact ⟨rfl, rfl⟩)
    · rw [if_neg q18] at hF
      refine ab_aload_n d_Shapes_memberNamed_33 rfl rfl rfl ?_
      obtain ⟨a19, e20, hG⟩ := rf_s hF; clear hF
      refine hp_getR (f := 1) d_Shapes_memberNamed_34 q11 (by decide) rfl (by decide) (k3 25 rfl rfl) rfl e20 ?_
      refine ab_iload_n d_Shapes_memberNamed_37 rfl rfl ?_
      obtain ⟨n21, q22, hF⟩ := ar_s hG; clear hG
      obtain ⟨q23, hG⟩ := ck_s hF; clear hF
      obtain ⟨a24, e25, hF⟩ := rf_s hG; clear hG
      refine hp_aald (q := 106) d_Shapes_memberNamed_38 (by decide) tN q22 q23 e25 ?_
      obtain ⟨q26, hG⟩ := ck_s hF; clear hF
      obtain ⟨a27, e28, hF⟩ := rf_s hG; clear hG
      refine hp_getR (f := 0) d_Shapes_memberNamed_39 q26 (by decide) rfl (by decide) (k2 230 rfl rfl) rfl e28 ?_
      refine ab_aload_n d_Shapes_memberNamed_42 rfl rfl rfl ?_
      obtain ⟨q29, hG⟩ := ck_s hF; clear hF
      obtain ⟨v31, H32, z30, hF⟩ := bC_s hG; clear hG
      refine hp_callV_a (v := .int v31) (H1 := H32) (As := [.ref p2]) (rest := []) d_Shapes_memberNamed_43 (k_Str_equals z30) (ab_mkC s_Str_equals (Nat.le_of_ble_eq_true rfl) (Nat.le_of_ble_eq_true rfl) (Nat.le_refl 0) (Nat.le_refl 0)) (k5 46 rfl rfl) i_Str_equals v_Str_equals q29 (by decide) rfl rfl (Nat.le_of_ble_eq_true rfl) ?_
      have s_1 : Sa H H32 := (m_Str_equals z30)
      refine ab_if_eq (tgt := 51) d_Shapes_memberNamed_46 (by decide) (fun q33 => ?_) (fun q33 => ?_)
      · rw [if_pos q33] at hF
        refine ab_iinc (v := l3 + 1) (lv' := [some (.ref p0), some (.int p1), some (.ref p2), some (.int (l3 + 1))]) d_Shapes_memberNamed_51 rfl rfl (by decide) rfl ?_
        refine ab_goto (tgt := 21) d_Shapes_memberNamed_54 (by decide) ?_
        exact ih (l3 + 1) H32 r hF
      · rw [if_neg q33] at hF
        refine ab_iload_n d_Shapes_memberNamed_49 rfl rfl ?_
        exact ab_iret d_Shapes_memberNamed_50 rfl (Nat.le_refl _) (Nat.le_refl _) (by have hr := Option.some.inj hF; subst hr; exact ⟨rfl, rfl⟩)
def F_Shapes_memberNamed (N : Nat) (p0 : Nat) (p1 : Int32) (p2 : Nat) (H : Hp) : Option (Int32 × Hp) :=
    if p1 < (0 : Int32) then
    some ((-1), H)
    else
    ck (H.sh[p0]? = some (3, 0)) <|
    bnd ((H.D p0 3)) fun x3 =>
    if p1 < x3 then
    rf (H.P p0 2) fun a5 =>
    ar H 100 a5 fun n7 =>
    ck (inb p1 n7) <|
    bnd ((H.D a5 (p1).toNatClampNeg)) fun x10 =>
    B_Shapes_memberNamed_21 N p0 p1 p2 N x10 H
    else
    some ((-1), H)
set_option maxRecDepth 20000 in
set_option maxHeartbeats 2000000 in
theorem m_Shapes_memberNamed {N : Nat} {p0 : Nat} {p1 : Int32} {p2 : Nat} {H : Hp} {r : Int32 × Hp} (hF : F_Shapes_memberNamed N p0 p1 p2 H = some r) : Sa H r.2 := by
  unfold F_Shapes_memberNamed at hF
  have hm := Sa.rf H
  rcases ite_s hF with ⟨q_5, hG⟩ | ⟨q_5, hG⟩
  · clear hF
    have hr := Option.some.inj hG; subst hr
    exact hm
  · clear hF
    obtain ⟨q58, hF⟩ := ck_s hG; clear hG
    obtain ⟨x59, -, hG⟩ := bnd_g hF; clear hF
    rcases ite_s hG with ⟨q_6, hF⟩ | ⟨q_6, hF⟩
    · clear hG
      obtain ⟨a61, e62, hG⟩ := rf_s hF; clear hF
      obtain ⟨n63, q64, hF⟩ := ar_s hG; clear hG
      obtain ⟨q65, hG⟩ := ck_s hF; clear hF
      obtain ⟨x66, -, hF⟩ := bnd_g hG; clear hG
      exact hm.tr (mB_Shapes_memberNamed_21 N x66 H r hF)
    · clear hG
      have hr := Option.some.inj hF; subst hr
      exact hm
set_option maxRecDepth 20000 in
set_option maxHeartbeats 2000000 in
theorem k_Shapes_memberNamed {N : Nat} {p0 : Nat} {p1 : Int32} {p2 : Nat} {H : Hp} {r : Int32 × Hp} (hF : F_Shapes_memberNamed N p0 p1 p2 H = some r) : ab_M y_Shapes_memberNamed { frames := 2, cells := 0, slots := 0, locals := 44 } [.ref p0, .int p1, .ref p2] (hpw H) (po (.returned (some (.int r.1))) r.2) := by
  unfold F_Shapes_memberNamed at hF
  refine ab_of2 (lv := [some (.ref p0), some (.int p1), some (.ref p2), none]) 1 rfl rfl (Nat.le_of_ble_eq_true rfl) ?_
  refine ab_iload_n d_Shapes_memberNamed_0 rfl rfl ?_
  refine ab_if_lt (tgt := 12) d_Shapes_memberNamed_1 (by decide) (fun q1 => ?_) (fun q1 => ?_)
  · rw [if_pos q1] at hF
    refine ab_iconst (v := (-1)) d_Shapes_memberNamed_12 (by decide) ?_
    exact ab_iret d_Shapes_memberNamed_13 rfl (Nat.le_refl _) (Nat.le_refl _) (by have hr := Option.some.inj hF; subst hr; exact ⟨rfl, rfl⟩)
  · rw [if_neg q1] at hF
    refine ab_iload_n d_Shapes_memberNamed_4 rfl rfl ?_
    refine ab_aload_n d_Shapes_memberNamed_5 rfl rfl rfl ?_
    obtain ⟨q2, hG⟩ := ck_s hF; clear hF
    refine hp_getI (f := 3) d_Shapes_memberNamed_6 q2 (by decide) rfl (by decide) (k3 39 rfl rfl) rfl ?_
    refine ab_topi (fun x3 ex3 => ?_)
    replace hG := bnd_s ex3 hG
    refine ab_icmp_lt (tgt := 14) d_Shapes_memberNamed_9 (by decide) (fun q4 => ?_) (fun q4 => ?_)
    · rw [if_pos q4] at hG
      refine ab_aload_n d_Shapes_memberNamed_14 rfl rfl rfl ?_
      obtain ⟨a5, e6, hF⟩ := rf_s hG; clear hG
      refine hp_getR (f := 2) d_Shapes_memberNamed_15 q2 (by decide) rfl (by decide) (k3 32 rfl rfl) rfl e6 ?_
      refine ab_iload_n d_Shapes_memberNamed_18 rfl rfl ?_
      obtain ⟨n7, q8, hG⟩ := ar_s hF; clear hF
      obtain ⟨q9, hF⟩ := ck_s hG; clear hG
      refine hp_iald d_Shapes_memberNamed_19 tI q8 q9 ?_
      refine ab_topi (fun x10 ex10 => ?_)
      replace hF := bnd_s ex10 hF
      refine ab_istore_n (lv' := [some (.ref p0), some (.int p1), some (.ref p2), some (.int x10)]) d_Shapes_memberNamed_20 rfl (by decide) rfl ?_
      exact kB_Shapes_memberNamed_21 N x10 H r hF
    · rw [if_neg q4] at hG
      refine ab_iconst (v := (-1)) d_Shapes_memberNamed_12 (by decide) ?_
      exact ab_iret d_Shapes_memberNamed_13 rfl (Nat.le_refl _) (Nat.le_refl _) (by have hr := Option.some.inj hG; subst hr; exact ⟨rfl, rfl⟩)
def y_Shapes_addMember : ab_Y := (⟨"WorldEngine$Shapes", "addMember", "(Ljava/lang/String;I)V"⟩, prog_9_method_4_code, 4, none, [])
theorem d_Shapes_addMember_0 : decode y_Shapes_addMember.2.1 0 = .ok (.aload_n 0, 1) := by decide +kernel
theorem d_Shapes_addMember_1 : decode y_Shapes_addMember.2.1 1 = .ok (.getfield 28, 3) := by decide +kernel
theorem d_Shapes_addMember_4 : decode y_Shapes_addMember.2.1 4 = .ok (.aload_n 0, 1) := by decide +kernel
theorem d_Shapes_addMember_5 : decode y_Shapes_addMember.2.1 5 = .ok (.getfield 32, 3) := by decide +kernel
theorem d_Shapes_addMember_8 : decode y_Shapes_addMember.2.1 8 = .ok (.iaload, 1) := by decide +kernel
theorem d_Shapes_addMember_9 : decode y_Shapes_addMember.2.1 9 = .ok (.istore_n 3, 1) := by decide +kernel
theorem d_Shapes_addMember_10 : decode y_Shapes_addMember.2.1 10 = .ok (.aload_n 0, 1) := by decide +kernel
theorem d_Shapes_addMember_11 : decode y_Shapes_addMember.2.1 11 = .ok (.getfield 32, 3) := by decide +kernel
theorem d_Shapes_addMember_14 : decode y_Shapes_addMember.2.1 14 = .ok (.ifCond .le 49, 3) := by decide +kernel
theorem d_Shapes_addMember_17 : decode y_Shapes_addMember.2.1 17 = .ok (.iload_n 3, 1) := by decide +kernel
theorem d_Shapes_addMember_18 : decode y_Shapes_addMember.2.1 18 = .ok (.aload_n 0, 1) := by decide +kernel
theorem d_Shapes_addMember_19 : decode y_Shapes_addMember.2.1 19 = .ok (.getfield 19, 3) := by decide +kernel
theorem d_Shapes_addMember_22 : decode y_Shapes_addMember.2.1 22 = .ok (.arraylength, 1) := by decide +kernel
theorem d_Shapes_addMember_23 : decode y_Shapes_addMember.2.1 23 = .ok (.if_icmp .ge 40, 3) := by decide +kernel
theorem d_Shapes_addMember_26 : decode y_Shapes_addMember.2.1 26 = .ok (.aload_n 0, 1) := by decide +kernel
theorem d_Shapes_addMember_27 : decode y_Shapes_addMember.2.1 27 = .ok (.getfield 19, 3) := by decide +kernel
theorem d_Shapes_addMember_30 : decode y_Shapes_addMember.2.1 30 = .ok (.iload_n 3, 1) := by decide +kernel
theorem d_Shapes_addMember_31 : decode y_Shapes_addMember.2.1 31 = .ok (.aaload, 1) := by decide +kernel
theorem d_Shapes_addMember_32 : decode y_Shapes_addMember.2.1 32 = .ok (.aload_n 1, 1) := by decide +kernel
theorem d_Shapes_addMember_33 : decode y_Shapes_addMember.2.1 33 = .ok (.iconst 4, 1) := by decide +kernel
theorem d_Shapes_addMember_34 : decode y_Shapes_addMember.2.1 34 = .ok (.iload_n 3, 1) := by decide +kernel
theorem d_Shapes_addMember_35 : decode y_Shapes_addMember.2.1 35 = .ok (.aload_n 0, 1) := by decide +kernel
theorem d_Shapes_addMember_36 : decode y_Shapes_addMember.2.1 36 = .ok (.getfield 28, 3) := by decide +kernel
theorem d_Shapes_addMember_39 : decode y_Shapes_addMember.2.1 39 = .ok (.aload_n 0, 1) := by decide +kernel
theorem d_Shapes_addMember_40 : decode y_Shapes_addMember.2.1 40 = .ok (.getfield 32, 3) := by decide +kernel
theorem d_Shapes_addMember_43 : decode y_Shapes_addMember.2.1 43 = .ok (.iconst 1, 1) := by decide +kernel
theorem d_Shapes_addMember_44 : decode y_Shapes_addMember.2.1 44 = .ok (.isub, 1) := by decide +kernel
theorem d_Shapes_addMember_45 : decode y_Shapes_addMember.2.1 45 = .ok (.iaload, 1) := by decide +kernel
theorem d_Shapes_addMember_46 : decode y_Shapes_addMember.2.1 46 = .ok (.isub, 1) := by decide +kernel
theorem d_Shapes_addMember_47 : decode y_Shapes_addMember.2.1 47 = .ok (.iload_n 2, 1) := by decide +kernel
theorem d_Shapes_addMember_48 : decode y_Shapes_addMember.2.1 48 = .ok (.invokevirtual 36, 3) := by decide +kernel
theorem d_Shapes_addMember_51 : decode y_Shapes_addMember.2.1 51 = .ok (.aload_n 0, 1) := by decide +kernel
theorem d_Shapes_addMember_52 : decode y_Shapes_addMember.2.1 52 = .ok (.getfield 28, 3) := by decide +kernel
theorem d_Shapes_addMember_55 : decode y_Shapes_addMember.2.1 55 = .ok (.aload_n 0, 1) := by decide +kernel
theorem d_Shapes_addMember_56 : decode y_Shapes_addMember.2.1 56 = .ok (.getfield 32, 3) := by decide +kernel
theorem d_Shapes_addMember_59 : decode y_Shapes_addMember.2.1 59 = .ok (.iload_n 3, 1) := by decide +kernel
theorem d_Shapes_addMember_60 : decode y_Shapes_addMember.2.1 60 = .ok (.iconst 1, 1) := by decide +kernel
theorem d_Shapes_addMember_61 : decode y_Shapes_addMember.2.1 61 = .ok (.iadd, 1) := by decide +kernel
theorem d_Shapes_addMember_62 : decode y_Shapes_addMember.2.1 62 = .ok (.iastore, 1) := by decide +kernel
theorem d_Shapes_addMember_63 : decode y_Shapes_addMember.2.1 63 = .ok (.return_, 1) := by decide +kernel
theorem s_Shapes_addMember : ab_Stat y_Shapes_addMember 2 := ⟨(k5 50 rfl rfl), (k1 18 rfl rfl), ⟨by decide, by decide⟩, by decide +kernel⟩
theorem i_Shapes_addMember : Cond.instanceMethod y_Shapes_addMember.1 ∈ ab_T := (k5 48 rfl rfl)
theorem v_Shapes_addMember : Cond.selects "WorldEngine$Shapes" y_Shapes_addMember.1 y_Shapes_addMember.1 ∈ ab_T := (k5 49 rfl rfl)
def F_Shapes_addMember (N : Nat) (p0 : Nat) (p1 : Nat) (p2 : Int32) (H : Hp) : Option (Unit × Hp) :=
    ck (H.sh[p0]? = some (3, 0)) <|
    rf (H.P p0 2) fun a2 =>
    bnd ((H.D p0 3)) fun x4 =>
    ar H 100 a2 fun n5 =>
    ck (inb x4 n5) <|
    bnd ((H.D a2 (x4).toNatClampNeg)) fun x8 =>
    bnd ((H.D p0 3)) fun x9 =>
    if x9 ≤ (0 : Int32) then
    some ((), H)
    else
    rf (H.P p0 1) fun a11 =>
    ar H 106 a11 fun n13 =>
    if (Int32.ofNat n13) ≤ x8 then
    some ((), H)
    else
    rf (H.P p0 1) fun a16 =>
    ar H 106 a16 fun n18 =>
    ck (inb x8 n18) <|
    rf (H.P a16 (x8).toNatClampNeg) fun a21 =>
    rf (H.P p0 2) fun a23 =>
    bnd ((H.D p0 3)) fun x25 =>
    ar H 100 a23 fun n26 =>
    ck (inb (x25 - (1 : Int32)) n26) <|
    bnd ((H.D a23 ((x25 - (1 : Int32))).toNatClampNeg)) fun x29 =>
    ck (H.sh[a21]? = some (2, 0)) <|
    bC (F_Named_tell N a21 p1 (4 : Int32) (x8 - x29) p2 H) fun v32 H33 =>
    rf (H33.P p0 2) fun a34 =>
    bnd ((H33.D p0 3)) fun x36 =>
    ar H33 100 a34 fun n37 =>
    ck (inb x36 n37) <|
    bnd (H33.sD a34 (x36).toNatClampNeg (x8 + (1 : Int32))) fun H40 =>
    some ((), H40)
set_option maxRecDepth 20000 in
set_option maxHeartbeats 2000000 in
theorem m_Shapes_addMember {N : Nat} {p0 : Nat} {p1 : Nat} {p2 : Int32} {H : Hp} {r : Unit × Hp} (hF : F_Shapes_addMember N p0 p1 p2 H = some r) : Sa H r.2 := by
  unfold F_Shapes_addMember at hF
  have hm := Sa.rf H
  obtain ⟨q41, hG⟩ := ck_s hF; clear hF
  obtain ⟨a42, e43, hF⟩ := rf_s hG; clear hG
  obtain ⟨x44, -, hG⟩ := bnd_g hF; clear hF
  obtain ⟨n45, q46, hF⟩ := ar_s hG; clear hG
  obtain ⟨q47, hG⟩ := ck_s hF; clear hF
  obtain ⟨x48, -, hF⟩ := bnd_g hG; clear hG
  obtain ⟨x49, -, hG⟩ := bnd_g hF; clear hF
  rcases ite_s hG with ⟨q_3, hF⟩ | ⟨q_3, hF⟩
  · clear hG
    have hr := Option.some.inj hF; subst hr
    exact hm
  · clear hG
    obtain ⟨a51, e52, hG⟩ := rf_s hF; clear hF
    obtain ⟨n53, q54, hF⟩ := ar_s hG; clear hG
    rcases ite_s hF with ⟨q_4, hG⟩ | ⟨q_4, hG⟩
    · clear hF
      have hr := Option.some.inj hG; subst hr
      exact hm
    · clear hF
      obtain ⟨a56, e57, hF⟩ := rf_s hG; clear hG
      obtain ⟨n58, q59, hG⟩ := ar_s hF; clear hF
      obtain ⟨q60, hF⟩ := ck_s hG; clear hG
      obtain ⟨a61, e62, hG⟩ := rf_s hF; clear hF
      obtain ⟨a63, e64, hF⟩ := rf_s hG; clear hG
      obtain ⟨x65, -, hG⟩ := bnd_g hF; clear hF
      obtain ⟨n66, q67, hF⟩ := ar_s hG; clear hG
      obtain ⟨q68, hG⟩ := ck_s hF; clear hF
      obtain ⟨x69, -, hF⟩ := bnd_g hG; clear hG
      obtain ⟨q70, hG⟩ := ck_s hF; clear hF
      obtain ⟨v72, H73, z71, hF⟩ := bC_s hG; clear hG
      replace hm : Sa H H73 := hm.tr (m_Named_tell z71)
      obtain ⟨a74, e75, hG⟩ := rf_s hF; clear hF
      obtain ⟨x76, -, hF⟩ := bnd_g hG; clear hG
      obtain ⟨n77, q78, hG⟩ := ar_s hF; clear hF
      obtain ⟨q79, hF⟩ := ck_s hG; clear hG
      obtain ⟨H80, eH80, hG⟩ := bnd_g hF; clear hF
      replace hm : Sa H H80 := by rw [eH80]; exact hm
      have hr := Option.some.inj hG; subst hr
      exact hm
set_option maxRecDepth 20000 in
set_option maxHeartbeats 2000000 in
theorem k_Shapes_addMember {N : Nat} {p0 : Nat} {p1 : Nat} {p2 : Int32} {H : Hp} {r : Unit × Hp} (hF : F_Shapes_addMember N p0 p1 p2 H = some r) : ab_M y_Shapes_addMember { frames := 1, cells := 0, slots := 0, locals := 24 } [.ref p0, .ref p1, .int p2] (hpw H) (po (.returned none) r.2) := by
  unfold F_Shapes_addMember at hF
  refine ab_of2 (lv := [some (.ref p0), some (.ref p1), some (.int p2), none]) 1 rfl rfl (Nat.le_of_ble_eq_true rfl) ?_
  refine ab_aload_n d_Shapes_addMember_0 rfl rfl rfl ?_
  obtain ⟨q1, hG⟩ := ck_s hF; clear hF
  obtain ⟨a2, e3, hF⟩ := rf_s hG; clear hG
  refine hp_getR (f := 2) d_Shapes_addMember_1 q1 (by decide) rfl (by decide) (k3 32 rfl rfl) rfl e3 ?_
  refine ab_aload_n d_Shapes_addMember_4 rfl rfl rfl ?_
  refine hp_getI (f := 3) d_Shapes_addMember_5 q1 (by decide) rfl (by decide) (k3 39 rfl rfl) rfl ?_
  refine ab_topi (fun x4 ex4 => ?_)
  replace hF := bnd_s ex4 hF
  obtain ⟨n5, q6, hG⟩ := ar_s hF; clear hF
  obtain ⟨q7, hF⟩ := ck_s hG; clear hG
  refine hp_iald d_Shapes_addMember_8 tI q6 q7 ?_
  refine ab_topi (fun x8 ex8 => ?_)
  replace hF := bnd_s ex8 hF
  refine ab_istore_n (lv' := [some (.ref p0), some (.ref p1), some (.int p2), some (.int x8)]) d_Shapes_addMember_9 rfl (by decide) rfl ?_
  refine ab_aload_n d_Shapes_addMember_10 rfl rfl rfl ?_
  refine hp_getI (f := 3) d_Shapes_addMember_11 q1 (by decide) rfl (by decide) (k3 39 rfl rfl) rfl ?_
  refine ab_topi (fun x9 ex9 => ?_)
  replace hF := bnd_s ex9 hF
  refine ab_if_le (tgt := 63) d_Shapes_addMember_14 (by decide) (fun q10 => ?_) (fun q10 => ?_)
  · rw [if_pos q10] at hF
    exact ab_vret d_Shapes_addMember_63 rfl (Nat.le_refl _) (Nat.le_refl _) (by have hr := Option.some.inj hF; subst hr; exact ⟨rfl, rfl⟩)
  · rw [if_neg q10] at hF
    refine ab_iload_n d_Shapes_addMember_17 rfl rfl ?_
    refine ab_aload_n d_Shapes_addMember_18 rfl rfl rfl ?_
    obtain ⟨a11, e12, hG⟩ := rf_s hF; clear hF
    refine hp_getR (f := 1) d_Shapes_addMember_19 q1 (by decide) rfl (by decide) (k3 25 rfl rfl) rfl e12 ?_
    obtain ⟨n13, q14, hF⟩ := ar_s hG; clear hG
    refine hp_alen (q := 106) d_Shapes_addMember_22 q14 (Or.inr ⟨by decide, rfl⟩) tN ?_
    refine ab_icmp_ge (tgt := 63) d_Shapes_addMember_23 (by decide) (fun q15 => ?_) (fun q15 => ?_)
    · rw [if_pos q15] at hF
      exact ab_vret d_Shapes_addMember_63 rfl (Nat.le_refl _) (Nat.le_refl _) (by have hr := Option.some.inj hF; subst hr; exact ⟨rfl, rfl⟩)
    · rw [if_neg q15] at hF
      refine ab_aload_n d_Shapes_addMember_26 rfl rfl rfl ?_
      obtain ⟨a16, e17, hG⟩ := rf_s hF; clear hF
      refine hp_getR (f := 1) d_Shapes_addMember_27 q1 (by decide) rfl (by decide) (k3 25 rfl rfl) rfl e17 ?_
      refine ab_iload_n d_Shapes_addMember_30 rfl rfl ?_
      obtain ⟨n18, q19, hF⟩ := ar_s hG; clear hG
      obtain ⟨q20, hG⟩ := ck_s hF; clear hF
      obtain ⟨a21, e22, hF⟩ := rf_s hG; clear hG
      refine hp_aald (q := 106) d_Shapes_addMember_31 (by decide) tN q19 q20 e22 ?_
      refine ab_aload_n d_Shapes_addMember_32 rfl rfl rfl ?_
      refine ab_iconst (v := 4) d_Shapes_addMember_33 (by decide) ?_
      refine ab_iload_n d_Shapes_addMember_34 rfl rfl ?_
      refine ab_aload_n d_Shapes_addMember_35 rfl rfl rfl ?_
      obtain ⟨a23, e24, hG⟩ := rf_s hF; clear hF
      refine hp_getR (f := 2) d_Shapes_addMember_36 q1 (by decide) rfl (by decide) (k3 32 rfl rfl) rfl e24 ?_
      refine ab_aload_n d_Shapes_addMember_39 rfl rfl rfl ?_
      refine hp_getI (f := 3) d_Shapes_addMember_40 q1 (by decide) rfl (by decide) (k3 39 rfl rfl) rfl ?_
      refine ab_topi (fun x25 ex25 => ?_)
      replace hG := bnd_s ex25 hG
      refine ab_iconst (v := 1) d_Shapes_addMember_43 (by decide) ?_
      refine ab_isub d_Shapes_addMember_44 ?_
      obtain ⟨n26, q27, hF⟩ := ar_s hG; clear hG
      obtain ⟨q28, hG⟩ := ck_s hF; clear hF
      refine hp_iald d_Shapes_addMember_45 tI q27 q28 ?_
      refine ab_topi (fun x29 ex29 => ?_)
      replace hG := bnd_s ex29 hG
      refine ab_isub d_Shapes_addMember_46 ?_
      refine ab_iload_n d_Shapes_addMember_47 rfl rfl ?_
      obtain ⟨q30, hF⟩ := ck_s hG; clear hG
      obtain ⟨v32, H33, z31, hG⟩ := bC_s hF; clear hF
      refine hp_callV_v (H1 := H33) (As := [.ref p1, .int 4, .int (x8 - x29), .int p2]) (rest := []) d_Shapes_addMember_48 (k_Named_tell z31) (ab_mkC s_Named_tell (Nat.le_of_ble_eq_true rfl) (Nat.le_of_ble_eq_true rfl) (Nat.le_refl 0) (Nat.le_refl 0)) (k5 23 rfl rfl) i_Named_tell v_Named_tell q30 (by decide) rfl rfl (Nat.le_of_ble_eq_true rfl) ?_
      have s_1 : Sa H H33 := (m_Named_tell z31)
      refine ab_aload_n d_Shapes_addMember_51 rfl rfl rfl ?_
      obtain ⟨a34, e35, hF⟩ := rf_s hG; clear hG
      refine hp_getR (f := 2) d_Shapes_addMember_52 (by rw [(s_1).1]; exact q1) (by decide) rfl (by decide) (k3 32 rfl rfl) rfl e35 ?_
      refine ab_aload_n d_Shapes_addMember_55 rfl rfl rfl ?_
      refine hp_getI (f := 3) d_Shapes_addMember_56 (by rw [(s_1).1]; exact q1) (by decide) rfl (by decide) (k3 39 rfl rfl) rfl ?_
      refine ab_topi (fun x36 ex36 => ?_)
      replace hF := bnd_s ex36 hF
      refine ab_iload_n d_Shapes_addMember_59 rfl rfl ?_
      refine ab_iconst (v := 1) d_Shapes_addMember_60 (by decide) ?_
      refine ab_iadd d_Shapes_addMember_61 ?_
      obtain ⟨n37, q38, hG⟩ := ar_s hF; clear hF
      rw [(s_1).1] at q38
      obtain ⟨q39, hF⟩ := ck_s hG; clear hG
      refine hp_iast d_Shapes_addMember_62 tI (by rw [(s_1).1]; exact q38) q39 ?_
      refine hp_gen (fun H40 eH40 => ?_)
      replace hF := bnd_s eH40 hF
      have s_2 : Sa H H40 := by rw [eH40]; exact s_1
      exact ab_vret d_Shapes_addMember_63 rfl (Nat.le_refl _) (Nat.le_refl _) (by have hr := Option.some.inj hF; subst hr; exact ⟨rfl, rfl⟩)
