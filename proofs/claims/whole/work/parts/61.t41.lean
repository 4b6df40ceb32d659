def y_W_get : ab_Y := (⟨"WorldEngine", "get", "(III)I"⟩, prog_1_method_14_code, 5, (some FieldType.int), [])
theorem d_W_get_0 : decode y_W_get.2.1 0 = .ok (.aload_n 0, 1) := by decide +kernel
theorem d_W_get_1 : decode y_W_get.2.1 1 = .ok (.iload_n 1, 1) := by decide +kernel
theorem d_W_get_2 : decode y_W_get.2.1 2 = .ok (.iload_n 2, 1) := by decide +kernel
theorem d_W_get_3 : decode y_W_get.2.1 3 = .ok (.iload_n 3, 1) := by decide +kernel
theorem d_W_get_4 : decode y_W_get.2.1 4 = .ok (.invokevirtual 177, 3) := by decide +kernel
theorem d_W_get_7 : decode y_W_get.2.1 7 = .ok (.istore 4, 2) := by decide +kernel
theorem d_W_get_9 : decode y_W_get.2.1 9 = .ok (.iload 4, 2) := by decide +kernel
theorem d_W_get_11 : decode y_W_get.2.1 11 = .ok (.ifCond .ge 13, 3) := by decide +kernel
theorem d_W_get_14 : decode y_W_get.2.1 14 = .ok (.new 194, 3) := by decide +kernel
theorem d_W_get_17 : decode y_W_get.2.1 17 = .ok (.dup, 1) := by decide +kernel
theorem d_W_get_18 : decode y_W_get.2.1 18 = .ok (.ldc 196, 2) := by decide +kernel
theorem d_W_get_20 : decode y_W_get.2.1 20 = .ok (.invokespecial 198, 3) := by decide +kernel
theorem d_W_get_23 : decode y_W_get.2.1 23 = .ok (.athrow, 1) := by decide +kernel
theorem d_W_get_24 : decode y_W_get.2.1 24 = .ok (.aload_n 0, 1) := by decide +kernel
theorem d_W_get_25 : decode y_W_get.2.1 25 = .ok (.getfield 28, 3) := by decide +kernel
theorem d_W_get_28 : decode y_W_get.2.1 28 = .ok (.getfield 121, 3) := by decide +kernel
theorem d_W_get_31 : decode y_W_get.2.1 31 = .ok (.aload_n 0, 1) := by decide +kernel
theorem d_W_get_32 : decode y_W_get.2.1 32 = .ok (.getfield 28, 3) := by decide +kernel
theorem d_W_get_35 : decode y_W_get.2.1 35 = .ok (.getfield 121, 3) := by decide +kernel
theorem d_W_get_38 : decode y_W_get.2.1 38 = .ok (.iload_n 1, 1) := by decide +kernel
theorem d_W_get_39 : decode y_W_get.2.1 39 = .ok (.invokevirtual 157, 3) := by decide +kernel
theorem d_W_get_42 : decode y_W_get.2.1 42 = .ok (.iload 4, 2) := by decide +kernel
theorem d_W_get_44 : decode y_W_get.2.1 44 = .ok (.invokevirtual 201, 3) := by decide +kernel
theorem d_W_get_47 : decode y_W_get.2.1 47 = .ok (.ireturn, 1) := by decide +kernel
theorem s_W_get : ab_Stat y_W_get 3 := ⟨(k8 121 rfl rfl), (k1 1 rfl rfl), ⟨by decide, by decide⟩, by decide +kernel⟩
theorem i_W_get : Cond.instanceMethod y_W_get.1 ∈ ab_T := (k8 119 rfl rfl)
theorem v_W_get : Cond.selects "WorldEngine" y_W_get.1 y_W_get.1 ∈ ab_T := (k8 120 rfl rfl)
def F_W_get (N : Nat) (p0 : Nat) (p1 : Int32) (p2 : Int32) (p3 : Int32) (H : Hp) : Option ((Ot Int32) × Hp) :=
    ck (H.sh[p0]? = some (0, 0)) <|
    bC (F_W_offsetOf N p0 p1 p2 p3 H) fun v3 H4 =>
    if (0 : Int32) ≤ v3 then
    rf (H4.P p0 2) fun a6 =>
    ck (H4.sh[a6]? = some (10, 0)) <|
    rf (H4.P a6 0) fun a9 =>
    rf (H4.P p0 2) fun a11 =>
    ck (H4.sh[a11]? = some (10, 0)) <|
    rf (H4.P a11 0) fun a14 =>
    ck (H4.sh[a14]? = some (7, 0)) <|
    bC (F_World_placeOf N a14 p1 H4) fun v18 H19 =>
    ck (H19.sh[a9]? = some (7, 0)) <|
    bC (F_World_read N a9 v18 v3 H19) fun v22 H23 =>
    some (.inl v22, H23)
    else
    some (.inr H4.sh.length, H4.nx (18, 0) 6)
set_option maxRecDepth 20000 in
set_option maxHeartbeats 2000000 in
theorem m_W_get {N : Nat} {p0 : Nat} {p1 : Int32} {p2 : Int32} {p3 : Int32} {H : Hp} {r : (Ot Int32) × Hp} (hF : F_W_get N p0 p1 p2 p3 H = some r) : Mo H r.2 := by
  unfold F_W_get at hF
  have hm := Mo.rf H
  obtain ⟨q25, hG⟩ := ck_s hF; clear hF
  obtain ⟨v27, H28, z26, hF⟩ := bC_s hG; clear hG
  replace hm : Mo H H28 := hm.tr ((m_W_offsetOf z26)).mo
  rcases ite_s hF with ⟨q_7, hG⟩ | ⟨q_7, hG⟩
  · clear hF
    obtain ⟨a30, e31, hF⟩ := rf_s hG; clear hG
    obtain ⟨q32, hG⟩ := ck_s hF; clear hF
    obtain ⟨a33, e34, hF⟩ := rf_s hG; clear hG
    obtain ⟨a35, e36, hG⟩ := rf_s hF; clear hF
    obtain ⟨q37, hF⟩ := ck_s hG; clear hG
    obtain ⟨a38, e39, hG⟩ := rf_s hF; clear hF
    obtain ⟨q40, hF⟩ := ck_s hG; clear hG
    obtain ⟨v42, H43, z41, hG⟩ := bC_s hF; clear hF
    replace hm : Mo H H43 := hm.tr ((m_World_placeOf z41)).mo
    obtain ⟨q44, hF⟩ := ck_s hG; clear hG
    obtain ⟨v46, H47, z45, hG⟩ := bC_s hF; clear hF
    replace hm : Mo H H47 := hm.tr ((m_World_read z45)).mo
    have hr := Option.some.inj hG; subst hr
    exact hm
  · clear hF
    cases hG
    exact hm.tr (Mo.nx _ _ _)
set_option maxRecDepth 20000 in
set_option maxHeartbeats 2000000 in
theorem k_W_get {N : Nat} {p0 : Nat} {p1 : Int32} {p2 : Int32} {p3 : Int32} {H : Hp} {r : (Ot Int32) × Hp} {C Sl : Nat} (hF : F_W_get N p0 p1 p2 p3 H = some r) (hC : r.2.sh.length ≤ H.sh.length + C) (hS : r.2.sl ≤ H.sl + Sl) : ab_M y_W_get { frames := 6, cells := C, slots := Sl, locals := 100 } [.ref p0, .int p1, .int p2, .int p3] (hpw H) (po (oI r.1) r.2) := by
  unfold F_W_get at hF
  obtain ⟨c0, e0⟩ : ∃ q, q = H.sh.length := ⟨_, rfl⟩
  obtain ⟨s0, e1⟩ : ∃ q, q = H.sl := ⟨_, rfl⟩
  rw [← e0] at hC
  rw [← e1] at hS
  have hc0 : c0 ≤ H.sh.length := Nat.le_of_eq e0
  have hs0 : s0 ≤ H.sl := Nat.le_of_eq e1
  have hcc : H.sh.length ≤ c0 + C := by omega
  have hss : H.sl ≤ s0 + Sl := by omega
  refine ab_of2 (lv := [some (.ref p0), some (.int p1), some (.int p2), some (.int p3), none]) 1 rfl rfl (Nat.le_of_ble_eq_true rfl) ?_
  refine ab_widen (cells' := H.sh.length - c0) (slots' := H.sl - s0) (Nat.zero_le _) (Nat.zero_le _) ?_
  refine ab_aload_n d_W_get_0 rfl rfl rfl ?_
  refine ab_iload_n d_W_get_1 rfl rfl ?_
  refine ab_iload_n d_W_get_2 rfl rfl ?_
  refine ab_iload_n d_W_get_3 rfl rfl ?_
  obtain ⟨q1, hG⟩ := ck_s hF; clear hF
  obtain ⟨v3, H4, z2, hF⟩ := bC_s hG; clear hG
  refine hp_callV_a (v := .int v3) (H1 := H4) (As := [.int p1, .int p2, .int p3]) (rest := []) d_W_get_4 (k_W_offsetOf z2) (ab_mkC s_W_offsetOf (Nat.le_of_ble_eq_true rfl) (Nat.le_of_ble_eq_true rfl) (show (H.sh.length - c0) + 0 ≤ C from by omega) (show (H.sl - s0) + 0 ≤ Sl from by omega)) (k7 186 rfl rfl) i_W_offsetOf v_W_offsetOf q1 (by decide) rfl rfl (Nat.le_of_ble_eq_true rfl) ?_
  have s_2 : Sa H H4 := (m_W_offsetOf z2)
  refine ab_widen (cells' := H.sh.length - c0) (slots' := H.sl - s0) (by show (H.sh.length - c0) + 0 ≤ _; omega) (by show (H.sl - s0) + 0 ≤ _; omega) ?_
  refine ab_istore (lv' := [some (.ref p0), some (.int p1), some (.int p2), some (.int p3), some (.int v3)]) d_W_get_7 (by decide) rfl ?_
  refine ab_iload d_W_get_9 rfl ?_
  refine ab_if_ge (tgt := 24) d_W_get_11 (by decide) (fun q5 => ?_) (fun q5 => ?_)
  · rw [if_pos q5] at hF
    refine ab_aload_n d_W_get_24 rfl rfl rfl ?_
    obtain ⟨a6, e7, hG⟩ := rf_s hF; clear hF
    refine hp_getR (f := 2) d_W_get_25 (by rw [(s_2).1]; exact q1) (by decide) rfl (by decide) (k3 159 rfl rfl) rfl e7 ?_
    obtain ⟨q8, hF⟩ := ck_s hG; clear hG
    rw [(s_2).1] at q8
    obtain ⟨a9, e10, hG⟩ := rf_s hF; clear hF
    refine hp_getR (f := 0) d_W_get_28 (by rw [(s_2).1]; exact q8) (by decide) rfl (by decide) (k2 131 rfl rfl) rfl e10 ?_
    refine ab_aload_n d_W_get_31 rfl rfl rfl ?_
    obtain ⟨a11, e12, hF⟩ := rf_s hG; clear hG
    refine hp_getR (f := 2) d_W_get_32 (by rw [(s_2).1]; exact q1) (by decide) rfl (by decide) (k3 159 rfl rfl) rfl e12 ?_
    obtain ⟨q13, hG⟩ := ck_s hF; clear hF
    rw [(s_2).1] at q13
    obtain ⟨a14, e15, hF⟩ := rf_s hG; clear hG
    refine hp_getR (f := 0) d_W_get_35 (by rw [(s_2).1]; exact q13) (by decide) rfl (by decide) (k2 131 rfl rfl) rfl e15 ?_
    refine ab_iload_n d_W_get_38 rfl rfl ?_
    obtain ⟨q16, hG⟩ := ck_s hF; clear hF
    rw [(s_2).1] at q16
    obtain ⟨v18, H19, z17, hF⟩ := bC_s hG; clear hG
    refine ab_widen (cells' := H4.sh.length - c0) (slots' := H4.sl - s0) (by rw [(s_2).1]; exact Nat.le_refl _) (by rw [(s_2).2]; exact Nat.le_refl _) ?_
    have b_3e := congrArg List.length (s_2).1
    have b_3f := (s_2).2
    refine hp_callV_a (v := .int v18) (H1 := H19) (As := [.int p1]) (rest := [.ref a9]) d_W_get_39 (k_World_placeOf z17) (ab_mkC s_World_placeOf (Nat.le_of_ble_eq_true rfl) (Nat.le_of_ble_eq_true rfl) (show (H4.sh.length - c0) + 0 ≤ C from by omega) (show (H4.sl - s0) + 0 ≤ Sl from by omega)) (k7 177 rfl rfl) i_World_placeOf v_World_placeOf (by rw [(s_2).1]; exact q16) (by decide) rfl rfl (Nat.le_of_ble_eq_true rfl) ?_
    have s_4 : Sa H H19 := (s_2).tr (m_World_placeOf z17)
    refine ab_widen (cells' := H.sh.length - c0) (slots' := H.sl - s0) (by show (H4.sh.length - c0) + 0 ≤ _; omega) (by show (H4.sl - s0) + 0 ≤ _; omega) ?_
    clear b_3e b_3f
    refine ab_iload d_W_get_42 rfl ?_
    obtain ⟨q20, hG⟩ := ck_s hF; clear hF
    rw [(s_4).1] at q20
    obtain ⟨v22, H23, z21, hF⟩ := bC_s hG; clear hG
    refine ab_widen (cells' := H19.sh.length - c0) (slots' := H19.sl - s0) (by rw [(s_4).1]; exact Nat.le_refl _) (by rw [(s_4).2]; exact Nat.le_refl _) ?_
    have b_5e := congrArg List.length (s_4).1
    have b_5f := (s_4).2
    refine hp_callV_a (v := .int v22) (H1 := H23) (As := [.int v18, .int v3]) (rest := []) d_W_get_44 (k_World_read z21) (ab_mkC s_World_read (Nat.le_of_ble_eq_true rfl) (Nat.le_of_ble_eq_true rfl) (show (H19.sh.length - c0) + 0 ≤ C from by omega) (show (H19.sl - s0) + 0 ≤ Sl from by omega)) (k8 138 rfl rfl) i_World_read v_World_read (by rw [(s_4).1]; exact q20) (by decide) rfl rfl (Nat.le_of_ble_eq_true rfl) ?_
    have s_6 : Sa H H23 := (s_4).tr (m_World_read z21)
    refine ab_widen (cells' := H.sh.length - c0) (slots' := H.sl - s0) (by show (H19.sh.length - c0) + 0 ≤ _; omega) (by show (H19.sl - s0) + 0 ≤ _; omega) ?_
    clear b_5e b_5f
    exact ab_iret d_W_get_47 rfl (by show _ ≤ C; omega) (by show _ ≤ Sl; omega) (by have hr := Option.some.inj hF; subst hr; exact ⟨rfl, rfl⟩)
  · rw [if_neg q5] at hF
    obtain ⟨H24, eH24⟩ : ∃ K, K = H4.nx (18, 0) 6 := ⟨_, rfl⟩
    rw [← eH24] at hF
    cases hF
    have bx : H24.sh.length = H4.sh.length + 1 := by rw [eH24]; simp [Hp.nx, mkH_sh]
    have by_ : H24.sl = H4.sl + 6 := by rw [eH24]; rfl
    have hC9 : H24.sh.length ≤ c0 + C := hC
    have hS9 : H24.sl ≤ s0 + Sl := hS
    have be := congrArg List.length (s_2).1
    have bfx := (s_2).2
    exact hp_throwN (ci := 18) (names := ["java/lang/Exception"]) (k0 := 8) d_W_get_14 d_W_get_17 d_W_get_18 d_W_get_20 d_W_get_23 rfl (k8 122 rfl rfl) (k8 123 rfl rfl) (k1 30 rfl rfl) (by decide +kernel) (by decide +kernel) (by decide +kernel) nse_0 nse_1 nse_2 nse_5 ow_NSE (List.mem_of_getElem? (i := 9) rfl) rfl rfl rfl rfl (by show _ ≤ C; omega) (by show _ ≤ Sl; omega) (by show _ ≤ C; omega) (by show _ ≤ Sl; omega) (Nat.le_of_ble_eq_true rfl) (Nat.le_of_ble_eq_true rfl) (by decide) rfl (by rw [← eH24]; exact ⟨rfl, rfl⟩)
def y_Law_get : ab_Y := (⟨"WorldEngineLaw", "get", "(LWorldEngine;III[J)I"⟩, method_3_code, 6, (some FieldType.int), [(0, 12, 15, 13)])
theorem d_Law_get_0 : decode y_Law_get.2.1 0 = .ok (.aload 4, 2) := by decide +kernel
theorem d_Law_get_2 : decode y_Law_get.2.1 2 = .ok (.iconst 0, 1) := by decide +kernel
theorem d_Law_get_3 : decode y_Law_get.2.1 3 = .ok (.aload_n 0, 1) := by decide +kernel
theorem d_Law_get_4 : decode y_Law_get.2.1 4 = .ok (.iload_n 1, 1) := by decide +kernel
theorem d_Law_get_5 : decode y_Law_get.2.1 5 = .ok (.iload_n 2, 1) := by decide +kernel
theorem d_Law_get_6 : decode y_Law_get.2.1 6 = .ok (.iload_n 3, 1) := by decide +kernel
theorem d_Law_get_7 : decode y_Law_get.2.1 7 = .ok (.invokevirtual 7, 3) := by decide +kernel
theorem d_Law_get_10 : decode y_Law_get.2.1 10 = .ok (.i2l, 1) := by decide +kernel
theorem d_Law_get_11 : decode y_Law_get.2.1 11 = .ok (.lastore, 1) := by decide +kernel
theorem d_Law_get_12 : decode y_Law_get.2.1 12 = .ok (.goto 7, 3) := by decide +kernel
theorem d_Law_get_15 : decode y_Law_get.2.1 15 = .ok (.astore 5, 2) := by decide +kernel
theorem d_Law_get_17 : decode y_Law_get.2.1 17 = .ok (.iconst 1, 1) := by decide +kernel
theorem d_Law_get_18 : decode y_Law_get.2.1 18 = .ok (.ireturn, 1) := by decide +kernel
theorem d_Law_get_19 : decode y_Law_get.2.1 19 = .ok (.iconst 0, 1) := by decide +kernel
theorem d_Law_get_20 : decode y_Law_get.2.1 20 = .ok (.ireturn, 1) := by decide +kernel
theorem s_Law_get : ab_Stat y_Law_get 5 := ⟨(k8 116 rfl rfl), (k1 0 rfl rfl), ⟨by decide, by decide⟩, by decide +kernel⟩
theorem t_Law_get : Cond.static y_Law_get.1 ∈ ab_T := (k8 115 rfl rfl)
def B_Law_get_15 (N : Nat) (p0 : Nat) (p1 : Int32) (p2 : Int32) (p3 : Int32) (p4 : Nat) (w0 : Nat) (H : Hp) : Option (Int32 × Hp) :=
    some (1, H)
set_option maxRecDepth 20000 in
set_option maxHeartbeats 2000000 in
theorem mB_Law_get_15 {N : Nat} {p0 : Nat} {p1 : Int32} {p2 : Int32} {p3 : Int32} {p4 : Nat} {w0 : Nat} {H : Hp} {r : Int32 × Hp} (hF : B_Law_get_15 N p0 p1 p2 p3 p4 w0 H = some r) : Mo H r.2 := by
  unfold B_Law_get_15 at hF
  have hm := Mo.rf H
  have hr := Option.some.inj hF; subst hr
  exact hm
set_option maxRecDepth 20000 in
set_option maxHeartbeats 2000000 in
theorem kB_Law_get_15 {N : Nat} {p0 : Nat} {p1 : Int32} {p2 : Int32} {p3 : Int32} {p4 : Nat} {c0 s0 C Sl : Nat} {w0 : Nat} {H : Hp} {r : Int32 × Hp} (hF : B_Law_get_15 N p0 p1 p2 p3 p4 w0 H = some r) (hc0 : c0 ≤ H.sh.length) (hs0 : s0 ≤ H.sl) (hcc : H.sh.length ≤ c0 + C) (hss : H.sl ≤ s0 + Sl) (hC : r.2.sh.length ≤ c0 + C) (hS : r.2.sl ≤ s0 + Sl) : ab_V y_Law_get { frames := 7, cells := C, slots := Sl, locals := 124 } (po (.returned (some (.int r.1))) r.2) C Sl (H.sh.length - c0) (H.sl - s0) 15 [some (.ref p0), some (.int p1), some (.int p2), some (.int p3), some (.ref p4), none] [.ref w0] (hpw H) := by
  unfold B_Law_get_15 at hF
  refine ab_astore (lv' := [some (.ref p0), some (.int p1), some (.int p2), some (.int p3), some (.ref p4), some (.ref w0)]) d_Law_get_15 (by decide) rfl rfl ?_
  refine ab_iconst (v := 1) d_Law_get_17 (by decide) ?_
  exact ab_iret d_Law_get_18 rfl (by show _ ≤ C; omega) (by show _ ≤ Sl; omega) (by have hr := Option.some.inj hF; subst hr; exact ⟨rfl, rfl⟩)
def F_Law_get (N : Nat) (p0 : Nat) (p1 : Int32) (p2 : Int32) (p3 : Int32) (p4 : Nat) (H : Hp) : Option (Int32 × Hp) :=
    ck (H.sh[p0]? = some (0, 0)) <|
    bH (F_W_get N p0 p1 p2 p3 H) (fun v3 H4 =>
    ar H4 104 p4 fun n7 =>
    ck (inb (0 : Int32) n7) <|
    bnd (H4.sL p4 ((0 : Int32)).toNatClampNeg ((v3 : Int32).toInt64)) fun H10 =>
    some (0, H10))
    (fun x5 H4 =>
    ck (H4.sh[x5]? = some (18, 0)) <|
    B_Law_get_15 N p0 p1 p2 p3 p4 x5 H4)
set_option maxRecDepth 20000 in
set_option maxHeartbeats 2000000 in
theorem m_Law_get {N : Nat} {p0 : Nat} {p1 : Int32} {p2 : Int32} {p3 : Int32} {p4 : Nat} {H : Hp} {r : Int32 × Hp} (hF : F_Law_get N p0 p1 p2 p3 p4 H = some r) : Mo H r.2 := by
  unfold F_Law_get at hF
  have hm := Mo.rf H
  obtain ⟨q11, hG⟩ := ck_s hF; clear hF
  refine bH_c hG (fun x15 H14 z12 hF => ?_) (fun v13 H14 z12 hF => ?_)
  · clear hG
    replace hm : Mo H H14 := hm.tr (m_W_get z12)
    obtain ⟨q16, hG⟩ := ck_s hF; clear hF
    exact hm.tr (mB_Law_get_15 hG)
  clear hG
  replace hm : Mo H H14 := hm.tr (m_W_get z12)
  obtain ⟨n17, q18, hG⟩ := ar_s hF; clear hF
  obtain ⟨q19, hF⟩ := ck_s hG; clear hG
  obtain ⟨H20, eH20, hG⟩ := bnd_g hF; clear hF
  replace hm : Mo H H20 := by rw [eH20]; exact hm
  have hr := Option.some.inj hG; subst hr
  exact hm
set_option maxRecDepth 20000 in
set_option maxHeartbeats 2000000 in
theorem k_Law_get {N : Nat} {p0 : Nat} {p1 : Int32} {p2 : Int32} {p3 : Int32} {p4 : Nat} {H : Hp} {r : Int32 × Hp} {C Sl : Nat} (hF : F_Law_get N p0 p1 p2 p3 p4 H = some r) (hC : r.2.sh.length ≤ H.sh.length + C) (hS : r.2.sl ≤ H.sl + Sl) : ab_M y_Law_get { frames := 7, cells := C, slots := Sl, locals := 124 } [.ref p0, .int p1, .int p2, .int p3, .ref p4] (hpw H) (po (.returned (some (.int r.1))) r.2) := by
  unfold F_Law_get at hF
  obtain ⟨c0, e0⟩ : ∃ q, q = H.sh.length := ⟨_, rfl⟩
  obtain ⟨s0, e1⟩ : ∃ q, q = H.sl := ⟨_, rfl⟩
  rw [← e0] at hC
  rw [← e1] at hS
  have hc0 : c0 ≤ H.sh.length := Nat.le_of_eq e0
  have hs0 : s0 ≤ H.sl := Nat.le_of_eq e1
  have hcc : H.sh.length ≤ c0 + C := by omega
  have hss : H.sl ≤ s0 + Sl := by omega
  refine ab_of2 (lv := [some (.ref p0), some (.int p1), some (.int p2), some (.int p3), some (.ref p4), none]) 1 rfl rfl (Nat.le_of_ble_eq_true rfl) ?_
  refine ab_widen (cells' := H.sh.length - c0) (slots' := H.sl - s0) (Nat.zero_le _) (Nat.zero_le _) ?_
  refine ab_aload d_Law_get_0 rfl rfl ?_
  refine ab_iconst (v := 0) d_Law_get_2 (by decide) ?_
  refine ab_aload_n d_Law_get_3 rfl rfl rfl ?_
  refine ab_iload_n d_Law_get_4 rfl rfl ?_
  refine ab_iload_n d_Law_get_5 rfl rfl ?_
  refine ab_iload_n d_Law_get_6 rfl rfl ?_
  obtain ⟨q1, hG⟩ := ck_s hF; clear hF
  refine bH_c hG (fun x5 H4 z2 hF => ?_) (fun v3 H4 z2 hF => ?_)
  · clear hG
    have mz : Mo H H4 := (m_W_get z2)
    have b_1l := (mz).len
    have b_1s := (mz).2
    have b_1c : c0 ≤ H4.sh.length := by omega
    have b_1d : s0 ≤ H4.sl := by omega
    obtain ⟨q6, hG⟩ := ck_s hF; clear hF
    have fH4 : Mo H4 r.2 := by
      have hm := Mo.rf H4
      exact hm.tr (mB_Law_get_15 hG)
    have b_1m := (fH4).len
    have b_1n := (fH4).2
    have b_1p : H4.sh.length ≤ c0 + C := by omega
    have b_1q : H4.sl ≤ s0 + Sl := by omega
    refine hp_callV_t (x := x5) (H1 := H4) (As := [.int p1, .int p2, .int p3]) (rest := [.int 0, .ref p4]) d_Law_get_7 (k_W_get z2 (C := H4.sh.length - H.sh.length) (Sl := H4.sl - H.sl) (by show H4.sh.length ≤ _; omega) (by show H4.sl ≤ _; omega)) (ab_mkC s_W_get (Nat.le_of_ble_eq_true rfl) (Nat.le_of_ble_eq_true rfl) (show (H.sh.length - c0) + (H4.sh.length - H.sh.length) ≤ C from by omega) (show (H.sl - s0) + (H4.sl - H.sl) ≤ Sl from by omega)) (k8 118 rfl rfl) i_W_get v_W_get q1 (by decide) rfl rfl (Nat.le_of_ble_eq_true rfl) ?_
    refine ab_U_catch rfl rfl (by decide) (k8 117 rfl rfl) (hp_ob q6 (by decide)) rfl ?_
    refine ab_widen (cells' := H4.sh.length - c0) (slots' := H4.sl - s0) (by show _ + (H4.sh.length - H.sh.length) ≤ _; omega) (by show _ + (H4.sl - H.sl) ≤ _; omega) ?_
    exact kB_Law_get_15 hG b_1c b_1d b_1p b_1q hC hS
  clear hG
  have mz_2 : Mo H H4 := (m_W_get z2)
  have b_3l := (mz_2).len
  have b_3s := (mz_2).2
  have b_3c : c0 ≤ H4.sh.length := by omega
  have b_3d : s0 ≤ H4.sl := by omega
  have q_4 := (mz_2).get q1
  obtain ⟨n7, q8, hG⟩ := ar_s hF; clear hF
  obtain ⟨q9, hF⟩ := ck_s hG; clear hG
  obtain ⟨H10, eH10, hG⟩ := bnd_g hF; clear hF
  have jH10 : Mo H4 H10 := by rw [eH10]; exact Mo.rf _
  have fH10 : Mo H10 r.2 := by
    have hm := Mo.rf H10
    have hr := Option.some.inj hG; subst hr
    exact hm
  have fH4 : Mo H4 r.2 := jH10.tr fH10
  have b_3m := (fH4).len
  have b_3n := (fH4).2
  have b_3p : H4.sh.length ≤ c0 + C := by omega
  have b_3q : H4.sl ≤ s0 + Sl := by omega
  refine hp_callV_a (v := .int v3) (H1 := H4) (As := [.int p1, .int p2, .int p3]) (rest := [.int 0, .ref p4]) d_Law_get_7 (k_W_get z2 (C := H4.sh.length - H.sh.length) (Sl := H4.sl - H.sl) (by show H4.sh.length ≤ _; omega) (by show H4.sl ≤ _; omega)) (ab_mkC s_W_get (Nat.le_of_ble_eq_true rfl) (Nat.le_of_ble_eq_true rfl) (show (H.sh.length - c0) + (H4.sh.length - H.sh.length) ≤ C from by omega) (show (H.sl - s0) + (H4.sl - H.sl) ≤ Sl from by omega)) (k8 118 rfl rfl) i_W_get v_W_get q1 (by decide) rfl rfl (Nat.le_of_ble_eq_true rfl) ?_
  refine ab_widen (cells' := H4.sh.length - c0) (slots' := H4.sl - s0) (by show _ + (H4.sh.length - H.sh.length) ≤ _; omega) (by show _ + (H4.sl - H.sl) ≤ _; omega) ?_
  clear b_3l b_3s b_3m b_3n
  refine ab_i2l d_Law_get_10 ?_
  refine hp_last d_Law_get_11 tJ q8 q9 ?_
  refine hp_genx eH10 ?_
  have s_6 : Sa H4 H10 := by rw [eH10]; exact Sa.rf _
  refine ab_goto (tgt := 19) d_Law_get_12 (by decide) ?_
  refine ab_iconst (v := 0) d_Law_get_19 (by decide) ?_
  exact ab_iret d_Law_get_20 rfl (by show _ ≤ C; omega) (by show _ ≤ Sl; omega) (by have hr := Option.some.inj hG; subst hr; exact ⟨rfl, rfl⟩)
def y_W_shown : ab_Y := (⟨"WorldEngine", "shown", "(I)I"⟩, prog_1_method_20_code, 2, (some FieldType.int), [])
theorem d_W_shown_0 : decode y_W_shown.2.1 0 = .ok (.iload_n 1, 1) := by decide +kernel
theorem d_W_shown_1 : decode y_W_shown.2.1 1 = .ok (.ifCond .lt 20, 3) := by decide +kernel
theorem d_W_shown_4 : decode y_W_shown.2.1 4 = .ok (.iload_n 1, 1) := by decide +kernel
theorem d_W_shown_5 : decode y_W_shown.2.1 5 = .ok (.aload_n 0, 1) := by decide +kernel
theorem d_W_shown_6 : decode y_W_shown.2.1 6 = .ok (.getfield 28, 3) := by decide +kernel
theorem d_W_shown_9 : decode y_W_shown.2.1 9 = .ok (.getfield 226, 3) := by decide +kernel
theorem d_W_shown_12 : decode y_W_shown.2.1 12 = .ok (.sipush 256, 3) := by decide +kernel
theorem d_W_shown_15 : decode y_W_shown.2.1 15 = .ok (.invokestatic 53, 3) := by decide +kernel
theorem d_W_shown_18 : decode y_W_shown.2.1 18 = .ok (.if_icmp .lt 13, 3) := by decide +kernel
theorem d_W_shown_21 : decode y_W_shown.2.1 21 = .ok (.new 194, 3) := by decide +kernel
theorem d_W_shown_24 : decode y_W_shown.2.1 24 = .ok (.dup, 1) := by decide +kernel
theorem d_W_shown_25 : decode y_W_shown.2.1 25 = .ok (.ldc 229, 2) := by decide +kernel
theorem d_W_shown_27 : decode y_W_shown.2.1 27 = .ok (.invokespecial 198, 3) := by decide +kernel
theorem d_W_shown_30 : decode y_W_shown.2.1 30 = .ok (.athrow, 1) := by decide +kernel
theorem d_W_shown_31 : decode y_W_shown.2.1 31 = .ok (.aload_n 0, 1) := by decide +kernel
theorem d_W_shown_32 : decode y_W_shown.2.1 32 = .ok (.getfield 28, 3) := by decide +kernel
theorem d_W_shown_35 : decode y_W_shown.2.1 35 = .ok (.getfield 231, 3) := by decide +kernel
theorem d_W_shown_38 : decode y_W_shown.2.1 38 = .ok (.aload_n 0, 1) := by decide +kernel
theorem d_W_shown_39 : decode y_W_shown.2.1 39 = .ok (.getfield 28, 3) := by decide +kernel
theorem d_W_shown_42 : decode y_W_shown.2.1 42 = .ok (.getfield 226, 3) := by decide +kernel
theorem d_W_shown_45 : decode y_W_shown.2.1 45 = .ok (.iconst 1, 1) := by decide +kernel
theorem d_W_shown_46 : decode y_W_shown.2.1 46 = .ok (.isub, 1) := by decide +kernel
theorem d_W_shown_47 : decode y_W_shown.2.1 47 = .ok (.iload_n 1, 1) := by decide +kernel
theorem d_W_shown_48 : decode y_W_shown.2.1 48 = .ok (.isub, 1) := by decide +kernel
theorem d_W_shown_49 : decode y_W_shown.2.1 49 = .ok (.sipush 255, 3) := by decide +kernel
theorem d_W_shown_52 : decode y_W_shown.2.1 52 = .ok (.iand, 1) := by decide +kernel
theorem d_W_shown_53 : decode y_W_shown.2.1 53 = .ok (.iaload, 1) := by decide +kernel
theorem d_W_shown_54 : decode y_W_shown.2.1 54 = .ok (.ireturn, 1) := by decide +kernel
theorem s_W_shown : ab_Stat y_W_shown 1 := ⟨(k8 145 rfl rfl), (k1 1 rfl rfl), ⟨by decide, by decide⟩, by decide +kernel⟩
theorem i_W_shown : Cond.instanceMethod y_W_shown.1 ∈ ab_T := (k8 143 rfl rfl)
theorem v_W_shown : Cond.selects "WorldEngine" y_W_shown.1 y_W_shown.1 ∈ ab_T := (k8 144 rfl rfl)
def B_W_shown_21 (N : Nat) (p0 : Nat) (p1 : Int32)  (H : Hp) : Option ((Ot Int32) × Hp) :=
    some (.inr H.sh.length, H.nx (18, 0) 6)
set_option maxRecDepth 20000 in
set_option maxHeartbeats 2000000 in
theorem mB_W_shown_21 {N : Nat} {p0 : Nat} {p1 : Int32}  {H : Hp} {r : (Ot Int32) × Hp} (hF : B_W_shown_21 N p0 p1  H = some r) : Mo H r.2 := by
  unfold B_W_shown_21 at hF
  have hm := Mo.rf H
  cases hF
  exact hm.tr (Mo.nx _ _ _)
set_option maxRecDepth 20000 in
set_option maxHeartbeats 2000000 in
theorem kB_W_shown_21 {N : Nat} {p0 : Nat} {p1 : Int32} {c0 s0 C Sl : Nat}  {H : Hp} {r : (Ot Int32) × Hp} (hF : B_W_shown_21 N p0 p1  H = some r) (hc0 : c0 ≤ H.sh.length) (hs0 : s0 ≤ H.sl) (hcc : H.sh.length ≤ c0 + C) (hss : H.sl ≤ s0 + Sl) (hC : r.2.sh.length ≤ c0 + C) (hS : r.2.sl ≤ s0 + Sl) : ab_V y_W_shown { frames := 6, cells := C, slots := Sl, locals := 100 } (po (oI r.1) r.2) C Sl (H.sh.length - c0) (H.sl - s0) 21 [some (.ref p0), some (.int p1)] [] (hpw H) := by
  unfold B_W_shown_21 at hF
  obtain ⟨H2, eH2⟩ : ∃ K, K = H.nx (18, 0) 6 := ⟨_, rfl⟩
  rw [← eH2] at hF
  cases hF
  have bx : H2.sh.length = H.sh.length + 1 := by rw [eH2]; simp [Hp.nx, mkH_sh]
  have by_ : H2.sl = H.sl + 6 := by rw [eH2]; rfl
  have hC9 : H2.sh.length ≤ c0 + C := hC
  have hS9 : H2.sl ≤ s0 + Sl := hS
  exact hp_throwN (ci := 18) (names := ["java/lang/Exception"]) (k0 := 9) d_W_shown_21 d_W_shown_24 d_W_shown_25 d_W_shown_27 d_W_shown_30 rfl (k8 122 rfl rfl) (k8 123 rfl rfl) (k1 30 rfl rfl) (by decide +kernel) (by decide +kernel) (by decide +kernel) nse_0 nse_1 nse_2 nse_5 ow_NSE (List.mem_of_getElem? (i := 10) rfl) rfl rfl rfl rfl (by show _ ≤ C; omega) (by show _ ≤ Sl; omega) (by show _ ≤ C; omega) (by show _ ≤ Sl; omega) (Nat.le_of_ble_eq_true rfl) (Nat.le_of_ble_eq_true rfl) (by decide) rfl (by rw [← eH2]; exact ⟨rfl, rfl⟩)
def F_W_shown (N : Nat) (p0 : Nat) (p1 : Int32) (H : Hp) : Option ((Ot Int32) × Hp) :=
    if p1 < (0 : Int32) then
    B_W_shown_21 N p0 p1  H
    else
    ck (H.sh[p0]? = some (0, 0)) <|
    rf (H.P p0 2) fun a5 =>
    ck (H.sh[a5]? = some (10, 0)) <|
    bnd ((H.D a5 5)) fun x8 =>
    bC (F_Math_min N x8 (256 : Int32) H) fun v10 H11 =>
    if p1 < v10 then
    rf (H11.P p0 2) fun a13 =>
    ck (H11.sh[a13]? = some (10, 0)) <|
    rf (H11.P a13 4) fun a16 =>
    rf (H11.P p0 2) fun a18 =>
    ck (H11.sh[a18]? = some (10, 0)) <|
    bnd ((H11.D a18 5)) fun x21 =>
    ar H11 100 a16 fun n22 =>
    ck (inb (((x21 - (1 : Int32)) - p1) &&& (255 : Int32)) n22) <|
    bnd ((H11.D a16 ((((x21 - (1 : Int32)) - p1) &&& (255 : Int32))).toNatClampNeg)) fun x25 =>
    some (.inl x25, H11)
    else
    B_W_shown_21 N p0 p1  H11
set_option maxRecDepth 20000 in
set_option maxHeartbeats 2000000 in
theorem m_W_shown {N : Nat} {p0 : Nat} {p1 : Int32} {H : Hp} {r : (Ot Int32) × Hp} (hF : F_W_shown N p0 p1 H = some r) : Mo H r.2 := by
  unfold F_W_shown at hF
  have hm := Mo.rf H
  rcases ite_s hF with ⟨q_3, hG⟩ | ⟨q_3, hG⟩
  · clear hF
    exact hm.tr (mB_W_shown_21 hG)
  · clear hF
    obtain ⟨q27, hF⟩ := ck_s hG; clear hG
    obtain ⟨a28, e29, hG⟩ := rf_s hF; clear hF
    obtain ⟨q30, hF⟩ := ck_s hG; clear hG
    obtain ⟨x31, -, hG⟩ := bnd_g hF; clear hF
    obtain ⟨v33, H34, z32, hF⟩ := bC_s hG; clear hG
    replace hm : Mo H H34 := hm.tr ((m_Math_min z32)).mo
    rcases ite_s hF with ⟨q_4, hG⟩ | ⟨q_4, hG⟩
    · clear hF
      obtain ⟨a36, e37, hF⟩ := rf_s hG; clear hG
      obtain ⟨q38, hG⟩ := ck_s hF; clear hF
      obtain ⟨a39, e40, hF⟩ := rf_s hG; clear hG
      obtain ⟨a41, e42, hG⟩ := rf_s hF; clear hF
      obtain ⟨q43, hF⟩ := ck_s hG; clear hG
      obtain ⟨x44, -, hG⟩ := bnd_g hF; clear hF
      obtain ⟨n45, q46, hF⟩ := ar_s hG; clear hG
      obtain ⟨q47, hG⟩ := ck_s hF; clear hF
      obtain ⟨x48, -, hF⟩ := bnd_g hG; clear hG
      have hr := Option.some.inj hF; subst hr
      exact hm
    · clear hF
      exact hm.tr (mB_W_shown_21 hG)
set_option maxRecDepth 20000 in
set_option maxHeartbeats 2000000 in
theorem k_W_shown {N : Nat} {p0 : Nat} {p1 : Int32} {H : Hp} {r : (Ot Int32) × Hp} {C Sl : Nat} (hF : F_W_shown N p0 p1 H = some r) (hC : r.2.sh.length ≤ H.sh.length + C) (hS : r.2.sl ≤ H.sl + Sl) : ab_M y_W_shown { frames := 6, cells := C, slots := Sl, locals := 100 } [.ref p0, .int p1] (hpw H) (po (oI r.1) r.2) := by
  unfold F_W_shown at hF
  obtain ⟨c0, e0⟩ : ∃ q, q = H.sh.length := ⟨_, rfl⟩
  obtain ⟨s0, e1⟩ : ∃ q, q = H.sl := ⟨_, rfl⟩
  rw [← e0] at hC
  rw [← e1] at hS
  have hc0 : c0 ≤ H.sh.length := Nat.le_of_eq e0
  have hs0 : s0 ≤ H.sl := Nat.le_of_eq e1
  have hcc : H.sh.length ≤ c0 + C := by omega
  have hss : H.sl ≤ s0 + Sl := by omega
  refine ab_of2 (lv := [some (.ref p0), some (.int p1)]) 0 rfl rfl (Nat.le_of_ble_eq_true rfl) ?_
  refine ab_widen (cells' := H.sh.length - c0) (slots' := H.sl - s0) (Nat.zero_le _) (Nat.zero_le _) ?_
  refine ab_iload_n d_W_shown_0 rfl rfl ?_
  refine ab_if_lt (tgt := 21) d_W_shown_1 (by decide) (fun q1 => ?_) (fun q1 => ?_)
  · rw [if_pos q1] at hF
    exact kB_W_shown_21 hF hc0 hs0 hcc hss hC hS
  · rw [if_neg q1] at hF
    refine ab_iload_n d_W_shown_4 rfl rfl ?_
    refine ab_aload_n d_W_shown_5 rfl rfl rfl ?_
    obtain ⟨q4, hG⟩ := ck_s hF; clear hF
    obtain ⟨a5, e6, hF⟩ := rf_s hG; clear hG
    refine hp_getR (f := 2) d_W_shown_6 q4 (by decide) rfl (by decide) (k3 159 rfl rfl) rfl e6 ?_
    obtain ⟨q7, hG⟩ := ck_s hF; clear hF
    refine hp_getI (f := 5) d_W_shown_9 q7 (by decide) rfl (by decide) (k2 141 rfl rfl) rfl ?_
    refine ab_topi (fun x8 ex8 => ?_)
    replace hG := bnd_s ex8 hG
    refine ab_sipush (v := 256) d_W_shown_12 (by decide) ?_
    obtain ⟨v10, H11, z9, hF⟩ := bC_s hG; clear hG
    refine hp_callS_a (v := .int v10) (H1 := H11) (As := [.int x8, .int 256]) (rest := [.int p1]) d_W_shown_15 (k_Math_min z9) (ab_mkC s_Math_min (Nat.le_of_ble_eq_true rfl) (Nat.le_of_ble_eq_true rfl) (show (H.sh.length - c0) + 0 ≤ C from by omega) (show (H.sl - s0) + 0 ≤ Sl from by omega)) (k3 153 rfl rfl) t_Math_min rfl (Nat.le_of_ble_eq_true rfl) ?_
    have s_2 : Sa H H11 := (m_Math_min z9)
    refine ab_widen (cells' := H.sh.length - c0) (slots' := H.sl - s0) (by show (H.sh.length - c0) + 0 ≤ _; omega) (by show (H.sl - s0) + 0 ≤ _; omega) ?_
    refine ab_icmp_lt (tgt := 31) d_W_shown_18 (by decide) (fun q12 => ?_) (fun q12 => ?_)
    · rw [if_pos q12] at hF
      refine ab_aload_n d_W_shown_31 rfl rfl rfl ?_
      obtain ⟨a13, e14, hG⟩ := rf_s hF; clear hF
      refine hp_getR (f := 2) d_W_shown_32 (by rw [(s_2).1]; exact q4) (by decide) rfl (by decide) (k3 159 rfl rfl) rfl e14 ?_
      obtain ⟨q15, hF⟩ := ck_s hG; clear hG
      rw [(s_2).1] at q15
      obtain ⟨a16, e17, hG⟩ := rf_s hF; clear hF
      refine hp_getR (f := 4) d_W_shown_35 (by rw [(s_2).1]; exact q15) (by decide) rfl (by decide) (k2 139 rfl rfl) rfl e17 ?_
      refine ab_aload_n d_W_shown_38 rfl rfl rfl ?_
      obtain ⟨a18, e19, hF⟩ := rf_s hG; clear hG
      refine hp_getR (f := 2) d_W_shown_39 (by rw [(s_2).1]; exact q4) (by decide) rfl (by decide) (k3 159 rfl rfl) rfl e19 ?_
      obtain ⟨q20, hG⟩ := ck_s hF; clear hF
      rw [(s_2).1] at q20
      refine hp_getI (f := 5) d_W_shown_42 (by rw [(s_2).1]; exact q20) (by decide) rfl (by decide) (k2 141 rfl rfl) rfl ?_
      refine ab_topi (fun x21 ex21 => ?_)
      replace hG := bnd_s ex21 hG
      refine ab_iconst (v := 1) d_W_shown_45 (by decide) ?_
      refine ab_isub d_W_shown_46 ?_
      refine ab_iload_n d_W_shown_47 rfl rfl ?_
      refine ab_isub d_W_shown_48 ?_
      refine ab_sipush (v := 255) d_W_shown_49 (by decide) ?_
      refine ab_iand d_W_shown_52 ?_
      obtain ⟨n22, q23, hF⟩ := ar_s hG; clear hG
      rw [(s_2).1] at q23
      obtain ⟨q24, hG⟩ := ck_s hF; clear hF
      refine hp_iald d_W_shown_53 tI (by rw [(s_2).1]; exact q23) q24 ?_
      refine ab_topi (fun x25 ex25 => ?_)
      replace hG := bnd_s ex25 hG
      exact ab_iret d_W_shown_54 rfl (by show _ ≤ C; omega) (by show _ ≤ Sl; omega) (by have hr := Option.some.inj hG; subst hr; exact ⟨rfl, rfl⟩)
    · rw [if_neg q12] at hF
      refine ab_widen (cells' := H11.sh.length - c0) (slots' := H11.sl - s0) (by rw [(s_2).1]; exact Nat.le_refl _) (by rw [(s_2).2]; exact Nat.le_refl _) ?_
      exact kB_W_shown_21 hF (by rw [(s_2).1]; exact hc0) (by rw [(s_2).2]; exact hs0) (by rw [(s_2).1]; exact hcc) (by rw [(s_2).2]; exact hss) hC hS
def y_Law_shown : ab_Y := (⟨"WorldEngineLaw", "shown", "(LWorldEngine;I[J)I"⟩, method_4_code, 4, (some FieldType.int), [(0, 9, 12, 13)])
theorem d_Law_shown_0 : decode y_Law_shown.2.1 0 = .ok (.aload_n 2, 1) := by decide +kernel
theorem d_Law_shown_1 : decode y_Law_shown.2.1 1 = .ok (.iconst 0, 1) := by decide +kernel
theorem d_Law_shown_2 : decode y_Law_shown.2.1 2 = .ok (.aload_n 0, 1) := by decide +kernel
theorem d_Law_shown_3 : decode y_Law_shown.2.1 3 = .ok (.iload_n 1, 1) := by decide +kernel
theorem d_Law_shown_4 : decode y_Law_shown.2.1 4 = .ok (.invokevirtual 15, 3) := by decide +kernel
theorem d_Law_shown_7 : decode y_Law_shown.2.1 7 = .ok (.i2l, 1) := by decide +kernel
theorem d_Law_shown_8 : decode y_Law_shown.2.1 8 = .ok (.lastore, 1) := by decide +kernel
theorem d_Law_shown_9 : decode y_Law_shown.2.1 9 = .ok (.goto 6, 3) := by decide +kernel
theorem d_Law_shown_12 : decode y_Law_shown.2.1 12 = .ok (.astore_n 3, 1) := by decide +kernel
theorem d_Law_shown_13 : decode y_Law_shown.2.1 13 = .ok (.iconst 1, 1) := by decide +kernel
theorem d_Law_shown_14 : decode y_Law_shown.2.1 14 = .ok (.ireturn, 1) := by decide +kernel
theorem d_Law_shown_15 : decode y_Law_shown.2.1 15 = .ok (.iconst 0, 1) := by decide +kernel
theorem d_Law_shown_16 : decode y_Law_shown.2.1 16 = .ok (.ireturn, 1) := by decide +kernel
theorem s_Law_shown : ab_Stat y_Law_shown 3 := ⟨(k8 141 rfl rfl), (k1 0 rfl rfl), ⟨by decide, by decide⟩, by decide +kernel⟩
theorem t_Law_shown : Cond.static y_Law_shown.1 ∈ ab_T := (k8 140 rfl rfl)
def B_Law_shown_12 (N : Nat) (p0 : Nat) (p1 : Int32) (p2 : Nat) (w0 : Nat) (H : Hp) : Option (Int32 × Hp) :=
    some (1, H)
set_option maxRecDepth 20000 in
set_option maxHeartbeats 2000000 in
theorem mB_Law_shown_12 {N : Nat} {p0 : Nat} {p1 : Int32} {p2 : Nat} {w0 : Nat} {H : Hp} {r : Int32 × Hp} (hF : B_Law_shown_12 N p0 p1 p2 w0 H = some r) : Mo H r.2 := by
  unfold B_Law_shown_12 at hF
  have hm := Mo.rf H
  have hr := Option.some.inj hF; subst hr
  exact hm
set_option maxRecDepth 20000 in
set_option maxHeartbeats 2000000 in
theorem kB_Law_shown_12 {N : Nat} {p0 : Nat} {p1 : Int32} {p2 : Nat} {c0 s0 C Sl : Nat} {w0 : Nat} {H : Hp} {r : Int32 × Hp} (hF : B_Law_shown_12 N p0 p1 p2 w0 H = some r) (hc0 : c0 ≤ H.sh.length) (hs0 : s0 ≤ H.sl) (hcc : H.sh.length ≤ c0 + C) (hss : H.sl ≤ s0 + Sl) (hC : r.2.sh.length ≤ c0 + C) (hS : r.2.sl ≤ s0 + Sl) : ab_V y_Law_shown { frames := 7, cells := C, slots := Sl, locals := 121 } (po (.returned (some (.int r.1))) r.2) C Sl (H.sh.length - c0) (H.sl - s0) 12 [some (.ref p0), some (.int p1), some (.ref p2), none] [.ref w0] (hpw H) := by
  unfold B_Law_shown_12 at hF
  refine ab_astore_n (lv' := [some (.ref p0), some (.int p1), some (.ref p2), some (.ref w0)]) d_Law_shown_12 rfl (by decide) rfl rfl ?_
  refine ab_iconst (v := 1) d_Law_shown_13 (by decide) ?_
  exact ab_iret d_Law_shown_14 rfl (by show _ ≤ C; omega) (by show _ ≤ Sl; omega) (by have hr := Option.some.inj hF; subst hr; exact ⟨rfl, rfl⟩)
def F_Law_shown (N : Nat) (p0 : Nat) (p1 : Int32) (p2 : Nat) (H : Hp) : Option (Int32 × Hp) :=
    ck (H.sh[p0]? = some (0, 0)) <|
    bH (F_W_shown N p0 p1 H) (fun v3 H4 =>
    ar H4 104 p2 fun n7 =>
    ck (inb (0 : Int32) n7) <|
    bnd (H4.sL p2 ((0 : Int32)).toNatClampNeg ((v3 : Int32).toInt64)) fun H10 =>
    some (0, H10))
    (fun x5 H4 =>
    ck (H4.sh[x5]? = some (18, 0)) <|
    B_Law_shown_12 N p0 p1 p2 x5 H4)
set_option maxRecDepth 20000 in
set_option maxHeartbeats 2000000 in
theorem m_Law_shown {N : Nat} {p0 : Nat} {p1 : Int32} {p2 : Nat} {H : Hp} {r : Int32 × Hp} (hF : F_Law_shown N p0 p1 p2 H = some r) : Mo H r.2 := by
  unfold F_Law_shown at hF
  have hm := Mo.rf H
  obtain ⟨q11, hG⟩ := ck_s hF; clear hF
  refine bH_c hG (fun x15 H14 z12 hF => ?_) (fun v13 H14 z12 hF => ?_)
  · clear hG
    replace hm : Mo H H14 := hm.tr (m_W_shown z12)
    obtain ⟨q16, hG⟩ := ck_s hF; clear hF
    exact hm.tr (mB_Law_shown_12 hG)
  clear hG
  replace hm : Mo H H14 := hm.tr (m_W_shown z12)
  obtain ⟨n17, q18, hG⟩ := ar_s hF; clear hF
  obtain ⟨q19, hF⟩ := ck_s hG; clear hG
  obtain ⟨H20, eH20, hG⟩ := bnd_g hF; clear hF
  replace hm : Mo H H20 := by rw [eH20]; exact hm
  have hr := Option.some.inj hG; subst hr
  exact hm
set_option maxRecDepth 20000 in
set_option maxHeartbeats 2000000 in
theorem k_Law_shown {N : Nat} {p0 : Nat} {p1 : Int32} {p2 : Nat} {H : Hp} {r : Int32 × Hp} {C Sl : Nat} (hF : F_Law_shown N p0 p1 p2 H = some r) (hC : r.2.sh.length ≤ H.sh.length + C) (hS : r.2.sl ≤ H.sl + Sl) : ab_M y_Law_shown { frames := 7, cells := C, slots := Sl, locals := 121 } [.ref p0, .int p1, .ref p2] (hpw H) (po (.returned (some (.int r.1))) r.2) := by
  unfold F_Law_shown at hF
  obtain ⟨c0, e0⟩ : ∃ q, q = H.sh.length := ⟨_, rfl⟩
  obtain ⟨s0, e1⟩ : ∃ q, q = H.sl := ⟨_, rfl⟩
  rw [← e0] at hC
  rw [← e1] at hS
  have hc0 : c0 ≤ H.sh.length := Nat.le_of_eq e0
  have hs0 : s0 ≤ H.sl := Nat.le_of_eq e1
  have hcc : H.sh.length ≤ c0 + C := by omega
  have hss : H.sl ≤ s0 + Sl := by omega
  refine ab_of2 (lv := [some (.ref p0), some (.int p1), some (.ref p2), none]) 1 rfl rfl (Nat.le_of_ble_eq_true rfl) ?_
  refine ab_widen (cells' := H.sh.length - c0) (slots' := H.sl - s0) (Nat.zero_le _) (Nat.zero_le _) ?_
  refine ab_aload_n d_Law_shown_0 rfl rfl rfl ?_
  refine ab_iconst (v := 0) d_Law_shown_1 (by decide) ?_
  refine ab_aload_n d_Law_shown_2 rfl rfl rfl ?_
  refine ab_iload_n d_Law_shown_3 rfl rfl ?_
  obtain ⟨q1, hG⟩ := ck_s hF; clear hF
  refine bH_c hG (fun x5 H4 z2 hF => ?_) (fun v3 H4 z2 hF => ?_)
  · clear hG
    have mz : Mo H H4 := (m_W_shown z2)
    have b_1l := (mz).len
    have b_1s := (mz).2
    have b_1c : c0 ≤ H4.sh.length := by omega
    have b_1d : s0 ≤ H4.sl := by omega
    obtain ⟨q6, hG⟩ := ck_s hF; clear hF
    have fH4 : Mo H4 r.2 := by
      have hm := Mo.rf H4
      exact hm.tr (mB_Law_shown_12 hG)
    have b_1m := (fH4).len
    have b_1n := (fH4).2
    have b_1p : H4.sh.length ≤ c0 + C := by omega
    have b_1q : H4.sl ≤ s0 + Sl := by omega
    refine hp_callV_t (x := x5) (H1 := H4) (As := [.int p1]) (rest := [.int 0, .ref p2]) d_Law_shown_4 (k_W_shown z2 (C := H4.sh.length - H.sh.length) (Sl := H4.sl - H.sl) (by show H4.sh.length ≤ _; omega) (by show H4.sl ≤ _; omega)) (ab_mkC s_W_shown (Nat.le_of_ble_eq_true rfl) (Nat.le_of_ble_eq_true rfl) (show (H.sh.length - c0) + (H4.sh.length - H.sh.length) ≤ C from by omega) (show (H.sl - s0) + (H4.sl - H.sl) ≤ Sl from by omega)) (k8 142 rfl rfl) i_W_shown v_W_shown q1 (by decide) rfl rfl (Nat.le_of_ble_eq_true rfl) ?_
    refine ab_U_catch rfl rfl (by decide) (k8 117 rfl rfl) (hp_ob q6 (by decide)) rfl ?_
    refine ab_widen (cells' := H4.sh.length - c0) (slots' := H4.sl - s0) (by show _ + (H4.sh.length - H.sh.length) ≤ _; omega) (by show _ + (H4.sl - H.sl) ≤ _; omega) ?_
    exact kB_Law_shown_12 hG b_1c b_1d b_1p b_1q hC hS
  clear hG
  have mz_2 : Mo H H4 := (m_W_shown z2)
  have b_3l := (mz_2).len
  have b_3s := (mz_2).2
  have b_3c : c0 ≤ H4.sh.length := by omega
  have b_3d : s0 ≤ H4.sl := by omega
  have q_4 := (mz_2).get q1
  obtain ⟨n7, q8, hG⟩ := ar_s hF; clear hF
  obtain ⟨q9, hF⟩ := ck_s hG; clear hG
  obtain ⟨H10, eH10, hG⟩ := bnd_g hF; clear hF
  have jH10 : Mo H4 H10 := by rw [eH10]; exact Mo.rf _
  have fH10 : Mo H10 r.2 := by
    have hm := Mo.rf H10
    have hr := Option.some.inj hG; subst hr
    exact hm
  have fH4 : Mo H4 r.2 := jH10.tr fH10
  have b_3m := (fH4).len
  have b_3n := (fH4).2
  have b_3p : H4.sh.length ≤ c0 + C := by omega
  have b_3q : H4.sl ≤ s0 + Sl := by omega
  refine hp_callV_a (v := .int v3) (H1 := H4) (As := [.int p1]) (rest := [.int 0, .ref p2]) d_Law_shown_4 (k_W_shown z2 (C := H4.sh.length - H.sh.length) (Sl := H4.sl - H.sl) (by show H4.sh.length ≤ _; omega) (by show H4.sl ≤ _; omega)) (ab_mkC s_W_shown (Nat.le_of_ble_eq_true rfl) (Nat.le_of_ble_eq_true rfl) (show (H.sh.length - c0) + (H4.sh.length - H.sh.length) ≤ C from by omega) (show (H.sl - s0) + (H4.sl - H.sl) ≤ Sl from by omega)) (k8 142 rfl rfl) i_W_shown v_W_shown q1 (by decide) rfl rfl (Nat.le_of_ble_eq_true rfl) ?_
  refine ab_widen (cells' := H4.sh.length - c0) (slots' := H4.sl - s0) (by show _ + (H4.sh.length - H.sh.length) ≤ _; omega) (by show _ + (H4.sl - H.sl) ≤ _; omega) ?_
  clear b_3l b_3s b_3m b_3n
  refine ab_i2l d_Law_shown_7 ?_
  refine hp_last d_Law_shown_8 tJ q8 q9 ?_
  refine hp_genx eH10 ?_
  have s_6 : Sa H4 H10 := by rw [eH10]; exact Sa.rf _
  refine ab_goto (tgt := 15) d_Law_shown_9 (by decide) ?_
  refine ab_iconst (v := 0) d_Law_shown_15 (by decide) ?_
  exact ab_iret d_Law_shown_16 rfl (by show _ ≤ C; omega) (by show _ ≤ Sl; omega) (by have hr := Option.some.inj hG; subst hr; exact ⟨rfl, rfl⟩)
