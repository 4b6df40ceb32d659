def y_Integer_bitCount : ab_Y := (⟨"java/lang/Integer", "bitCount", "(I)I"⟩, prog_22_method_49_code, 1, (some FieldType.int), [])
theorem d_Integer_bitCount_0 : decode y_Integer_bitCount.2.1 0 = .ok (.iload_n 0, 1) := by decide +kernel
theorem d_Integer_bitCount_1 : decode y_Integer_bitCount.2.1 1 = .ok (.iload_n 0, 1) := by decide +kernel
theorem d_Integer_bitCount_2 : decode y_Integer_bitCount.2.1 2 = .ok (.iconst 1, 1) := by decide +kernel
theorem d_Integer_bitCount_3 : decode y_Integer_bitCount.2.1 3 = .ok (.iushr, 1) := by decide +kernel
theorem d_Integer_bitCount_4 : decode y_Integer_bitCount.2.1 4 = .ok (.ldc_w 265, 3) := by decide +kernel
theorem d_Integer_bitCount_7 : decode y_Integer_bitCount.2.1 7 = .ok (.iand, 1) := by decide +kernel
theorem d_Integer_bitCount_8 : decode y_Integer_bitCount.2.1 8 = .ok (.isub, 1) := by decide +kernel
theorem d_Integer_bitCount_9 : decode y_Integer_bitCount.2.1 9 = .ok (.istore_n 0, 1) := by decide +kernel
theorem d_Integer_bitCount_10 : decode y_Integer_bitCount.2.1 10 = .ok (.iload_n 0, 1) := by decide +kernel
theorem d_Integer_bitCount_11 : decode y_Integer_bitCount.2.1 11 = .ok (.ldc_w 266, 3) := by decide +kernel
theorem d_Integer_bitCount_14 : decode y_Integer_bitCount.2.1 14 = .ok (.iand, 1) := by decide +kernel
theorem d_Integer_bitCount_15 : decode y_Integer_bitCount.2.1 15 = .ok (.iload_n 0, 1) := by decide +kernel
theorem d_Integer_bitCount_16 : decode y_Integer_bitCount.2.1 16 = .ok (.iconst 2, 1) := by decide +kernel
theorem d_Integer_bitCount_17 : decode y_Integer_bitCount.2.1 17 = .ok (.iushr, 1) := by decide +kernel
theorem d_Integer_bitCount_18 : decode y_Integer_bitCount.2.1 18 = .ok (.ldc_w 266, 3) := by decide +kernel
theorem d_Integer_bitCount_21 : decode y_Integer_bitCount.2.1 21 = .ok (.iand, 1) := by decide +kernel
theorem d_Integer_bitCount_22 : decode y_Integer_bitCount.2.1 22 = .ok (.iadd, 1) := by decide +kernel
theorem d_Integer_bitCount_23 : decode y_Integer_bitCount.2.1 23 = .ok (.istore_n 0, 1) := by decide +kernel
theorem d_Integer_bitCount_24 : decode y_Integer_bitCount.2.1 24 = .ok (.iload_n 0, 1) := by decide +kernel
theorem d_Integer_bitCount_25 : decode y_Integer_bitCount.2.1 25 = .ok (.iload_n 0, 1) := by decide +kernel
theorem d_Integer_bitCount_26 : decode y_Integer_bitCount.2.1 26 = .ok (.iconst 4, 1) := by decide +kernel
theorem d_Integer_bitCount_27 : decode y_Integer_bitCount.2.1 27 = .ok (.iushr, 1) := by decide +kernel
theorem d_Integer_bitCount_28 : decode y_Integer_bitCount.2.1 28 = .ok (.iadd, 1) := by decide +kernel
theorem d_Integer_bitCount_29 : decode y_Integer_bitCount.2.1 29 = .ok (.ldc_w 267, 3) := by decide +kernel
theorem d_Integer_bitCount_32 : decode y_Integer_bitCount.2.1 32 = .ok (.iand, 1) := by decide +kernel
theorem d_Integer_bitCount_33 : decode y_Integer_bitCount.2.1 33 = .ok (.istore_n 0, 1) := by decide +kernel
theorem d_Integer_bitCount_34 : decode y_Integer_bitCount.2.1 34 = .ok (.iload_n 0, 1) := by decide +kernel
theorem d_Integer_bitCount_35 : decode y_Integer_bitCount.2.1 35 = .ok (.iload_n 0, 1) := by decide +kernel
theorem d_Integer_bitCount_36 : decode y_Integer_bitCount.2.1 36 = .ok (.bipush 8, 2) := by decide +kernel
theorem d_Integer_bitCount_38 : decode y_Integer_bitCount.2.1 38 = .ok (.iushr, 1) := by decide +kernel
theorem d_Integer_bitCount_39 : decode y_Integer_bitCount.2.1 39 = .ok (.iadd, 1) := by decide +kernel
theorem d_Integer_bitCount_40 : decode y_Integer_bitCount.2.1 40 = .ok (.istore_n 0, 1) := by decide +kernel
theorem d_Integer_bitCount_41 : decode y_Integer_bitCount.2.1 41 = .ok (.iload_n 0, 1) := by decide +kernel
theorem d_Integer_bitCount_42 : decode y_Integer_bitCount.2.1 42 = .ok (.iload_n 0, 1) := by decide +kernel
theorem d_Integer_bitCount_43 : decode y_Integer_bitCount.2.1 43 = .ok (.bipush 16, 2) := by decide +kernel
theorem d_Integer_bitCount_45 : decode y_Integer_bitCount.2.1 45 = .ok (.iushr, 1) := by decide +kernel
theorem d_Integer_bitCount_46 : decode y_Integer_bitCount.2.1 46 = .ok (.iadd, 1) := by decide +kernel
theorem d_Integer_bitCount_47 : decode y_Integer_bitCount.2.1 47 = .ok (.istore_n 0, 1) := by decide +kernel
theorem d_Integer_bitCount_48 : decode y_Integer_bitCount.2.1 48 = .ok (.iload_n 0, 1) := by decide +kernel
theorem d_Integer_bitCount_49 : decode y_Integer_bitCount.2.1 49 = .ok (.bipush 63, 2) := by decide +kernel
theorem d_Integer_bitCount_51 : decode y_Integer_bitCount.2.1 51 = .ok (.iand, 1) := by decide +kernel
theorem d_Integer_bitCount_52 : decode y_Integer_bitCount.2.1 52 = .ok (.ireturn, 1) := by decide +kernel
theorem s_Integer_bitCount : ab_Stat y_Integer_bitCount 1 := ⟨(k5 69 rfl rfl), (k1 28 rfl rfl), ⟨by decide, by decide⟩, by decide +kernel⟩
theorem t_Integer_bitCount : Cond.static y_Integer_bitCount.1 ∈ ab_T := (k5 68 rfl rfl)
def F_Integer_bitCount (N : Nat) (l0 : Int32) (H : Hp) : Option (Int32 × Hp) :=
    bnd (((l0.toUInt32 >>> (((1 : Int32) : Int32).toUInt32 &&& Int32.toUInt32 31)).toInt32)) fun x1 =>
    bnd ((l0 - (x1 &&& (1431655765 : Int32)))) fun x2 =>
    bnd (((x2.toUInt32 >>> (((2 : Int32) : Int32).toUInt32 &&& Int32.toUInt32 31)).toInt32)) fun x3 =>
    bnd (((x2 &&& (858993459 : Int32)) + (x3 &&& (858993459 : Int32)))) fun x4 =>
    bnd (((x4.toUInt32 >>> (((4 : Int32) : Int32).toUInt32 &&& Int32.toUInt32 31)).toInt32)) fun x5 =>
    bnd (((x4 + x5) &&& (252645135 : Int32))) fun x6 =>
    bnd (((x6.toUInt32 >>> (((8 : Int32) : Int32).toUInt32 &&& Int32.toUInt32 31)).toInt32)) fun x7 =>
    bnd ((((x6 + x7).toUInt32 >>> (((16 : Int32) : Int32).toUInt32 &&& Int32.toUInt32 31)).toInt32)) fun x8 =>
    bnd (((x6 + x7) + x8)) fun x9 =>
    some (x9 &&& (63 : Int32), H)
set_option maxRecDepth 20000 in
set_option maxHeartbeats 2000000 in
theorem m_Integer_bitCount {N : Nat} {l0 : Int32} {H : Hp} {r : Int32 × Hp} (hF : F_Integer_bitCount N l0 H = some r) : Sa H r.2 := by
  unfold F_Integer_bitCount at hF
  have hm := Sa.rf H
  obtain ⟨x10, -, hG⟩ := bnd_g hF; clear hF
  obtain ⟨x11, -, hF⟩ := bnd_g hG; clear hG
  obtain ⟨x12, -, hG⟩ := bnd_g hF; clear hF
  obtain ⟨x13, -, hF⟩ := bnd_g hG; clear hG
  obtain ⟨x14, -, hG⟩ := bnd_g hF; clear hF
  obtain ⟨x15, -, hF⟩ := bnd_g hG; clear hG
  obtain ⟨x16, -, hG⟩ := bnd_g hF; clear hF
  obtain ⟨x17, -, hF⟩ := bnd_g hG; clear hG
  obtain ⟨x18, -, hG⟩ := bnd_g hF; clear hF
  have hr := Option.some.inj hG; subst hr
  exact hm
set_option maxRecDepth 20000 in
set_option maxHeartbeats 2000000 in
theorem k_Integer_bitCount {N : Nat} {l0 : Int32} {H : Hp} {r : Int32 × Hp} (hF : F_Integer_bitCount N l0 H = some r) : ab_M y_Integer_bitCount { frames := 0, cells := 0, slots := 0, locals := 0 } [.int l0] (hpw H) (po (.returned (some (.int r.1))) r.2) := by
  unfold F_Integer_bitCount at hF
  refine ab_of2 (lv := [some (.int l0)]) 0 rfl (by decide +kernel) (Nat.le_of_ble_eq_true rfl) ?_
  refine ab_iload_n d_Integer_bitCount_0 rfl rfl ?_
  refine ab_iload_n d_Integer_bitCount_1 rfl rfl ?_
  refine ab_iconst (v := 1) d_Integer_bitCount_2 (by decide) ?_
  refine ab_iushr d_Integer_bitCount_3 ?_
  refine ab_topi (fun x1 ex1 => ?_)
  replace hF := bnd_s ex1 hF
  refine ab_ldcw d_Integer_bitCount_4 (k5 70 rfl rfl) ?_
  refine ab_iand d_Integer_bitCount_7 ?_
  refine ab_isub d_Integer_bitCount_8 ?_
  refine ab_topi (fun x2 ex2 => ?_)
  replace hF := bnd_s ex2 hF
  refine ab_istore_n (lv' := [some (.int x2)]) d_Integer_bitCount_9 rfl (by decide) rfl ?_
  refine ab_iload_n d_Integer_bitCount_10 rfl rfl ?_
  refine ab_ldcw d_Integer_bitCount_11 (k5 71 rfl rfl) ?_
  refine ab_iand d_Integer_bitCount_14 ?_
  refine ab_iload_n d_Integer_bitCount_15 rfl rfl ?_
  refine ab_iconst (v := 2) d_Integer_bitCount_16 (by decide) ?_
  refine ab_iushr d_Integer_bitCount_17 ?_
  refine ab_topi (fun x3 ex3 => ?_)
  replace hF := bnd_s ex3 hF
  refine ab_ldcw d_Integer_bitCount_18 (k5 71 rfl rfl) ?_
  refine ab_iand d_Integer_bitCount_21 ?_
  refine ab_iadd d_Integer_bitCount_22 ?_
  refine ab_topi (fun x4 ex4 => ?_)
  replace hF := bnd_s ex4 hF
  refine ab_istore_n (lv' := [some (.int x4)]) d_Integer_bitCount_23 rfl (by decide) rfl ?_
  refine ab_iload_n d_Integer_bitCount_24 rfl rfl ?_
  refine ab_iload_n d_Integer_bitCount_25 rfl rfl ?_
  refine ab_iconst (v := 4) d_Integer_bitCount_26 (by decide) ?_
  refine ab_iushr d_Integer_bitCount_27 ?_
  refine ab_topi (fun x5 ex5 => ?_)
  replace hF := bnd_s ex5 hF
  refine ab_iadd d_Integer_bitCount_28 ?_
  refine ab_ldcw d_Integer_bitCount_29 (k5 72 rfl rfl) ?_
  refine ab_iand d_Integer_bitCount_32 ?_
  refine ab_topi (fun x6 ex6 => ?_)
  replace hF := bnd_s ex6 hF
  refine ab_istore_n (lv' := [some (.int x6)]) d_Integer_bitCount_33 rfl (by decide) rfl ?_
  refine ab_iload_n d_Integer_bitCount_34 rfl rfl ?_
  refine ab_iload_n d_Integer_bitCount_35 rfl rfl ?_
  refine ab_bipush (v := 8) d_Integer_bitCount_36 (by decide) ?_
  refine ab_iushr d_Integer_bitCount_38 ?_
  refine ab_topi (fun x7 ex7 => ?_)
  replace hF := bnd_s ex7 hF
  refine ab_iadd d_Integer_bitCount_39 ?_
  refine ab_istore_n (lv' := [some (.int (x6 + x7))]) d_Integer_bitCount_40 rfl (by decide) rfl ?_
  refine ab_iload_n d_Integer_bitCount_41 rfl rfl ?_
  refine ab_iload_n d_Integer_bitCount_42 rfl rfl ?_
  refine ab_bipush (v := 16) d_Integer_bitCount_43 (by decide) ?_
  refine ab_iushr d_Integer_bitCount_45 ?_
  refine ab_topi (fun x8 ex8 => ?_)
  replace hF := bnd_s ex8 hF
  refine ab_iadd d_Integer_bitCount_46 ?_
  refine ab_topi (fun x9 ex9 => ?_)
  replace hF := bnd_s ex9 hF
  refine ab_istore_n (lv' := [some (.int x9)]) d_Integer_bitCount_47 rfl (by decide) rfl ?_
  refine ab_iload_n d_Integer_bitCount_48 rfl rfl ?_
  refine ab_bipush (v := 63) d_Integer_bitCount_49 (by decide) ?_
  refine ab_iand d_Integer_bitCount_51 ?_
  exact ab_iret d_Integer_bitCount_52 rfl (Nat.le_refl _) (Nat.le_refl _) (by have hr := Option.some.inj hF; subst hr; exact ⟨rfl, rfl⟩)
def y_Reader_known : ab_Y := (⟨"WorldEngine$Reader", "known", "(Ljava/lang/String;I)LWorldEngine$Named;"⟩, prog_7_method_5_code, 4, (some (FieldType.object "WorldEngine$Named")), [])
theorem d_Reader_known_0 : decode y_Reader_known.2.1 0 = .ok (.aload_n 0, 1) := by decide +kernel
theorem d_Reader_known_1 : decode y_Reader_known.2.1 1 = .ok (.getfield 22, 3) := by decide +kernel
theorem d_Reader_known_4 : decode y_Reader_known.2.1 4 = .ok (.aload_n 1, 1) := by decide +kernel
theorem d_Reader_known_5 : decode y_Reader_known.2.1 5 = .ok (.invokevirtual 84, 3) := by decide +kernel
theorem d_Reader_known_8 : decode y_Reader_known.2.1 8 = .ok (.astore_n 3, 1) := by decide +kernel
theorem d_Reader_known_9 : decode y_Reader_known.2.1 9 = .ok (.aload_n 3, 1) := by decide +kernel
theorem d_Reader_known_10 : decode y_Reader_known.2.1 10 = .ok (.ifnonnull 12, 3) := by decide +kernel
theorem d_Reader_known_13 : decode y_Reader_known.2.1 13 = .ok (.aload_n 0, 1) := by decide +kernel
theorem d_Reader_known_14 : decode y_Reader_known.2.1 14 = .ok (.getfield 7, 3) := by decide +kernel
theorem d_Reader_known_17 : decode y_Reader_known.2.1 17 = .ok (.iconst 4, 1) := by decide +kernel
theorem d_Reader_known_18 : decode y_Reader_known.2.1 18 = .ok (.iload_n 2, 1) := by decide +kernel
theorem d_Reader_known_19 : decode y_Reader_known.2.1 19 = .ok (.invokevirtual 68, 3) := by decide +kernel
theorem d_Reader_known_22 : decode y_Reader_known.2.1 22 = .ok (.aload_n 3, 1) := by decide +kernel
theorem d_Reader_known_23 : decode y_Reader_known.2.1 23 = .ok (.areturn, 1) := by decide +kernel
theorem s_Reader_known : ab_Stat y_Reader_known 2 := ⟨(k5 76 rfl rfl), (k1 7 rfl rfl), ⟨by decide, by decide⟩, by decide +kernel⟩
theorem i_Reader_known : Cond.instanceMethod y_Reader_known.1 ∈ ab_T := (k5 75 rfl rfl)
theorem v_Reader_known : Cond.selects "WorldEngine$Reader" y_Reader_known.1 y_Reader_known.1 ∈ ab_T := ab_s (List.mem_of_getElem? (i := 16) rfl) rfl
def F_Reader_known (N : Nat) (p0 : Nat) (p1 : Nat) (p2 : Int32) (H : Hp) : Option ((Ot (Option Nat)) × Hp) :=
    ck (H.sh[p0]? = some (5, 0)) <|
    rf (H.P p0 2) fun a2 =>
    ck (H.sh[a2]? = some (4, 0)) <|
    bC (F_Program_find N a2 p1 H) fun v6 H7 =>
    nl v6 (rf (H7.P p0 0) fun a9 =>
    ck (H7.sh[a9]? = some (1, 0)) <|
    bT (F_Lexer_refuse N a9 (4 : Int32) p2 H7) fun v13 H14 =>
    some (.inl none, H14)) fun a8 =>
    some (.inl (some a8), H7)
set_option maxRecDepth 20000 in
set_option maxHeartbeats 2000000 in
theorem m_Reader_known {N : Nat} {p0 : Nat} {p1 : Nat} {p2 : Int32} {H : Hp} {r : (Ot (Option Nat)) × Hp} (hF : F_Reader_known N p0 p1 p2 H = some r) : Mo H r.2 := by
  unfold F_Reader_known at hF
  have hm := Mo.rf H
  obtain ⟨q16, hG⟩ := ck_s hF; clear hF
  obtain ⟨a17, e18, hF⟩ := rf_s hG; clear hG
  obtain ⟨q19, hG⟩ := ck_s hF; clear hF
  obtain ⟨v21, H22, z20, hF⟩ := bC_s hG; clear hG
  replace hm : Mo H H22 := hm.tr ((m_Program_find z20)).mo
  refine nl_c hF (fun ea23 hG => ?_) (fun a23 ea23 hG => ?_)
  · clear hF; subst ea23
    obtain ⟨a24, e25, hF⟩ := rf_s hG; clear hG
    obtain ⟨q26, hG⟩ := ck_s hF; clear hF
    refine bT_c hG (fun x30 H29 z27 er => ?_) (fun v28 H29 z27 hF => ?_)
    · subst er; exact hm.tr (m_Lexer_refuse z27)
    clear hG
    replace hm : Mo H H29 := hm.tr (m_Lexer_refuse z27)
    have hr := Option.some.inj hF; subst hr
    exact hm
  clear hF; subst ea23
  have hr := Option.some.inj hG; subst hr
  exact hm
set_option maxRecDepth 20000 in
set_option maxHeartbeats 2000000 in
theorem k_Reader_known {N : Nat} {p0 : Nat} {p1 : Nat} {p2 : Int32} {H : Hp} {r : (Ot (Option Nat)) × Hp} {C Sl : Nat} (hF : F_Reader_known N p0 p1 p2 H = some r) (hC : r.2.sh.length ≤ H.sh.length + C) (hS : r.2.sl ≤ H.sl + Sl) : ab_M y_Reader_known { frames := 7, cells := C, slots := Sl, locals := 122 } [.ref p0, .ref p1, .int p2] (hpw H) (po (oA r.1) r.2) := by
  unfold F_Reader_known at hF
  obtain ⟨c0, e0⟩ : ∃ q, q = H.sh.length := ⟨_, rfl⟩
  obtain ⟨s0, e1⟩ : ∃ q, q = H.sl := ⟨_, rfl⟩
  rw [← e0] at hC
  rw [← e1] at hS
  have hc0 : c0 ≤ H.sh.length := Nat.le_of_eq e0
  have hs0 : s0 ≤ H.sl := Nat.le_of_eq e1
  have hcc : H.sh.length ≤ c0 + C := by omega
  have hss : H.sl ≤ s0 + Sl := by omega
  refine ab_of2 (lv := [some (.ref p0), some (.ref p1), some (.int p2), none]) 1 rfl rfl (Nat.le_of_ble_eq_true rfl) ?_
  refine ab_widen (cells' := H.sh.length - c0) (slots' := H.sl - s0) (Nat.zero_le _) (Nat.zero_le _) ?_
  refine ab_aload_n d_Reader_known_0 rfl rfl rfl ?_
  obtain ⟨q1, hG⟩ := ck_s hF; clear hF
  obtain ⟨a2, e3, hF⟩ := rf_s hG; clear hG
  refine hp_getR (f := 2) d_Reader_known_1 q1 (by decide) rfl (by decide) (k1 181 rfl rfl) rfl e3 ?_
  refine ab_aload_n d_Reader_known_4 rfl rfl rfl ?_
  obtain ⟨q4, hG⟩ := ck_s hF; clear hF
  obtain ⟨v6, H7, z5, hF⟩ := bC_s hG; clear hG
  refine hp_callV_a (v := ab_rf v6) (H1 := H7) (As := [.ref p1]) (rest := []) d_Reader_known_5 (k_Program_find z5) (ab_mkC s_Program_find (Nat.le_of_ble_eq_true rfl) (Nat.le_of_ble_eq_true rfl) (show (H.sh.length - c0) + 0 ≤ C from by omega) (show (H.sl - s0) + 0 ≤ Sl from by omega)) (k4 239 rfl rfl) i_Program_find v_Program_find q4 (by decide) rfl rfl (Nat.le_of_ble_eq_true rfl) ?_
  have s_2 : Sa H H7 := (m_Program_find z5)
  refine ab_widen (cells' := H.sh.length - c0) (slots' := H.sl - s0) (by show (H.sh.length - c0) + 0 ≤ _; omega) (by show (H.sl - s0) + 0 ≤ _; omega) ?_
  refine nl_c hF (fun ea8 hG => ?_) (fun a8 ea8 hG => ?_)
  · clear hF; subst ea8
    refine ab_astore_n (lv' := [some (.ref p0), some (.ref p1), some (.int p2), some (.null)]) d_Reader_known_8 rfl (by decide) rfl rfl ?_
    refine ab_aload_n d_Reader_known_9 rfl rfl rfl ?_
    refine ab_ifnonnullN d_Reader_known_10 ?_
    refine ab_aload_n d_Reader_known_13 rfl rfl rfl ?_
    obtain ⟨a9, e10, hF⟩ := rf_s hG; clear hG
    refine hp_getR (f := 0) d_Reader_known_14 (by rw [(s_2).1]; exact q1) (by decide) rfl (by decide) (k1 179 rfl rfl) rfl e10 ?_
    refine ab_iconst (v := 4) d_Reader_known_17 (by decide) ?_
    refine ab_iload_n d_Reader_known_18 rfl rfl ?_
    obtain ⟨q11, hG⟩ := ck_s hF; clear hF
    rw [(s_2).1] at q11
    refine bT_c hG (fun x15 H14 z12 er => ?_) (fun v13 H14 z12 hF => ?_)
    · subst er
      refine ab_widen (cells' := H7.sh.length - c0) (slots' := H7.sl - s0) (by rw [(s_2).1]; exact Nat.le_refl _) (by rw [(s_2).2]; exact Nat.le_refl _) ?_
      have mz : Mo H7 H14 := (m_Lexer_refuse z12)
      have ml := mz.len
      have m2 := mz.2
      have be := congrArg List.length (s_2).1
      have bfx := (s_2).2
      have hC9 : H14.sh.length ≤ c0 + C := hC
      have hS9 : H14.sl ≤ s0 + Sl := hS
      refine hp_callV_t (x := x15) (H1 := H14) (As := [.int 4, .int p2]) (rest := []) d_Reader_known_19 (k_Lexer_refuse z12 (C := H14.sh.length - H7.sh.length) (Sl := H14.sl - H7.sl) (by show H14.sh.length ≤ _; omega) (by show H14.sl ≤ _; omega)) (ab_mkC s_Lexer_refuse (Nat.le_of_ble_eq_true rfl) (Nat.le_of_ble_eq_true rfl) (show (H7.sh.length - c0) + (H14.sh.length - H7.sh.length) ≤ C from by omega) (show (H7.sl - s0) + (H14.sl - H7.sl) ≤ Sl from by omega)) (k4 97 rfl rfl) i_Lexer_refuse v_Lexer_refuse (by rw [(s_2).1]; exact q11) (by decide) rfl rfl (Nat.le_of_ble_eq_true rfl) ?_
      exact ab_U_out rfl (by show _ + (H14.sh.length - H7.sh.length) ≤ C; omega) (by show _ + (H14.sl - H7.sl) ≤ Sl; omega) ⟨rfl, rfl⟩
    clear hG
    refine ab_widen (cells' := H7.sh.length - c0) (slots' := H7.sl - s0) (by rw [(s_2).1]; exact Nat.le_refl _) (by rw [(s_2).2]; exact Nat.le_refl _) ?_
    have mz_3 : Mo H7 H14 := (m_Lexer_refuse z12)
    have b_4l := (mz_3).len
    have b_4s := (mz_3).2
    have b_4e := congrArg List.length (s_2).1
    have b_4f := (s_2).2
    have b_4c : c0 ≤ H14.sh.length := by omega
    have b_4d : s0 ≤ H14.sl := by omega
    have q_5 := (mz_3).get (by rw [(s_2).1]; exact q1)
    have q_6 := (mz_3).get (by rw [(s_2).1]; exact q4)
    have q_7 := (mz_3).get (by rw [(s_2).1]; exact q11)
    have fH14 : Mo H14 r.2 := by
      have hm := Mo.rf H14
      have hr := Option.some.inj hF; subst hr
      exact hm
    have b_4m := (fH14).len
    have b_4n := (fH14).2
    have b_4p : H14.sh.length ≤ c0 + C := by omega
    have b_4q : H14.sl ≤ s0 + Sl := by omega
    refine hp_callV_v (H1 := H14) (As := [.int 4, .int p2]) (rest := []) d_Reader_known_19 (k_Lexer_refuse z12 (C := H14.sh.length - H7.sh.length) (Sl := H14.sl - H7.sl) (by show H14.sh.length ≤ _; omega) (by show H14.sl ≤ _; omega)) (ab_mkC s_Lexer_refuse (Nat.le_of_ble_eq_true rfl) (Nat.le_of_ble_eq_true rfl) (show (H7.sh.length - c0) + (H14.sh.length - H7.sh.length) ≤ C from by omega) (show (H7.sl - s0) + (H14.sl - H7.sl) ≤ Sl from by omega)) (k4 97 rfl rfl) i_Lexer_refuse v_Lexer_refuse (by rw [(s_2).1]; exact q11) (by decide) rfl rfl (Nat.le_of_ble_eq_true rfl) ?_
    refine ab_widen (cells' := H14.sh.length - c0) (slots' := H14.sl - s0) (by show _ + (H14.sh.length - H7.sh.length) ≤ _; omega) (by show _ + (H14.sl - H7.sl) ≤ _; omega) ?_
    clear b_4l b_4s b_4m b_4n b_4e b_4f
    refine ab_aload_n d_Reader_known_22 rfl rfl rfl ?_
    exact ab_aret d_Reader_known_23 rfl (Or.inl ⟨_, rfl⟩) rfl (by show _ ≤ C; omega) (by show _ ≤ Sl; omega) (by have hr := Option.some.inj hF; subst hr; exact ⟨rfl, rfl⟩)
  clear hF; subst ea8
  refine ab_astore_n (lv' := [some (.ref p0), some (.ref p1), some (.int p2), some (.ref a8)]) d_Reader_known_8 rfl (by decide) rfl rfl ?_
  refine ab_aload_n d_Reader_known_9 rfl rfl rfl ?_
  refine ab_ifnonnull (tgt := 22) d_Reader_known_10 (by decide) ?_
  refine ab_aload_n d_Reader_known_22 rfl rfl rfl ?_
  exact ab_aret d_Reader_known_23 rfl (Or.inl ⟨_, rfl⟩) rfl (by show _ ≤ C; omega) (by show _ ≤ Sl; omega) (by have hr := Option.some.inj hG; subst hr; exact ⟨rfl, rfl⟩)
def y_Lexer_takeValue : ab_Y := (⟨"WorldEngine$Lexer", "takeValue", "()I"⟩, prog_3_method_19_code, 2, (some FieldType.int), [])
theorem d_Lexer_takeValue_0 : decode y_Lexer_takeValue.2.1 0 = .ok (.aload_n 0, 1) := by decide +kernel
theorem d_Lexer_takeValue_1 : decode y_Lexer_takeValue.2.1 1 = .ok (.getfield 23, 3) := by decide +kernel
theorem d_Lexer_takeValue_4 : decode y_Lexer_takeValue.2.1 4 = .ok (.aload_n 0, 1) := by decide +kernel
theorem d_Lexer_takeValue_5 : decode y_Lexer_takeValue.2.1 5 = .ok (.getfield 65, 3) := by decide +kernel
theorem d_Lexer_takeValue_8 : decode y_Lexer_takeValue.2.1 8 = .ok (.baload, 1) := by decide +kernel
theorem d_Lexer_takeValue_9 : decode y_Lexer_takeValue.2.1 9 = .ok (.ifCond .eq 12, 3) := by decide +kernel
theorem d_Lexer_takeValue_12 : decode y_Lexer_takeValue.2.1 12 = .ok (.aload_n 0, 1) := by decide +kernel
theorem d_Lexer_takeValue_13 : decode y_Lexer_takeValue.2.1 13 = .ok (.iconst 2, 1) := by decide +kernel
theorem d_Lexer_takeValue_14 : decode y_Lexer_takeValue.2.1 14 = .ok (.aload_n 0, 1) := by decide +kernel
theorem d_Lexer_takeValue_15 : decode y_Lexer_takeValue.2.1 15 = .ok (.getfield 71, 3) := by decide +kernel
theorem d_Lexer_takeValue_18 : decode y_Lexer_takeValue.2.1 18 = .ok (.invokevirtual 134, 3) := by decide +kernel
theorem d_Lexer_takeValue_21 : decode y_Lexer_takeValue.2.1 21 = .ok (.aload_n 0, 1) := by decide +kernel
theorem d_Lexer_takeValue_22 : decode y_Lexer_takeValue.2.1 22 = .ok (.getfield 20, 3) := by decide +kernel
theorem d_Lexer_takeValue_25 : decode y_Lexer_takeValue.2.1 25 = .ok (.aload_n 0, 1) := by decide +kernel
theorem d_Lexer_takeValue_26 : decode y_Lexer_takeValue.2.1 26 = .ok (.getfield 65, 3) := by decide +kernel
theorem d_Lexer_takeValue_29 : decode y_Lexer_takeValue.2.1 29 = .ok (.iaload, 1) := by decide +kernel
theorem d_Lexer_takeValue_30 : decode y_Lexer_takeValue.2.1 30 = .ok (.istore_n 1, 1) := by decide +kernel
theorem d_Lexer_takeValue_31 : decode y_Lexer_takeValue.2.1 31 = .ok (.aload_n 0, 1) := by decide +kernel
theorem d_Lexer_takeValue_32 : decode y_Lexer_takeValue.2.1 32 = .ok (.invokevirtual 138, 3) := by decide +kernel
theorem d_Lexer_takeValue_35 : decode y_Lexer_takeValue.2.1 35 = .ok (.iload_n 1, 1) := by decide +kernel
theorem d_Lexer_takeValue_36 : decode y_Lexer_takeValue.2.1 36 = .ok (.ireturn, 1) := by decide +kernel
theorem s_Lexer_takeValue : ab_Stat y_Lexer_takeValue 0 := ⟨(k5 88 rfl rfl), (k1 2 rfl rfl), ⟨by decide, by decide⟩, by decide +kernel⟩
theorem i_Lexer_takeValue : Cond.instanceMethod y_Lexer_takeValue.1 ∈ ab_T := (k5 86 rfl rfl)
theorem v_Lexer_takeValue : Cond.selects "WorldEngine$Lexer" y_Lexer_takeValue.1 y_Lexer_takeValue.1 ∈ ab_T := (k5 87 rfl rfl)
def B_Lexer_takeValue_21 (N : Nat) (p0 : Nat)  (H : Hp) : Option ((Ot Int32) × Hp) :=
    ck (H.sh[p0]? = some (1, 0)) <|
    rf (H.P p0 8) fun a11 =>
    bnd ((H.D p0 11)) fun x13 =>
    ar H 100 a11 fun n14 =>
    ck (inb x13 n14) <|
    bnd ((H.D a11 (x13).toNatClampNeg)) fun x17 =>
    bC (F_Lexer_advance N p0 H) fun v19 H20 =>
    some (.inl x17, H20)
set_option maxRecDepth 20000 in
set_option maxHeartbeats 2000000 in
theorem mB_Lexer_takeValue_21 {N : Nat} {p0 : Nat}  {H : Hp} {r : (Ot Int32) × Hp} (hF : B_Lexer_takeValue_21 N p0  H = some r) : Mo H r.2 := by
  unfold B_Lexer_takeValue_21 at hF
  have hm := Mo.rf H
  obtain ⟨q21, hG⟩ := ck_s hF; clear hF
  obtain ⟨a22, e23, hF⟩ := rf_s hG; clear hG
  obtain ⟨x24, -, hG⟩ := bnd_g hF; clear hF
  obtain ⟨n25, q26, hF⟩ := ar_s hG; clear hG
  obtain ⟨q27, hG⟩ := ck_s hF; clear hF
  obtain ⟨x28, -, hF⟩ := bnd_g hG; clear hG
  obtain ⟨v30, H31, z29, hG⟩ := bC_s hF; clear hF
  replace hm : Mo H H31 := hm.tr ((m_Lexer_advance z29)).mo
  have hr := Option.some.inj hG; subst hr
  exact hm
set_option maxRecDepth 20000 in
set_option maxHeartbeats 2000000 in
theorem kB_Lexer_takeValue_21 {N : Nat} {p0 : Nat} {c0 s0 C Sl : Nat}  {H : Hp} {r : (Ot Int32) × Hp} (hF : B_Lexer_takeValue_21 N p0  H = some r) (hc0 : c0 ≤ H.sh.length) (hs0 : s0 ≤ H.sl) (hcc : H.sh.length ≤ c0 + C) (hss : H.sl ≤ s0 + Sl) (hC : r.2.sh.length ≤ c0 + C) (hS : r.2.sl ≤ s0 + Sl) : ab_V y_Lexer_takeValue { frames := 7, cells := C, slots := Sl, locals := 122 } (po (oI r.1) r.2) C Sl (H.sh.length - c0) (H.sl - s0) 21 [some (.ref p0), none] [] (hpw H) := by
  unfold B_Lexer_takeValue_21 at hF
  refine ab_aload_n d_Lexer_takeValue_21 rfl rfl rfl ?_
  obtain ⟨q10, hG⟩ := ck_s hF; clear hF
  obtain ⟨a11, e12, hF⟩ := rf_s hG; clear hG
  refine hp_getR (f := 8) d_Lexer_takeValue_22 q10 (by decide) rfl (by decide) (k1 110 rfl rfl) rfl e12 ?_
  refine ab_aload_n d_Lexer_takeValue_25 rfl rfl rfl ?_
  refine hp_getI (f := 11) d_Lexer_takeValue_26 q10 (by decide) rfl (by decide) (k1 113 rfl rfl) rfl ?_
  refine ab_topi (fun x13 ex13 => ?_)
  replace hF := bnd_s ex13 hF
  obtain ⟨n14, q15, hG⟩ := ar_s hF; clear hF
  obtain ⟨q16, hF⟩ := ck_s hG; clear hG
  refine hp_iald d_Lexer_takeValue_29 tI q15 q16 ?_
  refine ab_topi (fun x17 ex17 => ?_)
  replace hF := bnd_s ex17 hF
  refine ab_istore_n (lv' := [some (.ref p0), some (.int x17)]) d_Lexer_takeValue_30 rfl (by decide) rfl ?_
  refine ab_aload_n d_Lexer_takeValue_31 rfl rfl rfl ?_
  obtain ⟨v19, H20, z18, hG⟩ := bC_s hF; clear hF
  refine hp_callV_v (H1 := H20) (As := []) (rest := []) d_Lexer_takeValue_32 (k_Lexer_advance z18) (ab_mkC s_Lexer_advance (Nat.le_of_ble_eq_true rfl) (Nat.le_of_ble_eq_true rfl) (show (H.sh.length - c0) + 0 ≤ C from by omega) (show (H.sl - s0) + 0 ≤ Sl from by omega)) (k5 29 rfl rfl) i_Lexer_advance v_Lexer_advance q10 (by decide) rfl rfl (Nat.le_of_ble_eq_true rfl) ?_
  have s_2 : Sa H H20 := (m_Lexer_advance z18)
  refine ab_widen (cells' := H.sh.length - c0) (slots' := H.sl - s0) (by show (H.sh.length - c0) + 0 ≤ _; omega) (by show (H.sl - s0) + 0 ≤ _; omega) ?_
  refine ab_iload_n d_Lexer_takeValue_35 rfl rfl ?_
  exact ab_iret d_Lexer_takeValue_36 rfl (by show _ ≤ C; omega) (by show _ ≤ Sl; omega) (by have hr := Option.some.inj hG; subst hr; exact ⟨rfl, rfl⟩)
def F_Lexer_takeValue (N : Nat) (p0 : Nat) (H : Hp) : Option ((Ot Int32) × Hp) :=
    ck (H.sh[p0]? = some (1, 0)) <|
    rf (H.P p0 9) fun a2 =>
    bnd ((H.D p0 11)) fun x4 =>
    ar H 102 a2 fun n5 =>
    ck (inb x4 n5) <|
    bnd ((H.D a2 (x4).toNatClampNeg)) fun x8 =>
    if x8 = (0 : Int32) then
    B_Lexer_takeValue_21 N p0  H
    else
    bnd ((H.D p0 3)) fun x32 =>
    bT (F_Lexer_refuse N p0 (2 : Int32) x32 H) fun v34 H35 =>
    B_Lexer_takeValue_21 N p0  H35
set_option maxRecDepth 20000 in
set_option maxHeartbeats 2000000 in
theorem m_Lexer_takeValue {N : Nat} {p0 : Nat} {H : Hp} {r : (Ot Int32) × Hp} (hF : F_Lexer_takeValue N p0 H = some r) : Mo H r.2 := by
  unfold F_Lexer_takeValue at hF
  have hm := Mo.rf H
  obtain ⟨q37, hG⟩ := ck_s hF; clear hF
  obtain ⟨a38, e39, hF⟩ := rf_s hG; clear hG
  obtain ⟨x40, -, hG⟩ := bnd_g hF; clear hF
  obtain ⟨n41, q42, hF⟩ := ar_s hG; clear hG
  obtain ⟨q43, hG⟩ := ck_s hF; clear hF
  obtain ⟨x44, -, hF⟩ := bnd_g hG; clear hG
  rcases ite_s hF with ⟨q_7, hG⟩ | ⟨q_7, hG⟩
  · clear hF
    exact hm.tr (mB_Lexer_takeValue_21 hG)
  · clear hF
    obtain ⟨x46, -, hF⟩ := bnd_g hG; clear hG
    refine bT_c hF (fun x50 H49 z47 er => ?_) (fun v48 H49 z47 hG => ?_)
    · subst er; exact hm.tr (m_Lexer_refuse z47)
    clear hF
    replace hm : Mo H H49 := hm.tr (m_Lexer_refuse z47)
    exact hm.tr (mB_Lexer_takeValue_21 hG)
set_option maxRecDepth 20000 in
set_option maxHeartbeats 2000000 in
theorem k_Lexer_takeValue {N : Nat} {p0 : Nat} {H : Hp} {r : (Ot Int32) × Hp} {C Sl : Nat} (hF : F_Lexer_takeValue N p0 H = some r) (hC : r.2.sh.length ≤ H.sh.length + C) (hS : r.2.sl ≤ H.sl + Sl) : ab_M y_Lexer_takeValue { frames := 7, cells := C, slots := Sl, locals := 122 } [.ref p0] (hpw H) (po (oI r.1) r.2) := by
  unfold F_Lexer_takeValue at hF
  obtain ⟨c0, e0⟩ : ∃ q, q = H.sh.length := ⟨_, rfl⟩
  obtain ⟨s0, e1⟩ : ∃ q, q = H.sl := ⟨_, rfl⟩
  rw [← e0] at hC
  rw [← e1] at hS
  have hc0 : c0 ≤ H.sh.length := Nat.le_of_eq e0
  have hs0 : s0 ≤ H.sl := Nat.le_of_eq e1
  have hcc : H.sh.length ≤ c0 + C := by omega
  have hss : H.sl ≤ s0 + Sl := by omega
  refine ab_of2 (lv := [some (.ref p0), none]) 1 rfl rfl (Nat.le_of_ble_eq_true rfl) ?_
  refine ab_widen (cells' := H.sh.length - c0) (slots' := H.sl - s0) (Nat.zero_le _) (Nat.zero_le _) ?_
  refine ab_aload_n d_Lexer_takeValue_0 rfl rfl rfl ?_
  obtain ⟨q1, hG⟩ := ck_s hF; clear hF
  obtain ⟨a2, e3, hF⟩ := rf_s hG; clear hG
  refine hp_getR (f := 9) d_Lexer_takeValue_1 q1 (by decide) rfl (by decide) (k1 111 rfl rfl) rfl e3 ?_
  refine ab_aload_n d_Lexer_takeValue_4 rfl rfl rfl ?_
  refine hp_getI (f := 11) d_Lexer_takeValue_5 q1 (by decide) rfl (by decide) (k1 113 rfl rfl) rfl ?_
  refine ab_topi (fun x4 ex4 => ?_)
  replace hF := bnd_s ex4 hF
  obtain ⟨n5, q6, hG⟩ := ar_s hF; clear hF
  obtain ⟨q7, hF⟩ := ck_s hG; clear hG
  refine hp_zald d_Lexer_takeValue_8 tZ q6 q7 ?_
  refine ab_topi (fun x8 ex8 => ?_)
  replace hF := bnd_s ex8 hF
  refine ab_if_eq (tgt := 21) d_Lexer_takeValue_9 (by decide) (fun q9 => ?_) (fun q9 => ?_)
  · rw [if_pos q9] at hF
    exact kB_Lexer_takeValue_21 hF hc0 hs0 hcc hss hC hS
  · rw [if_neg q9] at hF
    refine ab_aload_n d_Lexer_takeValue_12 rfl rfl rfl ?_
    refine ab_iconst (v := 2) d_Lexer_takeValue_13 (by decide) ?_
    refine ab_aload_n d_Lexer_takeValue_14 rfl rfl rfl ?_
    refine hp_getI (f := 3) d_Lexer_takeValue_15 q1 (by decide) rfl (by decide) (k1 102 rfl rfl) rfl ?_
    refine ab_topi (fun x32 ex32 => ?_)
    replace hF := bnd_s ex32 hF
    refine bT_c hF (fun x36 H35 z33 er => ?_) (fun v34 H35 z33 hG => ?_)
    · subst er
      have mz : Mo H H35 := (m_Lexer_refuse z33)
      have ml := mz.len
      have m2 := mz.2
      have hC9 : H35.sh.length ≤ c0 + C := hC
      have hS9 : H35.sl ≤ s0 + Sl := hS
      refine hp_callV_t (x := x36) (H1 := H35) (As := [.int 2, .int x32]) (rest := []) d_Lexer_takeValue_18 (k_Lexer_refuse z33 (C := H35.sh.length - H.sh.length) (Sl := H35.sl - H.sl) (by show H35.sh.length ≤ _; omega) (by show H35.sl ≤ _; omega)) (ab_mkC s_Lexer_refuse (Nat.le_of_ble_eq_true rfl) (Nat.le_of_ble_eq_true rfl) (show (H.sh.length - c0) + (H35.sh.length - H.sh.length) ≤ C from by omega) (show (H.sl - s0) + (H35.sl - H.sl) ≤ Sl from by omega)) (k5 28 rfl rfl) i_Lexer_refuse v_Lexer_refuse q1 (by decide) rfl rfl (Nat.le_of_ble_eq_true rfl) ?_
      exact ab_U_out rfl (by show _ + (H35.sh.length - H.sh.length) ≤ C; omega) (by show _ + (H35.sl - H.sl) ≤ Sl; omega) ⟨rfl, rfl⟩
    clear hF
    have mz_3 : Mo H H35 := (m_Lexer_refuse z33)
    have b_4l := (mz_3).len
    have b_4s := (mz_3).2
    have b_4c : c0 ≤ H35.sh.length := by omega
    have b_4d : s0 ≤ H35.sl := by omega
    have q_5 := (mz_3).get q1
    have q_6 := (mz_3).get q6
    have fH35 : Mo H35 r.2 := by
      have hm := Mo.rf H35
      exact hm.tr (mB_Lexer_takeValue_21 hG)
    have b_4m := (fH35).len
    have b_4n := (fH35).2
    have b_4p : H35.sh.length ≤ c0 + C := by omega
    have b_4q : H35.sl ≤ s0 + Sl := by omega
    refine hp_callV_v (H1 := H35) (As := [.int 2, .int x32]) (rest := []) d_Lexer_takeValue_18 (k_Lexer_refuse z33 (C := H35.sh.length - H.sh.length) (Sl := H35.sl - H.sl) (by show H35.sh.length ≤ _; omega) (by show H35.sl ≤ _; omega)) (ab_mkC s_Lexer_refuse (Nat.le_of_ble_eq_true rfl) (Nat.le_of_ble_eq_true rfl) (show (H.sh.length - c0) + (H35.sh.length - H.sh.length) ≤ C from by omega) (show (H.sl - s0) + (H35.sl - H.sl) ≤ Sl from by omega)) (k5 28 rfl rfl) i_Lexer_refuse v_Lexer_refuse q1 (by decide) rfl rfl (Nat.le_of_ble_eq_true rfl) ?_
    refine ab_widen (cells' := H35.sh.length - c0) (slots' := H35.sl - s0) (by show _ + (H35.sh.length - H.sh.length) ≤ _; omega) (by show _ + (H35.sl - H.sl) ≤ _; omega) ?_
    clear b_4l b_4s b_4m b_4n
    exact kB_Lexer_takeValue_21 hG b_4c b_4d b_4p b_4q hC hS
def y_Reader_readConst : ab_Y := (⟨"WorldEngine$Reader", "readConst", "(I)I"⟩, prog_7_method_12_code, 8, (some FieldType.int), [])
theorem d_Reader_readConst_0 : decode y_Reader_readConst.2.1 0 = .ok (.aload_n 0, 1) := by decide +kernel
theorem d_Reader_readConst_1 : decode y_Reader_readConst.2.1 1 = .ok (.getfield 7, 3) := by decide +kernel
theorem d_Reader_readConst_4 : decode y_Reader_readConst.2.1 4 = .ok (.getfield 65, 3) := by decide +kernel
theorem d_Reader_readConst_7 : decode y_Reader_readConst.2.1 7 = .ok (.istore_n 2, 1) := by decide +kernel
theorem d_Reader_readConst_8 : decode y_Reader_readConst.2.1 8 = .ok (.aload_n 0, 1) := by decide +kernel
theorem d_Reader_readConst_9 : decode y_Reader_readConst.2.1 9 = .ok (.getfield 7, 3) := by decide +kernel
theorem d_Reader_readConst_12 : decode y_Reader_readConst.2.1 12 = .ok (.getfield 36, 3) := by decide +kernel
theorem d_Reader_readConst_15 : decode y_Reader_readConst.2.1 15 = .ok (.bipush 19, 2) := by decide +kernel
theorem d_Reader_readConst_17 : decode y_Reader_readConst.2.1 17 = .ok (.if_icmp .ne 7, 3) := by decide +kernel
theorem d_Reader_readConst_20 : decode y_Reader_readConst.2.1 20 = .ok (.iconst 1, 1) := by decide +kernel
theorem d_Reader_readConst_21 : decode y_Reader_readConst.2.1 21 = .ok (.goto 4, 3) := by decide +kernel
theorem d_Reader_readConst_24 : decode y_Reader_readConst.2.1 24 = .ok (.iconst 0, 1) := by decide +kernel
theorem d_Reader_readConst_25 : decode y_Reader_readConst.2.1 25 = .ok (.istore_n 3, 1) := by decide +kernel
theorem d_Reader_readConst_26 : decode y_Reader_readConst.2.1 26 = .ok (.iload_n 3, 1) := by decide +kernel
theorem d_Reader_readConst_27 : decode y_Reader_readConst.2.1 27 = .ok (.ifCond .eq 10, 3) := by decide +kernel
theorem d_Reader_readConst_30 : decode y_Reader_readConst.2.1 30 = .ok (.aload_n 0, 1) := by decide +kernel
theorem d_Reader_readConst_31 : decode y_Reader_readConst.2.1 31 = .ok (.getfield 7, 3) := by decide +kernel
theorem d_Reader_readConst_34 : decode y_Reader_readConst.2.1 34 = .ok (.invokevirtual 77, 3) := by decide +kernel
theorem d_Reader_readConst_37 : decode y_Reader_readConst.2.1 37 = .ok (.aload_n 0, 1) := by decide +kernel
theorem d_Reader_readConst_38 : decode y_Reader_readConst.2.1 38 = .ok (.getfield 7, 3) := by decide +kernel
theorem d_Reader_readConst_41 : decode y_Reader_readConst.2.1 41 = .ok (.getfield 36, 3) := by decide +kernel
theorem d_Reader_readConst_44 : decode y_Reader_readConst.2.1 44 = .ok (.istore 4, 2) := by decide +kernel
theorem d_Reader_readConst_46 : decode y_Reader_readConst.2.1 46 = .ok (.iconst 0, 1) := by decide +kernel
theorem d_Reader_readConst_47 : decode y_Reader_readConst.2.1 47 = .ok (.istore 5, 2) := by decide +kernel
theorem d_Reader_readConst_49 : decode y_Reader_readConst.2.1 49 = .ok (.iconst 0, 1) := by decide +kernel
theorem d_Reader_readConst_50 : decode y_Reader_readConst.2.1 50 = .ok (.istore 6, 2) := by decide +kernel
theorem d_Reader_readConst_52 : decode y_Reader_readConst.2.1 52 = .ok (.iload 4, 2) := by decide +kernel
theorem d_Reader_readConst_54 : decode y_Reader_readConst.2.1 54 = .ok (.iconst 3, 1) := by decide +kernel
theorem d_Reader_readConst_55 : decode y_Reader_readConst.2.1 55 = .ok (.if_icmp .eq 9, 3) := by decide +kernel
theorem d_Reader_readConst_58 : decode y_Reader_readConst.2.1 58 = .ok (.iload 4, 2) := by decide +kernel
theorem d_Reader_readConst_60 : decode y_Reader_readConst.2.1 60 = .ok (.iconst 4, 1) := by decide +kernel
theorem d_Reader_readConst_61 : decode y_Reader_readConst.2.1 61 = .ok (.if_icmp .ne 28, 3) := by decide +kernel
theorem d_Reader_readConst_64 : decode y_Reader_readConst.2.1 64 = .ok (.aload_n 0, 1) := by decide +kernel
theorem d_Reader_readConst_65 : decode y_Reader_readConst.2.1 65 = .ok (.getfield 7, 3) := by decide +kernel
theorem d_Reader_readConst_68 : decode y_Reader_readConst.2.1 68 = .ok (.invokevirtual 186, 3) := by decide +kernel
theorem d_Reader_readConst_71 : decode y_Reader_readConst.2.1 71 = .ok (.istore 5, 2) := by decide +kernel
theorem d_Reader_readConst_73 : decode y_Reader_readConst.2.1 73 = .ok (.iload 4, 2) := by decide +kernel
theorem d_Reader_readConst_75 : decode y_Reader_readConst.2.1 75 = .ok (.iconst 3, 1) := by decide +kernel
theorem d_Reader_readConst_76 : decode y_Reader_readConst.2.1 76 = .ok (.if_icmp .ne 7, 3) := by decide +kernel
theorem d_Reader_readConst_79 : decode y_Reader_readConst.2.1 79 = .ok (.iconst 0, 1) := by decide +kernel
theorem d_Reader_readConst_80 : decode y_Reader_readConst.2.1 80 = .ok (.goto 4, 3) := by decide +kernel
theorem d_Reader_readConst_83 : decode y_Reader_readConst.2.1 83 = .ok (.iconst 2, 1) := by decide +kernel
theorem d_Reader_readConst_84 : decode y_Reader_readConst.2.1 84 = .ok (.istore 6, 2) := by decide +kernel
theorem d_Reader_readConst_86 : decode y_Reader_readConst.2.1 86 = .ok (.goto 90, 3) := by decide +kernel
theorem d_Reader_readConst_89 : decode y_Reader_readConst.2.1 89 = .ok (.iload_n 3, 1) := by decide +kernel
theorem d_Reader_readConst_90 : decode y_Reader_readConst.2.1 90 = .ok (.ifCond .ne 44, 3) := by decide +kernel
theorem d_Reader_readConst_93 : decode y_Reader_readConst.2.1 93 = .ok (.iload 4, 2) := by decide +kernel
theorem d_Reader_readConst_95 : decode y_Reader_readConst.2.1 95 = .ok (.bipush 71, 2) := by decide +kernel
theorem d_Reader_readConst_97 : decode y_Reader_readConst.2.1 97 = .ok (.if_icmp .eq 10, 3) := by decide +kernel
theorem d_Reader_readConst_100 : decode y_Reader_readConst.2.1 100 = .ok (.iload 4, 2) := by decide +kernel
theorem d_Reader_readConst_102 : decode y_Reader_readConst.2.1 102 = .ok (.bipush 72, 2) := by decide +kernel
theorem d_Reader_readConst_104 : decode y_Reader_readConst.2.1 104 = .ok (.if_icmp .ne 30, 3) := by decide +kernel
theorem d_Reader_readConst_107 : decode y_Reader_readConst.2.1 107 = .ok (.iload 4, 2) := by decide +kernel
theorem d_Reader_readConst_109 : decode y_Reader_readConst.2.1 109 = .ok (.bipush 71, 2) := by decide +kernel
theorem d_Reader_readConst_111 : decode y_Reader_readConst.2.1 111 = .ok (.if_icmp .ne 7, 3) := by decide +kernel
theorem d_Reader_readConst_114 : decode y_Reader_readConst.2.1 114 = .ok (.iconst 1, 1) := by decide +kernel
theorem d_Reader_readConst_115 : decode y_Reader_readConst.2.1 115 = .ok (.goto 4, 3) := by decide +kernel
theorem d_Reader_readConst_118 : decode y_Reader_readConst.2.1 118 = .ok (.iconst 0, 1) := by decide +kernel
theorem d_Reader_readConst_119 : decode y_Reader_readConst.2.1 119 = .ok (.istore 5, 2) := by decide +kernel
theorem d_Reader_readConst_121 : decode y_Reader_readConst.2.1 121 = .ok (.iconst 3, 1) := by decide +kernel
theorem d_Reader_readConst_122 : decode y_Reader_readConst.2.1 122 = .ok (.istore 6, 2) := by decide +kernel
theorem d_Reader_readConst_124 : decode y_Reader_readConst.2.1 124 = .ok (.aload_n 0, 1) := by decide +kernel
theorem d_Reader_readConst_125 : decode y_Reader_readConst.2.1 125 = .ok (.getfield 7, 3) := by decide +kernel
theorem d_Reader_readConst_128 : decode y_Reader_readConst.2.1 128 = .ok (.invokevirtual 77, 3) := by decide +kernel
theorem d_Reader_readConst_131 : decode y_Reader_readConst.2.1 131 = .ok (.goto 45, 3) := by decide +kernel
theorem d_Reader_readConst_134 : decode y_Reader_readConst.2.1 134 = .ok (.iload_n 3, 1) := by decide +kernel
theorem d_Reader_readConst_135 : decode y_Reader_readConst.2.1 135 = .ok (.ifCond .ne 26, 3) := by decide +kernel
theorem d_Reader_readConst_138 : decode y_Reader_readConst.2.1 138 = .ok (.iload 4, 2) := by decide +kernel
theorem d_Reader_readConst_140 : decode y_Reader_readConst.2.1 140 = .ok (.bipush 73, 2) := by decide +kernel
theorem d_Reader_readConst_142 : decode y_Reader_readConst.2.1 142 = .ok (.if_icmp .ne 19, 3) := by decide +kernel
theorem d_Reader_readConst_145 : decode y_Reader_readConst.2.1 145 = .ok (.iconst (-1), 1) := by decide +kernel
theorem d_Reader_readConst_146 : decode y_Reader_readConst.2.1 146 = .ok (.istore 5, 2) := by decide +kernel
theorem d_Reader_readConst_148 : decode y_Reader_readConst.2.1 148 = .ok (.iconst 4, 1) := by decide +kernel
theorem d_Reader_readConst_149 : decode y_Reader_readConst.2.1 149 = .ok (.istore 6, 2) := by decide +kernel
theorem d_Reader_readConst_151 : decode y_Reader_readConst.2.1 151 = .ok (.aload_n 0, 1) := by decide +kernel
theorem d_Reader_readConst_152 : decode y_Reader_readConst.2.1 152 = .ok (.getfield 7, 3) := by decide +kernel
theorem d_Reader_readConst_155 : decode y_Reader_readConst.2.1 155 = .ok (.invokevirtual 77, 3) := by decide +kernel
theorem d_Reader_readConst_158 : decode y_Reader_readConst.2.1 158 = .ok (.goto 18, 3) := by decide +kernel
theorem d_Reader_readConst_161 : decode y_Reader_readConst.2.1 161 = .ok (.aload_n 0, 1) := by decide +kernel
theorem d_Reader_readConst_162 : decode y_Reader_readConst.2.1 162 = .ok (.getfield 7, 3) := by decide +kernel
theorem d_Reader_readConst_165 : decode y_Reader_readConst.2.1 165 = .ok (.iconst 1, 1) := by decide +kernel
theorem d_Reader_readConst_166 : decode y_Reader_readConst.2.1 166 = .ok (.aload_n 0, 1) := by decide +kernel
theorem d_Reader_readConst_167 : decode y_Reader_readConst.2.1 167 = .ok (.getfield 7, 3) := by decide +kernel
theorem d_Reader_readConst_170 : decode y_Reader_readConst.2.1 170 = .ok (.getfield 65, 3) := by decide +kernel
theorem d_Reader_readConst_173 : decode y_Reader_readConst.2.1 173 = .ok (.invokevirtual 68, 3) := by decide +kernel
theorem d_Reader_readConst_176 : decode y_Reader_readConst.2.1 176 = .ok (.iload 6, 2) := by decide +kernel
theorem d_Reader_readConst_178 : decode y_Reader_readConst.2.1 178 = .ok (.iload_n 1, 1) := by decide +kernel
theorem d_Reader_readConst_179 : decode y_Reader_readConst.2.1 179 = .ok (.iconst 1, 1) := by decide +kernel
theorem d_Reader_readConst_180 : decode y_Reader_readConst.2.1 180 = .ok (.if_icmp .ne 7, 3) := by decide +kernel
theorem d_Reader_readConst_183 : decode y_Reader_readConst.2.1 183 = .ok (.iconst 0, 1) := by decide +kernel
theorem d_Reader_readConst_184 : decode y_Reader_readConst.2.1 184 = .ok (.goto 4, 3) := by decide +kernel
theorem d_Reader_readConst_187 : decode y_Reader_readConst.2.1 187 = .ok (.iload_n 1, 1) := by decide +kernel
theorem d_Reader_readConst_188 : decode y_Reader_readConst.2.1 188 = .ok (.if_icmp .eq 12, 3) := by decide +kernel
theorem d_Reader_readConst_191 : decode y_Reader_readConst.2.1 191 = .ok (.aload_n 0, 1) := by decide +kernel
theorem d_Reader_readConst_192 : decode y_Reader_readConst.2.1 192 = .ok (.getfield 7, 3) := by decide +kernel
theorem d_Reader_readConst_195 : decode y_Reader_readConst.2.1 195 = .ok (.iconst 5, 1) := by decide +kernel
theorem d_Reader_readConst_196 : decode y_Reader_readConst.2.1 196 = .ok (.iload_n 2, 1) := by decide +kernel
theorem d_Reader_readConst_197 : decode y_Reader_readConst.2.1 197 = .ok (.invokevirtual 68, 3) := by decide +kernel
theorem d_Reader_readConst_200 : decode y_Reader_readConst.2.1 200 = .ok (.iload_n 3, 1) := by decide +kernel
theorem d_Reader_readConst_201 : decode y_Reader_readConst.2.1 201 = .ok (.ifCond .eq 9, 3) := by decide +kernel
theorem d_Reader_readConst_204 : decode y_Reader_readConst.2.1 204 = .ok (.iload 5, 2) := by decide +kernel
theorem d_Reader_readConst_206 : decode y_Reader_readConst.2.1 206 = .ok (.ineg, 1) := by decide +kernel
theorem d_Reader_readConst_207 : decode y_Reader_readConst.2.1 207 = .ok (.goto 5, 3) := by decide +kernel
theorem d_Reader_readConst_210 : decode y_Reader_readConst.2.1 210 = .ok (.iload 5, 2) := by decide +kernel
theorem d_Reader_readConst_212 : decode y_Reader_readConst.2.1 212 = .ok (.istore 7, 2) := by decide +kernel
theorem d_Reader_readConst_214 : decode y_Reader_readConst.2.1 214 = .ok (.iload_n 1, 1) := by decide +kernel
theorem d_Reader_readConst_215 : decode y_Reader_readConst.2.1 215 = .ok (.iconst 1, 1) := by decide +kernel
theorem d_Reader_readConst_216 : decode y_Reader_readConst.2.1 216 = .ok (.if_icmp .ne 18, 3) := by decide +kernel
theorem d_Reader_readConst_219 : decode y_Reader_readConst.2.1 219 = .ok (.bipush (-128), 2) := by decide +kernel
theorem d_Reader_readConst_221 : decode y_Reader_readConst.2.1 221 = .ok (.bipush 127, 2) := by decide +kernel
theorem d_Reader_readConst_223 : decode y_Reader_readConst.2.1 223 = .ok (.iload 7, 2) := by decide +kernel
theorem d_Reader_readConst_225 : decode y_Reader_readConst.2.1 225 = .ok (.invokestatic 189, 3) := by decide +kernel
theorem d_Reader_readConst_228 : decode y_Reader_readConst.2.1 228 = .ok (.invokestatic 195, 3) := by decide +kernel
theorem d_Reader_readConst_231 : decode y_Reader_readConst.2.1 231 = .ok (.goto 5, 3) := by decide +kernel
theorem d_Reader_readConst_234 : decode y_Reader_readConst.2.1 234 = .ok (.iload 7, 2) := by decide +kernel
theorem d_Reader_readConst_236 : decode y_Reader_readConst.2.1 236 = .ok (.ireturn, 1) := by decide +kernel
theorem s_Reader_readConst : ab_Stat y_Reader_readConst 1 := ⟨(k5 84 rfl rfl), (k1 7 rfl rfl), ⟨by decide, by decide⟩, by decide +kernel⟩
theorem i_Reader_readConst : Cond.instanceMethod y_Reader_readConst.1 ∈ ab_T := (k5 83 rfl rfl)
theorem v_Reader_readConst : Cond.selects "WorldEngine$Reader" y_Reader_readConst.1 y_Reader_readConst.1 ∈ ab_T := ab_s (List.mem_of_getElem? (i := 18) rfl) rfl
def B_Reader_readConst_212 (N : Nat) (p0 : Nat) (p1 : Int32) (w0 : Int32) (H : Hp) : Option ((Ot Int32) × Hp) :=
    if p1 = (1 : Int32) then
    bC (F_Math_min N (127 : Int32) w0 H) fun v32 H33 =>
    bC (F_Math_max N ((-128) : Int32) v32 H33) fun v35 H36 =>
    some (.inl v35, H36)
    else
    some (.inl w0, H)
set_option maxRecDepth 20000 in
set_option maxHeartbeats 2000000 in
theorem mB_Reader_readConst_212 {N : Nat} {p0 : Nat} {p1 : Int32} {w0 : Int32} {H : Hp} {r : (Ot Int32) × Hp} (hF : B_Reader_readConst_212 N p0 p1 w0 H = some r) : Mo H r.2 := by
  unfold B_Reader_readConst_212 at hF
  have hm := Mo.rf H
  rcases ite_s hF with ⟨q_10, hG⟩ | ⟨q_10, hG⟩
  · clear hF
    obtain ⟨v39, H40, z38, hF⟩ := bC_s hG; clear hG
    replace hm : Mo H H40 := hm.tr ((m_Math_min z38)).mo
    obtain ⟨v42, H43, z41, hG⟩ := bC_s hF; clear hF
    replace hm : Mo H H43 := hm.tr ((m_Math_max z41)).mo
    have hr := Option.some.inj hG; subst hr
    exact hm
  · clear hF
    have hr := Option.some.inj hG; subst hr
    exact hm
set_option maxRecDepth 20000 in
set_option maxHeartbeats 2000000 in
theorem kB_Reader_readConst_212 {N : Nat} {p0 : Nat} {p1 : Int32} {c0 s0 C Sl : Nat} {w0 : Int32} {H : Hp} {r : (Ot Int32) × Hp} (hF : B_Reader_readConst_212 N p0 p1 w0 H = some r) (hc0 : c0 ≤ H.sh.length) (hs0 : s0 ≤ H.sl) (hcc : H.sh.length ≤ c0 + C) (hss : H.sl ≤ s0 + Sl) (hC : r.2.sh.length ≤ c0 + C) (hS : r.2.sl ≤ s0 + Sl) : ab_V y_Reader_readConst { frames := 8, cells := C, slots := Sl, locals := 143 } (po (oI r.1) r.2) C Sl (H.sh.length - c0) (H.sl - s0) 212 [some (.ref p0), some (.int p1), none, none, none, none, none, none] [.int w0] (hpw H) := by
  unfold B_Reader_readConst_212 at hF
  refine ab_istore (lv' := [some (.ref p0), some (.int p1), none, none, none, none, none, some (.int w0)]) d_Reader_readConst_212 (by decide) rfl ?_
  refine ab_iload_n d_Reader_readConst_214 rfl rfl ?_
  refine ab_iconst (v := 1) d_Reader_readConst_215 (by decide) ?_
  refine ab_icmp_ne (tgt := 234) d_Reader_readConst_216 (by decide) (fun q30 => ?_) (fun q30 => ?_)
  · rw [if_neg q30] at hF
    refine ab_iload d_Reader_readConst_234 rfl ?_
    exact ab_iret d_Reader_readConst_236 rfl (by show _ ≤ C; omega) (by show _ ≤ Sl; omega) (by have hr := Option.some.inj hF; subst hr; exact ⟨rfl, rfl⟩)
  · rw [if_pos q30] at hF
    refine ab_bipush (v := (-128)) d_Reader_readConst_219 (by decide) ?_
    refine ab_bipush (v := 127) d_Reader_readConst_221 (by decide) ?_
    refine ab_iload d_Reader_readConst_223 rfl ?_
    obtain ⟨v32, H33, z31, hG⟩ := bC_s hF; clear hF
    refine hp_callS_a (v := .int v32) (H1 := H33) (As := [.int 127, .int w0]) (rest := [.int (-128)]) d_Reader_readConst_225 (k_Math_min z31) (ab_mkC s_Math_min (Nat.le_of_ble_eq_true rfl) (Nat.le_of_ble_eq_true rfl) (show (H.sh.length - c0) + 0 ≤ C from by omega) (show (H.sl - s0) + 0 ≤ Sl from by omega)) (k5 89 rfl rfl) t_Math_min rfl (Nat.le_of_ble_eq_true rfl) ?_
    have s_7 : Sa H H33 := (m_Math_min z31)
    refine ab_widen (cells' := H.sh.length - c0) (slots' := H.sl - s0) (by show (H.sh.length - c0) + 0 ≤ _; omega) (by show (H.sl - s0) + 0 ≤ _; omega) ?_
    obtain ⟨v35, H36, z34, hF⟩ := bC_s hG; clear hG
    refine ab_widen (cells' := H33.sh.length - c0) (slots' := H33.sl - s0) (by rw [(s_7).1]; exact Nat.le_refl _) (by rw [(s_7).2]; exact Nat.le_refl _) ?_
    have b_8e := congrArg List.length (s_7).1
    have b_8f := (s_7).2
    refine hp_callS_a (v := .int v35) (H1 := H36) (As := [.int (-128), .int v32]) (rest := []) d_Reader_readConst_228 (k_Math_max z34) (ab_mkC s_Math_max (Nat.le_of_ble_eq_true rfl) (Nat.le_of_ble_eq_true rfl) (show (H33.sh.length - c0) + 0 ≤ C from by omega) (show (H33.sl - s0) + 0 ≤ Sl from by omega)) (k5 90 rfl rfl) t_Math_max rfl (Nat.le_of_ble_eq_true rfl) ?_
    have s_9 : Sa H H36 := (s_7).tr (m_Math_max z34)
    refine ab_widen (cells' := H.sh.length - c0) (slots' := H.sl - s0) (by show (H33.sh.length - c0) + 0 ≤ _; omega) (by show (H33.sl - s0) + 0 ≤ _; omega) ?_
    clear b_8e b_8f
    refine ab_goto (tgt := 236) d_Reader_readConst_231 (by decide) ?_
    exact ab_iret d_Reader_readConst_236 rfl (by show _ ≤ C; omega) (by show _ ≤ Sl; omega) (by have hr := Option.some.inj hF; subst hr; exact ⟨rfl, rfl⟩)
def B_Reader_readConst_200 (N : Nat) (p0 : Nat) (p1 : Int32) (l3 : Int32) (l5 : Int32) (H : Hp) : Option ((Ot Int32) × Hp) :=
    if l3 = (0 : Int32) then
    B_Reader_readConst_212 N p0 p1 l5 H
    else
    B_Reader_readConst_212 N p0 p1 (-l5) H
set_option maxRecDepth 20000 in
set_option maxHeartbeats 2000000 in
theorem mB_Reader_readConst_200 {N : Nat} {p0 : Nat} {p1 : Int32} {l3 : Int32} {l5 : Int32} {H : Hp} {r : (Ot Int32) × Hp} (hF : B_Reader_readConst_200 N p0 p1 l3 l5 H = some r) : Mo H r.2 := by
  unfold B_Reader_readConst_200 at hF
  have hm := Mo.rf H
  rcases ite_s hF with ⟨q_11, hG⟩ | ⟨q_11, hG⟩
  · clear hF
    exact hm.tr (mB_Reader_readConst_212 hG)
  · clear hF
    exact hm.tr (mB_Reader_readConst_212 hG)
set_option maxRecDepth 20000 in
set_option maxHeartbeats 2000000 in
theorem kB_Reader_readConst_200 {N : Nat} {p0 : Nat} {p1 : Int32} {c0 s0 C Sl : Nat} {l3 : Int32} {l5 : Int32} {H : Hp} {r : (Ot Int32) × Hp} (hF : B_Reader_readConst_200 N p0 p1 l3 l5 H = some r) (hc0 : c0 ≤ H.sh.length) (hs0 : s0 ≤ H.sl) (hcc : H.sh.length ≤ c0 + C) (hss : H.sl ≤ s0 + Sl) (hC : r.2.sh.length ≤ c0 + C) (hS : r.2.sl ≤ s0 + Sl) : ab_V y_Reader_readConst { frames := 8, cells := C, slots := Sl, locals := 143 } (po (oI r.1) r.2) C Sl (H.sh.length - c0) (H.sl - s0) 200 [some (.ref p0), some (.int p1), none, some (.int l3), none, some (.int l5), none, none] [] (hpw H) := by
  unfold B_Reader_readConst_200 at hF
  refine ab_iload_n d_Reader_readConst_200 rfl rfl ?_
  refine ab_if_eq (tgt := 210) d_Reader_readConst_201 (by decide) (fun q29 => ?_) (fun q29 => ?_)
  · rw [if_pos q29] at hF
    refine ab_iload d_Reader_readConst_210 rfl ?_
    refine ab_le (lv' := [some (.ref p0), some (.int p1), none, none, none, none, none, none]) ⟨rfl, ⟨rfl, trivial⟩⟩ ?_
    exact kB_Reader_readConst_212 hF hc0 hs0 hcc hss hC hS
  · rw [if_neg q29] at hF
    refine ab_iload d_Reader_readConst_204 rfl ?_
    refine ab_ineg d_Reader_readConst_206 ?_
    refine ab_goto (tgt := 212) d_Reader_readConst_207 (by decide) ?_
    refine ab_le (lv' := [some (.ref p0), some (.int p1), none, none, none, none, none, none]) ⟨rfl, ⟨rfl, trivial⟩⟩ ?_
    exact kB_Reader_readConst_212 hF hc0 hs0 hcc hss hC hS
def B_Reader_readConst_188 (N : Nat) (p0 : Nat) (p1 : Int32) (l2 : Int32) (l3 : Int32) (l5 : Int32) (w0 : Int32) (w1 : Int32) (H : Hp) : Option ((Ot Int32) × Hp) :=
    if w0 = w1 then
    B_Reader_readConst_200 N p0 p1 l3 l5 H
    else
    ck (H.sh[p0]? = some (5, 0)) <|
    rf (H.P p0 0) fun a46 =>
    ck (H.sh[a46]? = some (1, 0)) <|
    bT (F_Lexer_refuse N a46 (5 : Int32) l2 H) fun v50 H51 =>
    B_Reader_readConst_200 N p0 p1 l3 l5 H51
set_option maxRecDepth 20000 in
set_option maxHeartbeats 2000000 in
theorem mB_Reader_readConst_188 {N : Nat} {p0 : Nat} {p1 : Int32} {l2 : Int32} {l3 : Int32} {l5 : Int32} {w0 : Int32} {w1 : Int32} {H : Hp} {r : (Ot Int32) × Hp} (hF : B_Reader_readConst_188 N p0 p1 l2 l3 l5 w0 w1 H = some r) : Mo H r.2 := by
  unfold B_Reader_readConst_188 at hF
  have hm := Mo.rf H
  rcases ite_s hF with ⟨q_16, hG⟩ | ⟨q_16, hG⟩
  · clear hF
    exact hm.tr (mB_Reader_readConst_200 hG)
  · clear hF
    obtain ⟨q54, hF⟩ := ck_s hG; clear hG
    obtain ⟨a55, e56, hG⟩ := rf_s hF; clear hF
    obtain ⟨q57, hF⟩ := ck_s hG; clear hG
    refine bT_c hF (fun x61 H60 z58 er => ?_) (fun v59 H60 z58 hG => ?_)
    · subst er; exact hm.tr (m_Lexer_refuse z58)
    clear hF
    replace hm : Mo H H60 := hm.tr (m_Lexer_refuse z58)
    exact hm.tr (mB_Reader_readConst_200 hG)
set_option maxRecDepth 20000 in
set_option maxHeartbeats 2000000 in
theorem kB_Reader_readConst_188 {N : Nat} {p0 : Nat} {p1 : Int32} {c0 s0 C Sl : Nat} {l2 : Int32} {l3 : Int32} {l5 : Int32} {w0 : Int32} {w1 : Int32} {H : Hp} {r : (Ot Int32) × Hp} (hF : B_Reader_readConst_188 N p0 p1 l2 l3 l5 w0 w1 H = some r) (hc0 : c0 ≤ H.sh.length) (hs0 : s0 ≤ H.sl) (hcc : H.sh.length ≤ c0 + C) (hss : H.sl ≤ s0 + Sl) (hC : r.2.sh.length ≤ c0 + C) (hS : r.2.sl ≤ s0 + Sl) : ab_V y_Reader_readConst { frames := 8, cells := C, slots := Sl, locals := 143 } (po (oI r.1) r.2) C Sl (H.sh.length - c0) (H.sl - s0) 188 [some (.ref p0), some (.int p1), some (.int l2), some (.int l3), none, some (.int l5), none, none] [.int w1, .int w0] (hpw H) := by
  unfold B_Reader_readConst_188 at hF
  refine ab_icmp_eq (tgt := 200) d_Reader_readConst_188 (by decide) (fun q28 => ?_) (fun q28 => ?_)
  · rw [if_pos q28] at hF
    refine ab_le (lv' := [some (.ref p0), some (.int p1), none, some (.int l3), none, some (.int l5), none, none]) ⟨rfl, ⟨rfl, ⟨rfl, ⟨rfl, trivial⟩⟩⟩⟩ ?_
    exact kB_Reader_readConst_200 hF hc0 hs0 hcc hss hC hS
  · rw [if_neg q28] at hF
    refine ab_aload_n d_Reader_readConst_191 rfl rfl rfl ?_
    obtain ⟨q45, hG⟩ := ck_s hF; clear hF
    obtain ⟨a46, e47, hF⟩ := rf_s hG; clear hG
    refine hp_getR (f := 0) d_Reader_readConst_192 q45 (by decide) rfl (by decide) (k1 179 rfl rfl) rfl e47 ?_
    refine ab_iconst (v := 5) d_Reader_readConst_195 (by decide) ?_
    refine ab_iload_n d_Reader_readConst_196 rfl rfl ?_
    obtain ⟨q48, hG⟩ := ck_s hF; clear hF
    refine bT_c hG (fun x52 H51 z49 er => ?_) (fun v50 H51 z49 hF => ?_)
    · subst er
      have mz : Mo H H51 := (m_Lexer_refuse z49)
      have ml := mz.len
      have m2 := mz.2
      have hC9 : H51.sh.length ≤ c0 + C := hC
      have hS9 : H51.sl ≤ s0 + Sl := hS
      refine hp_callV_t (x := x52) (H1 := H51) (As := [.int 5, .int l2]) (rest := []) d_Reader_readConst_197 (k_Lexer_refuse z49 (C := H51.sh.length - H.sh.length) (Sl := H51.sl - H.sl) (by show H51.sh.length ≤ _; omega) (by show H51.sl ≤ _; omega)) (ab_mkC s_Lexer_refuse (Nat.le_of_ble_eq_true rfl) (Nat.le_of_ble_eq_true rfl) (show (H.sh.length - c0) + (H51.sh.length - H.sh.length) ≤ C from by omega) (show (H.sl - s0) + (H51.sl - H.sl) ≤ Sl from by omega)) (k4 97 rfl rfl) i_Lexer_refuse v_Lexer_refuse q48 (by decide) rfl rfl (Nat.le_of_ble_eq_true rfl) ?_
      exact ab_U_out rfl (by show _ + (H51.sh.length - H.sh.length) ≤ C; omega) (by show _ + (H51.sl - H.sl) ≤ Sl; omega) ⟨rfl, rfl⟩
    clear hG
    have mz_12 : Mo H H51 := (m_Lexer_refuse z49)
    have b_13l := (mz_12).len
    have b_13s := (mz_12).2
    have b_13c : c0 ≤ H51.sh.length := by omega
    have b_13d : s0 ≤ H51.sl := by omega
    have q_14 := (mz_12).get q45
    have q_15 := (mz_12).get q48
    have fH51 : Mo H51 r.2 := by
      have hm := Mo.rf H51
      exact hm.tr (mB_Reader_readConst_200 hF)
    have b_13m := (fH51).len
    have b_13n := (fH51).2
    have b_13p : H51.sh.length ≤ c0 + C := by omega
    have b_13q : H51.sl ≤ s0 + Sl := by omega
    refine hp_callV_v (H1 := H51) (As := [.int 5, .int l2]) (rest := []) d_Reader_readConst_197 (k_Lexer_refuse z49 (C := H51.sh.length - H.sh.length) (Sl := H51.sl - H.sl) (by show H51.sh.length ≤ _; omega) (by show H51.sl ≤ _; omega)) (ab_mkC s_Lexer_refuse (Nat.le_of_ble_eq_true rfl) (Nat.le_of_ble_eq_true rfl) (show (H.sh.length - c0) + (H51.sh.length - H.sh.length) ≤ C from by omega) (show (H.sl - s0) + (H51.sl - H.sl) ≤ Sl from by omega)) (k4 97 rfl rfl) i_Lexer_refuse v_Lexer_refuse q48 (by decide) rfl rfl (Nat.le_of_ble_eq_true rfl) ?_
    refine ab_widen (cells' := H51.sh.length - c0) (slots' := H51.sl - s0) (by show _ + (H51.sh.length - H.sh.length) ≤ _; omega) (by show _ + (H51.sl - H.sl) ≤ _; omega) ?_
    clear b_13l b_13s b_13m b_13n
    refine ab_le (lv' := [some (.ref p0), some (.int p1), none, some (.int l3), none, some (.int l5), none, none]) ⟨rfl, ⟨rfl, ⟨rfl, ⟨rfl, trivial⟩⟩⟩⟩ ?_
    exact kB_Reader_readConst_200 hF b_13c b_13d b_13p b_13q hC hS
def B_Reader_readConst_176 (N : Nat) (p0 : Nat) (p1 : Int32) (l2 : Int32) (l3 : Int32) (l5 : Int32) (l6 : Int32) (H : Hp) : Option ((Ot Int32) × Hp) :=
    if p1 = (1 : Int32) then
    B_Reader_readConst_188 N p0 p1 l2 l3 l5 l6 0 H
    else
    B_Reader_readConst_188 N p0 p1 l2 l3 l5 l6 p1 H
set_option maxRecDepth 20000 in
set_option maxHeartbeats 2000000 in
theorem mB_Reader_readConst_176 {N : Nat} {p0 : Nat} {p1 : Int32} {l2 : Int32} {l3 : Int32} {l5 : Int32} {l6 : Int32} {H : Hp} {r : (Ot Int32) × Hp} (hF : B_Reader_readConst_176 N p0 p1 l2 l3 l5 l6 H = some r) : Mo H r.2 := by
  unfold B_Reader_readConst_176 at hF
  have hm := Mo.rf H
  rcases ite_s hF with ⟨q_20, hG⟩ | ⟨q_20, hG⟩
  · clear hF
    exact hm.tr (mB_Reader_readConst_188 hG)
  · clear hF
    exact hm.tr (mB_Reader_readConst_188 hG)
set_option maxRecDepth 20000 in
set_option maxHeartbeats 2000000 in
theorem kB_Reader_readConst_176 {N : Nat} {p0 : Nat} {p1 : Int32} {c0 s0 C Sl : Nat} {l2 : Int32} {l3 : Int32} {l5 : Int32} {l6 : Int32} {H : Hp} {r : (Ot Int32) × Hp} (hF : B_Reader_readConst_176 N p0 p1 l2 l3 l5 l6 H = some r) (hc0 : c0 ≤ H.sh.length) (hs0 : s0 ≤ H.sl) (hcc : H.sh.length ≤ c0 + C) (hss : H.sl ≤ s0 + Sl) (hC : r.2.sh.length ≤ c0 + C) (hS : r.2.sl ≤ s0 + Sl) : ab_V y_Reader_readConst { frames := 8, cells := C, slots := Sl, locals := 143 } (po (oI r.1) r.2) C Sl (H.sh.length - c0) (H.sl - s0) 176 [some (.ref p0), some (.int p1), some (.int l2), some (.int l3), none, some (.int l5), some (.int l6), none] [] (hpw H) := by
  unfold B_Reader_readConst_176 at hF
  refine ab_iload d_Reader_readConst_176 rfl ?_
  refine ab_iload_n d_Reader_readConst_178 rfl rfl ?_
  refine ab_iconst (v := 1) d_Reader_readConst_179 (by decide) ?_
  refine ab_icmp_ne (tgt := 187) d_Reader_readConst_180 (by decide) (fun q27 => ?_) (fun q27 => ?_)
  · rw [if_neg q27] at hF
    refine ab_iload_n d_Reader_readConst_187 rfl rfl ?_
    refine ab_le (lv' := [some (.ref p0), some (.int p1), some (.int l2), some (.int l3), none, some (.int l5), none, none]) ⟨rfl, ⟨rfl, ⟨rfl, ⟨rfl, ⟨rfl, trivial⟩⟩⟩⟩⟩ ?_
    exact kB_Reader_readConst_188 hF hc0 hs0 hcc hss hC hS
  · rw [if_pos q27] at hF
    refine ab_iconst (v := 0) d_Reader_readConst_183 (by decide) ?_
    refine ab_goto (tgt := 188) d_Reader_readConst_184 (by decide) ?_
    refine ab_le (lv' := [some (.ref p0), some (.int p1), some (.int l2), some (.int l3), none, some (.int l5), none, none]) ⟨rfl, ⟨rfl, ⟨rfl, ⟨rfl, ⟨rfl, trivial⟩⟩⟩⟩⟩ ?_
    exact kB_Reader_readConst_188 hF hc0 hs0 hcc hss hC hS
def B_Reader_readConst_84 (N : Nat) (p0 : Nat) (p1 : Int32) (l2 : Int32) (l3 : Int32) (l5 : Int32) (w0 : Int32) (H : Hp) : Option ((Ot Int32) × Hp) :=
    B_Reader_readConst_176 N p0 p1 l2 l3 l5 w0 H
set_option maxRecDepth 20000 in
set_option maxHeartbeats 2000000 in
theorem mB_Reader_readConst_84 {N : Nat} {p0 : Nat} {p1 : Int32} {l2 : Int32} {l3 : Int32} {l5 : Int32} {w0 : Int32} {H : Hp} {r : (Ot Int32) × Hp} (hF : B_Reader_readConst_84 N p0 p1 l2 l3 l5 w0 H = some r) : Mo H r.2 := by
  unfold B_Reader_readConst_84 at hF
  have hm := Mo.rf H
  exact hm.tr (mB_Reader_readConst_176 hF)
set_option maxRecDepth 20000 in
set_option maxHeartbeats 2000000 in
theorem kB_Reader_readConst_84 {N : Nat} {p0 : Nat} {p1 : Int32} {c0 s0 C Sl : Nat} {l2 : Int32} {l3 : Int32} {l5 : Int32} {w0 : Int32} {H : Hp} {r : (Ot Int32) × Hp} (hF : B_Reader_readConst_84 N p0 p1 l2 l3 l5 w0 H = some r) (hc0 : c0 ≤ H.sh.length) (hs0 : s0 ≤ H.sl) (hcc : H.sh.length ≤ c0 + C) (hss : H.sl ≤ s0 + Sl) (hC : r.2.sh.length ≤ c0 + C) (hS : r.2.sl ≤ s0 + Sl) : ab_V y_Reader_readConst { frames := 8, cells := C, slots := Sl, locals := 143 } (po (oI r.1) r.2) C Sl (H.sh.length - c0) (H.sl - s0) 84 [some (.ref p0), some (.int p1), some (.int l2), some (.int l3), none, some (.int l5), none, none] [.int w0] (hpw H) := by
  unfold B_Reader_readConst_84 at hF
  refine ab_istore (lv' := [some (.ref p0), some (.int p1), some (.int l2), some (.int l3), none, some (.int l5), some (.int w0), none]) d_Reader_readConst_84 (by decide) rfl ?_
  refine ab_goto (tgt := 176) d_Reader_readConst_86 (by decide) ?_
  exact kB_Reader_readConst_176 hF hc0 hs0 hcc hss hC hS
def B_Reader_readConst_64 (N : Nat) (p0 : Nat) (p1 : Int32) (l2 : Int32) (l3 : Int32) (l4 : Int32) (H : Hp) : Option ((Ot Int32) × Hp) :=
    ck (H.sh[p0]? = some (5, 0)) <|
    rf (H.P p0 0) fun a19 =>
    ck (H.sh[a19]? = some (1, 0)) <|
    bT (F_Lexer_takeValue N a19 H) fun v23 H24 =>
    if l4 = (3 : Int32) then
    B_Reader_readConst_84 N p0 p1 l2 l3 v23 0 H24
    else
    B_Reader_readConst_84 N p0 p1 l2 l3 v23 2 H24
set_option maxRecDepth 20000 in
set_option maxHeartbeats 2000000 in
theorem mB_Reader_readConst_64 {N : Nat} {p0 : Nat} {p1 : Int32} {l2 : Int32} {l3 : Int32} {l4 : Int32} {H : Hp} {r : (Ot Int32) × Hp} (hF : B_Reader_readConst_64 N p0 p1 l2 l3 l4 H = some r) : Mo H r.2 := by
  unfold B_Reader_readConst_64 at hF
  have hm := Mo.rf H
  obtain ⟨q27, hG⟩ := ck_s hF; clear hF
  obtain ⟨a28, e29, hF⟩ := rf_s hG; clear hG
  obtain ⟨q30, hG⟩ := ck_s hF; clear hF
  refine bT_c hG (fun x34 H33 z31 er => ?_) (fun v32 H33 z31 hF => ?_)
  · subst er; exact hm.tr (m_Lexer_takeValue z31)
  clear hG
  replace hm : Mo H H33 := hm.tr (m_Lexer_takeValue z31)
  rcases ite_s hF with ⟨q_24, hG⟩ | ⟨q_24, hG⟩
  · clear hF
    exact hm.tr (mB_Reader_readConst_84 hG)
  · clear hF
    exact hm.tr (mB_Reader_readConst_84 hG)
set_option maxRecDepth 20000 in
set_option maxHeartbeats 2000000 in
theorem kB_Reader_readConst_64 {N : Nat} {p0 : Nat} {p1 : Int32} {c0 s0 C Sl : Nat} {l2 : Int32} {l3 : Int32} {l4 : Int32} {H : Hp} {r : (Ot Int32) × Hp} (hF : B_Reader_readConst_64 N p0 p1 l2 l3 l4 H = some r) (hc0 : c0 ≤ H.sh.length) (hs0 : s0 ≤ H.sl) (hcc : H.sh.length ≤ c0 + C) (hss : H.sl ≤ s0 + Sl) (hC : r.2.sh.length ≤ c0 + C) (hS : r.2.sl ≤ s0 + Sl) : ab_V y_Reader_readConst { frames := 8, cells := C, slots := Sl, locals := 143 } (po (oI r.1) r.2) C Sl (H.sh.length - c0) (H.sl - s0) 64 [some (.ref p0), some (.int p1), some (.int l2), some (.int l3), some (.int l4), none, none, none] [] (hpw H) := by
  unfold B_Reader_readConst_64 at hF
  refine ab_aload_n d_Reader_readConst_64 rfl rfl rfl ?_
  obtain ⟨q18, hG⟩ := ck_s hF; clear hF
  obtain ⟨a19, e20, hF⟩ := rf_s hG; clear hG
  refine hp_getR (f := 0) d_Reader_readConst_65 q18 (by decide) rfl (by decide) (k1 179 rfl rfl) rfl e20 ?_
  obtain ⟨q21, hG⟩ := ck_s hF; clear hF
  refine bT_c hG (fun x25 H24 z22 er => ?_) (fun v23 H24 z22 hF => ?_)
  · subst er
    have mz : Mo H H24 := (m_Lexer_takeValue z22)
    have ml := mz.len
    have m2 := mz.2
    have hC9 : H24.sh.length ≤ c0 + C := hC
    have hS9 : H24.sl ≤ s0 + Sl := hS
    refine hp_callV_t (x := x25) (H1 := H24) (As := []) (rest := []) d_Reader_readConst_68 (k_Lexer_takeValue z22 (C := H24.sh.length - H.sh.length) (Sl := H24.sl - H.sl) (by show H24.sh.length ≤ _; omega) (by show H24.sl ≤ _; omega)) (ab_mkC s_Lexer_takeValue (Nat.le_of_ble_eq_true rfl) (Nat.le_of_ble_eq_true rfl) (show (H.sh.length - c0) + (H24.sh.length - H.sh.length) ≤ C from by omega) (show (H.sl - s0) + (H24.sl - H.sl) ≤ Sl from by omega)) (k5 85 rfl rfl) i_Lexer_takeValue v_Lexer_takeValue q21 (by decide) rfl rfl (Nat.le_of_ble_eq_true rfl) ?_
    exact ab_U_out rfl (by show _ + (H24.sh.length - H.sh.length) ≤ C; omega) (by show _ + (H24.sl - H.sl) ≤ Sl; omega) ⟨rfl, rfl⟩
  clear hG
  have mz_1 : Mo H H24 := (m_Lexer_takeValue z22)
  have b_2l := (mz_1).len
  have b_2s := (mz_1).2
  have b_2c : c0 ≤ H24.sh.length := by omega
  have b_2d : s0 ≤ H24.sl := by omega
  have q_3 := (mz_1).get q18
  have q_4 := (mz_1).get q21
  have fH24 : Mo H24 r.2 := by
    have hm := Mo.rf H24
    rcases ite_s hF with ⟨q_5, hG⟩ | ⟨q_5, hG⟩
    · clear hF
      exact hm.tr (mB_Reader_readConst_84 hG)
    · clear hF
      exact hm.tr (mB_Reader_readConst_84 hG)
  have b_2m := (fH24).len
  have b_2n := (fH24).2
  have b_2p : H24.sh.length ≤ c0 + C := by omega
  have b_2q : H24.sl ≤ s0 + Sl := by omega
  refine hp_callV_a (v := .int v23) (H1 := H24) (As := []) (rest := []) d_Reader_readConst_68 (k_Lexer_takeValue z22 (C := H24.sh.length - H.sh.length) (Sl := H24.sl - H.sl) (by show H24.sh.length ≤ _; omega) (by show H24.sl ≤ _; omega)) (ab_mkC s_Lexer_takeValue (Nat.le_of_ble_eq_true rfl) (Nat.le_of_ble_eq_true rfl) (show (H.sh.length - c0) + (H24.sh.length - H.sh.length) ≤ C from by omega) (show (H.sl - s0) + (H24.sl - H.sl) ≤ Sl from by omega)) (k5 85 rfl rfl) i_Lexer_takeValue v_Lexer_takeValue q21 (by decide) rfl rfl (Nat.le_of_ble_eq_true rfl) ?_
  refine ab_widen (cells' := H24.sh.length - c0) (slots' := H24.sl - s0) (by show _ + (H24.sh.length - H.sh.length) ≤ _; omega) (by show _ + (H24.sl - H.sl) ≤ _; omega) ?_
  clear b_2l b_2s b_2m b_2n
  refine ab_istore (lv' := [some (.ref p0), some (.int p1), some (.int l2), some (.int l3), some (.int l4), some (.int v23), none, none]) d_Reader_readConst_71 (by decide) rfl ?_
  refine ab_iload d_Reader_readConst_73 rfl ?_
  refine ab_iconst (v := 3) d_Reader_readConst_75 (by decide) ?_
  refine ab_icmp_ne (tgt := 83) d_Reader_readConst_76 (by decide) (fun q26 => ?_) (fun q26 => ?_)
  · rw [if_neg q26] at hF
    refine ab_iconst (v := 2) d_Reader_readConst_83 (by decide) ?_
    refine ab_le (lv' := [some (.ref p0), some (.int p1), some (.int l2), some (.int l3), none, some (.int v23), none, none]) ⟨rfl, ⟨rfl, ⟨rfl, ⟨rfl, ⟨rfl, trivial⟩⟩⟩⟩⟩ ?_
    exact kB_Reader_readConst_84 hF b_2c b_2d b_2p b_2q hC hS
  · rw [if_pos q26] at hF
    refine ab_iconst (v := 0) d_Reader_readConst_79 (by decide) ?_
    refine ab_goto (tgt := 84) d_Reader_readConst_80 (by decide) ?_
    refine ab_le (lv' := [some (.ref p0), some (.int p1), some (.int l2), some (.int l3), none, some (.int v23), none, none]) ⟨rfl, ⟨rfl, ⟨rfl, ⟨rfl, ⟨rfl, trivial⟩⟩⟩⟩⟩ ?_
    exact kB_Reader_readConst_84 hF b_2c b_2d b_2p b_2q hC hS
def B_Reader_readConst_161 (N : Nat) (p0 : Nat) (p1 : Int32) (l2 : Int32) (l3 : Int32) (l5 : Int32) (l6 : Int32) (H : Hp) : Option ((Ot Int32) × Hp) :=
    ck (H.sh[p0]? = some (5, 0)) <|
    rf (H.P p0 0) fun a40 =>
    rf (H.P p0 0) fun a42 =>
    ck (H.sh[a42]? = some (1, 0)) <|
    bnd ((H.D a42 3)) fun x45 =>
    ck (H.sh[a40]? = some (1, 0)) <|
    bT (F_Lexer_refuse N a40 (1 : Int32) x45 H) fun v48 H49 =>
    B_Reader_readConst_176 N p0 p1 l2 l3 l5 l6 H49
set_option maxRecDepth 20000 in
set_option maxHeartbeats 2000000 in
theorem mB_Reader_readConst_161 {N : Nat} {p0 : Nat} {p1 : Int32} {l2 : Int32} {l3 : Int32} {l5 : Int32} {l6 : Int32} {H : Hp} {r : (Ot Int32) × Hp} (hF : B_Reader_readConst_161 N p0 p1 l2 l3 l5 l6 H = some r) : Mo H r.2 := by
  unfold B_Reader_readConst_161 at hF
  have hm := Mo.rf H
  obtain ⟨q51, hG⟩ := ck_s hF; clear hF
  obtain ⟨a52, e53, hF⟩ := rf_s hG; clear hG
  obtain ⟨a54, e55, hG⟩ := rf_s hF; clear hF
  obtain ⟨q56, hF⟩ := ck_s hG; clear hG
  obtain ⟨x57, -, hG⟩ := bnd_g hF; clear hF
  obtain ⟨q58, hF⟩ := ck_s hG; clear hG
  refine bT_c hF (fun x62 H61 z59 er => ?_) (fun v60 H61 z59 hG => ?_)
  · subst er; exact hm.tr (m_Lexer_refuse z59)
  clear hF
  replace hm : Mo H H61 := hm.tr (m_Lexer_refuse z59)
  exact hm.tr (mB_Reader_readConst_176 hG)
set_option maxRecDepth 20000 in
set_option maxHeartbeats 2000000 in
theorem kB_Reader_readConst_161 {N : Nat} {p0 : Nat} {p1 : Int32} {c0 s0 C Sl : Nat} {l2 : Int32} {l3 : Int32} {l5 : Int32} {l6 : Int32} {H : Hp} {r : (Ot Int32) × Hp} (hF : B_Reader_readConst_161 N p0 p1 l2 l3 l5 l6 H = some r) (hc0 : c0 ≤ H.sh.length) (hs0 : s0 ≤ H.sl) (hcc : H.sh.length ≤ c0 + C) (hss : H.sl ≤ s0 + Sl) (hC : r.2.sh.length ≤ c0 + C) (hS : r.2.sl ≤ s0 + Sl) : ab_V y_Reader_readConst { frames := 8, cells := C, slots := Sl, locals := 143 } (po (oI r.1) r.2) C Sl (H.sh.length - c0) (H.sl - s0) 161 [some (.ref p0), some (.int p1), some (.int l2), some (.int l3), none, some (.int l5), some (.int l6), none] [] (hpw H) := by
  unfold B_Reader_readConst_161 at hF
  refine ab_aload_n d_Reader_readConst_161 rfl rfl rfl ?_
  obtain ⟨q39, hG⟩ := ck_s hF; clear hF
  obtain ⟨a40, e41, hF⟩ := rf_s hG; clear hG
  refine hp_getR (f := 0) d_Reader_readConst_162 q39 (by decide) rfl (by decide) (k1 179 rfl rfl) rfl e41 ?_
  refine ab_iconst (v := 1) d_Reader_readConst_165 (by decide) ?_
  refine ab_aload_n d_Reader_readConst_166 rfl rfl rfl ?_
  obtain ⟨a42, e43, hG⟩ := rf_s hF; clear hF
  refine hp_getR (f := 0) d_Reader_readConst_167 q39 (by decide) rfl (by decide) (k1 179 rfl rfl) rfl e43 ?_
  obtain ⟨q44, hF⟩ := ck_s hG; clear hG
  refine hp_getI (f := 3) d_Reader_readConst_170 q44 (by decide) rfl (by decide) (k1 101 rfl rfl) rfl ?_
  refine ab_topi (fun x45 ex45 => ?_)
  replace hF := bnd_s ex45 hF
  obtain ⟨q46, hG⟩ := ck_s hF; clear hF
  refine bT_c hG (fun x50 H49 z47 er => ?_) (fun v48 H49 z47 hF => ?_)
  · subst er
    have mz : Mo H H49 := (m_Lexer_refuse z47)
    have ml := mz.len
    have m2 := mz.2
    have hC9 : H49.sh.length ≤ c0 + C := hC
    have hS9 : H49.sl ≤ s0 + Sl := hS
    refine hp_callV_t (x := x50) (H1 := H49) (As := [.int 1, .int x45]) (rest := []) d_Reader_readConst_173 (k_Lexer_refuse z47 (C := H49.sh.length - H.sh.length) (Sl := H49.sl - H.sl) (by show H49.sh.length ≤ _; omega) (by show H49.sl ≤ _; omega)) (ab_mkC s_Lexer_refuse (Nat.le_of_ble_eq_true rfl) (Nat.le_of_ble_eq_true rfl) (show (H.sh.length - c0) + (H49.sh.length - H.sh.length) ≤ C from by omega) (show (H.sl - s0) + (H49.sl - H.sl) ≤ Sl from by omega)) (k4 97 rfl rfl) i_Lexer_refuse v_Lexer_refuse q46 (by decide) rfl rfl (Nat.le_of_ble_eq_true rfl) ?_
    exact ab_U_out rfl (by show _ + (H49.sh.length - H.sh.length) ≤ C; omega) (by show _ + (H49.sl - H.sl) ≤ Sl; omega) ⟨rfl, rfl⟩
  clear hG
  have mz_25 : Mo H H49 := (m_Lexer_refuse z47)
  have b_26l := (mz_25).len
  have b_26s := (mz_25).2
  have b_26c : c0 ≤ H49.sh.length := by omega
  have b_26d : s0 ≤ H49.sl := by omega
  have q_27 := (mz_25).get q39
  have q_28 := (mz_25).get q44
  have q_29 := (mz_25).get q46
  have fH49 : Mo H49 r.2 := by
    have hm := Mo.rf H49
    exact hm.tr (mB_Reader_readConst_176 hF)
  have b_26m := (fH49).len
  have b_26n := (fH49).2
  have b_26p : H49.sh.length ≤ c0 + C := by omega
  have b_26q : H49.sl ≤ s0 + Sl := by omega
  refine hp_callV_v (H1 := H49) (As := [.int 1, .int x45]) (rest := []) d_Reader_readConst_173 (k_Lexer_refuse z47 (C := H49.sh.length - H.sh.length) (Sl := H49.sl - H.sl) (by show H49.sh.length ≤ _; omega) (by show H49.sl ≤ _; omega)) (ab_mkC s_Lexer_refuse (Nat.le_of_ble_eq_true rfl) (Nat.le_of_ble_eq_true rfl) (show (H.sh.length - c0) + (H49.sh.length - H.sh.length) ≤ C from by omega) (show (H.sl - s0) + (H49.sl - H.sl) ≤ Sl from by omega)) (k4 97 rfl rfl) i_Lexer_refuse v_Lexer_refuse q46 (by decide) rfl rfl (Nat.le_of_ble_eq_true rfl) ?_
  refine ab_widen (cells' := H49.sh.length - c0) (slots' := H49.sl - s0) (by show _ + (H49.sh.length - H.sh.length) ≤ _; omega) (by show _ + (H49.sl - H.sl) ≤ _; omega) ?_
  clear b_26l b_26s b_26m b_26n
  exact kB_Reader_readConst_176 hF b_26c b_26d b_26p b_26q hC hS
def B_Reader_readConst_134 (N : Nat) (p0 : Nat) (p1 : Int32) (l2 : Int32) (l3 : Int32) (l4 : Int32) (l5 : Int32) (l6 : Int32) (H : Hp) : Option ((Ot Int32) × Hp) :=
    if l3 = (0 : Int32) then
    if l4 = (73 : Int32) then
    ck (H.sh[p0]? = some (5, 0)) <|
    rf (H.P p0 0) fun a65 =>
    ck (H.sh[a65]? = some (1, 0)) <|
    bC (F_Lexer_advance N a65 H) fun v69 H70 =>
    B_Reader_readConst_176 N p0 p1 l2 l3 (-1) 4 H70
    else
    B_Reader_readConst_161 N p0 p1 l2 l3 l5 l6 H
    else
    B_Reader_readConst_161 N p0 p1 l2 l3 l5 l6 H
set_option maxRecDepth 20000 in
set_option maxHeartbeats 2000000 in
theorem mB_Reader_readConst_134 {N : Nat} {p0 : Nat} {p1 : Int32} {l2 : Int32} {l3 : Int32} {l4 : Int32} {l5 : Int32} {l6 : Int32} {H : Hp} {r : (Ot Int32) × Hp} (hF : B_Reader_readConst_134 N p0 p1 l2 l3 l4 l5 l6 H = some r) : Mo H r.2 := by
  unfold B_Reader_readConst_134 at hF
  have hm := Mo.rf H
  rcases ite_s hF with ⟨q_36, hG⟩ | ⟨q_36, hG⟩
  · clear hF
    rcases ite_s hG with ⟨q_37, hF⟩ | ⟨q_37, hF⟩
    · clear hG
      obtain ⟨q73, hG⟩ := ck_s hF; clear hF
      obtain ⟨a74, e75, hF⟩ := rf_s hG; clear hG
      obtain ⟨q76, hG⟩ := ck_s hF; clear hF
      obtain ⟨v78, H79, z77, hF⟩ := bC_s hG; clear hG
      replace hm : Mo H H79 := hm.tr ((m_Lexer_advance z77)).mo
      exact hm.tr (mB_Reader_readConst_176 hF)
    · clear hG
      exact hm.tr (mB_Reader_readConst_161 hF)
  · clear hF
    exact hm.tr (mB_Reader_readConst_161 hG)
set_option maxRecDepth 20000 in
set_option maxHeartbeats 2000000 in
theorem kB_Reader_readConst_134 {N : Nat} {p0 : Nat} {p1 : Int32} {c0 s0 C Sl : Nat} {l2 : Int32} {l3 : Int32} {l4 : Int32} {l5 : Int32} {l6 : Int32} {H : Hp} {r : (Ot Int32) × Hp} (hF : B_Reader_readConst_134 N p0 p1 l2 l3 l4 l5 l6 H = some r) (hc0 : c0 ≤ H.sh.length) (hs0 : s0 ≤ H.sl) (hcc : H.sh.length ≤ c0 + C) (hss : H.sl ≤ s0 + Sl) (hC : r.2.sh.length ≤ c0 + C) (hS : r.2.sl ≤ s0 + Sl) : ab_V y_Reader_readConst { frames := 8, cells := C, slots := Sl, locals := 143 } (po (oI r.1) r.2) C Sl (H.sh.length - c0) (H.sl - s0) 134 [some (.ref p0), some (.int p1), some (.int l2), some (.int l3), some (.int l4), some (.int l5), some (.int l6), none] [] (hpw H) := by
  unfold B_Reader_readConst_134 at hF
  refine ab_iload_n d_Reader_readConst_134 rfl rfl ?_
  refine ab_if_ne (tgt := 161) d_Reader_readConst_135 (by decide) (fun q38 => ?_) (fun q38 => ?_)
  · rw [if_neg q38] at hF
    refine ab_le (lv' := [some (.ref p0), some (.int p1), some (.int l2), some (.int l3), none, some (.int l5), some (.int l6), none]) ⟨rfl, ⟨rfl, ⟨rfl, ⟨rfl, ⟨rfl, ⟨rfl, trivial⟩⟩⟩⟩⟩⟩ ?_
    exact kB_Reader_readConst_161 hF hc0 hs0 hcc hss hC hS
  · rw [if_pos q38] at hF
    refine ab_iload d_Reader_readConst_138 rfl ?_
    refine ab_bipush (v := 73) d_Reader_readConst_140 (by decide) ?_
    refine ab_icmp_ne (tgt := 161) d_Reader_readConst_142 (by decide) (fun q63 => ?_) (fun q63 => ?_)
    · rw [if_neg q63] at hF
      refine ab_le (lv' := [some (.ref p0), some (.int p1), some (.int l2), some (.int l3), none, some (.int l5), some (.int l6), none]) ⟨rfl, ⟨rfl, ⟨rfl, ⟨rfl, ⟨rfl, ⟨rfl, trivial⟩⟩⟩⟩⟩⟩ ?_
      exact kB_Reader_readConst_161 hF hc0 hs0 hcc hss hC hS
    · rw [if_pos q63] at hF
      refine ab_iconst (v := (-1)) d_Reader_readConst_145 (by decide) ?_
      refine ab_istore (lv' := [some (.ref p0), some (.int p1), some (.int l2), some (.int l3), some (.int l4), some (.int (-1)), some (.int l6), none]) d_Reader_readConst_146 (by decide) rfl ?_
      refine ab_iconst (v := 4) d_Reader_readConst_148 (by decide) ?_
      refine ab_istore (lv' := [some (.ref p0), some (.int p1), some (.int l2), some (.int l3), some (.int l4), some (.int (-1)), some (.int 4), none]) d_Reader_readConst_149 (by decide) rfl ?_
      refine ab_aload_n d_Reader_readConst_151 rfl rfl rfl ?_
      obtain ⟨q64, hG⟩ := ck_s hF; clear hF
      obtain ⟨a65, e66, hF⟩ := rf_s hG; clear hG
      refine hp_getR (f := 0) d_Reader_readConst_152 q64 (by decide) rfl (by decide) (k1 179 rfl rfl) rfl e66 ?_
      obtain ⟨q67, hG⟩ := ck_s hF; clear hF
      obtain ⟨v69, H70, z68, hF⟩ := bC_s hG; clear hG
      refine hp_callV_v (H1 := H70) (As := []) (rest := []) d_Reader_readConst_155 (k_Lexer_advance z68) (ab_mkC s_Lexer_advance (Nat.le_of_ble_eq_true rfl) (Nat.le_of_ble_eq_true rfl) (show (H.sh.length - c0) + 0 ≤ C from by omega) (show (H.sl - s0) + 0 ≤ Sl from by omega)) (k4 167 rfl rfl) i_Lexer_advance v_Lexer_advance q67 (by decide) rfl rfl (Nat.le_of_ble_eq_true rfl) ?_
      have s_35 : Sa H H70 := (m_Lexer_advance z68)
      refine ab_widen (cells' := H.sh.length - c0) (slots' := H.sl - s0) (by show (H.sh.length - c0) + 0 ≤ _; omega) (by show (H.sl - s0) + 0 ≤ _; omega) ?_
      refine ab_goto (tgt := 176) d_Reader_readConst_158 (by decide) ?_
      refine ab_le (lv' := [some (.ref p0), some (.int p1), some (.int l2), some (.int l3), none, some (.int (-1)), some (.int 4), none]) ⟨rfl, ⟨rfl, ⟨rfl, ⟨rfl, ⟨rfl, ⟨rfl, trivial⟩⟩⟩⟩⟩⟩ ?_
      refine ab_widen (cells' := H70.sh.length - c0) (slots' := H70.sl - s0) (by rw [(s_35).1]; exact Nat.le_refl _) (by rw [(s_35).2]; exact Nat.le_refl _) ?_
      exact kB_Reader_readConst_176 hF (by rw [(s_35).1]; exact hc0) (by rw [(s_35).2]; exact hs0) (by rw [(s_35).1]; exact hcc) (by rw [(s_35).2]; exact hss) hC hS
def B_Reader_readConst_119 (N : Nat) (p0 : Nat) (p1 : Int32) (l2 : Int32) (l3 : Int32) (w0 : Int32) (H : Hp) : Option ((Ot Int32) × Hp) :=
    ck (H.sh[p0]? = some (5, 0)) <|
    rf (H.P p0 0) fun a83 =>
    ck (H.sh[a83]? = some (1, 0)) <|
    bC (F_Lexer_advance N a83 H) fun v87 H88 =>
    B_Reader_readConst_176 N p0 p1 l2 l3 w0 3 H88
set_option maxRecDepth 20000 in
set_option maxHeartbeats 2000000 in
theorem mB_Reader_readConst_119 {N : Nat} {p0 : Nat} {p1 : Int32} {l2 : Int32} {l3 : Int32} {w0 : Int32} {H : Hp} {r : (Ot Int32) × Hp} (hF : B_Reader_readConst_119 N p0 p1 l2 l3 w0 H = some r) : Mo H r.2 := by
  unfold B_Reader_readConst_119 at hF
  have hm := Mo.rf H
  obtain ⟨q89, hG⟩ := ck_s hF; clear hF
  obtain ⟨a90, e91, hF⟩ := rf_s hG; clear hG
  obtain ⟨q92, hG⟩ := ck_s hF; clear hF
  obtain ⟨v94, H95, z93, hF⟩ := bC_s hG; clear hG
  replace hm : Mo H H95 := hm.tr ((m_Lexer_advance z93)).mo
  exact hm.tr (mB_Reader_readConst_176 hF)
set_option maxRecDepth 20000 in
set_option maxHeartbeats 2000000 in
theorem kB_Reader_readConst_119 {N : Nat} {p0 : Nat} {p1 : Int32} {c0 s0 C Sl : Nat} {l2 : Int32} {l3 : Int32} {w0 : Int32} {H : Hp} {r : (Ot Int32) × Hp} (hF : B_Reader_readConst_119 N p0 p1 l2 l3 w0 H = some r) (hc0 : c0 ≤ H.sh.length) (hs0 : s0 ≤ H.sl) (hcc : H.sh.length ≤ c0 + C) (hss : H.sl ≤ s0 + Sl) (hC : r.2.sh.length ≤ c0 + C) (hS : r.2.sl ≤ s0 + Sl) : ab_V y_Reader_readConst { frames := 8, cells := C, slots := Sl, locals := 143 } (po (oI r.1) r.2) C Sl (H.sh.length - c0) (H.sl - s0) 119 [some (.ref p0), some (.int p1), some (.int l2), some (.int l3), none, none, none, none] [.int w0] (hpw H) := by
  unfold B_Reader_readConst_119 at hF
  refine ab_istore (lv' := [some (.ref p0), some (.int p1), some (.int l2), some (.int l3), none, some (.int w0), none, none]) d_Reader_readConst_119 (by decide) rfl ?_
  refine ab_iconst (v := 3) d_Reader_readConst_121 (by decide) ?_
  refine ab_istore (lv' := [some (.ref p0), some (.int p1), some (.int l2), some (.int l3), none, some (.int w0), some (.int 3), none]) d_Reader_readConst_122 (by decide) rfl ?_
  refine ab_aload_n d_Reader_readConst_124 rfl rfl rfl ?_
  obtain ⟨q82, hG⟩ := ck_s hF; clear hF
  obtain ⟨a83, e84, hF⟩ := rf_s hG; clear hG
  refine hp_getR (f := 0) d_Reader_readConst_125 q82 (by decide) rfl (by decide) (k1 179 rfl rfl) rfl e84 ?_
  obtain ⟨q85, hG⟩ := ck_s hF; clear hF
  obtain ⟨v87, H88, z86, hF⟩ := bC_s hG; clear hG
  refine hp_callV_v (H1 := H88) (As := []) (rest := []) d_Reader_readConst_128 (k_Lexer_advance z86) (ab_mkC s_Lexer_advance (Nat.le_of_ble_eq_true rfl) (Nat.le_of_ble_eq_true rfl) (show (H.sh.length - c0) + 0 ≤ C from by omega) (show (H.sl - s0) + 0 ≤ Sl from by omega)) (k4 167 rfl rfl) i_Lexer_advance v_Lexer_advance q85 (by decide) rfl rfl (Nat.le_of_ble_eq_true rfl) ?_
  have s_39 : Sa H H88 := (m_Lexer_advance z86)
  refine ab_widen (cells' := H.sh.length - c0) (slots' := H.sl - s0) (by show (H.sh.length - c0) + 0 ≤ _; omega) (by show (H.sl - s0) + 0 ≤ _; omega) ?_
  refine ab_goto (tgt := 176) d_Reader_readConst_131 (by decide) ?_
  refine ab_widen (cells' := H88.sh.length - c0) (slots' := H88.sl - s0) (by rw [(s_39).1]; exact Nat.le_refl _) (by rw [(s_39).2]; exact Nat.le_refl _) ?_
  exact kB_Reader_readConst_176 hF (by rw [(s_39).1]; exact hc0) (by rw [(s_39).2]; exact hs0) (by rw [(s_39).1]; exact hcc) (by rw [(s_39).2]; exact hss) hC hS
def B_Reader_readConst_107 (N : Nat) (p0 : Nat) (p1 : Int32) (l2 : Int32) (l3 : Int32) (l4 : Int32) (H : Hp) : Option ((Ot Int32) × Hp) :=
    if l4 = (71 : Int32) then
    B_Reader_readConst_119 N p0 p1 l2 l3 1 H
    else
    B_Reader_readConst_119 N p0 p1 l2 l3 0 H
set_option maxRecDepth 20000 in
set_option maxHeartbeats 2000000 in
theorem mB_Reader_readConst_107 {N : Nat} {p0 : Nat} {p1 : Int32} {l2 : Int32} {l3 : Int32} {l4 : Int32} {H : Hp} {r : (Ot Int32) × Hp} (hF : B_Reader_readConst_107 N p0 p1 l2 l3 l4 H = some r) : Mo H r.2 := by
  unfold B_Reader_readConst_107 at hF
  have hm := Mo.rf H
  rcases ite_s hF with ⟨q_40, hG⟩ | ⟨q_40, hG⟩
  · clear hF
    exact hm.tr (mB_Reader_readConst_119 hG)
  · clear hF
    exact hm.tr (mB_Reader_readConst_119 hG)
set_option maxRecDepth 20000 in
set_option maxHeartbeats 2000000 in
theorem kB_Reader_readConst_107 {N : Nat} {p0 : Nat} {p1 : Int32} {c0 s0 C Sl : Nat} {l2 : Int32} {l3 : Int32} {l4 : Int32} {H : Hp} {r : (Ot Int32) × Hp} (hF : B_Reader_readConst_107 N p0 p1 l2 l3 l4 H = some r) (hc0 : c0 ≤ H.sh.length) (hs0 : s0 ≤ H.sl) (hcc : H.sh.length ≤ c0 + C) (hss : H.sl ≤ s0 + Sl) (hC : r.2.sh.length ≤ c0 + C) (hS : r.2.sl ≤ s0 + Sl) : ab_V y_Reader_readConst { frames := 8, cells := C, slots := Sl, locals := 143 } (po (oI r.1) r.2) C Sl (H.sh.length - c0) (H.sl - s0) 107 [some (.ref p0), some (.int p1), some (.int l2), some (.int l3), some (.int l4), none, none, none] [] (hpw H) := by
  unfold B_Reader_readConst_107 at hF
  refine ab_iload d_Reader_readConst_107 rfl ?_
  refine ab_bipush (v := 71) d_Reader_readConst_109 (by decide) ?_
  refine ab_icmp_ne (tgt := 118) d_Reader_readConst_111 (by decide) (fun q81 => ?_) (fun q81 => ?_)
  · rw [if_neg q81] at hF
    refine ab_iconst (v := 0) d_Reader_readConst_118 (by decide) ?_
    refine ab_le (lv' := [some (.ref p0), some (.int p1), some (.int l2), some (.int l3), none, none, none, none]) ⟨rfl, ⟨rfl, ⟨rfl, ⟨rfl, trivial⟩⟩⟩⟩ ?_
    exact kB_Reader_readConst_119 hF hc0 hs0 hcc hss hC hS
  · rw [if_pos q81] at hF
    refine ab_iconst (v := 1) d_Reader_readConst_114 (by decide) ?_
    refine ab_goto (tgt := 119) d_Reader_readConst_115 (by decide) ?_
    refine ab_le (lv' := [some (.ref p0), some (.int p1), some (.int l2), some (.int l3), none, none, none, none]) ⟨rfl, ⟨rfl, ⟨rfl, ⟨rfl, trivial⟩⟩⟩⟩ ?_
    exact kB_Reader_readConst_119 hF hc0 hs0 hcc hss hC hS
def B_Reader_readConst_37 (N : Nat) (p0 : Nat) (p1 : Int32) (l2 : Int32) (l3 : Int32) (H : Hp) : Option ((Ot Int32) × Hp) :=
    ck (H.sh[p0]? = some (5, 0)) <|
    rf (H.P p0 0) fun a13 =>
    ck (H.sh[a13]? = some (1, 0)) <|
    bnd ((H.D a13 2)) fun x16 =>
    if x16 = (3 : Int32) then
    B_Reader_readConst_64 N p0 p1 l2 l3 x16 H
    else
    if x16 = (4 : Int32) then
    B_Reader_readConst_64 N p0 p1 l2 l3 x16 H
    else
    if l3 = (0 : Int32) then
    if x16 = (71 : Int32) then
    B_Reader_readConst_107 N p0 p1 l2 l3 x16 H
    else
    if x16 = (72 : Int32) then
    B_Reader_readConst_107 N p0 p1 l2 l3 x16 H
    else
    B_Reader_readConst_134 N p0 p1 l2 l3 x16 0 0 H
    else
    B_Reader_readConst_134 N p0 p1 l2 l3 x16 0 0 H
set_option maxRecDepth 20000 in
set_option maxHeartbeats 2000000 in
theorem mB_Reader_readConst_37 {N : Nat} {p0 : Nat} {p1 : Int32} {l2 : Int32} {l3 : Int32} {H : Hp} {r : (Ot Int32) × Hp} (hF : B_Reader_readConst_37 N p0 p1 l2 l3 H = some r) : Mo H r.2 := by
  unfold B_Reader_readConst_37 at hF
  have hm := Mo.rf H
  obtain ⟨q98, hG⟩ := ck_s hF; clear hF
  obtain ⟨a99, e100, hF⟩ := rf_s hG; clear hG
  obtain ⟨q101, hG⟩ := ck_s hF; clear hF
  obtain ⟨x102, -, hF⟩ := bnd_g hG; clear hG
  rcases ite_s hF with ⟨q_41, hG⟩ | ⟨q_41, hG⟩
  · clear hF
    exact hm.tr (mB_Reader_readConst_64 hG)
  · clear hF
    rcases ite_s hG with ⟨q_42, hF⟩ | ⟨q_42, hF⟩
    · clear hG
      exact hm.tr (mB_Reader_readConst_64 hF)
    · clear hG
      rcases ite_s hF with ⟨q_43, hG⟩ | ⟨q_43, hG⟩
      · clear hF
        rcases ite_s hG with ⟨q_44, hF⟩ | ⟨q_44, hF⟩
        · clear hG
          exact hm.tr (mB_Reader_readConst_107 hF)
        · clear hG
          rcases ite_s hF with ⟨q_45, hG⟩ | ⟨q_45, hG⟩
          · clear hF
            exact hm.tr (mB_Reader_readConst_107 hG)
          · clear hF
            exact hm.tr (mB_Reader_readConst_134 hG)
      · clear hF
        exact hm.tr (mB_Reader_readConst_134 hG)
set_option maxRecDepth 20000 in
set_option maxHeartbeats 2000000 in
theorem kB_Reader_readConst_37 {N : Nat} {p0 : Nat} {p1 : Int32} {c0 s0 C Sl : Nat} {l2 : Int32} {l3 : Int32} {H : Hp} {r : (Ot Int32) × Hp} (hF : B_Reader_readConst_37 N p0 p1 l2 l3 H = some r) (hc0 : c0 ≤ H.sh.length) (hs0 : s0 ≤ H.sl) (hcc : H.sh.length ≤ c0 + C) (hss : H.sl ≤ s0 + Sl) (hC : r.2.sh.length ≤ c0 + C) (hS : r.2.sl ≤ s0 + Sl) : ab_V y_Reader_readConst { frames := 8, cells := C, slots := Sl, locals := 143 } (po (oI r.1) r.2) C Sl (H.sh.length - c0) (H.sl - s0) 37 [some (.ref p0), some (.int p1), some (.int l2), some (.int l3), none, none, none, none] [] (hpw H) := by
  unfold B_Reader_readConst_37 at hF
  refine ab_aload_n d_Reader_readConst_37 rfl rfl rfl ?_
  obtain ⟨q12, hG⟩ := ck_s hF; clear hF
  obtain ⟨a13, e14, hF⟩ := rf_s hG; clear hG
  refine hp_getR (f := 0) d_Reader_readConst_38 q12 (by decide) rfl (by decide) (k1 179 rfl rfl) rfl e14 ?_
  obtain ⟨q15, hG⟩ := ck_s hF; clear hF
  refine hp_getI (f := 2) d_Reader_readConst_41 q15 (by decide) rfl (by decide) (k1 98 rfl rfl) rfl ?_
  refine ab_topi (fun x16 ex16 => ?_)
  replace hG := bnd_s ex16 hG
  refine ab_istore (lv' := [some (.ref p0), some (.int p1), some (.int l2), some (.int l3), some (.int x16), none, none, none]) d_Reader_readConst_44 (by decide) rfl ?_
  refine ab_iconst (v := 0) d_Reader_readConst_46 (by decide) ?_
  refine ab_istore (lv' := [some (.ref p0), some (.int p1), some (.int l2), some (.int l3), some (.int x16), some (.int 0), none, none]) d_Reader_readConst_47 (by decide) rfl ?_
  refine ab_iconst (v := 0) d_Reader_readConst_49 (by decide) ?_
  refine ab_istore (lv' := [some (.ref p0), some (.int p1), some (.int l2), some (.int l3), some (.int x16), some (.int 0), some (.int 0), none]) d_Reader_readConst_50 (by decide) rfl ?_
  refine ab_iload d_Reader_readConst_52 rfl ?_
  refine ab_iconst (v := 3) d_Reader_readConst_54 (by decide) ?_
  refine ab_icmp_eq (tgt := 64) d_Reader_readConst_55 (by decide) (fun q17 => ?_) (fun q17 => ?_)
  · rw [if_pos q17] at hG
    refine ab_le (lv' := [some (.ref p0), some (.int p1), some (.int l2), some (.int l3), some (.int x16), none, none, none]) ⟨rfl, ⟨rfl, ⟨rfl, ⟨rfl, ⟨rfl, trivial⟩⟩⟩⟩⟩ ?_
    exact kB_Reader_readConst_64 hG hc0 hs0 hcc hss hC hS
  · rw [if_neg q17] at hG
    refine ab_iload d_Reader_readConst_58 rfl ?_
    refine ab_iconst (v := 4) d_Reader_readConst_60 (by decide) ?_
    refine ab_icmp_ne (tgt := 89) d_Reader_readConst_61 (by decide) (fun q36 => ?_) (fun q36 => ?_)
    · rw [if_neg q36] at hG
      refine ab_iload_n d_Reader_readConst_89 rfl rfl ?_
      refine ab_if_ne (tgt := 134) d_Reader_readConst_90 (by decide) (fun q37 => ?_) (fun q37 => ?_)
      · rw [if_neg q37] at hG
        exact kB_Reader_readConst_134 hG hc0 hs0 hcc hss hC hS
      · rw [if_pos q37] at hG
        refine ab_iload d_Reader_readConst_93 rfl ?_
        refine ab_bipush (v := 71) d_Reader_readConst_95 (by decide) ?_
        refine ab_icmp_eq (tgt := 107) d_Reader_readConst_97 (by decide) (fun q80 => ?_) (fun q80 => ?_)
        · rw [if_pos q80] at hG
          refine ab_le (lv' := [some (.ref p0), some (.int p1), some (.int l2), some (.int l3), some (.int x16), none, none, none]) ⟨rfl, ⟨rfl, ⟨rfl, ⟨rfl, ⟨rfl, trivial⟩⟩⟩⟩⟩ ?_
          exact kB_Reader_readConst_107 hG hc0 hs0 hcc hss hC hS
        · rw [if_neg q80] at hG
          refine ab_iload d_Reader_readConst_100 rfl ?_
          refine ab_bipush (v := 72) d_Reader_readConst_102 (by decide) ?_
          refine ab_icmp_ne (tgt := 134) d_Reader_readConst_104 (by decide) (fun q97 => ?_) (fun q97 => ?_)
          · rw [if_neg q97] at hG
            exact kB_Reader_readConst_134 hG hc0 hs0 hcc hss hC hS
          · rw [if_pos q97] at hG
            refine ab_le (lv' := [some (.ref p0), some (.int p1), some (.int l2), some (.int l3), some (.int x16), none, none, none]) ⟨rfl, ⟨rfl, ⟨rfl, ⟨rfl, ⟨rfl, trivial⟩⟩⟩⟩⟩ ?_
            exact kB_Reader_readConst_107 hG hc0 hs0 hcc hss hC hS
    · rw [if_pos q36] at hG
      refine ab_le (lv' := [some (.ref p0), some (.int p1), some (.int l2), some (.int l3), some (.int x16), none, none, none]) ⟨rfl, ⟨rfl, ⟨rfl, ⟨rfl, ⟨rfl, trivial⟩⟩⟩⟩⟩ ?_
      exact kB_Reader_readConst_64 hG hc0 hs0 hcc hss hC hS
def B_Reader_readConst_25 (N : Nat) (p0 : Nat) (p1 : Int32) (l2 : Int32) (w0 : Int32) (H : Hp) : Option ((Ot Int32) × Hp) :=
    if w0 = (0 : Int32) then
    B_Reader_readConst_37 N p0 p1 l2 w0 H
    else
    ck (H.sh[p0]? = some (5, 0)) <|
    rf (H.P p0 0) fun a109 =>
    ck (H.sh[a109]? = some (1, 0)) <|
    bC (F_Lexer_advance N a109 H) fun v113 H114 =>
    B_Reader_readConst_37 N p0 p1 l2 w0 H114
set_option maxRecDepth 20000 in
set_option maxHeartbeats 2000000 in
theorem mB_Reader_readConst_25 {N : Nat} {p0 : Nat} {p1 : Int32} {l2 : Int32} {w0 : Int32} {H : Hp} {r : (Ot Int32) × Hp} (hF : B_Reader_readConst_25 N p0 p1 l2 w0 H = some r) : Mo H r.2 := by
  unfold B_Reader_readConst_25 at hF
  have hm := Mo.rf H
  rcases ite_s hF with ⟨q_48, hG⟩ | ⟨q_48, hG⟩
  · clear hF
    exact hm.tr (mB_Reader_readConst_37 hG)
  · clear hF
    obtain ⟨q116, hF⟩ := ck_s hG; clear hG
    obtain ⟨a117, e118, hG⟩ := rf_s hF; clear hF
    obtain ⟨q119, hF⟩ := ck_s hG; clear hG
    obtain ⟨v121, H122, z120, hG⟩ := bC_s hF; clear hF
    replace hm : Mo H H122 := hm.tr ((m_Lexer_advance z120)).mo
    exact hm.tr (mB_Reader_readConst_37 hG)
set_option maxRecDepth 20000 in
set_option maxHeartbeats 2000000 in
theorem kB_Reader_readConst_25 {N : Nat} {p0 : Nat} {p1 : Int32} {c0 s0 C Sl : Nat} {l2 : Int32} {w0 : Int32} {H : Hp} {r : (Ot Int32) × Hp} (hF : B_Reader_readConst_25 N p0 p1 l2 w0 H = some r) (hc0 : c0 ≤ H.sh.length) (hs0 : s0 ≤ H.sl) (hcc : H.sh.length ≤ c0 + C) (hss : H.sl ≤ s0 + Sl) (hC : r.2.sh.length ≤ c0 + C) (hS : r.2.sl ≤ s0 + Sl) : ab_V y_Reader_readConst { frames := 8, cells := C, slots := Sl, locals := 143 } (po (oI r.1) r.2) C Sl (H.sh.length - c0) (H.sl - s0) 25 [some (.ref p0), some (.int p1), some (.int l2), none, none, none, none, none] [.int w0] (hpw H) := by
  unfold B_Reader_readConst_25 at hF
  refine ab_istore_n (lv' := [some (.ref p0), some (.int p1), some (.int l2), some (.int w0), none, none, none, none]) d_Reader_readConst_25 rfl (by decide) rfl ?_
  refine ab_iload_n d_Reader_readConst_26 rfl rfl ?_
  refine ab_if_eq (tgt := 37) d_Reader_readConst_27 (by decide) (fun q11 => ?_) (fun q11 => ?_)
  · rw [if_pos q11] at hF
    exact kB_Reader_readConst_37 hF hc0 hs0 hcc hss hC hS
  · rw [if_neg q11] at hF
    refine ab_aload_n d_Reader_readConst_30 rfl rfl rfl ?_
    obtain ⟨q108, hG⟩ := ck_s hF; clear hF
    obtain ⟨a109, e110, hF⟩ := rf_s hG; clear hG
    refine hp_getR (f := 0) d_Reader_readConst_31 q108 (by decide) rfl (by decide) (k1 179 rfl rfl) rfl e110 ?_
    obtain ⟨q111, hG⟩ := ck_s hF; clear hF
    obtain ⟨v113, H114, z112, hF⟩ := bC_s hG; clear hG
    refine hp_callV_v (H1 := H114) (As := []) (rest := []) d_Reader_readConst_34 (k_Lexer_advance z112) (ab_mkC s_Lexer_advance (Nat.le_of_ble_eq_true rfl) (Nat.le_of_ble_eq_true rfl) (show (H.sh.length - c0) + 0 ≤ C from by omega) (show (H.sl - s0) + 0 ≤ Sl from by omega)) (k4 167 rfl rfl) i_Lexer_advance v_Lexer_advance q111 (by decide) rfl rfl (Nat.le_of_ble_eq_true rfl) ?_
    have s_47 : Sa H H114 := (m_Lexer_advance z112)
    refine ab_widen (cells' := H.sh.length - c0) (slots' := H.sl - s0) (by show (H.sh.length - c0) + 0 ≤ _; omega) (by show (H.sl - s0) + 0 ≤ _; omega) ?_
    refine ab_widen (cells' := H114.sh.length - c0) (slots' := H114.sl - s0) (by rw [(s_47).1]; exact Nat.le_refl _) (by rw [(s_47).2]; exact Nat.le_refl _) ?_
    exact kB_Reader_readConst_37 hF (by rw [(s_47).1]; exact hc0) (by rw [(s_47).2]; exact hs0) (by rw [(s_47).1]; exact hcc) (by rw [(s_47).2]; exact hss) hC hS
def F_Reader_readConst (N : Nat) (p0 : Nat) (p1 : Int32) (H : Hp) : Option ((Ot Int32) × Hp) :=
    ck (H.sh[p0]? = some (5, 0)) <|
    rf (H.P p0 0) fun a2 =>
    ck (H.sh[a2]? = some (1, 0)) <|
    bnd ((H.D a2 3)) fun x5 =>
    rf (H.P p0 0) fun a6 =>
    ck (H.sh[a6]? = some (1, 0)) <|
    bnd ((H.D a6 2)) fun x9 =>
    if x9 = (19 : Int32) then
    B_Reader_readConst_25 N p0 p1 x5 1 H
    else
    B_Reader_readConst_25 N p0 p1 x5 0 H
set_option maxRecDepth 20000 in
set_option maxHeartbeats 2000000 in
theorem m_Reader_readConst {N : Nat} {p0 : Nat} {p1 : Int32} {H : Hp} {r : (Ot Int32) × Hp} (hF : F_Reader_readConst N p0 p1 H = some r) : Mo H r.2 := by
  unfold F_Reader_readConst at hF
  have hm := Mo.rf H
  obtain ⟨q123, hG⟩ := ck_s hF; clear hF
  obtain ⟨a124, e125, hF⟩ := rf_s hG; clear hG
  obtain ⟨q126, hG⟩ := ck_s hF; clear hF
  obtain ⟨x127, -, hF⟩ := bnd_g hG; clear hG
  obtain ⟨a128, e129, hG⟩ := rf_s hF; clear hF
  obtain ⟨q130, hF⟩ := ck_s hG; clear hG
  obtain ⟨x131, -, hG⟩ := bnd_g hF; clear hF
  rcases ite_s hG with ⟨q_49, hF⟩ | ⟨q_49, hF⟩
  · clear hG
    exact hm.tr (mB_Reader_readConst_25 hF)
  · clear hG
    exact hm.tr (mB_Reader_readConst_25 hF)
set_option maxRecDepth 20000 in
set_option maxHeartbeats 2000000 in
theorem k_Reader_readConst {N : Nat} {p0 : Nat} {p1 : Int32} {H : Hp} {r : (Ot Int32) × Hp} {C Sl : Nat} (hF : F_Reader_readConst N p0 p1 H = some r) (hC : r.2.sh.length ≤ H.sh.length + C) (hS : r.2.sl ≤ H.sl + Sl) : ab_M y_Reader_readConst { frames := 8, cells := C, slots := Sl, locals := 143 } [.ref p0, .int p1] (hpw H) (po (oI r.1) r.2) := by
  unfold F_Reader_readConst at hF
  obtain ⟨c0, e0⟩ : ∃ q, q = H.sh.length := ⟨_, rfl⟩
  obtain ⟨s0, e1⟩ : ∃ q, q = H.sl := ⟨_, rfl⟩
  rw [← e0] at hC
  rw [← e1] at hS
  have hc0 : c0 ≤ H.sh.length := Nat.le_of_eq e0
  have hs0 : s0 ≤ H.sl := Nat.le_of_eq e1
  have hcc : H.sh.length ≤ c0 + C := by omega
  have hss : H.sl ≤ s0 + Sl := by omega
  refine ab_of2 (lv := [some (.ref p0), some (.int p1), none, none, none, none, none, none]) 6 rfl rfl (Nat.le_of_ble_eq_true rfl) ?_
  refine ab_widen (cells' := H.sh.length - c0) (slots' := H.sl - s0) (Nat.zero_le _) (Nat.zero_le _) ?_
  refine ab_aload_n d_Reader_readConst_0 rfl rfl rfl ?_
  obtain ⟨q1, hG⟩ := ck_s hF; clear hF
  obtain ⟨a2, e3, hF⟩ := rf_s hG; clear hG
  refine hp_getR (f := 0) d_Reader_readConst_1 q1 (by decide) rfl (by decide) (k1 179 rfl rfl) rfl e3 ?_
  obtain ⟨q4, hG⟩ := ck_s hF; clear hF
  refine hp_getI (f := 3) d_Reader_readConst_4 q4 (by decide) rfl (by decide) (k1 101 rfl rfl) rfl ?_
  refine ab_topi (fun x5 ex5 => ?_)
  replace hG := bnd_s ex5 hG
  refine ab_istore_n (lv' := [some (.ref p0), some (.int p1), some (.int x5), none, none, none, none, none]) d_Reader_readConst_7 rfl (by decide) rfl ?_
  refine ab_aload_n d_Reader_readConst_8 rfl rfl rfl ?_
  obtain ⟨a6, e7, hF⟩ := rf_s hG; clear hG
  refine hp_getR (f := 0) d_Reader_readConst_9 q1 (by decide) rfl (by decide) (k1 179 rfl rfl) rfl e7 ?_
  obtain ⟨q8, hG⟩ := ck_s hF; clear hF
  refine hp_getI (f := 2) d_Reader_readConst_12 q8 (by decide) rfl (by decide) (k1 98 rfl rfl) rfl ?_
  refine ab_topi (fun x9 ex9 => ?_)
  replace hG := bnd_s ex9 hG
  refine ab_bipush (v := 19) d_Reader_readConst_15 (by decide) ?_
  refine ab_icmp_ne (tgt := 24) d_Reader_readConst_17 (by decide) (fun q10 => ?_) (fun q10 => ?_)
  · rw [if_neg q10] at hG
    refine ab_iconst (v := 0) d_Reader_readConst_24 (by decide) ?_
    exact kB_Reader_readConst_25 hG hc0 hs0 hcc hss hC hS
  · rw [if_pos q10] at hG
    refine ab_iconst (v := 1) d_Reader_readConst_20 (by decide) ?_
    refine ab_goto (tgt := 25) d_Reader_readConst_21 (by decide) ?_
    exact kB_Reader_readConst_25 hG hc0 hs0 hcc hss hC hS
