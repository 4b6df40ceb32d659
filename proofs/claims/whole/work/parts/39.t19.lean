def y_Body_spawnedPart : ab_Y := (⟨"WorldEngine$Body", "spawnedPart", "(II)I"⟩, prog_2_method_24_code, 6, (some FieldType.int), [])
theorem d_Body_spawnedPart_0 : decode y_Body_spawnedPart.2.1 0 = .ok (.aload_n 0, 1) := by decide +kernel
theorem d_Body_spawnedPart_1 : decode y_Body_spawnedPart.2.1 1 = .ok (.getfield 7, 3) := by decide +kernel
theorem d_Body_spawnedPart_4 : decode y_Body_spawnedPart.2.1 4 = .ok (.getfield 96, 3) := by decide +kernel
theorem d_Body_spawnedPart_7 : decode y_Body_spawnedPart.2.1 7 = .ok (.istore_n 3, 1) := by decide +kernel
theorem d_Body_spawnedPart_8 : decode y_Body_spawnedPart.2.1 8 = .ok (.aload_n 0, 1) := by decide +kernel
theorem d_Body_spawnedPart_9 : decode y_Body_spawnedPart.2.1 9 = .ok (.getfield 7, 3) := by decide +kernel
theorem d_Body_spawnedPart_12 : decode y_Body_spawnedPart.2.1 12 = .ok (.invokevirtual 173, 3) := by decide +kernel
theorem d_Body_spawnedPart_15 : decode y_Body_spawnedPart.2.1 15 = .ok (.astore 4, 2) := by decide +kernel
theorem d_Body_spawnedPart_17 : decode y_Body_spawnedPart.2.1 17 = .ok (.iload_n 2, 1) := by decide +kernel
theorem d_Body_spawnedPart_18 : decode y_Body_spawnedPart.2.1 18 = .ok (.iconst 4, 1) := by decide +kernel
theorem d_Body_spawnedPart_19 : decode y_Body_spawnedPart.2.1 19 = .ok (.if_icmp .lt 12, 3) := by decide +kernel
theorem d_Body_spawnedPart_22 : decode y_Body_spawnedPart.2.1 22 = .ok (.aload_n 0, 1) := by decide +kernel
theorem d_Body_spawnedPart_23 : decode y_Body_spawnedPart.2.1 23 = .ok (.getfield 7, 3) := by decide +kernel
theorem d_Body_spawnedPart_26 : decode y_Body_spawnedPart.2.1 26 = .ok (.iconst 2, 1) := by decide +kernel
theorem d_Body_spawnedPart_27 : decode y_Body_spawnedPart.2.1 27 = .ok (.iload_n 3, 1) := by decide +kernel
theorem d_Body_spawnedPart_28 : decode y_Body_spawnedPart.2.1 28 = .ok (.invokevirtual 99, 3) := by decide +kernel
theorem d_Body_spawnedPart_31 : decode y_Body_spawnedPart.2.1 31 = .ok (.aload_n 0, 1) := by decide +kernel
theorem d_Body_spawnedPart_32 : decode y_Body_spawnedPart.2.1 32 = .ok (.getfield 17, 3) := by decide +kernel
theorem d_Body_spawnedPart_35 : decode y_Body_spawnedPart.2.1 35 = .ok (.aload 4, 2) := by decide +kernel
theorem d_Body_spawnedPart_37 : decode y_Body_spawnedPart.2.1 37 = .ok (.invokevirtual 176, 3) := by decide +kernel
theorem d_Body_spawnedPart_40 : decode y_Body_spawnedPart.2.1 40 = .ok (.astore 5, 2) := by decide +kernel
theorem d_Body_spawnedPart_42 : decode y_Body_spawnedPart.2.1 42 = .ok (.aload 5, 2) := by decide +kernel
theorem d_Body_spawnedPart_44 : decode y_Body_spawnedPart.2.1 44 = .ok (.ifnonnull 14, 3) := by decide +kernel
theorem d_Body_spawnedPart_47 : decode y_Body_spawnedPart.2.1 47 = .ok (.aload_n 0, 1) := by decide +kernel
theorem d_Body_spawnedPart_48 : decode y_Body_spawnedPart.2.1 48 = .ok (.getfield 7, 3) := by decide +kernel
theorem d_Body_spawnedPart_51 : decode y_Body_spawnedPart.2.1 51 = .ok (.iconst 4, 1) := by decide +kernel
theorem d_Body_spawnedPart_52 : decode y_Body_spawnedPart.2.1 52 = .ok (.iload_n 3, 1) := by decide +kernel
theorem d_Body_spawnedPart_53 : decode y_Body_spawnedPart.2.1 53 = .ok (.invokevirtual 99, 3) := by decide +kernel
theorem d_Body_spawnedPart_56 : decode y_Body_spawnedPart.2.1 56 = .ok (.iconst 0, 1) := by decide +kernel
theorem d_Body_spawnedPart_57 : decode y_Body_spawnedPart.2.1 57 = .ok (.ireturn, 1) := by decide +kernel
theorem d_Body_spawnedPart_58 : decode y_Body_spawnedPart.2.1 58 = .ok (.aload 5, 2) := by decide +kernel
theorem d_Body_spawnedPart_60 : decode y_Body_spawnedPart.2.1 60 = .ok (.getfield 188, 3) := by decide +kernel
theorem d_Body_spawnedPart_63 : decode y_Body_spawnedPart.2.1 63 = .ok (.ifCond .ne 23, 3) := by decide +kernel
theorem d_Body_spawnedPart_66 : decode y_Body_spawnedPart.2.1 66 = .ok (.aload_n 0, 1) := by decide +kernel
theorem d_Body_spawnedPart_67 : decode y_Body_spawnedPart.2.1 67 = .ok (.getfield 17, 3) := by decide +kernel
theorem d_Body_spawnedPart_70 : decode y_Body_spawnedPart.2.1 70 = .ok (.getfield 221, 3) := by decide +kernel
theorem d_Body_spawnedPart_73 : decode y_Body_spawnedPart.2.1 73 = .ok (.iload_n 1, 1) := by decide +kernel
theorem d_Body_spawnedPart_74 : decode y_Body_spawnedPart.2.1 74 = .ok (.iaload, 1) := by decide +kernel
theorem d_Body_spawnedPart_75 : decode y_Body_spawnedPart.2.1 75 = .ok (.aload 5, 2) := by decide +kernel
theorem d_Body_spawnedPart_77 : decode y_Body_spawnedPart.2.1 77 = .ok (.getfield 191, 3) := by decide +kernel
theorem d_Body_spawnedPart_80 : decode y_Body_spawnedPart.2.1 80 = .ok (.ishr, 1) := by decide +kernel
theorem d_Body_spawnedPart_81 : decode y_Body_spawnedPart.2.1 81 = .ok (.iconst 1, 1) := by decide +kernel
theorem d_Body_spawnedPart_82 : decode y_Body_spawnedPart.2.1 82 = .ok (.iand, 1) := by decide +kernel
theorem d_Body_spawnedPart_83 : decode y_Body_spawnedPart.2.1 83 = .ok (.ifCond .ne 12, 3) := by decide +kernel
theorem d_Body_spawnedPart_86 : decode y_Body_spawnedPart.2.1 86 = .ok (.aload_n 0, 1) := by decide +kernel
theorem d_Body_spawnedPart_87 : decode y_Body_spawnedPart.2.1 87 = .ok (.getfield 7, 3) := by decide +kernel
theorem d_Body_spawnedPart_90 : decode y_Body_spawnedPart.2.1 90 = .ok (.iconst 5, 1) := by decide +kernel
theorem d_Body_spawnedPart_91 : decode y_Body_spawnedPart.2.1 91 = .ok (.iload_n 3, 1) := by decide +kernel
theorem d_Body_spawnedPart_92 : decode y_Body_spawnedPart.2.1 92 = .ok (.invokevirtual 99, 3) := by decide +kernel
theorem d_Body_spawnedPart_95 : decode y_Body_spawnedPart.2.1 95 = .ok (.aload 5, 2) := by decide +kernel
theorem d_Body_spawnedPart_97 : decode y_Body_spawnedPart.2.1 97 = .ok (.getfield 191, 3) := by decide +kernel
theorem d_Body_spawnedPart_100 : decode y_Body_spawnedPart.2.1 100 = .ok (.ireturn, 1) := by decide +kernel
theorem s_Body_spawnedPart : ab_Stat y_Body_spawnedPart 2 := ⟨(k6 51 rfl rfl), (k1 8 rfl rfl), ⟨by decide, by decide⟩, by decide +kernel⟩
theorem i_Body_spawnedPart : Cond.instanceMethod y_Body_spawnedPart.1 ∈ ab_T := (k6 50 rfl rfl)
theorem v_Body_spawnedPart : Cond.selects "WorldEngine$Body" y_Body_spawnedPart.1 y_Body_spawnedPart.1 ∈ ab_T := ab_s (List.mem_of_getElem? (i := 56) rfl) rfl
def B_Body_spawnedPart_86 (N : Nat) (p0 : Nat) (p1 : Int32) (p2 : Int32) (l3 : Int32) (l5 : Nat) (H : Hp) : Option ((Ot Int32) × Hp) :=
    ck (H.sh[p0]? = some (6, 0)) <|
    rf (H.P p0 0) fun a34 =>
    ck (H.sh[a34]? = some (1, 0)) <|
    bT (F_Lexer_refuse N a34 (5 : Int32) l3 H) fun v38 H39 =>
    ck (H39.sh[l5]? = some (2, 0)) <|
    bnd ((H39.D l5 2)) fun x42 =>
    some (.inl x42, H39)
set_option maxRecDepth 20000 in
set_option maxHeartbeats 2000000 in
theorem mB_Body_spawnedPart_86 {N : Nat} {p0 : Nat} {p1 : Int32} {p2 : Int32} {l3 : Int32} {l5 : Nat} {H : Hp} {r : (Ot Int32) × Hp} (hF : B_Body_spawnedPart_86 N p0 p1 p2 l3 l5 H = some r) : Mo H r.2 := by
  unfold B_Body_spawnedPart_86 at hF
  have hm := Mo.rf H
  obtain ⟨q43, hG⟩ := ck_s hF; clear hF
  obtain ⟨a44, e45, hF⟩ := rf_s hG; clear hG
  obtain ⟨q46, hG⟩ := ck_s hF; clear hF
  refine bT_c hG (fun x50 H49 z47 er => ?_) (fun v48 H49 z47 hF => ?_)
  · subst er; exact hm.tr (m_Lexer_refuse z47)
  clear hG
  replace hm : Mo H H49 := hm.tr (m_Lexer_refuse z47)
  obtain ⟨q51, hG⟩ := ck_s hF; clear hF
  obtain ⟨x52, -, hF⟩ := bnd_g hG; clear hG
  have hr := Option.some.inj hF; subst hr
  exact hm
set_option maxRecDepth 20000 in
set_option maxHeartbeats 2000000 in
theorem kB_Body_spawnedPart_86 {N : Nat} {p0 : Nat} {p1 : Int32} {p2 : Int32} {c0 s0 C Sl : Nat} {l3 : Int32} {l5 : Nat} {H : Hp} {r : (Ot Int32) × Hp} (hF : B_Body_spawnedPart_86 N p0 p1 p2 l3 l5 H = some r) (hc0 : c0 ≤ H.sh.length) (hs0 : s0 ≤ H.sl) (hcc : H.sh.length ≤ c0 + C) (hss : H.sl ≤ s0 + Sl) (hC : r.2.sh.length ≤ c0 + C) (hS : r.2.sl ≤ s0 + Sl) : ab_V y_Body_spawnedPart { frames := 7, cells := C, slots := Sl, locals := 128 } (po (oI r.1) r.2) C Sl (H.sh.length - c0) (H.sl - s0) 86 [some (.ref p0), some (.int p1), some (.int p2), some (.int l3), none, some (.ref l5)] [] (hpw H) := by
  unfold B_Body_spawnedPart_86 at hF
  refine ab_aload_n d_Body_spawnedPart_86 rfl rfl rfl ?_
  obtain ⟨q33, hG⟩ := ck_s hF; clear hF
  obtain ⟨a34, e35, hF⟩ := rf_s hG; clear hG
  refine hp_getR (f := 0) d_Body_spawnedPart_87 q33 (by decide) rfl (by decide) (k1 157 rfl rfl) rfl e35 ?_
  refine ab_iconst (v := 5) d_Body_spawnedPart_90 (by decide) ?_
  refine ab_iload_n d_Body_spawnedPart_91 rfl rfl ?_
  obtain ⟨q36, hG⟩ := ck_s hF; clear hF
  refine bT_c hG (fun x40 H39 z37 er => ?_) (fun v38 H39 z37 hF => ?_)
  · subst er
    have mz : Mo H H39 := (m_Lexer_refuse z37)
    have ml := mz.len
    have m2 := mz.2
    have hC9 : H39.sh.length ≤ c0 + C := hC
    have hS9 : H39.sl ≤ s0 + Sl := hS
    refine hp_callV_t (x := x40) (H1 := H39) (As := [.int 5, .int l3]) (rest := []) d_Body_spawnedPart_92 (k_Lexer_refuse z37 (C := H39.sh.length - H.sh.length) (Sl := H39.sl - H.sl) (by show H39.sh.length ≤ _; omega) (by show H39.sl ≤ _; omega)) (ab_mkC s_Lexer_refuse (Nat.le_of_ble_eq_true rfl) (Nat.le_of_ble_eq_true rfl) (show (H.sh.length - c0) + (H39.sh.length - H.sh.length) ≤ C from by omega) (show (H.sl - s0) + (H39.sl - H.sl) ≤ Sl from by omega)) (k5 135 rfl rfl) i_Lexer_refuse v_Lexer_refuse q36 (by decide) rfl rfl (Nat.le_of_ble_eq_true rfl) ?_
    exact ab_U_out rfl (by show _ + (H39.sh.length - H.sh.length) ≤ C; omega) (by show _ + (H39.sl - H.sl) ≤ Sl; omega) ⟨rfl, rfl⟩
  clear hG
  have mz_15 : Mo H H39 := (m_Lexer_refuse z37)
  have b_16l := (mz_15).len
  have b_16s := (mz_15).2
  have b_16c : c0 ≤ H39.sh.length := by omega
  have b_16d : s0 ≤ H39.sl := by omega
  have q_17 := (mz_15).get q33
  have q_18 := (mz_15).get q36
  obtain ⟨q41, hG⟩ := ck_s hF; clear hF
  obtain ⟨x42, ex42, hF⟩ := bnd_g hG; clear hG
  have fH39 : Mo H39 r.2 := by
    have hm := Mo.rf H39
    have hr := Option.some.inj hF; subst hr
    exact hm
  have b_16m := (fH39).len
  have b_16n := (fH39).2
  have b_16p : H39.sh.length ≤ c0 + C := by omega
  have b_16q : H39.sl ≤ s0 + Sl := by omega
  refine hp_callV_v (H1 := H39) (As := [.int 5, .int l3]) (rest := []) d_Body_spawnedPart_92 (k_Lexer_refuse z37 (C := H39.sh.length - H.sh.length) (Sl := H39.sl - H.sl) (by show H39.sh.length ≤ _; omega) (by show H39.sl ≤ _; omega)) (ab_mkC s_Lexer_refuse (Nat.le_of_ble_eq_true rfl) (Nat.le_of_ble_eq_true rfl) (show (H.sh.length - c0) + (H39.sh.length - H.sh.length) ≤ C from by omega) (show (H.sl - s0) + (H39.sl - H.sl) ≤ Sl from by omega)) (k5 135 rfl rfl) i_Lexer_refuse v_Lexer_refuse q36 (by decide) rfl rfl (Nat.le_of_ble_eq_true rfl) ?_
  refine ab_widen (cells' := H39.sh.length - c0) (slots' := H39.sl - s0) (by show _ + (H39.sh.length - H.sh.length) ≤ _; omega) (by show _ + (H39.sl - H.sl) ≤ _; omega) ?_
  clear b_16l b_16s b_16m b_16n
  refine ab_aload d_Body_spawnedPart_95 rfl rfl ?_
  refine hp_getI (f := 2) d_Body_spawnedPart_97 q41 (by decide) rfl (by decide) (k2 237 rfl rfl) rfl ?_
  refine ab_topxi ex42 ?_
  exact ab_iret d_Body_spawnedPart_100 rfl (by show _ ≤ C; omega) (by show _ ≤ Sl; omega) (by have hr := Option.some.inj hF; subst hr; exact ⟨rfl, rfl⟩)
def B_Body_spawnedPart_31 (N : Nat) (p0 : Nat) (p1 : Int32) (p2 : Int32) (l3 : Int32) (l4 : Nat) (H : Hp) : Option ((Ot Int32) × Hp) :=
    ck (H.sh[p0]? = some (6, 0)) <|
    rf (H.P p0 1) fun a16 =>
    ck (H.sh[a16]? = some (4, 0)) <|
    bC (F_Program_find N a16 l4 H) fun v20 H21 =>
    nl v20 (rf (H21.P p0 0) fun a23 =>
    ck (H21.sh[a23]? = some (1, 0)) <|
    bT (F_Lexer_refuse N a23 (4 : Int32) l3 H21) fun v27 H28 =>
    some (.inl 0, H28)) fun a22 =>
    ck (H21.sh[a22]? = some (2, 0)) <|
    bnd ((H21.D a22 1)) fun x31 =>
    if x31 = (0 : Int32) then
    rf (H21.P p0 1) fun a53 =>
    ck (H21.sh[a53]? = some (4, 0)) <|
    rf (H21.P a53 5) fun a56 =>
    ar H21 100 a56 fun n58 =>
    ck (inb p1 n58) <|
    bnd ((H21.D a56 (p1).toNatClampNeg)) fun x61 =>
    bnd ((H21.D a22 2)) fun x62 =>
    if ((x61 >>> (x62 &&& 31)) &&& (1 : Int32)) = (0 : Int32) then
    B_Body_spawnedPart_86 N p0 p1 p2 l3 a22 H21
    else
    bnd ((H21.D a22 2)) fun x64 =>
    some (.inl x64, H21)
    else
    B_Body_spawnedPart_86 N p0 p1 p2 l3 a22 H21
set_option maxRecDepth 20000 in
set_option maxHeartbeats 2000000 in
theorem mB_Body_spawnedPart_31 {N : Nat} {p0 : Nat} {p1 : Int32} {p2 : Int32} {l3 : Int32} {l4 : Nat} {H : Hp} {r : (Ot Int32) × Hp} (hF : B_Body_spawnedPart_31 N p0 p1 p2 l3 l4 H = some r) : Mo H r.2 := by
  unfold B_Body_spawnedPart_31 at hF
  have hm := Mo.rf H
  obtain ⟨q65, hG⟩ := ck_s hF; clear hF
  obtain ⟨a66, e67, hF⟩ := rf_s hG; clear hG
  obtain ⟨q68, hG⟩ := ck_s hF; clear hF
  obtain ⟨v70, H71, z69, hF⟩ := bC_s hG; clear hG
  replace hm : Mo H H71 := hm.tr ((m_Program_find z69)).mo
  refine nl_c hF (fun ea72 hG => ?_) (fun a72 ea72 hG => ?_)
  · clear hF; subst ea72
    obtain ⟨a73, e74, hF⟩ := rf_s hG; clear hG
    obtain ⟨q75, hG⟩ := ck_s hF; clear hF
    refine bT_c hG (fun x79 H78 z76 er => ?_) (fun v77 H78 z76 hF => ?_)
    · subst er; exact hm.tr (m_Lexer_refuse z76)
    clear hG
    replace hm : Mo H H78 := hm.tr (m_Lexer_refuse z76)
    have hr := Option.some.inj hF; subst hr
    exact hm
  clear hF; subst ea72
  obtain ⟨q80, hF⟩ := ck_s hG; clear hG
  obtain ⟨x81, -, hG⟩ := bnd_g hF; clear hF
  rcases ite_s hG with ⟨q_26, hF⟩ | ⟨q_26, hF⟩
  · clear hG
    obtain ⟨a83, e84, hG⟩ := rf_s hF; clear hF
    obtain ⟨q85, hF⟩ := ck_s hG; clear hG
    obtain ⟨a86, e87, hG⟩ := rf_s hF; clear hF
    obtain ⟨n88, q89, hF⟩ := ar_s hG; clear hG
    obtain ⟨q90, hG⟩ := ck_s hF; clear hF
    obtain ⟨x91, -, hF⟩ := bnd_g hG; clear hG
    obtain ⟨x92, -, hG⟩ := bnd_g hF; clear hF
    rcases ite_s hG with ⟨q_27, hF⟩ | ⟨q_27, hF⟩
    · clear hG
      exact hm.tr (mB_Body_spawnedPart_86 hF)
    · clear hG
      obtain ⟨x94, -, hG⟩ := bnd_g hF; clear hF
      have hr := Option.some.inj hG; subst hr
      exact hm
  · clear hG
    exact hm.tr (mB_Body_spawnedPart_86 hF)
set_option maxRecDepth 20000 in
set_option maxHeartbeats 2000000 in
theorem kB_Body_spawnedPart_31 {N : Nat} {p0 : Nat} {p1 : Int32} {p2 : Int32} {c0 s0 C Sl : Nat} {l3 : Int32} {l4 : Nat} {H : Hp} {r : (Ot Int32) × Hp} (hF : B_Body_spawnedPart_31 N p0 p1 p2 l3 l4 H = some r) (hc0 : c0 ≤ H.sh.length) (hs0 : s0 ≤ H.sl) (hcc : H.sh.length ≤ c0 + C) (hss : H.sl ≤ s0 + Sl) (hC : r.2.sh.length ≤ c0 + C) (hS : r.2.sl ≤ s0 + Sl) : ab_V y_Body_spawnedPart { frames := 7, cells := C, slots := Sl, locals := 128 } (po (oI r.1) r.2) C Sl (H.sh.length - c0) (H.sl - s0) 31 [some (.ref p0), some (.int p1), some (.int p2), some (.int l3), some (.ref l4), none] [] (hpw H) := by
  unfold B_Body_spawnedPart_31 at hF
  refine ab_aload_n d_Body_spawnedPart_31 rfl rfl rfl ?_
  obtain ⟨q15, hG⟩ := ck_s hF; clear hF
  obtain ⟨a16, e17, hF⟩ := rf_s hG; clear hG
  refine hp_getR (f := 1) d_Body_spawnedPart_32 q15 (by decide) rfl (by decide) (k1 158 rfl rfl) rfl e17 ?_
  refine ab_aload d_Body_spawnedPart_35 rfl rfl ?_
  obtain ⟨q18, hG⟩ := ck_s hF; clear hF
  obtain ⟨v20, H21, z19, hF⟩ := bC_s hG; clear hG
  refine hp_callV_a (v := ab_rf v20) (H1 := H21) (As := [.ref l4]) (rest := []) d_Body_spawnedPart_37 (k_Program_find z19) (ab_mkC s_Program_find (Nat.le_of_ble_eq_true rfl) (Nat.le_of_ble_eq_true rfl) (show (H.sh.length - c0) + 0 ≤ C from by omega) (show (H.sl - s0) + 0 ≤ Sl from by omega)) (k5 136 rfl rfl) i_Program_find v_Program_find q18 (by decide) rfl rfl (Nat.le_of_ble_eq_true rfl) ?_
  have s_9 : Sa H H21 := (m_Program_find z19)
  refine ab_widen (cells' := H.sh.length - c0) (slots' := H.sl - s0) (by show (H.sh.length - c0) + 0 ≤ _; omega) (by show (H.sl - s0) + 0 ≤ _; omega) ?_
  refine nl_c hF (fun ea22 hG => ?_) (fun a22 ea22 hG => ?_)
  · clear hF; subst ea22
    refine ab_astore (lv' := [some (.ref p0), some (.int p1), some (.int p2), some (.int l3), some (.ref l4), some (.null)]) d_Body_spawnedPart_40 (by decide) rfl rfl ?_
    refine ab_aload d_Body_spawnedPart_42 rfl rfl ?_
    refine ab_ifnonnullN d_Body_spawnedPart_44 ?_
    refine ab_aload_n d_Body_spawnedPart_47 rfl rfl rfl ?_
    obtain ⟨a23, e24, hF⟩ := rf_s hG; clear hG
    refine hp_getR (f := 0) d_Body_spawnedPart_48 (by rw [(s_9).1]; exact q15) (by decide) rfl (by decide) (k1 157 rfl rfl) rfl e24 ?_
    refine ab_iconst (v := 4) d_Body_spawnedPart_51 (by decide) ?_
    refine ab_iload_n d_Body_spawnedPart_52 rfl rfl ?_
    obtain ⟨q25, hG⟩ := ck_s hF; clear hF
    rw [(s_9).1] at q25
    refine bT_c hG (fun x29 H28 z26 er => ?_) (fun v27 H28 z26 hF => ?_)
    · subst er
      refine ab_widen (cells' := H21.sh.length - c0) (slots' := H21.sl - s0) (by rw [(s_9).1]; exact Nat.le_refl _) (by rw [(s_9).2]; exact Nat.le_refl _) ?_
      have mz : Mo H21 H28 := (m_Lexer_refuse z26)
      have ml := mz.len
      have m2 := mz.2
      have be := congrArg List.length (s_9).1
      have bfx := (s_9).2
      have hC9 : H28.sh.length ≤ c0 + C := hC
      have hS9 : H28.sl ≤ s0 + Sl := hS
      refine hp_callV_t (x := x29) (H1 := H28) (As := [.int 4, .int l3]) (rest := []) d_Body_spawnedPart_53 (k_Lexer_refuse z26 (C := H28.sh.length - H21.sh.length) (Sl := H28.sl - H21.sl) (by show H28.sh.length ≤ _; omega) (by show H28.sl ≤ _; omega)) (ab_mkC s_Lexer_refuse (Nat.le_of_ble_eq_true rfl) (Nat.le_of_ble_eq_true rfl) (show (H21.sh.length - c0) + (H28.sh.length - H21.sh.length) ≤ C from by omega) (show (H21.sl - s0) + (H28.sl - H21.sl) ≤ Sl from by omega)) (k5 135 rfl rfl) i_Lexer_refuse v_Lexer_refuse (by rw [(s_9).1]; exact q25) (by decide) rfl rfl (Nat.le_of_ble_eq_true rfl) ?_
      exact ab_U_out rfl (by show _ + (H28.sh.length - H21.sh.length) ≤ C; omega) (by show _ + (H28.sl - H21.sl) ≤ Sl; omega) ⟨rfl, rfl⟩
    clear hG
    refine ab_widen (cells' := H21.sh.length - c0) (slots' := H21.sl - s0) (by rw [(s_9).1]; exact Nat.le_refl _) (by rw [(s_9).2]; exact Nat.le_refl _) ?_
    have mz_10 : Mo H21 H28 := (m_Lexer_refuse z26)
    have b_11l := (mz_10).len
    have b_11s := (mz_10).2
    have b_11e := congrArg List.length (s_9).1
    have b_11f := (s_9).2
    have b_11c : c0 ≤ H28.sh.length := by omega
    have b_11d : s0 ≤ H28.sl := by omega
    have q_12 := (mz_10).get (by rw [(s_9).1]; exact q15)
    have q_13 := (mz_10).get (by rw [(s_9).1]; exact q18)
    have q_14 := (mz_10).get (by rw [(s_9).1]; exact q25)
    have fH28 : Mo H28 r.2 := by
      have hm := Mo.rf H28
      have hr := Option.some.inj hF; subst hr
      exact hm
    have b_11m := (fH28).len
    have b_11n := (fH28).2
    have b_11p : H28.sh.length ≤ c0 + C := by omega
    have b_11q : H28.sl ≤ s0 + Sl := by omega
    refine hp_callV_v (H1 := H28) (As := [.int 4, .int l3]) (rest := []) d_Body_spawnedPart_53 (k_Lexer_refuse z26 (C := H28.sh.length - H21.sh.length) (Sl := H28.sl - H21.sl) (by show H28.sh.length ≤ _; omega) (by show H28.sl ≤ _; omega)) (ab_mkC s_Lexer_refuse (Nat.le_of_ble_eq_true rfl) (Nat.le_of_ble_eq_true rfl) (show (H21.sh.length - c0) + (H28.sh.length - H21.sh.length) ≤ C from by omega) (show (H21.sl - s0) + (H28.sl - H21.sl) ≤ Sl from by omega)) (k5 135 rfl rfl) i_Lexer_refuse v_Lexer_refuse (by rw [(s_9).1]; exact q25) (by decide) rfl rfl (Nat.le_of_ble_eq_true rfl) ?_
    refine ab_widen (cells' := H28.sh.length - c0) (slots' := H28.sl - s0) (by show _ + (H28.sh.length - H21.sh.length) ≤ _; omega) (by show _ + (H28.sl - H21.sl) ≤ _; omega) ?_
    clear b_11l b_11s b_11m b_11n b_11e b_11f
    refine ab_iconst (v := 0) d_Body_spawnedPart_56 (by decide) ?_
    exact ab_iret d_Body_spawnedPart_57 rfl (by show _ ≤ C; omega) (by show _ ≤ Sl; omega) (by have hr := Option.some.inj hF; subst hr; exact ⟨rfl, rfl⟩)
  clear hF; subst ea22
  refine ab_astore (lv' := [some (.ref p0), some (.int p1), some (.int p2), some (.int l3), some (.ref l4), some (.ref a22)]) d_Body_spawnedPart_40 (by decide) rfl rfl ?_
  refine ab_aload d_Body_spawnedPart_42 rfl rfl ?_
  refine ab_ifnonnull (tgt := 58) d_Body_spawnedPart_44 (by decide) ?_
  refine ab_aload d_Body_spawnedPart_58 rfl rfl ?_
  obtain ⟨q30, hF⟩ := ck_s hG; clear hG
  rw [(s_9).1] at q30
  refine hp_getI (f := 1) d_Body_spawnedPart_60 (by rw [(s_9).1]; exact q30) (by decide) rfl (by decide) (k2 234 rfl rfl) rfl ?_
  refine ab_topi (fun x31 ex31 => ?_)
  replace hF := bnd_s ex31 hF
  refine ab_if_ne (tgt := 86) d_Body_spawnedPart_63 (by decide) (fun q32 => ?_) (fun q32 => ?_)
  · rw [if_neg q32] at hF
    refine ab_le (lv' := [some (.ref p0), some (.int p1), some (.int p2), some (.int l3), none, some (.ref a22)]) ⟨rfl, ⟨rfl, ⟨rfl, ⟨rfl, ⟨rfl, trivial⟩⟩⟩⟩⟩ ?_
    refine ab_widen (cells' := H21.sh.length - c0) (slots' := H21.sl - s0) (by rw [(s_9).1]; exact Nat.le_refl _) (by rw [(s_9).2]; exact Nat.le_refl _) ?_
    exact kB_Body_spawnedPart_86 hF (by rw [(s_9).1]; exact hc0) (by rw [(s_9).2]; exact hs0) (by rw [(s_9).1]; exact hcc) (by rw [(s_9).2]; exact hss) hC hS
  · rw [if_pos q32] at hF
    refine ab_aload_n d_Body_spawnedPart_66 rfl rfl rfl ?_
    obtain ⟨a53, e54, hG⟩ := rf_s hF; clear hF
    refine hp_getR (f := 1) d_Body_spawnedPart_67 (by rw [(s_9).1]; exact q15) (by decide) rfl (by decide) (k1 158 rfl rfl) rfl e54 ?_
    obtain ⟨q55, hF⟩ := ck_s hG; clear hG
    rw [(s_9).1] at q55
    obtain ⟨a56, e57, hG⟩ := rf_s hF; clear hF
    refine hp_getR (f := 5) d_Body_spawnedPart_70 (by rw [(s_9).1]; exact q55) (by decide) rfl (by decide) (k3 75 rfl rfl) rfl e57 ?_
    refine ab_iload_n d_Body_spawnedPart_73 rfl rfl ?_
    obtain ⟨n58, q59, hF⟩ := ar_s hG; clear hG
    rw [(s_9).1] at q59
    obtain ⟨q60, hG⟩ := ck_s hF; clear hF
    refine hp_iald d_Body_spawnedPart_74 tI (by rw [(s_9).1]; exact q59) q60 ?_
    refine ab_topi (fun x61 ex61 => ?_)
    replace hG := bnd_s ex61 hG
    refine ab_aload d_Body_spawnedPart_75 rfl rfl ?_
    refine hp_getI (f := 2) d_Body_spawnedPart_77 (by rw [(s_9).1]; exact q30) (by decide) rfl (by decide) (k2 237 rfl rfl) rfl ?_
    refine ab_topi (fun x62 ex62 => ?_)
    replace hG := bnd_s ex62 hG
    refine ab_ishr d_Body_spawnedPart_80 ?_
    refine ab_iconst (v := 1) d_Body_spawnedPart_81 (by decide) ?_
    refine ab_iand d_Body_spawnedPart_82 ?_
    refine ab_if_ne (tgt := 95) d_Body_spawnedPart_83 (by decide) (fun q63 => ?_) (fun q63 => ?_)
    · rw [if_neg q63] at hG
      refine ab_aload d_Body_spawnedPart_95 rfl rfl ?_
      refine hp_getI (f := 2) d_Body_spawnedPart_97 (by rw [(s_9).1]; exact q30) (by decide) rfl (by decide) (k2 237 rfl rfl) rfl ?_
      refine ab_topi (fun x64 ex64 => ?_)
      replace hG := bnd_s ex64 hG
      exact ab_iret d_Body_spawnedPart_100 rfl (by show _ ≤ C; omega) (by show _ ≤ Sl; omega) (by have hr := Option.some.inj hG; subst hr; exact ⟨rfl, rfl⟩)
    · rw [if_pos q63] at hG
      refine ab_le (lv' := [some (.ref p0), some (.int p1), some (.int p2), some (.int l3), none, some (.ref a22)]) ⟨rfl, ⟨rfl, ⟨rfl, ⟨rfl, ⟨rfl, trivial⟩⟩⟩⟩⟩ ?_
      refine ab_widen (cells' := H21.sh.length - c0) (slots' := H21.sl - s0) (by rw [(s_9).1]; exact Nat.le_refl _) (by rw [(s_9).2]; exact Nat.le_refl _) ?_
      exact kB_Body_spawnedPart_86 hG (by rw [(s_9).1]; exact hc0) (by rw [(s_9).2]; exact hs0) (by rw [(s_9).1]; exact hcc) (by rw [(s_9).2]; exact hss) hC hS
def F_Body_spawnedPart (N : Nat) (p0 : Nat) (p1 : Int32) (p2 : Int32) (H : Hp) : Option ((Ot Int32) × Hp) :=
    ck (H.sh[p0]? = some (6, 0)) <|
    rf (H.P p0 0) fun a2 =>
    ck (H.sh[a2]? = some (1, 0)) <|
    bnd ((H.D a2 3)) fun x5 =>
    rf (H.P p0 0) fun a6 =>
    ck (H.sh[a6]? = some (1, 0)) <|
    bT (F_Lexer_takeName N a6 H) fun v10 H11 =>
    on v10 fun a13 =>
    if p2 < (4 : Int32) then
    B_Body_spawnedPart_31 N p0 p1 p2 x5 a13 H11
    else
    rf (H11.P p0 0) fun a15 =>
    ck (H11.sh[a15]? = some (1, 0)) <|
    bT (F_Lexer_refuse N a15 (2 : Int32) x5 H11) fun v19 H20 =>
    B_Body_spawnedPart_31 N p0 p1 p2 x5 a13 H20
set_option maxRecDepth 20000 in
set_option maxHeartbeats 2000000 in
theorem m_Body_spawnedPart {N : Nat} {p0 : Nat} {p1 : Int32} {p2 : Int32} {H : Hp} {r : (Ot Int32) × Hp} (hF : F_Body_spawnedPart N p0 p1 p2 H = some r) : Mo H r.2 := by
  unfold F_Body_spawnedPart at hF
  have hm := Mo.rf H
  obtain ⟨q22, hG⟩ := ck_s hF; clear hF
  obtain ⟨a23, e24, hF⟩ := rf_s hG; clear hG
  obtain ⟨q25, hG⟩ := ck_s hF; clear hF
  obtain ⟨x26, -, hF⟩ := bnd_g hG; clear hG
  obtain ⟨a27, e28, hG⟩ := rf_s hF; clear hF
  obtain ⟨q29, hF⟩ := ck_s hG; clear hG
  refine bT_c hF (fun x33 H32 z30 er => ?_) (fun v31 H32 z30 hG => ?_)
  · subst er; exact hm.tr (m_Lexer_takeName z30)
  clear hF
  replace hm : Mo H H32 := hm.tr (m_Lexer_takeName z30)
  obtain ⟨a34, ea34, hF⟩ := on_s hG; clear hG
  subst ea34
  rcases ite_s hF with ⟨q_43, hG⟩ | ⟨q_43, hG⟩
  · clear hF
    exact hm.tr (mB_Body_spawnedPart_31 hG)
  · clear hF
    obtain ⟨a36, e37, hF⟩ := rf_s hG; clear hG
    obtain ⟨q38, hG⟩ := ck_s hF; clear hF
    refine bT_c hG (fun x42 H41 z39 er => ?_) (fun v40 H41 z39 hF => ?_)
    · subst er; exact hm.tr (m_Lexer_refuse z39)
    clear hG
    replace hm : Mo H H41 := hm.tr (m_Lexer_refuse z39)
    exact hm.tr (mB_Body_spawnedPart_31 hF)
set_option maxRecDepth 20000 in
set_option maxHeartbeats 2000000 in
theorem k_Body_spawnedPart {N : Nat} {p0 : Nat} {p1 : Int32} {p2 : Int32} {H : Hp} {r : (Ot Int32) × Hp} {C Sl : Nat} (hF : F_Body_spawnedPart N p0 p1 p2 H = some r) (hC : r.2.sh.length ≤ H.sh.length + C) (hS : r.2.sl ≤ H.sl + Sl) : ab_M y_Body_spawnedPart { frames := 7, cells := C, slots := Sl, locals := 128 } [.ref p0, .int p1, .int p2] (hpw H) (po (oI r.1) r.2) := by
  unfold F_Body_spawnedPart at hF
  obtain ⟨c0, e0⟩ : ∃ q, q = H.sh.length := ⟨_, rfl⟩
  obtain ⟨s0, e1⟩ : ∃ q, q = H.sl := ⟨_, rfl⟩
  rw [← e0] at hC
  rw [← e1] at hS
  have hc0 : c0 ≤ H.sh.length := Nat.le_of_eq e0
  have hs0 : s0 ≤ H.sl := Nat.le_of_eq e1
  have hcc : H.sh.length ≤ c0 + C := by omega
  have hss : H.sl ≤ s0 + Sl := by omega
  refine ab_of2 (lv := [some (.ref p0), some (.int p1), some (.int p2), none, none, none]) 3 rfl rfl (Nat.le_of_ble_eq_true rfl) ?_
  refine ab_widen (cells' := H.sh.length - c0) (slots' := H.sl - s0) (Nat.zero_le _) (Nat.zero_le _) ?_
  refine ab_aload_n d_Body_spawnedPart_0 rfl rfl rfl ?_
  obtain ⟨q1, hG⟩ := ck_s hF; clear hF
  obtain ⟨a2, e3, hF⟩ := rf_s hG; clear hG
  refine hp_getR (f := 0) d_Body_spawnedPart_1 q1 (by decide) rfl (by decide) (k1 157 rfl rfl) rfl e3 ?_
  obtain ⟨q4, hG⟩ := ck_s hF; clear hF
  refine hp_getI (f := 3) d_Body_spawnedPart_4 q4 (by decide) rfl (by decide) (k1 103 rfl rfl) rfl ?_
  refine ab_topi (fun x5 ex5 => ?_)
  replace hG := bnd_s ex5 hG
  refine ab_istore_n (lv' := [some (.ref p0), some (.int p1), some (.int p2), some (.int x5), none, none]) d_Body_spawnedPart_7 rfl (by decide) rfl ?_
  refine ab_aload_n d_Body_spawnedPart_8 rfl rfl rfl ?_
  obtain ⟨a6, e7, hF⟩ := rf_s hG; clear hG
  refine hp_getR (f := 0) d_Body_spawnedPart_9 q1 (by decide) rfl (by decide) (k1 157 rfl rfl) rfl e7 ?_
  obtain ⟨q8, hG⟩ := ck_s hF; clear hF
  refine bT_c hG (fun x12 H11 z9 er => ?_) (fun v10 H11 z9 hF => ?_)
  · subst er
    have mz : Mo H H11 := (m_Lexer_takeName z9)
    have ml := mz.len
    have m2 := mz.2
    have hC9 : H11.sh.length ≤ c0 + C := hC
    have hS9 : H11.sl ≤ s0 + Sl := hS
    refine hp_callV_t (x := x12) (H1 := H11) (As := []) (rest := []) d_Body_spawnedPart_12 (k_Lexer_takeName z9 (C := H11.sh.length - H.sh.length) (Sl := H11.sl - H.sl) (by show H11.sh.length ≤ _; omega) (by show H11.sl ≤ _; omega)) (ab_mkC s_Lexer_takeName (Nat.le_of_ble_eq_true rfl) (Nat.le_of_ble_eq_true rfl) (show (H.sh.length - c0) + (H11.sh.length - H.sh.length) ≤ C from by omega) (show (H.sl - s0) + (H11.sl - H.sl) ≤ Sl from by omega)) (k5 134 rfl rfl) i_Lexer_takeName v_Lexer_takeName q8 (by decide) rfl rfl (Nat.le_of_ble_eq_true rfl) ?_
    exact ab_U_out rfl (by show _ + (H11.sh.length - H.sh.length) ≤ C; omega) (by show _ + (H11.sl - H.sl) ≤ Sl; omega) ⟨rfl, rfl⟩
  clear hG
  have mz_1 : Mo H H11 := (m_Lexer_takeName z9)
  have b_2l := (mz_1).len
  have b_2s := (mz_1).2
  have b_2c : c0 ≤ H11.sh.length := by omega
  have b_2d : s0 ≤ H11.sl := by omega
  have q_3 := (mz_1).get q1
  have q_4 := (mz_1).get q4
  have q_5 := (mz_1).get q8
  have mf_6 : Mo H11 r.2 := by
    have hm := Mo.rf H11
    obtain ⟨a13, ea13, hG⟩ := on_s hF; clear hF
    subst ea13
    rcases ite_s hG with ⟨q_7, hF⟩ | ⟨q_7, hF⟩
    · clear hG
      exact hm.tr (mB_Body_spawnedPart_31 hF)
    · clear hG
      obtain ⟨a95, e96, hG⟩ := rf_s hF; clear hF
      obtain ⟨q97, hF⟩ := ck_s hG; clear hG
      refine bT_c hF (fun x101 H100 z98 er => ?_) (fun v99 H100 z98 hG => ?_)
      · subst er; exact hm.tr (m_Lexer_refuse z98)
      clear hF
      replace hm : Mo H11 H100 := hm.tr (m_Lexer_refuse z98)
      exact hm.tr (mB_Body_spawnedPart_31 hG)
  have b_2m := (mf_6).len
  have b_2n := (mf_6).2
  have b_2p : H11.sh.length ≤ c0 + C := by omega
  have b_2q : H11.sl ≤ s0 + Sl := by omega
  refine hp_callV_a (v := ab_rf v10) (H1 := H11) (As := []) (rest := []) d_Body_spawnedPart_12 (k_Lexer_takeName z9 (C := H11.sh.length - H.sh.length) (Sl := H11.sl - H.sl) (by show H11.sh.length ≤ _; omega) (by show H11.sl ≤ _; omega)) (ab_mkC s_Lexer_takeName (Nat.le_of_ble_eq_true rfl) (Nat.le_of_ble_eq_true rfl) (show (H.sh.length - c0) + (H11.sh.length - H.sh.length) ≤ C from by omega) (show (H.sl - s0) + (H11.sl - H.sl) ≤ Sl from by omega)) (k5 134 rfl rfl) i_Lexer_takeName v_Lexer_takeName q8 (by decide) rfl rfl (Nat.le_of_ble_eq_true rfl) ?_
  refine ab_widen (cells' := H11.sh.length - c0) (slots' := H11.sl - s0) (by show _ + (H11.sh.length - H.sh.length) ≤ _; omega) (by show _ + (H11.sl - H.sl) ≤ _; omega) ?_
  clear b_2l b_2s b_2m b_2n
  obtain ⟨a13, ea13, hG⟩ := on_s hF; clear hF
  subst ea13
  refine ab_astore (lv' := [some (.ref p0), some (.int p1), some (.int p2), some (.int x5), some (.ref a13), none]) d_Body_spawnedPart_15 (by decide) rfl rfl ?_
  refine ab_iload_n d_Body_spawnedPart_17 rfl rfl ?_
  refine ab_iconst (v := 4) d_Body_spawnedPart_18 (by decide) ?_
  refine ab_icmp_lt (tgt := 31) d_Body_spawnedPart_19 (by decide) (fun q14 => ?_) (fun q14 => ?_)
  · rw [if_pos q14] at hG
    exact kB_Body_spawnedPart_31 hG b_2c b_2d b_2p b_2q hC hS
  · rw [if_neg q14] at hG
    refine ab_aload_n d_Body_spawnedPart_22 rfl rfl rfl ?_
    obtain ⟨a15, e16, hF⟩ := rf_s hG; clear hG
    refine hp_getR (f := 0) d_Body_spawnedPart_23 q_3 (by decide) rfl (by decide) (k1 157 rfl rfl) rfl e16 ?_
    refine ab_iconst (v := 2) d_Body_spawnedPart_26 (by decide) ?_
    refine ab_iload_n d_Body_spawnedPart_27 rfl rfl ?_
    obtain ⟨q17, hG⟩ := ck_s hF; clear hF
    refine bT_c hG (fun x21 H20 z18 er => ?_) (fun v19 H20 z18 hF => ?_)
    · subst er
      have mz : Mo H11 H20 := (m_Lexer_refuse z18)
      have ml := mz.len
      have m2 := mz.2
      have hC9 : H20.sh.length ≤ c0 + C := hC
      have hS9 : H20.sl ≤ s0 + Sl := hS
      refine hp_callV_t (x := x21) (H1 := H20) (As := [.int 2, .int x5]) (rest := []) d_Body_spawnedPart_28 (k_Lexer_refuse z18 (C := H20.sh.length - H11.sh.length) (Sl := H20.sl - H11.sl) (by show H20.sh.length ≤ _; omega) (by show H20.sl ≤ _; omega)) (ab_mkC s_Lexer_refuse (Nat.le_of_ble_eq_true rfl) (Nat.le_of_ble_eq_true rfl) (show (H11.sh.length - c0) + (H20.sh.length - H11.sh.length) ≤ C from by omega) (show (H11.sl - s0) + (H20.sl - H11.sl) ≤ Sl from by omega)) (k5 135 rfl rfl) i_Lexer_refuse v_Lexer_refuse q17 (by decide) rfl rfl (Nat.le_of_ble_eq_true rfl) ?_
      exact ab_U_out rfl (by show _ + (H20.sh.length - H11.sh.length) ≤ C; omega) (by show _ + (H20.sl - H11.sl) ≤ Sl; omega) ⟨rfl, rfl⟩
    clear hG
    have mz_33 : Mo H11 H20 := (m_Lexer_refuse z18)
    have b_34l := (mz_33).len
    have b_34s := (mz_33).2
    have b_34c : c0 ≤ H20.sh.length := by omega
    have b_34d : s0 ≤ H20.sl := by omega
    have q_35 := (mz_33).get q_3
    have q_36 := (mz_33).get q_4
    have q_37 := (mz_33).get q_5
    have q_38 := (mz_33).get q17
    have fH20 : Mo H20 r.2 := by
      have hm := Mo.rf H20
      exact hm.tr (mB_Body_spawnedPart_31 hF)
    have b_34m := (fH20).len
    have b_34n := (fH20).2
    have b_34p : H20.sh.length ≤ c0 + C := by omega
    have b_34q : H20.sl ≤ s0 + Sl := by omega
    refine hp_callV_v (H1 := H20) (As := [.int 2, .int x5]) (rest := []) d_Body_spawnedPart_28 (k_Lexer_refuse z18 (C := H20.sh.length - H11.sh.length) (Sl := H20.sl - H11.sl) (by show H20.sh.length ≤ _; omega) (by show H20.sl ≤ _; omega)) (ab_mkC s_Lexer_refuse (Nat.le_of_ble_eq_true rfl) (Nat.le_of_ble_eq_true rfl) (show (H11.sh.length - c0) + (H20.sh.length - H11.sh.length) ≤ C from by omega) (show (H11.sl - s0) + (H20.sl - H11.sl) ≤ Sl from by omega)) (k5 135 rfl rfl) i_Lexer_refuse v_Lexer_refuse q17 (by decide) rfl rfl (Nat.le_of_ble_eq_true rfl) ?_
    refine ab_widen (cells' := H20.sh.length - c0) (slots' := H20.sl - s0) (by show _ + (H20.sh.length - H11.sh.length) ≤ _; omega) (by show _ + (H20.sl - H11.sl) ≤ _; omega) ?_
    clear b_34l b_34s b_34m b_34n b_2c b_2d b_2p b_2q
    exact kB_Body_spawnedPart_31 hF b_34c b_34d b_34p b_34q hC hS
def y_Body_readSpawn : ab_Y := (⟨"WorldEngine$Body", "readSpawn", "()V"⟩, prog_2_method_23_code, 7, none, [])
theorem d_Body_readSpawn_0 : decode y_Body_readSpawn.2.1 0 = .ok (.aload_n 0, 1) := by decide +kernel
theorem d_Body_readSpawn_1 : decode y_Body_readSpawn.2.1 1 = .ok (.getfield 7, 3) := by decide +kernel
theorem d_Body_readSpawn_4 : decode y_Body_readSpawn.2.1 4 = .ok (.invokevirtual 93, 3) := by decide +kernel
theorem d_Body_readSpawn_7 : decode y_Body_readSpawn.2.1 7 = .ok (.aload_n 0, 1) := by decide +kernel
theorem d_Body_readSpawn_8 : decode y_Body_readSpawn.2.1 8 = .ok (.iconst 2, 1) := by decide +kernel
theorem d_Body_readSpawn_9 : decode y_Body_readSpawn.2.1 9 = .ok (.invokevirtual 134, 3) := by decide +kernel
theorem d_Body_readSpawn_12 : decode y_Body_readSpawn.2.1 12 = .ok (.istore_n 1, 1) := by decide +kernel
theorem d_Body_readSpawn_13 : decode y_Body_readSpawn.2.1 13 = .ok (.iconst 4, 1) := by decide +kernel
theorem d_Body_readSpawn_14 : decode y_Body_readSpawn.2.1 14 = .ok (.newarray .int, 2) := by decide +kernel
theorem d_Body_readSpawn_16 : decode y_Body_readSpawn.2.1 16 = .ok (.astore_n 2, 1) := by decide +kernel
theorem d_Body_readSpawn_17 : decode y_Body_readSpawn.2.1 17 = .ok (.iconst 0, 1) := by decide +kernel
theorem d_Body_readSpawn_18 : decode y_Body_readSpawn.2.1 18 = .ok (.istore_n 3, 1) := by decide +kernel
theorem d_Body_readSpawn_19 : decode y_Body_readSpawn.2.1 19 = .ok (.aload_n 0, 1) := by decide +kernel
theorem d_Body_readSpawn_20 : decode y_Body_readSpawn.2.1 20 = .ok (.getfield 7, 3) := by decide +kernel
theorem d_Body_readSpawn_23 : decode y_Body_readSpawn.2.1 23 = .ok (.getfield 45, 3) := by decide +kernel
theorem d_Body_readSpawn_26 : decode y_Body_readSpawn.2.1 26 = .ok (.bipush 12, 2) := by decide +kernel
theorem d_Body_readSpawn_28 : decode y_Body_readSpawn.2.1 28 = .ok (.if_icmp .ne 101, 3) := by decide +kernel
theorem d_Body_readSpawn_31 : decode y_Body_readSpawn.2.1 31 = .ok (.aload_n 0, 1) := by decide +kernel
theorem d_Body_readSpawn_32 : decode y_Body_readSpawn.2.1 32 = .ok (.invokevirtual 211, 3) := by decide +kernel
theorem d_Body_readSpawn_35 : decode y_Body_readSpawn.2.1 35 = .ok (.iconst 1, 1) := by decide +kernel
theorem d_Body_readSpawn_36 : decode y_Body_readSpawn.2.1 36 = .ok (.istore 4, 2) := by decide +kernel
theorem d_Body_readSpawn_38 : decode y_Body_readSpawn.2.1 38 = .ok (.iconst 0, 1) := by decide +kernel
theorem d_Body_readSpawn_39 : decode y_Body_readSpawn.2.1 39 = .ok (.istore 5, 2) := by decide +kernel
theorem d_Body_readSpawn_41 : decode y_Body_readSpawn.2.1 41 = .ok (.iload 5, 2) := by decide +kernel
theorem d_Body_readSpawn_43 : decode y_Body_readSpawn.2.1 43 = .ok (.iconst 4, 1) := by decide +kernel
theorem d_Body_readSpawn_44 : decode y_Body_readSpawn.2.1 44 = .ok (.if_icmp .gt 81, 3) := by decide +kernel
theorem d_Body_readSpawn_47 : decode y_Body_readSpawn.2.1 47 = .ok (.iload 4, 2) := by decide +kernel
theorem d_Body_readSpawn_49 : decode y_Body_readSpawn.2.1 49 = .ok (.ifCond .eq 76, 3) := by decide +kernel
theorem d_Body_readSpawn_52 : decode y_Body_readSpawn.2.1 52 = .ok (.aload_n 0, 1) := by decide +kernel
theorem d_Body_readSpawn_53 : decode y_Body_readSpawn.2.1 53 = .ok (.aload_n 0, 1) := by decide +kernel
theorem d_Body_readSpawn_54 : decode y_Body_readSpawn.2.1 54 = .ok (.iload_n 1, 1) := by decide +kernel
theorem d_Body_readSpawn_55 : decode y_Body_readSpawn.2.1 55 = .ok (.iload_n 3, 1) := by decide +kernel
theorem d_Body_readSpawn_56 : decode y_Body_readSpawn.2.1 56 = .ok (.invokevirtual 214, 3) := by decide +kernel
theorem d_Body_readSpawn_59 : decode y_Body_readSpawn.2.1 59 = .ok (.invokevirtual 205, 3) := by decide +kernel
theorem d_Body_readSpawn_62 : decode y_Body_readSpawn.2.1 62 = .ok (.istore 6, 2) := by decide +kernel
theorem d_Body_readSpawn_64 : decode y_Body_readSpawn.2.1 64 = .ok (.aload_n 0, 1) := by decide +kernel
theorem d_Body_readSpawn_65 : decode y_Body_readSpawn.2.1 65 = .ok (.aload_n 0, 1) := by decide +kernel
theorem d_Body_readSpawn_66 : decode y_Body_readSpawn.2.1 66 = .ok (.iload 6, 2) := by decide +kernel
theorem d_Body_readSpawn_68 : decode y_Body_readSpawn.2.1 68 = .ok (.invokevirtual 208, 3) := by decide +kernel
theorem d_Body_readSpawn_71 : decode y_Body_readSpawn.2.1 71 = .ok (.invokevirtual 111, 3) := by decide +kernel
theorem d_Body_readSpawn_74 : decode y_Body_readSpawn.2.1 74 = .ok (.pop, 1) := by decide +kernel
theorem d_Body_readSpawn_75 : decode y_Body_readSpawn.2.1 75 = .ok (.iload_n 3, 1) := by decide +kernel
theorem d_Body_readSpawn_76 : decode y_Body_readSpawn.2.1 76 = .ok (.iconst 4, 1) := by decide +kernel
theorem d_Body_readSpawn_77 : decode y_Body_readSpawn.2.1 77 = .ok (.if_icmp .ge 11, 3) := by decide +kernel
theorem d_Body_readSpawn_80 : decode y_Body_readSpawn.2.1 80 = .ok (.aload_n 2, 1) := by decide +kernel
theorem d_Body_readSpawn_81 : decode y_Body_readSpawn.2.1 81 = .ok (.iload_n 3, 1) := by decide +kernel
theorem d_Body_readSpawn_82 : decode y_Body_readSpawn.2.1 82 = .ok (.iload 6, 2) := by decide +kernel
theorem d_Body_readSpawn_84 : decode y_Body_readSpawn.2.1 84 = .ok (.iastore, 1) := by decide +kernel
theorem d_Body_readSpawn_85 : decode y_Body_readSpawn.2.1 85 = .ok (.iinc 3 1, 3) := by decide +kernel
theorem d_Body_readSpawn_88 : decode y_Body_readSpawn.2.1 88 = .ok (.aload_n 0, 1) := by decide +kernel
theorem d_Body_readSpawn_89 : decode y_Body_readSpawn.2.1 89 = .ok (.getfield 7, 3) := by decide +kernel
theorem d_Body_readSpawn_92 : decode y_Body_readSpawn.2.1 92 = .ok (.getfield 45, 3) := by decide +kernel
theorem d_Body_readSpawn_95 : decode y_Body_readSpawn.2.1 95 = .ok (.bipush 14, 2) := by decide +kernel
theorem d_Body_readSpawn_97 : decode y_Body_readSpawn.2.1 97 = .ok (.if_icmp .ne 7, 3) := by decide +kernel
theorem d_Body_readSpawn_100 : decode y_Body_readSpawn.2.1 100 = .ok (.iconst 1, 1) := by decide +kernel
theorem d_Body_readSpawn_101 : decode y_Body_readSpawn.2.1 101 = .ok (.goto 4, 3) := by decide +kernel
theorem d_Body_readSpawn_104 : decode y_Body_readSpawn.2.1 104 = .ok (.iconst 0, 1) := by decide +kernel
theorem d_Body_readSpawn_105 : decode y_Body_readSpawn.2.1 105 = .ok (.istore 4, 2) := by decide +kernel
theorem d_Body_readSpawn_107 : decode y_Body_readSpawn.2.1 107 = .ok (.iload 4, 2) := by decide +kernel
theorem d_Body_readSpawn_109 : decode y_Body_readSpawn.2.1 109 = .ok (.ifCond .eq 10, 3) := by decide +kernel
theorem d_Body_readSpawn_112 : decode y_Body_readSpawn.2.1 112 = .ok (.aload_n 0, 1) := by decide +kernel
theorem d_Body_readSpawn_113 : decode y_Body_readSpawn.2.1 113 = .ok (.getfield 7, 3) := by decide +kernel
theorem d_Body_readSpawn_116 : decode y_Body_readSpawn.2.1 116 = .ok (.invokevirtual 93, 3) := by decide +kernel
theorem d_Body_readSpawn_119 : decode y_Body_readSpawn.2.1 119 = .ok (.iinc 5 1, 3) := by decide +kernel
theorem d_Body_readSpawn_122 : decode y_Body_readSpawn.2.1 122 = .ok (.goto (-81), 3) := by decide +kernel
theorem d_Body_readSpawn_125 : decode y_Body_readSpawn.2.1 125 = .ok (.aload_n 0, 1) := by decide +kernel
theorem d_Body_readSpawn_126 : decode y_Body_readSpawn.2.1 126 = .ok (.invokevirtual 218, 3) := by decide +kernel
theorem d_Body_readSpawn_129 : decode y_Body_readSpawn.2.1 129 = .ok (.aload_n 0, 1) := by decide +kernel
theorem d_Body_readSpawn_130 : decode y_Body_readSpawn.2.1 130 = .ok (.getfield 7, 3) := by decide +kernel
theorem d_Body_readSpawn_133 : decode y_Body_readSpawn.2.1 133 = .ok (.bipush 15, 2) := by decide +kernel
theorem d_Body_readSpawn_135 : decode y_Body_readSpawn.2.1 135 = .ok (.invokevirtual 41, 3) := by decide +kernel
theorem d_Body_readSpawn_138 : decode y_Body_readSpawn.2.1 138 = .ok (.aload_n 0, 1) := by decide +kernel
theorem d_Body_readSpawn_139 : decode y_Body_readSpawn.2.1 139 = .ok (.getfield 17, 3) := by decide +kernel
theorem d_Body_readSpawn_142 : decode y_Body_readSpawn.2.1 142 = .ok (.bipush 20, 2) := by decide +kernel
theorem d_Body_readSpawn_144 : decode y_Body_readSpawn.2.1 144 = .ok (.invokevirtual 50, 3) := by decide +kernel
theorem d_Body_readSpawn_147 : decode y_Body_readSpawn.2.1 147 = .ok (.pop, 1) := by decide +kernel
theorem d_Body_readSpawn_148 : decode y_Body_readSpawn.2.1 148 = .ok (.aload_n 0, 1) := by decide +kernel
theorem d_Body_readSpawn_149 : decode y_Body_readSpawn.2.1 149 = .ok (.getfield 17, 3) := by decide +kernel
theorem d_Body_readSpawn_152 : decode y_Body_readSpawn.2.1 152 = .ok (.iload_n 1, 1) := by decide +kernel
theorem d_Body_readSpawn_153 : decode y_Body_readSpawn.2.1 153 = .ok (.invokevirtual 50, 3) := by decide +kernel
theorem d_Body_readSpawn_156 : decode y_Body_readSpawn.2.1 156 = .ok (.pop, 1) := by decide +kernel
theorem d_Body_readSpawn_157 : decode y_Body_readSpawn.2.1 157 = .ok (.aload_n 0, 1) := by decide +kernel
theorem d_Body_readSpawn_158 : decode y_Body_readSpawn.2.1 158 = .ok (.getfield 17, 3) := by decide +kernel
theorem d_Body_readSpawn_161 : decode y_Body_readSpawn.2.1 161 = .ok (.iload_n 3, 1) := by decide +kernel
theorem d_Body_readSpawn_162 : decode y_Body_readSpawn.2.1 162 = .ok (.invokevirtual 50, 3) := by decide +kernel
theorem d_Body_readSpawn_165 : decode y_Body_readSpawn.2.1 165 = .ok (.pop, 1) := by decide +kernel
theorem d_Body_readSpawn_166 : decode y_Body_readSpawn.2.1 166 = .ok (.iconst 0, 1) := by decide +kernel
theorem d_Body_readSpawn_167 : decode y_Body_readSpawn.2.1 167 = .ok (.istore 4, 2) := by decide +kernel
theorem d_Body_readSpawn_169 : decode y_Body_readSpawn.2.1 169 = .ok (.iload 4, 2) := by decide +kernel
theorem d_Body_readSpawn_171 : decode y_Body_readSpawn.2.1 171 = .ok (.iload_n 3, 1) := by decide +kernel
theorem d_Body_readSpawn_172 : decode y_Body_readSpawn.2.1 172 = .ok (.if_icmp .ge 21, 3) := by decide +kernel
theorem d_Body_readSpawn_175 : decode y_Body_readSpawn.2.1 175 = .ok (.aload_n 0, 1) := by decide +kernel
theorem d_Body_readSpawn_176 : decode y_Body_readSpawn.2.1 176 = .ok (.getfield 17, 3) := by decide +kernel
theorem d_Body_readSpawn_179 : decode y_Body_readSpawn.2.1 179 = .ok (.aload_n 2, 1) := by decide +kernel
theorem d_Body_readSpawn_180 : decode y_Body_readSpawn.2.1 180 = .ok (.iload 4, 2) := by decide +kernel
theorem d_Body_readSpawn_182 : decode y_Body_readSpawn.2.1 182 = .ok (.iaload, 1) := by decide +kernel
theorem d_Body_readSpawn_183 : decode y_Body_readSpawn.2.1 183 = .ok (.invokevirtual 50, 3) := by decide +kernel
theorem d_Body_readSpawn_186 : decode y_Body_readSpawn.2.1 186 = .ok (.pop, 1) := by decide +kernel
theorem d_Body_readSpawn_187 : decode y_Body_readSpawn.2.1 187 = .ok (.iinc 4 1, 3) := by decide +kernel
theorem d_Body_readSpawn_190 : decode y_Body_readSpawn.2.1 190 = .ok (.goto (-21), 3) := by decide +kernel
theorem d_Body_readSpawn_193 : decode y_Body_readSpawn.2.1 193 = .ok (.return_, 1) := by decide +kernel
theorem s_Body_readSpawn : ab_Stat y_Body_readSpawn 0 := ⟨(k6 47 rfl rfl), (k1 8 rfl rfl), ⟨by decide, by decide⟩, by decide +kernel⟩
theorem i_Body_readSpawn : Cond.instanceMethod y_Body_readSpawn.1 ∈ ab_T := (k6 46 rfl rfl)
theorem v_Body_readSpawn : Cond.selects "WorldEngine$Body" y_Body_readSpawn.1 y_Body_readSpawn.1 ∈ ab_T := ab_s (List.mem_of_getElem? (i := 55) rfl) rfl
def B_Body_readSpawn_169 (N : Nat) (p0 : Nat) : Nat → Nat → Int32 → Int32 → Hp → Option ((Ot Unit) × Hp)
  | 0, _, _, _, _ => none
  | n + 1, l2, l3, l4, H =>
    if l3 ≤ l4 then
    some (.inl (), H)
    else
    ck (H.sh[p0]? = some (6, 0)) <|
    rf (H.P p0 1) fun a59 =>
    ar H 100 l2 fun n61 =>
    ck (inb l4 n61) <|
    bnd ((H.D l2 (l4).toNatClampNeg)) fun x64 =>
    ck (H.sh[a59]? = some (4, 0)) <|
    bC (F_Program_add N a59 x64 H) fun v67 H68 =>
    B_Body_readSpawn_169 N p0 n l2 l3 (l4 + 1) H68
termination_by structural n => n
set_option maxRecDepth 20000 in
set_option maxHeartbeats 2000000 in
theorem mB_Body_readSpawn_169 {N : Nat} {p0 : Nat} : ∀ (n : Nat) (l2 : Nat) (l3 : Int32) (l4 : Int32) (H : Hp) (r : (Ot Unit) × Hp), B_Body_readSpawn_169 N p0 n l2 l3 l4 H = some r → Mo H r.2 := by
  intro n
  induction n with
  | zero => intro l2 l3 l4 H r hF; rw [B_Body_readSpawn_169] at hF; cases hF
  | succ n ih =>
    intro l2 l3 l4 H r hF
    rw [B_Body_readSpawn_169] at hF
    have hm := Mo.rf H
    rcases ite_s hF with ⟨q_26, hG⟩ | ⟨q_26, hG⟩
    · clear hF
      have hr := Option.some.inj hG; subst hr
      exact hm
    · clear hF
      obtain ⟨q70, hF⟩ := ck_s hG; clear hG
      obtain ⟨a71, e72, hG⟩ := rf_s hF; clear hF
      obtain ⟨n73, q74, hF⟩ := ar_s hG; clear hG
      obtain ⟨q75, hG⟩ := ck_s hF; clear hF
      obtain ⟨x76, -, hF⟩ := bnd_g hG; clear hG
      obtain ⟨q77, hG⟩ := ck_s hF; clear hF
      obtain ⟨v79, H80, z78, hF⟩ := bC_s hG; clear hG
      replace hm : Mo H H80 := hm.tr ((m_Program_add z78)).mo
      exact hm.tr (ih l2 l3 (l4 + 1) H80 r hF)
set_option maxRecDepth 20000 in
set_option maxHeartbeats 2000000 in
theorem kB_Body_readSpawn_169 {N : Nat} {p0 : Nat} {c0 s0 C Sl : Nat} : ∀ (n : Nat) (l2 : Nat) (l3 : Int32) (l4 : Int32) (H : Hp) (r : (Ot Unit) × Hp), B_Body_readSpawn_169 N p0 n l2 l3 l4 H = some r → c0 ≤ H.sh.length → s0 ≤ H.sl → H.sh.length ≤ c0 + C → H.sl ≤ s0 + Sl → r.2.sh.length ≤ c0 + C → r.2.sl ≤ s0 + Sl → ab_V y_Body_readSpawn { frames := 570, cells := C, slots := Sl, locals := 13502 } (po (oV r.1) r.2) C Sl (H.sh.length - c0) (H.sl - s0) 169 [some (.ref p0), none, some (.ref l2), some (.int l3), some (.int l4), none, none] [] (hpw H) := by
  intro n
  induction n with
  | zero => intro l2 l3 l4 H r hF; rw [B_Body_readSpawn_169] at hF; cases hF
  | succ n ih =>
    intro l2 l3 l4 H r hF hc0 hs0 hcc hss hC hS
    rw [B_Body_readSpawn_169] at hF
    refine ab_iload d_Body_readSpawn_169 rfl ?_
    refine ab_iload_n d_Body_readSpawn_171 rfl rfl ?_
    refine ab_icmp_ge (tgt := 193) d_Body_readSpawn_172 (by decide) (fun q57 => ?_) (fun q57 => ?_)
    · rw [if_pos q57] at hF
      exact ab_vret d_Body_readSpawn_193 rfl (by show _ ≤ C; omega) (by show _ ≤ Sl; omega) (by have hr := Option.some.inj hF; subst hr; exact ⟨rfl, rfl⟩)
    · rw [if_neg q57] at hF
      refine ab_aload_n d_Body_readSpawn_175 rfl rfl rfl ?_
      obtain ⟨q58, hG⟩ := ck_s hF; clear hF
      obtain ⟨a59, e60, hF⟩ := rf_s hG; clear hG
      refine hp_getR (f := 1) d_Body_readSpawn_176 q58 (by decide) rfl (by decide) (k1 158 rfl rfl) rfl e60 ?_
      refine ab_aload_n d_Body_readSpawn_179 rfl rfl rfl ?_
      refine ab_iload d_Body_readSpawn_180 rfl ?_
      obtain ⟨n61, q62, hG⟩ := ar_s hF; clear hF
      obtain ⟨q63, hF⟩ := ck_s hG; clear hG
      refine hp_iald d_Body_readSpawn_182 tI q62 q63 ?_
      refine ab_topi (fun x64 ex64 => ?_)
      replace hF := bnd_s ex64 hF
      obtain ⟨q65, hG⟩ := ck_s hF; clear hF
      obtain ⟨v67, H68, z66, hF⟩ := bC_s hG; clear hG
      refine hp_callV_a (v := .int v67) (H1 := H68) (As := [.int x64]) (rest := []) d_Body_readSpawn_183 (k_Program_add z66) (ab_mkC s_Program_add (Nat.le_of_ble_eq_true rfl) (Nat.le_of_ble_eq_true rfl) (show (H.sh.length - c0) + 0 ≤ C from by omega) (show (H.sl - s0) + 0 ≤ Sl from by omega)) (k5 117 rfl rfl) i_Program_add v_Program_add q65 (by decide) rfl rfl (Nat.le_of_ble_eq_true rfl) ?_
      have s_25 : Sa H H68 := (m_Program_add z66)
      refine ab_widen (cells' := H.sh.length - c0) (slots' := H.sl - s0) (by show (H.sh.length - c0) + 0 ≤ _; omega) (by show (H.sl - s0) + 0 ≤ _; omega) ?_
      refine ab_pop d_Body_readSpawn_186 rfl ?_
      refine ab_iinc (v := l4 + 1) (lv' := [some (.ref p0), none, some (.ref l2), some (.int l3), some (.int (l4 + 1)), none, none]) d_Body_readSpawn_187 rfl rfl (by decide) rfl ?_
      refine ab_goto (tgt := 169) d_Body_readSpawn_190 (by decide) ?_
      refine ab_widen (cells' := H68.sh.length - c0) (slots' := H68.sl - s0) (by rw [(s_25).1]; exact Nat.le_refl _) (by rw [(s_25).2]; exact Nat.le_refl _) ?_
      exact ih l2 l3 (l4 + 1) H68 r hF (by rw [(s_25).1]; exact hc0) (by rw [(s_25).2]; exact hs0) (by rw [(s_25).1]; exact hcc) (by rw [(s_25).2]; exact hss) hC hS
def B_Body_readSpawn_129 (N : Nat) (p0 : Nat) (l1 : Int32) (l2 : Nat) (l3 : Int32) (H : Hp) : Option ((Ot Unit) × Hp) :=
    ck (H.sh[p0]? = some (6, 0)) <|
    rf (H.P p0 0) fun a32 =>
    ck (H.sh[a32]? = some (1, 0)) <|
    bT (F_Lexer_take N a32 (15 : Int32) H) fun v36 H37 =>
    rf (H37.P p0 1) fun a39 =>
    ck (H37.sh[a39]? = some (4, 0)) <|
    bC (F_Program_add N a39 (20 : Int32) H37) fun v43 H44 =>
    rf (H44.P p0 1) fun a45 =>
    ck (H44.sh[a45]? = some (4, 0)) <|
    bC (F_Program_add N a45 l1 H44) fun v49 H50 =>
    rf (H50.P p0 1) fun a51 =>
    ck (H50.sh[a51]? = some (4, 0)) <|
    bC (F_Program_add N a51 l3 H50) fun v55 H56 =>
    B_Body_readSpawn_169 N p0 N l2 l3 0 H56
set_option maxRecDepth 20000 in
set_option maxHeartbeats 2000000 in
theorem mB_Body_readSpawn_129 {N : Nat} {p0 : Nat} {l1 : Int32} {l2 : Nat} {l3 : Int32} {H : Hp} {r : (Ot Unit) × Hp} (hF : B_Body_readSpawn_129 N p0 l1 l2 l3 H = some r) : Mo H r.2 := by
  unfold B_Body_readSpawn_129 at hF
  have hm := Mo.rf H
  obtain ⟨q57, hG⟩ := ck_s hF; clear hF
  obtain ⟨a58, e59, hF⟩ := rf_s hG; clear hG
  obtain ⟨q60, hG⟩ := ck_s hF; clear hF
  refine bT_c hG (fun x64 H63 z61 er => ?_) (fun v62 H63 z61 hF => ?_)
  · subst er; exact hm.tr (m_Lexer_take z61)
  clear hG
  replace hm : Mo H H63 := hm.tr (m_Lexer_take z61)
  obtain ⟨a65, e66, hG⟩ := rf_s hF; clear hF
  obtain ⟨q67, hF⟩ := ck_s hG; clear hG
  obtain ⟨v69, H70, z68, hG⟩ := bC_s hF; clear hF
  replace hm : Mo H H70 := hm.tr ((m_Program_add z68)).mo
  obtain ⟨a71, e72, hF⟩ := rf_s hG; clear hG
  obtain ⟨q73, hG⟩ := ck_s hF; clear hF
  obtain ⟨v75, H76, z74, hF⟩ := bC_s hG; clear hG
  replace hm : Mo H H76 := hm.tr ((m_Program_add z74)).mo
  obtain ⟨a77, e78, hG⟩ := rf_s hF; clear hF
  obtain ⟨q79, hF⟩ := ck_s hG; clear hG
  obtain ⟨v81, H82, z80, hG⟩ := bC_s hF; clear hF
  replace hm : Mo H H82 := hm.tr ((m_Program_add z80)).mo
  exact hm.tr (mB_Body_readSpawn_169 N l2 l3 0 H82 r hG)
set_option maxRecDepth 20000 in
set_option maxHeartbeats 2000000 in
theorem kB_Body_readSpawn_129 {N : Nat} {p0 : Nat} {c0 s0 C Sl : Nat} {l1 : Int32} {l2 : Nat} {l3 : Int32} {H : Hp} {r : (Ot Unit) × Hp} (hF : B_Body_readSpawn_129 N p0 l1 l2 l3 H = some r) (hc0 : c0 ≤ H.sh.length) (hs0 : s0 ≤ H.sl) (hcc : H.sh.length ≤ c0 + C) (hss : H.sl ≤ s0 + Sl) (hC : r.2.sh.length ≤ c0 + C) (hS : r.2.sl ≤ s0 + Sl) : ab_V y_Body_readSpawn { frames := 570, cells := C, slots := Sl, locals := 13502 } (po (oV r.1) r.2) C Sl (H.sh.length - c0) (H.sl - s0) 129 [some (.ref p0), some (.int l1), some (.ref l2), some (.int l3), none, none, none] [] (hpw H) := by
  unfold B_Body_readSpawn_129 at hF
  refine ab_aload_n d_Body_readSpawn_129 rfl rfl rfl ?_
  obtain ⟨q31, hG⟩ := ck_s hF; clear hF
  obtain ⟨a32, e33, hF⟩ := rf_s hG; clear hG
  refine hp_getR (f := 0) d_Body_readSpawn_130 q31 (by decide) rfl (by decide) (k1 157 rfl rfl) rfl e33 ?_
  refine ab_bipush (v := 15) d_Body_readSpawn_133 (by decide) ?_
  obtain ⟨q34, hG⟩ := ck_s hF; clear hF
  refine bT_c hG (fun x38 H37 z35 er => ?_) (fun v36 H37 z35 hF => ?_)
  · subst er
    have mz : Mo H H37 := (m_Lexer_take z35)
    have ml := mz.len
    have m2 := mz.2
    have hC9 : H37.sh.length ≤ c0 + C := hC
    have hS9 : H37.sl ≤ s0 + Sl := hS
    refine hp_callV_t (x := x38) (H1 := H37) (As := [.int 15]) (rest := []) d_Body_readSpawn_135 (k_Lexer_take z35 (C := H37.sh.length - H.sh.length) (Sl := H37.sl - H.sl) (by show H37.sh.length ≤ _; omega) (by show H37.sl ≤ _; omega)) (ab_mkC s_Lexer_take (Nat.le_of_ble_eq_true rfl) (Nat.le_of_ble_eq_true rfl) (show (H.sh.length - c0) + (H37.sh.length - H.sh.length) ≤ C from by omega) (show (H.sl - s0) + (H37.sl - H.sl) ≤ Sl from by omega)) (k5 116 rfl rfl) i_Lexer_take v_Lexer_take q34 (by decide) rfl rfl (Nat.le_of_ble_eq_true rfl) ?_
    exact ab_U_out rfl (by show _ + (H37.sh.length - H.sh.length) ≤ C; omega) (by show _ + (H37.sl - H.sl) ≤ Sl; omega) ⟨rfl, rfl⟩
  clear hG
  have mz_17 : Mo H H37 := (m_Lexer_take z35)
  have b_18l := (mz_17).len
  have b_18s := (mz_17).2
  have b_18c : c0 ≤ H37.sh.length := by omega
  have b_18d : s0 ≤ H37.sl := by omega
  have q_19 := (mz_17).get q31
  have q_20 := (mz_17).get q34
  obtain ⟨a39, e40, hG⟩ := rf_s hF; clear hF
  obtain ⟨q41, hF⟩ := ck_s hG; clear hG
  obtain ⟨v43, H44, z42, hG⟩ := bC_s hF; clear hF
  have jH44 : Mo H37 H44 := ((m_Program_add z42)).mo
  obtain ⟨a45, e46, hF⟩ := rf_s hG; clear hG
  obtain ⟨q47, hG⟩ := ck_s hF; clear hF
  obtain ⟨v49, H50, z48, hF⟩ := bC_s hG; clear hG
  have jH50 : Mo H44 H50 := ((m_Program_add z48)).mo
  obtain ⟨a51, e52, hG⟩ := rf_s hF; clear hF
  obtain ⟨q53, hF⟩ := ck_s hG; clear hG
  obtain ⟨v55, H56, z54, hG⟩ := bC_s hF; clear hF
  have jH56 : Mo H50 H56 := ((m_Program_add z54)).mo
  have fH56 : Mo H56 r.2 := by
    have hm := Mo.rf H56
    exact hm.tr (mB_Body_readSpawn_169 N l2 l3 0 H56 r hG)
  have fH50 : Mo H50 r.2 := jH56.tr fH56
  have fH44 : Mo H44 r.2 := jH50.tr fH50
  have fH37 : Mo H37 r.2 := jH44.tr fH44
  have b_18m := (fH37).len
  have b_18n := (fH37).2
  have b_18p : H37.sh.length ≤ c0 + C := by omega
  have b_18q : H37.sl ≤ s0 + Sl := by omega
  refine hp_callV_v (H1 := H37) (As := [.int 15]) (rest := []) d_Body_readSpawn_135 (k_Lexer_take z35 (C := H37.sh.length - H.sh.length) (Sl := H37.sl - H.sl) (by show H37.sh.length ≤ _; omega) (by show H37.sl ≤ _; omega)) (ab_mkC s_Lexer_take (Nat.le_of_ble_eq_true rfl) (Nat.le_of_ble_eq_true rfl) (show (H.sh.length - c0) + (H37.sh.length - H.sh.length) ≤ C from by omega) (show (H.sl - s0) + (H37.sl - H.sl) ≤ Sl from by omega)) (k5 116 rfl rfl) i_Lexer_take v_Lexer_take q34 (by decide) rfl rfl (Nat.le_of_ble_eq_true rfl) ?_
  refine ab_widen (cells' := H37.sh.length - c0) (slots' := H37.sl - s0) (by show _ + (H37.sh.length - H.sh.length) ≤ _; omega) (by show _ + (H37.sl - H.sl) ≤ _; omega) ?_
  clear b_18l b_18s b_18m b_18n
  refine ab_aload_n d_Body_readSpawn_138 rfl rfl rfl ?_
  refine hp_getR (f := 1) d_Body_readSpawn_139 q_19 (by decide) rfl (by decide) (k1 158 rfl rfl) rfl e40 ?_
  refine ab_bipush (v := 20) d_Body_readSpawn_142 (by decide) ?_
  refine hp_callV_a (v := .int v43) (H1 := H44) (As := [.int 20]) (rest := []) d_Body_readSpawn_144 (k_Program_add z42) (ab_mkC s_Program_add (Nat.le_of_ble_eq_true rfl) (Nat.le_of_ble_eq_true rfl) (show (H37.sh.length - c0) + 0 ≤ C from by omega) (show (H37.sl - s0) + 0 ≤ Sl from by omega)) (k5 117 rfl rfl) i_Program_add v_Program_add q41 (by decide) rfl rfl (Nat.le_of_ble_eq_true rfl) ?_
  have s_28 : Sa H37 H44 := (m_Program_add z42)
  refine ab_widen (cells' := H37.sh.length - c0) (slots' := H37.sl - s0) (by show (H37.sh.length - c0) + 0 ≤ _; omega) (by show (H37.sl - s0) + 0 ≤ _; omega) ?_
  refine ab_pop d_Body_readSpawn_147 rfl ?_
  refine ab_aload_n d_Body_readSpawn_148 rfl rfl rfl ?_
  refine hp_getR (f := 1) d_Body_readSpawn_149 (by rw [(s_28).1]; exact q_19) (by decide) rfl (by decide) (k1 158 rfl rfl) rfl e46 ?_
  refine ab_iload_n d_Body_readSpawn_152 rfl rfl ?_
  rw [(s_28).1] at q47
  refine ab_widen (cells' := H44.sh.length - c0) (slots' := H44.sl - s0) (by rw [(s_28).1]; exact Nat.le_refl _) (by rw [(s_28).2]; exact Nat.le_refl _) ?_
  have b_29e := congrArg List.length (s_28).1
  have b_29f := (s_28).2
  refine hp_callV_a (v := .int v49) (H1 := H50) (As := [.int l1]) (rest := []) d_Body_readSpawn_153 (k_Program_add z48) (ab_mkC s_Program_add (Nat.le_of_ble_eq_true rfl) (Nat.le_of_ble_eq_true rfl) (show (H44.sh.length - c0) + 0 ≤ C from by omega) (show (H44.sl - s0) + 0 ≤ Sl from by omega)) (k5 117 rfl rfl) i_Program_add v_Program_add (by rw [(s_28).1]; exact q47) (by decide) rfl rfl (Nat.le_of_ble_eq_true rfl) ?_
  have s_30 : Sa H37 H50 := (s_28).tr (m_Program_add z48)
  refine ab_widen (cells' := H37.sh.length - c0) (slots' := H37.sl - s0) (by show (H44.sh.length - c0) + 0 ≤ _; omega) (by show (H44.sl - s0) + 0 ≤ _; omega) ?_
  clear b_29e b_29f
  refine ab_pop d_Body_readSpawn_156 rfl ?_
  refine ab_aload_n d_Body_readSpawn_157 rfl rfl rfl ?_
  refine hp_getR (f := 1) d_Body_readSpawn_158 (by rw [(s_30).1]; exact q_19) (by decide) rfl (by decide) (k1 158 rfl rfl) rfl e52 ?_
  refine ab_iload_n d_Body_readSpawn_161 rfl rfl ?_
  rw [(s_30).1] at q53
  refine ab_widen (cells' := H50.sh.length - c0) (slots' := H50.sl - s0) (by rw [(s_30).1]; exact Nat.le_refl _) (by rw [(s_30).2]; exact Nat.le_refl _) ?_
  have b_31e := congrArg List.length (s_30).1
  have b_31f := (s_30).2
  refine hp_callV_a (v := .int v55) (H1 := H56) (As := [.int l3]) (rest := []) d_Body_readSpawn_162 (k_Program_add z54) (ab_mkC s_Program_add (Nat.le_of_ble_eq_true rfl) (Nat.le_of_ble_eq_true rfl) (show (H50.sh.length - c0) + 0 ≤ C from by omega) (show (H50.sl - s0) + 0 ≤ Sl from by omega)) (k5 117 rfl rfl) i_Program_add v_Program_add (by rw [(s_30).1]; exact q53) (by decide) rfl rfl (Nat.le_of_ble_eq_true rfl) ?_
  have s_32 : Sa H37 H56 := (s_30).tr (m_Program_add z54)
  refine ab_widen (cells' := H37.sh.length - c0) (slots' := H37.sl - s0) (by show (H50.sh.length - c0) + 0 ≤ _; omega) (by show (H50.sl - s0) + 0 ≤ _; omega) ?_
  clear b_31e b_31f
  refine ab_pop d_Body_readSpawn_165 rfl ?_
  refine ab_iconst (v := 0) d_Body_readSpawn_166 (by decide) ?_
  refine ab_istore (lv' := [some (.ref p0), some (.int l1), some (.ref l2), some (.int l3), some (.int 0), none, none]) d_Body_readSpawn_167 (by decide) rfl ?_
  refine ab_le (lv' := [some (.ref p0), none, some (.ref l2), some (.int l3), some (.int 0), none, none]) ⟨rfl, ⟨rfl, ⟨rfl, ⟨rfl, trivial⟩⟩⟩⟩ ?_
  refine ab_widen (cells' := H56.sh.length - c0) (slots' := H56.sl - s0) (by rw [(s_32).1]; exact Nat.le_refl _) (by rw [(s_32).2]; exact Nat.le_refl _) ?_
  exact kB_Body_readSpawn_169 N l2 l3 0 H56 r hG (by rw [(s_32).1]; exact b_18c) (by rw [(s_32).2]; exact b_18d) (by rw [(s_32).1]; exact b_18p) (by rw [(s_32).2]; exact b_18q) hC hS
def B_Body_readSpawn_125 (N : Nat) (p0 : Nat) (l1 : Int32) (l2 : Nat) (l3 : Int32) (H : Hp) : Option ((Ot Unit) × Hp) :=
    ck (H.sh[p0]? = some (6, 0)) <|
    bT (F_Body_closeParens N p0 H) fun v28 H29 =>
    B_Body_readSpawn_129 N p0 l1 l2 l3 H29
set_option maxRecDepth 20000 in
set_option maxHeartbeats 2000000 in
theorem mB_Body_readSpawn_125 {N : Nat} {p0 : Nat} {l1 : Int32} {l2 : Nat} {l3 : Int32} {H : Hp} {r : (Ot Unit) × Hp} (hF : B_Body_readSpawn_125 N p0 l1 l2 l3 H = some r) : Mo H r.2 := by
  unfold B_Body_readSpawn_125 at hF
  have hm := Mo.rf H
  obtain ⟨q31, hG⟩ := ck_s hF; clear hF
  refine bT_c hG (fun x35 H34 z32 er => ?_) (fun v33 H34 z32 hF => ?_)
  · subst er; exact hm.tr (m_Body_closeParens z32)
  clear hG
  replace hm : Mo H H34 := hm.tr (m_Body_closeParens z32)
  exact hm.tr (mB_Body_readSpawn_129 hF)
set_option maxRecDepth 20000 in
set_option maxHeartbeats 2000000 in
theorem kB_Body_readSpawn_125 {N : Nat} {p0 : Nat} {c0 s0 C Sl : Nat} {l1 : Int32} {l2 : Nat} {l3 : Int32} {H : Hp} {r : (Ot Unit) × Hp} (hF : B_Body_readSpawn_125 N p0 l1 l2 l3 H = some r) (hc0 : c0 ≤ H.sh.length) (hs0 : s0 ≤ H.sl) (hcc : H.sh.length ≤ c0 + C) (hss : H.sl ≤ s0 + Sl) (hC : r.2.sh.length ≤ c0 + C) (hS : r.2.sl ≤ s0 + Sl) : ab_V y_Body_readSpawn { frames := 570, cells := C, slots := Sl, locals := 13502 } (po (oV r.1) r.2) C Sl (H.sh.length - c0) (H.sl - s0) 125 [some (.ref p0), some (.int l1), some (.ref l2), some (.int l3), none, none, none] [] (hpw H) := by
  unfold B_Body_readSpawn_125 at hF
  refine ab_aload_n d_Body_readSpawn_125 rfl rfl rfl ?_
  obtain ⟨q26, hG⟩ := ck_s hF; clear hF
  refine bT_c hG (fun x30 H29 z27 er => ?_) (fun v28 H29 z27 hF => ?_)
  · subst er
    have mz : Mo H H29 := (m_Body_closeParens z27)
    have ml := mz.len
    have m2 := mz.2
    have hC9 : H29.sh.length ≤ c0 + C := hC
    have hS9 : H29.sl ≤ s0 + Sl := hS
    refine hp_callV_t (x := x30) (H1 := H29) (As := []) (rest := []) d_Body_readSpawn_126 (k_Body_closeParens z27 (C := H29.sh.length - H.sh.length) (Sl := H29.sl - H.sl) (by show H29.sh.length ≤ _; omega) (by show H29.sl ≤ _; omega)) (ab_mkC s_Body_closeParens (Nat.le_of_ble_eq_true rfl) (Nat.le_of_ble_eq_true rfl) (show (H.sh.length - c0) + (H29.sh.length - H.sh.length) ≤ C from by omega) (show (H.sl - s0) + (H29.sl - H.sl) ≤ Sl from by omega)) (k5 165 rfl rfl) i_Body_closeParens v_Body_closeParens q26 (by decide) rfl rfl (Nat.le_of_ble_eq_true rfl) ?_
    exact ab_U_out rfl (by show _ + (H29.sh.length - H.sh.length) ≤ C; omega) (by show _ + (H29.sl - H.sl) ≤ Sl; omega) ⟨rfl, rfl⟩
  clear hG
  have mz_14 : Mo H H29 := (m_Body_closeParens z27)
  have b_15l := (mz_14).len
  have b_15s := (mz_14).2
  have b_15c : c0 ≤ H29.sh.length := by omega
  have b_15d : s0 ≤ H29.sl := by omega
  have q_16 := (mz_14).get q26
  have fH29 : Mo H29 r.2 := by
    have hm := Mo.rf H29
    exact hm.tr (mB_Body_readSpawn_129 hF)
  have b_15m := (fH29).len
  have b_15n := (fH29).2
  have b_15p : H29.sh.length ≤ c0 + C := by omega
  have b_15q : H29.sl ≤ s0 + Sl := by omega
  refine hp_callV_v (H1 := H29) (As := []) (rest := []) d_Body_readSpawn_126 (k_Body_closeParens z27 (C := H29.sh.length - H.sh.length) (Sl := H29.sl - H.sl) (by show H29.sh.length ≤ _; omega) (by show H29.sl ≤ _; omega)) (ab_mkC s_Body_closeParens (Nat.le_of_ble_eq_true rfl) (Nat.le_of_ble_eq_true rfl) (show (H.sh.length - c0) + (H29.sh.length - H.sh.length) ≤ C from by omega) (show (H.sl - s0) + (H29.sl - H.sl) ≤ Sl from by omega)) (k5 165 rfl rfl) i_Body_closeParens v_Body_closeParens q26 (by decide) rfl rfl (Nat.le_of_ble_eq_true rfl) ?_
  refine ab_widen (cells' := H29.sh.length - c0) (slots' := H29.sl - s0) (by show _ + (H29.sh.length - H.sh.length) ≤ _; omega) (by show _ + (H29.sl - H.sl) ≤ _; omega) ?_
  clear b_15l b_15s b_15m b_15n
  exact kB_Body_readSpawn_129 hF b_15c b_15d b_15p b_15q hC hS
def B_Body_readSpawn_119 (N : Nat) (p0 : Nat) (kq41 : Int32 → Nat → Int32 → Int32 → Int32 → Hp → Option ((Ot Unit) × Hp)) (l1 : Int32) (l2 : Nat) (l3 : Int32) (l4 : Int32) (l5 : Int32) (H : Hp) : Option ((Ot Unit) × Hp) :=
    kq41 l1 l2 l3 l4 (l5 + 1) H
set_option maxRecDepth 20000 in
set_option maxHeartbeats 2000000 in
theorem mB_Body_readSpawn_119 {N : Nat} {p0 : Nat} {kq41 : Int32 → Nat → Int32 → Int32 → Int32 → Hp → Option ((Ot Unit) × Hp)} (hm41 : ∀ (l1 : Int32) (l2 : Nat) (l3 : Int32) (l4 : Int32) (l5 : Int32) (H : Hp) (r : (Ot Unit) × Hp), kq41 l1 l2 l3 l4 l5 H = some r → Mo H r.2) {l1 : Int32} {l2 : Nat} {l3 : Int32} {l4 : Int32} {l5 : Int32} {H : Hp} {r : (Ot Unit) × Hp} (hF : B_Body_readSpawn_119 N p0 kq41 l1 l2 l3 l4 l5 H = some r) : Mo H r.2 := by
  unfold B_Body_readSpawn_119 at hF
  have hm := Mo.rf H
  exact hm.tr (hm41 l1 l2 l3 l4 (l5 + 1) H r hF)
set_option maxRecDepth 20000 in
set_option maxHeartbeats 2000000 in
theorem kB_Body_readSpawn_119 {N : Nat} {p0 : Nat} {kq41 : Int32 → Nat → Int32 → Int32 → Int32 → Hp → Option ((Ot Unit) × Hp)} {c0 s0 C Sl : Nat} (hm41 : ∀ (l1 : Int32) (l2 : Nat) (l3 : Int32) (l4 : Int32) (l5 : Int32) (H : Hp) (r : (Ot Unit) × Hp), kq41 l1 l2 l3 l4 l5 H = some r → Mo H r.2) (hk41 : ∀ (l1 : Int32) (l2 : Nat) (l3 : Int32) (l4 : Int32) (l5 : Int32) (H : Hp) (r : (Ot Unit) × Hp), kq41 l1 l2 l3 l4 l5 H = some r → c0 ≤ H.sh.length → s0 ≤ H.sl → H.sh.length ≤ c0 + C → H.sl ≤ s0 + Sl → r.2.sh.length ≤ c0 + C → r.2.sl ≤ s0 + Sl → ab_V y_Body_readSpawn { frames := 570, cells := C, slots := Sl, locals := 13502 } (po (oV r.1) r.2) C Sl (H.sh.length - c0) (H.sl - s0) 41 [some (.ref p0), some (.int l1), some (.ref l2), some (.int l3), some (.int l4), some (.int l5), none] [] (hpw H)) {l1 : Int32} {l2 : Nat} {l3 : Int32} {l4 : Int32} {l5 : Int32} {H : Hp} {r : (Ot Unit) × Hp} (hF : B_Body_readSpawn_119 N p0 kq41 l1 l2 l3 l4 l5 H = some r) (hc0 : c0 ≤ H.sh.length) (hs0 : s0 ≤ H.sl) (hcc : H.sh.length ≤ c0 + C) (hss : H.sl ≤ s0 + Sl) (hC : r.2.sh.length ≤ c0 + C) (hS : r.2.sl ≤ s0 + Sl) : ab_V y_Body_readSpawn { frames := 570, cells := C, slots := Sl, locals := 13502 } (po (oV r.1) r.2) C Sl (H.sh.length - c0) (H.sl - s0) 119 [some (.ref p0), some (.int l1), some (.ref l2), some (.int l3), some (.int l4), some (.int l5), none] [] (hpw H) := by
  unfold B_Body_readSpawn_119 at hF
  refine ab_iinc (v := l5 + 1) (lv' := [some (.ref p0), some (.int l1), some (.ref l2), some (.int l3), some (.int l4), some (.int (l5 + 1)), none]) d_Body_readSpawn_119 rfl rfl (by decide) rfl ?_
  refine ab_goto (tgt := 41) d_Body_readSpawn_122 (by decide) ?_
  exact hk41 l1 l2 l3 l4 (l5 + 1) H r hF hc0 hs0 hcc hss hC hS
def B_Body_readSpawn_105 (N : Nat) (p0 : Nat) (kq41 : Int32 → Nat → Int32 → Int32 → Int32 → Hp → Option ((Ot Unit) × Hp)) (l1 : Int32) (l2 : Nat) (l3 : Int32) (l5 : Int32) (w0 : Int32) (H : Hp) : Option ((Ot Unit) × Hp) :=
    if w0 = (0 : Int32) then
    B_Body_readSpawn_119 N p0 kq41 l1 l2 l3 w0 l5 H
    else
    ck (H.sh[p0]? = some (6, 0)) <|
    rf (H.P p0 0) fun a62 =>
    ck (H.sh[a62]? = some (1, 0)) <|
    bC (F_Lexer_advance N a62 H) fun v66 H67 =>
    B_Body_readSpawn_119 N p0 kq41 l1 l2 l3 w0 l5 H67
set_option maxRecDepth 20000 in
set_option maxHeartbeats 2000000 in
theorem mB_Body_readSpawn_105 {N : Nat} {p0 : Nat} {kq41 : Int32 → Nat → Int32 → Int32 → Int32 → Hp → Option ((Ot Unit) × Hp)} (hm41 : ∀ (l1 : Int32) (l2 : Nat) (l3 : Int32) (l4 : Int32) (l5 : Int32) (H : Hp) (r : (Ot Unit) × Hp), kq41 l1 l2 l3 l4 l5 H = some r → Mo H r.2) {l1 : Int32} {l2 : Nat} {l3 : Int32} {l5 : Int32} {w0 : Int32} {H : Hp} {r : (Ot Unit) × Hp} (hF : B_Body_readSpawn_105 N p0 kq41 l1 l2 l3 l5 w0 H = some r) : Mo H r.2 := by
  unfold B_Body_readSpawn_105 at hF
  have hm := Mo.rf H
  rcases ite_s hF with ⟨q_48, hG⟩ | ⟨q_48, hG⟩
  · clear hF
    exact hm.tr (mB_Body_readSpawn_119 hm41 hG)
  · clear hF
    obtain ⟨q69, hF⟩ := ck_s hG; clear hG
    obtain ⟨a70, e71, hG⟩ := rf_s hF; clear hF
    obtain ⟨q72, hF⟩ := ck_s hG; clear hG
    obtain ⟨v74, H75, z73, hG⟩ := bC_s hF; clear hF
    replace hm : Mo H H75 := hm.tr ((m_Lexer_advance z73)).mo
    exact hm.tr (mB_Body_readSpawn_119 hm41 hG)
set_option maxRecDepth 20000 in
set_option maxHeartbeats 2000000 in
theorem kB_Body_readSpawn_105 {N : Nat} {p0 : Nat} {kq41 : Int32 → Nat → Int32 → Int32 → Int32 → Hp → Option ((Ot Unit) × Hp)} {c0 s0 C Sl : Nat} (hm41 : ∀ (l1 : Int32) (l2 : Nat) (l3 : Int32) (l4 : Int32) (l5 : Int32) (H : Hp) (r : (Ot Unit) × Hp), kq41 l1 l2 l3 l4 l5 H = some r → Mo H r.2) (hk41 : ∀ (l1 : Int32) (l2 : Nat) (l3 : Int32) (l4 : Int32) (l5 : Int32) (H : Hp) (r : (Ot Unit) × Hp), kq41 l1 l2 l3 l4 l5 H = some r → c0 ≤ H.sh.length → s0 ≤ H.sl → H.sh.length ≤ c0 + C → H.sl ≤ s0 + Sl → r.2.sh.length ≤ c0 + C → r.2.sl ≤ s0 + Sl → ab_V y_Body_readSpawn { frames := 570, cells := C, slots := Sl, locals := 13502 } (po (oV r.1) r.2) C Sl (H.sh.length - c0) (H.sl - s0) 41 [some (.ref p0), some (.int l1), some (.ref l2), some (.int l3), some (.int l4), some (.int l5), none] [] (hpw H)) {l1 : Int32} {l2 : Nat} {l3 : Int32} {l5 : Int32} {w0 : Int32} {H : Hp} {r : (Ot Unit) × Hp} (hF : B_Body_readSpawn_105 N p0 kq41 l1 l2 l3 l5 w0 H = some r) (hc0 : c0 ≤ H.sh.length) (hs0 : s0 ≤ H.sl) (hcc : H.sh.length ≤ c0 + C) (hss : H.sl ≤ s0 + Sl) (hC : r.2.sh.length ≤ c0 + C) (hS : r.2.sl ≤ s0 + Sl) : ab_V y_Body_readSpawn { frames := 570, cells := C, slots := Sl, locals := 13502 } (po (oV r.1) r.2) C Sl (H.sh.length - c0) (H.sl - s0) 105 [some (.ref p0), some (.int l1), some (.ref l2), some (.int l3), none, some (.int l5), none] [.int w0] (hpw H) := by
  unfold B_Body_readSpawn_105 at hF
  refine ab_istore (lv' := [some (.ref p0), some (.int l1), some (.ref l2), some (.int l3), some (.int w0), some (.int l5), none]) d_Body_readSpawn_105 (by decide) rfl ?_
  refine ab_iload d_Body_readSpawn_107 rfl ?_
  refine ab_if_eq (tgt := 119) d_Body_readSpawn_109 (by decide) (fun q60 => ?_) (fun q60 => ?_)
  · rw [if_pos q60] at hF
    exact kB_Body_readSpawn_119 hm41 hk41 hF hc0 hs0 hcc hss hC hS
  · rw [if_neg q60] at hF
    refine ab_aload_n d_Body_readSpawn_112 rfl rfl rfl ?_
    obtain ⟨q61, hG⟩ := ck_s hF; clear hF
    obtain ⟨a62, e63, hF⟩ := rf_s hG; clear hG
    refine hp_getR (f := 0) d_Body_readSpawn_113 q61 (by decide) rfl (by decide) (k1 157 rfl rfl) rfl e63 ?_
    obtain ⟨q64, hG⟩ := ck_s hF; clear hF
    obtain ⟨v66, H67, z65, hF⟩ := bC_s hG; clear hG
    refine hp_callV_v (H1 := H67) (As := []) (rest := []) d_Body_readSpawn_116 (k_Lexer_advance z65) (ab_mkC s_Lexer_advance (Nat.le_of_ble_eq_true rfl) (Nat.le_of_ble_eq_true rfl) (show (H.sh.length - c0) + 0 ≤ C from by omega) (show (H.sl - s0) + 0 ≤ Sl from by omega)) (k5 129 rfl rfl) i_Lexer_advance v_Lexer_advance q64 (by decide) rfl rfl (Nat.le_of_ble_eq_true rfl) ?_
    have s_47 : Sa H H67 := (m_Lexer_advance z65)
    refine ab_widen (cells' := H.sh.length - c0) (slots' := H.sl - s0) (by show (H.sh.length - c0) + 0 ≤ _; omega) (by show (H.sl - s0) + 0 ≤ _; omega) ?_
    refine ab_widen (cells' := H67.sh.length - c0) (slots' := H67.sl - s0) (by rw [(s_47).1]; exact Nat.le_refl _) (by rw [(s_47).2]; exact Nat.le_refl _) ?_
    exact kB_Body_readSpawn_119 hm41 hk41 hF (by rw [(s_47).1]; exact hc0) (by rw [(s_47).2]; exact hs0) (by rw [(s_47).1]; exact hcc) (by rw [(s_47).2]; exact hss) hC hS
def B_Body_readSpawn_88 (N : Nat) (p0 : Nat) (kq41 : Int32 → Nat → Int32 → Int32 → Int32 → Hp → Option ((Ot Unit) × Hp)) (l1 : Int32) (l2 : Nat) (l3 : Int32) (l5 : Int32) (H : Hp) : Option ((Ot Unit) × Hp) :=
    ck (H.sh[p0]? = some (6, 0)) <|
    rf (H.P p0 0) fun a55 =>
    ck (H.sh[a55]? = some (1, 0)) <|
    bnd ((H.D a55 2)) fun x58 =>
    if x58 = (14 : Int32) then
    B_Body_readSpawn_105 N p0 kq41 l1 l2 l3 l5 1 H
    else
    B_Body_readSpawn_105 N p0 kq41 l1 l2 l3 l5 0 H
set_option maxRecDepth 20000 in
set_option maxHeartbeats 2000000 in
theorem mB_Body_readSpawn_88 {N : Nat} {p0 : Nat} {kq41 : Int32 → Nat → Int32 → Int32 → Int32 → Hp → Option ((Ot Unit) × Hp)} (hm41 : ∀ (l1 : Int32) (l2 : Nat) (l3 : Int32) (l4 : Int32) (l5 : Int32) (H : Hp) (r : (Ot Unit) × Hp), kq41 l1 l2 l3 l4 l5 H = some r → Mo H r.2) {l1 : Int32} {l2 : Nat} {l3 : Int32} {l5 : Int32} {H : Hp} {r : (Ot Unit) × Hp} (hF : B_Body_readSpawn_88 N p0 kq41 l1 l2 l3 l5 H = some r) : Mo H r.2 := by
  unfold B_Body_readSpawn_88 at hF
  have hm := Mo.rf H
  obtain ⟨q76, hG⟩ := ck_s hF; clear hF
  obtain ⟨a77, e78, hF⟩ := rf_s hG; clear hG
  obtain ⟨q79, hG⟩ := ck_s hF; clear hF
  obtain ⟨x80, -, hF⟩ := bnd_g hG; clear hG
  rcases ite_s hF with ⟨q_49, hG⟩ | ⟨q_49, hG⟩
  · clear hF
    exact hm.tr (mB_Body_readSpawn_105 hm41 hG)
  · clear hF
    exact hm.tr (mB_Body_readSpawn_105 hm41 hG)
set_option maxRecDepth 20000 in
set_option maxHeartbeats 2000000 in
theorem kB_Body_readSpawn_88 {N : Nat} {p0 : Nat} {kq41 : Int32 → Nat → Int32 → Int32 → Int32 → Hp → Option ((Ot Unit) × Hp)} {c0 s0 C Sl : Nat} (hm41 : ∀ (l1 : Int32) (l2 : Nat) (l3 : Int32) (l4 : Int32) (l5 : Int32) (H : Hp) (r : (Ot Unit) × Hp), kq41 l1 l2 l3 l4 l5 H = some r → Mo H r.2) (hk41 : ∀ (l1 : Int32) (l2 : Nat) (l3 : Int32) (l4 : Int32) (l5 : Int32) (H : Hp) (r : (Ot Unit) × Hp), kq41 l1 l2 l3 l4 l5 H = some r → c0 ≤ H.sh.length → s0 ≤ H.sl → H.sh.length ≤ c0 + C → H.sl ≤ s0 + Sl → r.2.sh.length ≤ c0 + C → r.2.sl ≤ s0 + Sl → ab_V y_Body_readSpawn { frames := 570, cells := C, slots := Sl, locals := 13502 } (po (oV r.1) r.2) C Sl (H.sh.length - c0) (H.sl - s0) 41 [some (.ref p0), some (.int l1), some (.ref l2), some (.int l3), some (.int l4), some (.int l5), none] [] (hpw H)) {l1 : Int32} {l2 : Nat} {l3 : Int32} {l5 : Int32} {H : Hp} {r : (Ot Unit) × Hp} (hF : B_Body_readSpawn_88 N p0 kq41 l1 l2 l3 l5 H = some r) (hc0 : c0 ≤ H.sh.length) (hs0 : s0 ≤ H.sl) (hcc : H.sh.length ≤ c0 + C) (hss : H.sl ≤ s0 + Sl) (hC : r.2.sh.length ≤ c0 + C) (hS : r.2.sl ≤ s0 + Sl) : ab_V y_Body_readSpawn { frames := 570, cells := C, slots := Sl, locals := 13502 } (po (oV r.1) r.2) C Sl (H.sh.length - c0) (H.sl - s0) 88 [some (.ref p0), some (.int l1), some (.ref l2), some (.int l3), none, some (.int l5), none] [] (hpw H) := by
  unfold B_Body_readSpawn_88 at hF
  refine ab_aload_n d_Body_readSpawn_88 rfl rfl rfl ?_
  obtain ⟨q54, hG⟩ := ck_s hF; clear hF
  obtain ⟨a55, e56, hF⟩ := rf_s hG; clear hG
  refine hp_getR (f := 0) d_Body_readSpawn_89 q54 (by decide) rfl (by decide) (k1 157 rfl rfl) rfl e56 ?_
  obtain ⟨q57, hG⟩ := ck_s hF; clear hF
  refine hp_getI (f := 2) d_Body_readSpawn_92 q57 (by decide) rfl (by decide) (k1 99 rfl rfl) rfl ?_
  refine ab_topi (fun x58 ex58 => ?_)
  replace hG := bnd_s ex58 hG
  refine ab_bipush (v := 14) d_Body_readSpawn_95 (by decide) ?_
  refine ab_icmp_ne (tgt := 104) d_Body_readSpawn_97 (by decide) (fun q59 => ?_) (fun q59 => ?_)
  · rw [if_neg q59] at hG
    refine ab_iconst (v := 0) d_Body_readSpawn_104 (by decide) ?_
    exact kB_Body_readSpawn_105 hm41 hk41 hG hc0 hs0 hcc hss hC hS
  · rw [if_pos q59] at hG
    refine ab_iconst (v := 1) d_Body_readSpawn_100 (by decide) ?_
    refine ab_goto (tgt := 105) d_Body_readSpawn_101 (by decide) ?_
    exact kB_Body_readSpawn_105 hm41 hk41 hG hc0 hs0 hcc hss hC hS
def B_Body_readSpawn_41 (N : Nat) (p0 : Nat) : Nat → Int32 → Nat → Int32 → Int32 → Int32 → Hp → Option ((Ot Unit) × Hp)
  | 0, _, _, _, _, _, _ => none
  | n + 1, l1, l2, l3, l4, l5, H =>
    if (4 : Int32) < l5 then
    B_Body_readSpawn_125 N p0 l1 l2 l3 H
    else
    if l4 = (0 : Int32) then
    B_Body_readSpawn_125 N p0 l1 l2 l3 H
    else
    ck (H.sh[p0]? = some (6, 0)) <|
    bT (F_Body_spawnedPart N p0 l1 l3 H) fun v39 H40 =>
    bT (F_Body_givenMember N p0 v39 H40) fun v43 H44 =>
    bC (F_Body_kindAt N p0 v43 H44) fun v47 H48 =>
    bT (F_Body_want N (X_BodyE N 140) p0 v47 H48) fun v50 H51 =>
    if (4 : Int32) ≤ l3 then
    B_Body_readSpawn_88 N p0 (fun l1 l2 l3 l4 l5 H => B_Body_readSpawn_41 N p0 n l1 l2 l3 l4 l5 H) l1 l2 l3 l5 H51
    else
    ar H51 100 l2 fun n54 =>
    ck (inb l3 n54) <|
    bnd (H51.sD l2 (l3).toNatClampNeg v43) fun H57 =>
    B_Body_readSpawn_88 N p0 (fun l1 l2 l3 l4 l5 H => B_Body_readSpawn_41 N p0 n l1 l2 l3 l4 l5 H) l1 l2 (l3 + 1) l5 H57
termination_by structural n => n
set_option maxRecDepth 20000 in
set_option maxHeartbeats 2000000 in
theorem mB_Body_readSpawn_41 {N : Nat} {p0 : Nat} : ∀ (n : Nat) (l1 : Int32) (l2 : Nat) (l3 : Int32) (l4 : Int32) (l5 : Int32) (H : Hp) (r : (Ot Unit) × Hp), B_Body_readSpawn_41 N p0 n l1 l2 l3 l4 l5 H = some r → Mo H r.2 := by
  intro n
  induction n with
  | zero => intro l1 l2 l3 l4 l5 H r hF; rw [B_Body_readSpawn_41] at hF; cases hF
  | succ n ih =>
    intro l1 l2 l3 l4 l5 H r hF
    rw [B_Body_readSpawn_41] at hF
    have hm := Mo.rf H
    rcases ite_s hF with ⟨q_67, hG⟩ | ⟨q_67, hG⟩
    · clear hF
      exact hm.tr (mB_Body_readSpawn_125 hG)
    · clear hF
      rcases ite_s hG with ⟨q_68, hF⟩ | ⟨q_68, hF⟩
      · clear hG
        exact hm.tr (mB_Body_readSpawn_125 hF)
      · clear hG
        obtain ⟨q60, hG⟩ := ck_s hF; clear hF
        refine bT_c hG (fun x64 H63 z61 er => ?_) (fun v62 H63 z61 hF => ?_)
        · subst er; exact hm.tr (m_Body_spawnedPart z61)
        clear hG
        replace hm : Mo H H63 := hm.tr (m_Body_spawnedPart z61)
        refine bT_c hF (fun x68 H67 z65 er => ?_) (fun v66 H67 z65 hG => ?_)
        · subst er; exact hm.tr (m_Body_givenMember z65)
        clear hF
        replace hm : Mo H H67 := hm.tr (m_Body_givenMember z65)
        obtain ⟨v70, H71, z69, hF⟩ := bC_s hG; clear hG
        replace hm : Mo H H71 := hm.tr ((m_Body_kindAt z69)).mo
        refine bT_c hF (fun x75 H74 z72 er => ?_) (fun v73 H74 z72 hG => ?_)
        · subst er; exact hm.tr (m_Body_want (moX_BodyE 140) z72)
        clear hF
        replace hm : Mo H H74 := hm.tr (m_Body_want (moX_BodyE 140) z72)
        rcases ite_s hG with ⟨q_75, hF⟩ | ⟨q_75, hF⟩
        · clear hG
          exact hm.tr (mB_Body_readSpawn_88 ih hF)
        · clear hG
          obtain ⟨n77, q78, hG⟩ := ar_s hF; clear hF
          obtain ⟨q79, hF⟩ := ck_s hG; clear hG
          obtain ⟨H80, eH80, hG⟩ := bnd_g hF; clear hF
          replace hm : Mo H H80 := by rw [eH80]; exact hm
          exact hm.tr (mB_Body_readSpawn_88 ih hG)
set_option maxRecDepth 20000 in
set_option maxHeartbeats 2000000 in
theorem kB_Body_readSpawn_41 {N : Nat} {p0 : Nat} {c0 s0 C Sl : Nat} : ∀ (n : Nat) (l1 : Int32) (l2 : Nat) (l3 : Int32) (l4 : Int32) (l5 : Int32) (H : Hp) (r : (Ot Unit) × Hp), B_Body_readSpawn_41 N p0 n l1 l2 l3 l4 l5 H = some r → c0 ≤ H.sh.length → s0 ≤ H.sl → H.sh.length ≤ c0 + C → H.sl ≤ s0 + Sl → r.2.sh.length ≤ c0 + C → r.2.sl ≤ s0 + Sl → ab_V y_Body_readSpawn { frames := 570, cells := C, slots := Sl, locals := 13502 } (po (oV r.1) r.2) C Sl (H.sh.length - c0) (H.sl - s0) 41 [some (.ref p0), some (.int l1), some (.ref l2), some (.int l3), some (.int l4), some (.int l5), none] [] (hpw H) := by
  intro n
  induction n with
  | zero => intro l1 l2 l3 l4 l5 H r hF; rw [B_Body_readSpawn_41] at hF; cases hF
  | succ n ih =>
    intro l1 l2 l3 l4 l5 H r hF hc0 hs0 hcc hss hC hS
    rw [B_Body_readSpawn_41] at hF
    refine ab_iload d_Body_readSpawn_41 rfl ?_
    refine ab_iconst (v := 4) d_Body_readSpawn_43 (by decide) ?_
    refine ab_icmp_gt (tgt := 125) d_Body_readSpawn_44 (by decide) (fun q25 => ?_) (fun q25 => ?_)
    · rw [if_pos q25] at hF
      refine ab_le (lv' := [some (.ref p0), some (.int l1), some (.ref l2), some (.int l3), none, none, none]) ⟨rfl, ⟨rfl, ⟨rfl, ⟨rfl, trivial⟩⟩⟩⟩ ?_
      exact kB_Body_readSpawn_125 hF hc0 hs0 hcc hss hC hS
    · rw [if_neg q25] at hF
      refine ab_iload d_Body_readSpawn_47 rfl ?_
      refine ab_if_eq (tgt := 125) d_Body_readSpawn_49 (by decide) (fun q36 => ?_) (fun q36 => ?_)
      · rw [if_pos q36] at hF
        refine ab_le (lv' := [some (.ref p0), some (.int l1), some (.ref l2), some (.int l3), none, none, none]) ⟨rfl, ⟨rfl, ⟨rfl, ⟨rfl, trivial⟩⟩⟩⟩ ?_
        exact kB_Body_readSpawn_125 hF hc0 hs0 hcc hss hC hS
      · rw [if_neg q36] at hF
        refine ab_aload_n d_Body_readSpawn_52 rfl rfl rfl ?_
        refine ab_aload_n d_Body_readSpawn_53 rfl rfl rfl ?_
        refine ab_iload_n d_Body_readSpawn_54 rfl rfl ?_
        refine ab_iload_n d_Body_readSpawn_55 rfl rfl ?_
        obtain ⟨q37, hG⟩ := ck_s hF; clear hF
        refine bT_c hG (fun x41 H40 z38 er => ?_) (fun v39 H40 z38 hF => ?_)
        · subst er
          have mz : Mo H H40 := (m_Body_spawnedPart z38)
          have ml := mz.len
          have m2 := mz.2
          have hC9 : H40.sh.length ≤ c0 + C := hC
          have hS9 : H40.sl ≤ s0 + Sl := hS
          refine hp_callV_t (x := x41) (H1 := H40) (As := [.int l1, .int l3]) (rest := [.ref p0]) d_Body_readSpawn_56 (k_Body_spawnedPart z38 (C := H40.sh.length - H.sh.length) (Sl := H40.sl - H.sl) (by show H40.sh.length ≤ _; omega) (by show H40.sl ≤ _; omega)) (ab_mkC s_Body_spawnedPart (Nat.le_of_ble_eq_true rfl) (Nat.le_of_ble_eq_true rfl) (show (H.sh.length - c0) + (H40.sh.length - H.sh.length) ≤ C from by omega) (show (H.sl - s0) + (H40.sl - H.sl) ≤ Sl from by omega)) (k6 48 rfl rfl) i_Body_spawnedPart v_Body_spawnedPart q37 (by decide) rfl rfl (Nat.le_of_ble_eq_true rfl) ?_
          exact ab_U_out rfl (by show _ + (H40.sh.length - H.sh.length) ≤ C; omega) (by show _ + (H40.sl - H.sl) ≤ Sl; omega) ⟨rfl, rfl⟩
        clear hG
        have mz_38 : Mo H H40 := (m_Body_spawnedPart z38)
        have b_39l := (mz_38).len
        have b_39s := (mz_38).2
        have b_39c : c0 ≤ H40.sh.length := by omega
        have b_39d : s0 ≤ H40.sl := by omega
        have q_40 := (mz_38).get q37
        have fH40 : Mo H40 r.2 := by
          have hm := Mo.rf H40
          refine bT_c hF (fun x45 H44 z42 er => ?_) (fun v43 H44 z42 hG => ?_)
          · subst er; exact hm.tr (m_Body_givenMember z42)
          clear hF
          replace hm : Mo H40 H44 := hm.tr (m_Body_givenMember z42)
          obtain ⟨v47, H48, z46, hF⟩ := bC_s hG; clear hG
          replace hm : Mo H40 H48 := hm.tr ((m_Body_kindAt z46)).mo
          refine bT_c hF (fun x52 H51 z49 er => ?_) (fun v50 H51 z49 hG => ?_)
          · subst er; exact hm.tr (m_Body_want (moX_BodyE 140) z49)
          clear hF
          replace hm : Mo H40 H51 := hm.tr (m_Body_want (moX_BodyE 140) z49)
          rcases ite_s hG with ⟨q_45, hF⟩ | ⟨q_45, hF⟩
          · clear hG
            exact hm.tr (mB_Body_readSpawn_88 (mB_Body_readSpawn_41 n) hF)
          · clear hG
            obtain ⟨n82, q83, hG⟩ := ar_s hF; clear hF
            obtain ⟨q84, hF⟩ := ck_s hG; clear hG
            obtain ⟨H85, eH85, hG⟩ := bnd_g hF; clear hF
            replace hm : Mo H40 H85 := by rw [eH85]; exact hm
            exact hm.tr (mB_Body_readSpawn_88 (mB_Body_readSpawn_41 n) hG)
        have b_39m := (fH40).len
        have b_39n := (fH40).2
        have b_39p : H40.sh.length ≤ c0 + C := by omega
        have b_39q : H40.sl ≤ s0 + Sl := by omega
        refine hp_callV_a (v := .int v39) (H1 := H40) (As := [.int l1, .int l3]) (rest := [.ref p0]) d_Body_readSpawn_56 (k_Body_spawnedPart z38 (C := H40.sh.length - H.sh.length) (Sl := H40.sl - H.sl) (by show H40.sh.length ≤ _; omega) (by show H40.sl ≤ _; omega)) (ab_mkC s_Body_spawnedPart (Nat.le_of_ble_eq_true rfl) (Nat.le_of_ble_eq_true rfl) (show (H.sh.length - c0) + (H40.sh.length - H.sh.length) ≤ C from by omega) (show (H.sl - s0) + (H40.sl - H.sl) ≤ Sl from by omega)) (k6 48 rfl rfl) i_Body_spawnedPart v_Body_spawnedPart q37 (by decide) rfl rfl (Nat.le_of_ble_eq_true rfl) ?_
        refine ab_widen (cells' := H40.sh.length - c0) (slots' := H40.sl - s0) (by show _ + (H40.sh.length - H.sh.length) ≤ _; omega) (by show _ + (H40.sl - H.sl) ≤ _; omega) ?_
        clear b_39l b_39s b_39m b_39n
        refine bT_c hF (fun x45 H44 z42 er => ?_) (fun v43 H44 z42 hG => ?_)
        · subst er
          have mz : Mo H40 H44 := (m_Body_givenMember z42)
          have ml := mz.len
          have m2 := mz.2
          have hC9 : H44.sh.length ≤ c0 + C := hC
          have hS9 : H44.sl ≤ s0 + Sl := hS
          refine hp_callV_t (x := x45) (H1 := H44) (As := [.int v39]) (rest := []) d_Body_readSpawn_59 (k_Body_givenMember z42 (C := H44.sh.length - H40.sh.length) (Sl := H44.sl - H40.sl) (by show H44.sh.length ≤ _; omega) (by show H44.sl ≤ _; omega)) (ab_mkC s_Body_givenMember (Nat.le_of_ble_eq_true rfl) (Nat.le_of_ble_eq_true rfl) (show (H40.sh.length - c0) + (H44.sh.length - H40.sh.length) ≤ C from by omega) (show (H40.sl - s0) + (H44.sl - H40.sl) ≤ Sl from by omega)) (k6 5 rfl rfl) i_Body_givenMember v_Body_givenMember q_40 (by decide) rfl rfl (Nat.le_of_ble_eq_true rfl) ?_
          exact ab_U_out rfl (by show _ + (H44.sh.length - H40.sh.length) ≤ C; omega) (by show _ + (H44.sl - H40.sl) ≤ Sl; omega) ⟨rfl, rfl⟩
        clear hF
        have mz_51 : Mo H40 H44 := (m_Body_givenMember z42)
        have b_52l := (mz_51).len
        have b_52s := (mz_51).2
        have b_52c : c0 ≤ H44.sh.length := by omega
        have b_52d : s0 ≤ H44.sl := by omega
        have q_53 := (mz_51).get q_40
        obtain ⟨v47, H48, z46, hF⟩ := bC_s hG; clear hG
        have jH48 : Mo H44 H48 := ((m_Body_kindAt z46)).mo
        have fH48 : Mo H48 r.2 := by
          have hm := Mo.rf H48
          refine bT_c hF (fun x52 H51 z49 er => ?_) (fun v50 H51 z49 hG => ?_)
          · subst er; exact hm.tr (m_Body_want (moX_BodyE 140) z49)
          clear hF
          replace hm : Mo H48 H51 := hm.tr (m_Body_want (moX_BodyE 140) z49)
          rcases ite_s hG with ⟨q_57, hF⟩ | ⟨q_57, hF⟩
          · clear hG
            exact hm.tr (mB_Body_readSpawn_88 (mB_Body_readSpawn_41 n) hF)
          · clear hG
            obtain ⟨n54, q55, hG⟩ := ar_s hF; clear hF
            obtain ⟨q56, hF⟩ := ck_s hG; clear hG
            obtain ⟨H57, eH57, hG⟩ := bnd_g hF; clear hF
            replace hm : Mo H48 H57 := by rw [eH57]; exact hm
            exact hm.tr (mB_Body_readSpawn_88 (mB_Body_readSpawn_41 n) hG)
        have fH44 : Mo H44 r.2 := jH48.tr fH48
        have b_52m := (fH44).len
        have b_52n := (fH44).2
        have b_52p : H44.sh.length ≤ c0 + C := by omega
        have b_52q : H44.sl ≤ s0 + Sl := by omega
        refine hp_callV_a (v := .int v43) (H1 := H44) (As := [.int v39]) (rest := []) d_Body_readSpawn_59 (k_Body_givenMember z42 (C := H44.sh.length - H40.sh.length) (Sl := H44.sl - H40.sl) (by show H44.sh.length ≤ _; omega) (by show H44.sl ≤ _; omega)) (ab_mkC s_Body_givenMember (Nat.le_of_ble_eq_true rfl) (Nat.le_of_ble_eq_true rfl) (show (H40.sh.length - c0) + (H44.sh.length - H40.sh.length) ≤ C from by omega) (show (H40.sl - s0) + (H44.sl - H40.sl) ≤ Sl from by omega)) (k6 5 rfl rfl) i_Body_givenMember v_Body_givenMember q_40 (by decide) rfl rfl (Nat.le_of_ble_eq_true rfl) ?_
        refine ab_widen (cells' := H44.sh.length - c0) (slots' := H44.sl - s0) (by show _ + (H44.sh.length - H40.sh.length) ≤ _; omega) (by show _ + (H44.sl - H40.sl) ≤ _; omega) ?_
        clear b_52l b_52s b_52m b_52n b_39c b_39d b_39p b_39q
        refine ab_istore (lv' := [some (.ref p0), some (.int l1), some (.ref l2), some (.int l3), some (.int l4), some (.int l5), some (.int v43)]) d_Body_readSpawn_62 (by decide) rfl ?_
        refine ab_aload_n d_Body_readSpawn_64 rfl rfl rfl ?_
        refine ab_aload_n d_Body_readSpawn_65 rfl rfl rfl ?_
        refine ab_iload d_Body_readSpawn_66 rfl ?_
        refine hp_callV_a (v := .int v47) (H1 := H48) (As := [.int v43]) (rest := [.ref p0]) d_Body_readSpawn_68 (k_Body_kindAt z46) (ab_mkC s_Body_kindAt (Nat.le_of_ble_eq_true rfl) (Nat.le_of_ble_eq_true rfl) (show (H44.sh.length - c0) + 0 ≤ C from by omega) (show (H44.sl - s0) + 0 ≤ Sl from by omega)) (k5 205 rfl rfl) i_Body_kindAt v_Body_kindAt q_53 (by decide) rfl rfl (Nat.le_of_ble_eq_true rfl) ?_
        have s_60 : Sa H44 H48 := (m_Body_kindAt z46)
        refine ab_widen (cells' := H44.sh.length - c0) (slots' := H44.sl - s0) (by show (H44.sh.length - c0) + 0 ≤ _; omega) (by show (H44.sl - s0) + 0 ≤ _; omega) ?_
        refine bT_c hF (fun x52 H51 z49 er => ?_) (fun v50 H51 z49 hG => ?_)
        · subst er
          refine ab_widen (cells' := H48.sh.length - c0) (slots' := H48.sl - s0) (by rw [(s_60).1]; exact Nat.le_refl _) (by rw [(s_60).2]; exact Nat.le_refl _) ?_
          have mz : Mo H48 H51 := (m_Body_want (moX_BodyE 140) z49)
          have ml := mz.len
          have m2 := mz.2
          have be := congrArg List.length (s_60).1
          have bfx := (s_60).2
          have hC9 : H51.sh.length ≤ c0 + C := hC
          have hS9 : H51.sl ≤ s0 + Sl := hS
          refine hp_callV_t (x := x52) (H1 := H51) (As := [.int v47]) (rest := []) d_Body_readSpawn_71 (k_Body_want (okX_BodyE 140) (moX_BodyE 140) z49 (C := H51.sh.length - H48.sh.length) (Sl := H51.sl - H48.sl) (by show H51.sh.length ≤ _; omega) (by show H51.sl ≤ _; omega)) (ab_mkC s_Body_want (Nat.le_of_ble_eq_true rfl) (Nat.le_of_ble_eq_true rfl) (show (H48.sh.length - c0) + (H51.sh.length - H48.sh.length) ≤ C from by omega) (show (H48.sl - s0) + (H51.sl - H48.sl) ≤ Sl from by omega)) (k5 137 rfl rfl) i_Body_want v_Body_want (by rw [(s_60).1]; exact q_53) (by decide) rfl rfl (Nat.le_of_ble_eq_true rfl) ?_
          exact ab_U_out rfl (by show _ + (H51.sh.length - H48.sh.length) ≤ C; omega) (by show _ + (H51.sl - H48.sl) ≤ Sl; omega) ⟨rfl, rfl⟩
        clear hF
        refine ab_widen (cells' := H48.sh.length - c0) (slots' := H48.sl - s0) (by rw [(s_60).1]; exact Nat.le_refl _) (by rw [(s_60).2]; exact Nat.le_refl _) ?_
        have mz_61 : Mo H48 H51 := (m_Body_want (moX_BodyE 140) z49)
        have b_62l := (mz_61).len
        have b_62s := (mz_61).2
        have b_62e := congrArg List.length (s_60).1
        have b_62f := (s_60).2
        have b_62c : c0 ≤ H51.sh.length := by omega
        have b_62d : s0 ≤ H51.sl := by omega
        have q_63 := (mz_61).get (by rw [(s_60).1]; exact q_53)
        have fH51 : Mo H51 r.2 := by
          have hm := Mo.rf H51
          rcases ite_s hG with ⟨q_64, hF⟩ | ⟨q_64, hF⟩
          · clear hG
            exact hm.tr (mB_Body_readSpawn_88 (mB_Body_readSpawn_41 n) hF)
          · clear hG
            obtain ⟨n54, q55, hG⟩ := ar_s hF; clear hF
            obtain ⟨q56, hF⟩ := ck_s hG; clear hG
            obtain ⟨H57, eH57, hG⟩ := bnd_g hF; clear hF
            replace hm : Mo H51 H57 := by rw [eH57]; exact hm
            exact hm.tr (mB_Body_readSpawn_88 (mB_Body_readSpawn_41 n) hG)
        have b_62m := (fH51).len
        have b_62n := (fH51).2
        have b_62p : H51.sh.length ≤ c0 + C := by omega
        have b_62q : H51.sl ≤ s0 + Sl := by omega
        refine hp_callV_a (v := .int v50) (H1 := H51) (As := [.int v47]) (rest := []) d_Body_readSpawn_71 (k_Body_want (okX_BodyE 140) (moX_BodyE 140) z49 (C := H51.sh.length - H48.sh.length) (Sl := H51.sl - H48.sl) (by show H51.sh.length ≤ _; omega) (by show H51.sl ≤ _; omega)) (ab_mkC s_Body_want (Nat.le_of_ble_eq_true rfl) (Nat.le_of_ble_eq_true rfl) (show (H48.sh.length - c0) + (H51.sh.length - H48.sh.length) ≤ C from by omega) (show (H48.sl - s0) + (H51.sl - H48.sl) ≤ Sl from by omega)) (k5 137 rfl rfl) i_Body_want v_Body_want (by rw [(s_60).1]; exact q_53) (by decide) rfl rfl (Nat.le_of_ble_eq_true rfl) ?_
        refine ab_widen (cells' := H51.sh.length - c0) (slots' := H51.sl - s0) (by show _ + (H51.sh.length - H48.sh.length) ≤ _; omega) (by show _ + (H51.sl - H48.sl) ≤ _; omega) ?_
        clear b_62l b_62s b_62m b_62n b_62e b_62f b_52c b_52d b_52p b_52q
        refine ab_pop d_Body_readSpawn_74 rfl ?_
        refine ab_iload_n d_Body_readSpawn_75 rfl rfl ?_
        refine ab_iconst (v := 4) d_Body_readSpawn_76 (by decide) ?_
        refine ab_icmp_ge (tgt := 88) d_Body_readSpawn_77 (by decide) (fun q53 => ?_) (fun q53 => ?_)
        · rw [if_pos q53] at hG
          refine ab_le (lv' := [some (.ref p0), some (.int l1), some (.ref l2), some (.int l3), none, some (.int l5), none]) ⟨rfl, ⟨rfl, ⟨rfl, ⟨rfl, ⟨rfl, trivial⟩⟩⟩⟩⟩ ?_
          exact kB_Body_readSpawn_88 (mB_Body_readSpawn_41 n) ih hG b_62c b_62d b_62p b_62q hC hS
        · rw [if_neg q53] at hG
          refine ab_aload_n d_Body_readSpawn_80 rfl rfl rfl ?_
          refine ab_iload_n d_Body_readSpawn_81 rfl rfl ?_
          refine ab_iload d_Body_readSpawn_82 rfl ?_
          obtain ⟨n54, q55, hF⟩ := ar_s hG; clear hG
          obtain ⟨q56, hG⟩ := ck_s hF; clear hF
          refine hp_iast d_Body_readSpawn_84 tI q55 q56 ?_
          refine hp_gen (fun H57 eH57 => ?_)
          replace hG := bnd_s eH57 hG
          have s_66 : Sa H51 H57 := by rw [eH57]; exact Sa.rf _
          refine ab_iinc (v := l3 + 1) (lv' := [some (.ref p0), some (.int l1), some (.ref l2), some (.int (l3 + 1)), some (.int l4), some (.int l5), some (.int v43)]) d_Body_readSpawn_85 rfl rfl (by decide) rfl ?_
          refine ab_le (lv' := [some (.ref p0), some (.int l1), some (.ref l2), some (.int (l3 + 1)), none, some (.int l5), none]) ⟨rfl, ⟨rfl, ⟨rfl, ⟨rfl, ⟨rfl, trivial⟩⟩⟩⟩⟩ ?_
          refine ab_widen (cells' := H57.sh.length - c0) (slots' := H57.sl - s0) (by rw [(s_66).1]; exact Nat.le_refl _) (by rw [(s_66).2]; exact Nat.le_refl _) ?_
          exact kB_Body_readSpawn_88 (mB_Body_readSpawn_41 n) ih hG (by rw [(s_66).1]; exact b_62c) (by rw [(s_66).2]; exact b_62d) (by rw [(s_66).1]; exact b_62p) (by rw [(s_66).2]; exact b_62q) hC hS
def F_Body_readSpawn (N : Nat) (p0 : Nat) (H : Hp) : Option ((Ot Unit) × Hp) :=
    ck (H.sh[p0]? = some (6, 0)) <|
    rf (H.P p0 0) fun a2 =>
    ck (H.sh[a2]? = some (1, 0)) <|
    bC (F_Lexer_advance N a2 H) fun v6 H7 =>
    bT (F_Body_numberHere N p0 (2 : Int32) H7) fun v9 H10 =>
    ck (¬ (4 : Int32) < 0) <|
    ck (((4 : Int32)).toNatClampNeg * 4 ≤ 536870912) <|
    bnd (H10.nw (100, ((4 : Int32)).toNatClampNeg) ((4 : Int32)).toNatClampNeg) fun H14 =>
    bnd H10.sh.length fun a15 =>
    rf (H14.P p0 0) fun a16 =>
    ck (H14.sh[a16]? = some (1, 0)) <|
    bnd ((H14.D a16 2)) fun x19 =>
    if x19 = (12 : Int32) then
    bT (F_Body_openParens N p0 H14) fun v22 H23 =>
    B_Body_readSpawn_41 N p0 N v9 a15 0 1 0 H23
    else
    B_Body_readSpawn_129 N p0 v9 a15 0 H14
set_option maxRecDepth 20000 in
set_option maxHeartbeats 2000000 in
theorem m_Body_readSpawn {N : Nat} {p0 : Nat} {H : Hp} {r : (Ot Unit) × Hp} (hF : F_Body_readSpawn N p0 H = some r) : Mo H r.2 := by
  unfold F_Body_readSpawn at hF
  have hm := Mo.rf H
  obtain ⟨q25, hG⟩ := ck_s hF; clear hF
  obtain ⟨a26, e27, hF⟩ := rf_s hG; clear hG
  obtain ⟨q28, hG⟩ := ck_s hF; clear hF
  obtain ⟨v30, H31, z29, hF⟩ := bC_s hG; clear hG
  replace hm : Mo H H31 := hm.tr ((m_Lexer_advance z29)).mo
  refine bT_c hF (fun x35 H34 z32 er => ?_) (fun v33 H34 z32 hG => ?_)
  · subst er; exact hm.tr (m_Body_numberHere z32)
  clear hF
  replace hm : Mo H H34 := hm.tr (m_Body_numberHere z32)
  obtain ⟨q36, hF⟩ := ck_s hG; clear hG
  obtain ⟨q37, hG⟩ := ck_s hF; clear hF
  obtain ⟨H38, eH38, hF⟩ := bnd_g hG; clear hG
  replace hm : Mo H H38 := hm.tr (by rw [eH38]; exact Mo.nw _ _ _)
  obtain ⟨a39, -, hG⟩ := bnd_g hF; clear hF
  obtain ⟨a40, e41, hF⟩ := rf_s hG; clear hG
  obtain ⟨q42, hG⟩ := ck_s hF; clear hF
  obtain ⟨x43, -, hF⟩ := bnd_g hG; clear hG
  rcases ite_s hF with ⟨q_91, hG⟩ | ⟨q_91, hG⟩
  · clear hF
    refine bT_c hG (fun x48 H47 z45 er => ?_) (fun v46 H47 z45 hF => ?_)
    · subst er; exact hm.tr (m_Body_openParens z45)
    clear hG
    replace hm : Mo H H47 := hm.tr (m_Body_openParens z45)
    exact hm.tr (mB_Body_readSpawn_41 N v33 a39 0 1 0 H47 r hF)
  · clear hF
    exact hm.tr (mB_Body_readSpawn_129 hG)
set_option maxRecDepth 20000 in
set_option maxHeartbeats 2000000 in
theorem k_Body_readSpawn {N : Nat} {p0 : Nat} {H : Hp} {r : (Ot Unit) × Hp} {C Sl : Nat} (hF : F_Body_readSpawn N p0 H = some r) (hC : r.2.sh.length ≤ H.sh.length + C) (hS : r.2.sl ≤ H.sl + Sl) : ab_M y_Body_readSpawn { frames := 570, cells := C, slots := Sl, locals := 13502 } [.ref p0] (hpw H) (po (oV r.1) r.2) := by
  unfold F_Body_readSpawn at hF
  obtain ⟨c0, e0⟩ : ∃ q, q = H.sh.length := ⟨_, rfl⟩
  obtain ⟨s0, e1⟩ : ∃ q, q = H.sl := ⟨_, rfl⟩
  rw [← e0] at hC
  rw [← e1] at hS
  have hc0 : c0 ≤ H.sh.length := Nat.le_of_eq e0
  have hs0 : s0 ≤ H.sl := Nat.le_of_eq e1
  have hcc : H.sh.length ≤ c0 + C := by omega
  have hss : H.sl ≤ s0 + Sl := by omega
  refine ab_of2 (lv := [some (.ref p0), none, none, none, none, none, none]) 6 rfl rfl (Nat.le_of_ble_eq_true rfl) ?_
  refine ab_widen (cells' := H.sh.length - c0) (slots' := H.sl - s0) (Nat.zero_le _) (Nat.zero_le _) ?_
  refine ab_aload_n d_Body_readSpawn_0 rfl rfl rfl ?_
  obtain ⟨q1, hG⟩ := ck_s hF; clear hF
  obtain ⟨a2, e3, hF⟩ := rf_s hG; clear hG
  refine hp_getR (f := 0) d_Body_readSpawn_1 q1 (by decide) rfl (by decide) (k1 157 rfl rfl) rfl e3 ?_
  obtain ⟨q4, hG⟩ := ck_s hF; clear hF
  obtain ⟨v6, H7, z5, hF⟩ := bC_s hG; clear hG
  refine hp_callV_v (H1 := H7) (As := []) (rest := []) d_Body_readSpawn_4 (k_Lexer_advance z5) (ab_mkC s_Lexer_advance (Nat.le_of_ble_eq_true rfl) (Nat.le_of_ble_eq_true rfl) (show (H.sh.length - c0) + 0 ≤ C from by omega) (show (H.sl - s0) + 0 ≤ Sl from by omega)) (k5 129 rfl rfl) i_Lexer_advance v_Lexer_advance q4 (by decide) rfl rfl (Nat.le_of_ble_eq_true rfl) ?_
  have s_2 : Sa H H7 := (m_Lexer_advance z5)
  refine ab_widen (cells' := H.sh.length - c0) (slots' := H.sl - s0) (by show (H.sh.length - c0) + 0 ≤ _; omega) (by show (H.sl - s0) + 0 ≤ _; omega) ?_
  refine ab_aload_n d_Body_readSpawn_7 rfl rfl rfl ?_
  refine ab_iconst (v := 2) d_Body_readSpawn_8 (by decide) ?_
  refine bT_c hF (fun x11 H10 z8 er => ?_) (fun v9 H10 z8 hG => ?_)
  · subst er
    refine ab_widen (cells' := H7.sh.length - c0) (slots' := H7.sl - s0) (by rw [(s_2).1]; exact Nat.le_refl _) (by rw [(s_2).2]; exact Nat.le_refl _) ?_
    have mz : Mo H7 H10 := (m_Body_numberHere z8)
    have ml := mz.len
    have m2 := mz.2
    have be := congrArg List.length (s_2).1
    have bfx := (s_2).2
    have hC9 : H10.sh.length ≤ c0 + C := hC
    have hS9 : H10.sl ≤ s0 + Sl := hS
    refine hp_callV_t (x := x11) (H1 := H10) (As := [.int 2]) (rest := []) d_Body_readSpawn_9 (k_Body_numberHere z8 (C := H10.sh.length - H7.sh.length) (Sl := H10.sl - H7.sl) (by show H10.sh.length ≤ _; omega) (by show H10.sl ≤ _; omega)) (ab_mkC s_Body_numberHere (Nat.le_of_ble_eq_true rfl) (Nat.le_of_ble_eq_true rfl) (show (H7.sh.length - c0) + (H10.sh.length - H7.sh.length) ≤ C from by omega) (show (H7.sl - s0) + (H10.sl - H7.sl) ≤ Sl from by omega)) (k5 177 rfl rfl) i_Body_numberHere v_Body_numberHere (by rw [(s_2).1]; exact q1) (by decide) rfl rfl (Nat.le_of_ble_eq_true rfl) ?_
    exact ab_U_out rfl (by show _ + (H10.sh.length - H7.sh.length) ≤ C; omega) (by show _ + (H10.sl - H7.sl) ≤ Sl; omega) ⟨rfl, rfl⟩
  clear hF
  refine ab_widen (cells' := H7.sh.length - c0) (slots' := H7.sl - s0) (by rw [(s_2).1]; exact Nat.le_refl _) (by rw [(s_2).2]; exact Nat.le_refl _) ?_
  have mz_3 : Mo H7 H10 := (m_Body_numberHere z8)
  have b_4l := (mz_3).len
  have b_4s := (mz_3).2
  have b_4e := congrArg List.length (s_2).1
  have b_4f := (s_2).2
  have b_4c : c0 ≤ H10.sh.length := by omega
  have b_4d : s0 ≤ H10.sl := by omega
  have q_5 := (mz_3).get (by rw [(s_2).1]; exact q1)
  have q_6 := (mz_3).get (by rw [(s_2).1]; exact q4)
  obtain ⟨q12, hF⟩ := ck_s hG; clear hG
  obtain ⟨q13, hG⟩ := ck_s hF; clear hF
  obtain ⟨H14, eH14, hF⟩ := bnd_g hG; clear hG
  obtain ⟨a15, ea15, hG⟩ := bnd_g hF; clear hF
  have jH14 : Mo H10 H14 := by rw [eH14]; exact Mo.nw _ _ _
  obtain ⟨a16, e17, hF⟩ := rf_s hG; clear hG
  obtain ⟨q18, hG⟩ := ck_s hF; clear hF
  obtain ⟨x19, ex19, hF⟩ := bnd_g hG; clear hG
  have fH14 : Mo H14 r.2 := by
    have hm := Mo.rf H14
    rcases ite_s hF with ⟨q_9, hG⟩ | ⟨q_9, hG⟩
    · clear hF
      refine bT_c hG (fun x24 H23 z21 er => ?_) (fun v22 H23 z21 hF => ?_)
      · subst er; exact hm.tr (m_Body_openParens z21)
      clear hG
      replace hm : Mo H14 H23 := hm.tr (m_Body_openParens z21)
      exact hm.tr (mB_Body_readSpawn_41 N v9 a15 0 1 0 H23 r hF)
    · clear hF
      exact hm.tr (mB_Body_readSpawn_129 hG)
  have fH10 : Mo H10 r.2 := jH14.tr fH14
  have b_4m := (fH10).len
  have b_4n := (fH10).2
  have b_4p : H10.sh.length ≤ c0 + C := by omega
  have b_4q : H10.sl ≤ s0 + Sl := by omega
  refine hp_callV_a (v := .int v9) (H1 := H10) (As := [.int 2]) (rest := []) d_Body_readSpawn_9 (k_Body_numberHere z8 (C := H10.sh.length - H7.sh.length) (Sl := H10.sl - H7.sl) (by show H10.sh.length ≤ _; omega) (by show H10.sl ≤ _; omega)) (ab_mkC s_Body_numberHere (Nat.le_of_ble_eq_true rfl) (Nat.le_of_ble_eq_true rfl) (show (H7.sh.length - c0) + (H10.sh.length - H7.sh.length) ≤ C from by omega) (show (H7.sl - s0) + (H10.sl - H7.sl) ≤ Sl from by omega)) (k5 177 rfl rfl) i_Body_numberHere v_Body_numberHere (by rw [(s_2).1]; exact q1) (by decide) rfl rfl (Nat.le_of_ble_eq_true rfl) ?_
  refine ab_widen (cells' := H10.sh.length - c0) (slots' := H10.sl - s0) (by show _ + (H10.sh.length - H7.sh.length) ≤ _; omega) (by show _ + (H10.sl - H7.sl) ≤ _; omega) ?_
  clear b_4l b_4s b_4m b_4n b_4e b_4f
  refine ab_istore_n (lv' := [some (.ref p0), some (.int v9), none, none, none, none, none]) d_Body_readSpawn_12 rfl (by decide) rfl ?_
  refine ab_iconst (v := 4) d_Body_readSpawn_13 (by decide) ?_
  have m_77 : Mo H10 H14 := by rw [eH14]; exact Mo.nw _ _ _
  have b_78l := (m_77).len
  have b_78s := (m_77).2
  have b_78c : c0 ≤ H14.sh.length := by omega
  have b_78d : s0 ≤ H14.sl := by omega
  have b_78x : H14.sh.length = H10.sh.length + 1 := by rw [eH14]; simp [Hp.nw, mkH_sh]
  have b_78y : H14.sl = H10.sl + ((4 : Int32)).toNatClampNeg := by rw [eH14]; rfl
  have q_79 := (m_77).get q_5
  have q_80 := (m_77).get q_6
  have b_78m := (fH14).len
  have b_78n := (fH14).2
  have b_78p : H14.sh.length ≤ c0 + C := by omega
  have b_78q : H14.sl ≤ s0 + Sl := by omega
  refine hp_newa (q := 100) d_Body_readSpawn_14 rfl (k1 143 rfl rfl) tI (Or.inl rfl) ⟨by decide, by decide, rfl⟩ rfl q12 q13 (by show _ ≤ C; omega) (by show _ + ((4 : Int32)).toNatClampNeg ≤ Sl; omega) ?_
  refine ab_widen (cells' := H14.sh.length - c0) (slots' := H14.sl - s0) (by omega) (by show _ + ((4 : Int32)).toNatClampNeg ≤ _; omega) ?_
  rw [← eH14, ← ea15]
  clear b_78l b_78s b_78x b_78y b_78m b_78n b_4c b_4d b_4p b_4q
  refine ab_astore_n (lv' := [some (.ref p0), some (.int v9), some (.ref a15), none, none, none, none]) d_Body_readSpawn_16 rfl (by decide) rfl rfl ?_
  refine ab_iconst (v := 0) d_Body_readSpawn_17 (by decide) ?_
  refine ab_istore_n (lv' := [some (.ref p0), some (.int v9), some (.ref a15), some (.int 0), none, none, none]) d_Body_readSpawn_18 rfl (by decide) rfl ?_
  refine ab_aload_n d_Body_readSpawn_19 rfl rfl rfl ?_
  refine hp_getR (f := 0) d_Body_readSpawn_20 q_79 (by decide) rfl (by decide) (k1 157 rfl rfl) rfl e17 ?_
  refine hp_getI (f := 2) d_Body_readSpawn_23 q18 (by decide) rfl (by decide) (k1 99 rfl rfl) rfl ?_
  refine ab_topxi ex19 ?_
  refine ab_bipush (v := 12) d_Body_readSpawn_26 (by decide) ?_
  refine ab_icmp_ne (tgt := 129) d_Body_readSpawn_28 (by decide) (fun q20 => ?_) (fun q20 => ?_)
  · rw [if_neg q20] at hF
    exact kB_Body_readSpawn_129 hF b_78c b_78d b_78p b_78q hC hS
  · rw [if_pos q20] at hF
    refine ab_aload_n d_Body_readSpawn_31 rfl rfl rfl ?_
    refine bT_c hF (fun x24 H23 z21 er => ?_) (fun v22 H23 z21 hG => ?_)
    · subst er
      have mz : Mo H14 H23 := (m_Body_openParens z21)
      have ml := mz.len
      have m2 := mz.2
      have hC9 : H23.sh.length ≤ c0 + C := hC
      have hS9 : H23.sl ≤ s0 + Sl := hS
      refine hp_callV_t (x := x24) (H1 := H23) (As := []) (rest := []) d_Body_readSpawn_32 (k_Body_openParens z21 (C := H23.sh.length - H14.sh.length) (Sl := H23.sl - H14.sl) (by show H23.sh.length ≤ _; omega) (by show H23.sl ≤ _; omega)) (ab_mkC s_Body_openParens (Nat.le_of_ble_eq_true rfl) (Nat.le_of_ble_eq_true rfl) (show (H14.sh.length - c0) + (H23.sh.length - H14.sh.length) ≤ C from by omega) (show (H14.sl - s0) + (H23.sl - H14.sl) ≤ Sl from by omega)) (k5 161 rfl rfl) i_Body_openParens v_Body_openParens q_79 (by decide) rfl rfl (Nat.le_of_ble_eq_true rfl) ?_
      exact ab_U_out rfl (by show _ + (H23.sh.length - H14.sh.length) ≤ C; omega) (by show _ + (H23.sl - H14.sl) ≤ Sl; omega) ⟨rfl, rfl⟩
    clear hF
    have mz_81 : Mo H14 H23 := (m_Body_openParens z21)
    have b_82l := (mz_81).len
    have b_82s := (mz_81).2
    have b_82c : c0 ≤ H23.sh.length := by omega
    have b_82d : s0 ≤ H23.sl := by omega
    have q_83 := (mz_81).get q_79
    have q_84 := (mz_81).get q_80
    have q_85 := (mz_81).get q18
    have fH23 : Mo H23 r.2 := by
      have hm := Mo.rf H23
      exact hm.tr (mB_Body_readSpawn_41 N v9 a15 0 1 0 H23 r hG)
    have b_82m := (fH23).len
    have b_82n := (fH23).2
    have b_82p : H23.sh.length ≤ c0 + C := by omega
    have b_82q : H23.sl ≤ s0 + Sl := by omega
    refine hp_callV_v (H1 := H23) (As := []) (rest := []) d_Body_readSpawn_32 (k_Body_openParens z21 (C := H23.sh.length - H14.sh.length) (Sl := H23.sl - H14.sl) (by show H23.sh.length ≤ _; omega) (by show H23.sl ≤ _; omega)) (ab_mkC s_Body_openParens (Nat.le_of_ble_eq_true rfl) (Nat.le_of_ble_eq_true rfl) (show (H14.sh.length - c0) + (H23.sh.length - H14.sh.length) ≤ C from by omega) (show (H14.sl - s0) + (H23.sl - H14.sl) ≤ Sl from by omega)) (k5 161 rfl rfl) i_Body_openParens v_Body_openParens q_79 (by decide) rfl rfl (Nat.le_of_ble_eq_true rfl) ?_
    refine ab_widen (cells' := H23.sh.length - c0) (slots' := H23.sl - s0) (by show _ + (H23.sh.length - H14.sh.length) ≤ _; omega) (by show _ + (H23.sl - H14.sl) ≤ _; omega) ?_
    clear b_82l b_82s b_82m b_82n b_78c b_78d b_78p b_78q
    refine ab_iconst (v := 1) d_Body_readSpawn_35 (by decide) ?_
    refine ab_istore (lv' := [some (.ref p0), some (.int v9), some (.ref a15), some (.int 0), some (.int 1), none, none]) d_Body_readSpawn_36 (by decide) rfl ?_
    refine ab_iconst (v := 0) d_Body_readSpawn_38 (by decide) ?_
    refine ab_istore (lv' := [some (.ref p0), some (.int v9), some (.ref a15), some (.int 0), some (.int 1), some (.int 0), none]) d_Body_readSpawn_39 (by decide) rfl ?_
    exact kB_Body_readSpawn_41 N v9 a15 0 1 0 H23 r hG b_82c b_82d b_82p b_82q hC hS
