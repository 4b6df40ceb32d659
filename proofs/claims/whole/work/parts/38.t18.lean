def y_Body_givenMember : ab_Y := (⟨"WorldEngine$Body", "givenMember", "(I)I"⟩, prog_2_method_19_code, 3, (some FieldType.int), [])
theorem d_Body_givenMember_0 : decode y_Body_givenMember.2.1 0 = .ok (.aload_n 0, 1) := by decide +kernel
theorem d_Body_givenMember_1 : decode y_Body_givenMember.2.1 1 = .ok (.getfield 7, 3) := by decide +kernel
theorem d_Body_givenMember_4 : decode y_Body_givenMember.2.1 4 = .ok (.bipush 16, 2) := by decide +kernel
theorem d_Body_givenMember_6 : decode y_Body_givenMember.2.1 6 = .ok (.invokevirtual 41, 3) := by decide +kernel
theorem d_Body_givenMember_9 : decode y_Body_givenMember.2.1 9 = .ok (.aload_n 0, 1) := by decide +kernel
theorem d_Body_givenMember_10 : decode y_Body_givenMember.2.1 10 = .ok (.aload_n 0, 1) := by decide +kernel
theorem d_Body_givenMember_11 : decode y_Body_givenMember.2.1 11 = .ok (.getfield 17, 3) := by decide +kernel
theorem d_Body_givenMember_14 : decode y_Body_givenMember.2.1 14 = .ok (.getfield 148, 3) := by decide +kernel
theorem d_Body_givenMember_17 : decode y_Body_givenMember.2.1 17 = .ok (.iload_n 1, 1) := by decide +kernel
theorem d_Body_givenMember_18 : decode y_Body_givenMember.2.1 18 = .ok (.invokevirtual 198, 3) := by decide +kernel
theorem d_Body_givenMember_21 : decode y_Body_givenMember.2.1 21 = .ok (.istore_n 2, 1) := by decide +kernel
theorem d_Body_givenMember_22 : decode y_Body_givenMember.2.1 22 = .ok (.aload_n 0, 1) := by decide +kernel
theorem d_Body_givenMember_23 : decode y_Body_givenMember.2.1 23 = .ok (.getfield 7, 3) := by decide +kernel
theorem d_Body_givenMember_26 : decode y_Body_givenMember.2.1 26 = .ok (.bipush 17, 2) := by decide +kernel
theorem d_Body_givenMember_28 : decode y_Body_givenMember.2.1 28 = .ok (.invokevirtual 41, 3) := by decide +kernel
theorem d_Body_givenMember_31 : decode y_Body_givenMember.2.1 31 = .ok (.iload_n 2, 1) := by decide +kernel
theorem d_Body_givenMember_32 : decode y_Body_givenMember.2.1 32 = .ok (.ireturn, 1) := by decide +kernel
theorem s_Body_givenMember : ab_Stat y_Body_givenMember 1 := ⟨(k6 8 rfl rfl), (k1 8 rfl rfl), ⟨by decide, by decide⟩, by decide +kernel⟩
theorem i_Body_givenMember : Cond.instanceMethod y_Body_givenMember.1 ∈ ab_T := (k6 7 rfl rfl)
theorem v_Body_givenMember : Cond.selects "WorldEngine$Body" y_Body_givenMember.1 y_Body_givenMember.1 ∈ ab_T := ab_s (List.mem_of_getElem? (i := 47) rfl) rfl
def F_Body_givenMember (N : Nat) (p0 : Nat) (p1 : Int32) (H : Hp) : Option ((Ot Int32) × Hp) :=
    ck (H.sh[p0]? = some (6, 0)) <|
    rf (H.P p0 0) fun a2 =>
    ck (H.sh[a2]? = some (1, 0)) <|
    bT (F_Lexer_take N a2 (16 : Int32) H) fun v6 H7 =>
    rf (H7.P p0 1) fun a9 =>
    ck (H7.sh[a9]? = some (4, 0)) <|
    rf (H7.P a9 2) fun a12 =>
    bT (F_Body_memberHere N p0 a12 p1 H7) fun v15 H16 =>
    rf (H16.P p0 0) fun a18 =>
    ck (H16.sh[a18]? = some (1, 0)) <|
    bT (F_Lexer_take N a18 (17 : Int32) H16) fun v22 H23 =>
    some (.inl v15, H23)
set_option maxRecDepth 20000 in
set_option maxHeartbeats 2000000 in
theorem m_Body_givenMember {N : Nat} {p0 : Nat} {p1 : Int32} {H : Hp} {r : (Ot Int32) × Hp} (hF : F_Body_givenMember N p0 p1 H = some r) : Mo H r.2 := by
  unfold F_Body_givenMember at hF
  have hm := Mo.rf H
  obtain ⟨q25, hG⟩ := ck_s hF; clear hF
  obtain ⟨a26, e27, hF⟩ := rf_s hG; clear hG
  obtain ⟨q28, hG⟩ := ck_s hF; clear hF
  refine bT_c hG (fun x32 H31 z29 er => ?_) (fun v30 H31 z29 hF => ?_)
  · subst er; exact hm.tr (m_Lexer_take z29)
  clear hG
  replace hm : Mo H H31 := hm.tr (m_Lexer_take z29)
  obtain ⟨a33, e34, hG⟩ := rf_s hF; clear hF
  obtain ⟨q35, hF⟩ := ck_s hG; clear hG
  obtain ⟨a36, e37, hG⟩ := rf_s hF; clear hF
  refine bT_c hG (fun x41 H40 z38 er => ?_) (fun v39 H40 z38 hF => ?_)
  · subst er; exact hm.tr (m_Body_memberHere z38)
  clear hG
  replace hm : Mo H H40 := hm.tr (m_Body_memberHere z38)
  obtain ⟨a42, e43, hG⟩ := rf_s hF; clear hF
  obtain ⟨q44, hF⟩ := ck_s hG; clear hG
  refine bT_c hF (fun x48 H47 z45 er => ?_) (fun v46 H47 z45 hG => ?_)
  · subst er; exact hm.tr (m_Lexer_take z45)
  clear hF
  replace hm : Mo H H47 := hm.tr (m_Lexer_take z45)
  have hr := Option.some.inj hG; subst hr
  exact hm
set_option maxRecDepth 20000 in
set_option maxHeartbeats 2000000 in
theorem k_Body_givenMember {N : Nat} {p0 : Nat} {p1 : Int32} {H : Hp} {r : (Ot Int32) × Hp} {C Sl : Nat} (hF : F_Body_givenMember N p0 p1 H = some r) (hC : r.2.sh.length ≤ H.sh.length + C) (hS : r.2.sl ≤ H.sl + Sl) : ab_M y_Body_givenMember { frames := 8, cells := C, slots := Sl, locals := 152 } [.ref p0, .int p1] (hpw H) (po (oI r.1) r.2) := by
  unfold F_Body_givenMember at hF
  obtain ⟨c0, e0⟩ : ∃ q, q = H.sh.length := ⟨_, rfl⟩
  obtain ⟨s0, e1⟩ : ∃ q, q = H.sl := ⟨_, rfl⟩
  rw [← e0] at hC
  rw [← e1] at hS
  have hc0 : c0 ≤ H.sh.length := Nat.le_of_eq e0
  have hs0 : s0 ≤ H.sl := Nat.le_of_eq e1
  have hcc : H.sh.length ≤ c0 + C := by omega
  have hss : H.sl ≤ s0 + Sl := by omega
  refine ab_of2 (lv := [some (.ref p0), some (.int p1), none]) 1 rfl rfl (Nat.le_of_ble_eq_true rfl) ?_
  refine ab_widen (cells' := H.sh.length - c0) (slots' := H.sl - s0) (Nat.zero_le _) (Nat.zero_le _) ?_
  refine ab_aload_n d_Body_givenMember_0 rfl rfl rfl ?_
  obtain ⟨q1, hG⟩ := ck_s hF; clear hF
  obtain ⟨a2, e3, hF⟩ := rf_s hG; clear hG
  refine hp_getR (f := 0) d_Body_givenMember_1 q1 (by decide) rfl (by decide) (k1 157 rfl rfl) rfl e3 ?_
  refine ab_bipush (v := 16) d_Body_givenMember_4 (by decide) ?_
  obtain ⟨q4, hG⟩ := ck_s hF; clear hF
  refine bT_c hG (fun x8 H7 z5 er => ?_) (fun v6 H7 z5 hF => ?_)
  · subst er
    have mz : Mo H H7 := (m_Lexer_take z5)
    have ml := mz.len
    have m2 := mz.2
    have hC9 : H7.sh.length ≤ c0 + C := hC
    have hS9 : H7.sl ≤ s0 + Sl := hS
    refine hp_callV_t (x := x8) (H1 := H7) (As := [.int 16]) (rest := []) d_Body_givenMember_6 (k_Lexer_take z5 (C := H7.sh.length - H.sh.length) (Sl := H7.sl - H.sl) (by show H7.sh.length ≤ _; omega) (by show H7.sl ≤ _; omega)) (ab_mkC s_Lexer_take (Nat.le_of_ble_eq_true rfl) (Nat.le_of_ble_eq_true rfl) (show (H.sh.length - c0) + (H7.sh.length - H.sh.length) ≤ C from by omega) (show (H.sl - s0) + (H7.sl - H.sl) ≤ Sl from by omega)) (k5 116 rfl rfl) i_Lexer_take v_Lexer_take q4 (by decide) rfl rfl (Nat.le_of_ble_eq_true rfl) ?_
    exact ab_U_out rfl (by show _ + (H7.sh.length - H.sh.length) ≤ C; omega) (by show _ + (H7.sl - H.sl) ≤ Sl; omega) ⟨rfl, rfl⟩
  clear hG
  have mz_1 : Mo H H7 := (m_Lexer_take z5)
  have b_2l := (mz_1).len
  have b_2s := (mz_1).2
  have b_2c : c0 ≤ H7.sh.length := by omega
  have b_2d : s0 ≤ H7.sl := by omega
  have q_3 := (mz_1).get q1
  have q_4 := (mz_1).get q4
  obtain ⟨a9, e10, hG⟩ := rf_s hF; clear hF
  obtain ⟨q11, hF⟩ := ck_s hG; clear hG
  obtain ⟨a12, e13, hG⟩ := rf_s hF; clear hF
  have fH7 : Mo H7 r.2 := by
    have hm := Mo.rf H7
    refine bT_c hG (fun x17 H16 z14 er => ?_) (fun v15 H16 z14 hF => ?_)
    · subst er; exact hm.tr (m_Body_memberHere z14)
    clear hG
    replace hm : Mo H7 H16 := hm.tr (m_Body_memberHere z14)
    obtain ⟨a18, e19, hG⟩ := rf_s hF; clear hF
    obtain ⟨q20, hF⟩ := ck_s hG; clear hG
    refine bT_c hF (fun x24 H23 z21 er => ?_) (fun v22 H23 z21 hG => ?_)
    · subst er; exact hm.tr (m_Lexer_take z21)
    clear hF
    replace hm : Mo H7 H23 := hm.tr (m_Lexer_take z21)
    have hr := Option.some.inj hG; subst hr
    exact hm
  have b_2m := (fH7).len
  have b_2n := (fH7).2
  have b_2p : H7.sh.length ≤ c0 + C := by omega
  have b_2q : H7.sl ≤ s0 + Sl := by omega
  refine hp_callV_v (H1 := H7) (As := [.int 16]) (rest := []) d_Body_givenMember_6 (k_Lexer_take z5 (C := H7.sh.length - H.sh.length) (Sl := H7.sl - H.sl) (by show H7.sh.length ≤ _; omega) (by show H7.sl ≤ _; omega)) (ab_mkC s_Lexer_take (Nat.le_of_ble_eq_true rfl) (Nat.le_of_ble_eq_true rfl) (show (H.sh.length - c0) + (H7.sh.length - H.sh.length) ≤ C from by omega) (show (H.sl - s0) + (H7.sl - H.sl) ≤ Sl from by omega)) (k5 116 rfl rfl) i_Lexer_take v_Lexer_take q4 (by decide) rfl rfl (Nat.le_of_ble_eq_true rfl) ?_
  refine ab_widen (cells' := H7.sh.length - c0) (slots' := H7.sl - s0) (by show _ + (H7.sh.length - H.sh.length) ≤ _; omega) (by show _ + (H7.sl - H.sl) ≤ _; omega) ?_
  clear b_2l b_2s b_2m b_2n
  refine ab_aload_n d_Body_givenMember_9 rfl rfl rfl ?_
  refine ab_aload_n d_Body_givenMember_10 rfl rfl rfl ?_
  refine hp_getR (f := 1) d_Body_givenMember_11 q_3 (by decide) rfl (by decide) (k1 158 rfl rfl) rfl e10 ?_
  refine hp_getR (f := 2) d_Body_givenMember_14 q11 (by decide) rfl (by decide) (k3 60 rfl rfl) rfl e13 ?_
  refine ab_iload_n d_Body_givenMember_17 rfl rfl ?_
  refine bT_c hG (fun x17 H16 z14 er => ?_) (fun v15 H16 z14 hF => ?_)
  · subst er
    have mz : Mo H7 H16 := (m_Body_memberHere z14)
    have ml := mz.len
    have m2 := mz.2
    have hC9 : H16.sh.length ≤ c0 + C := hC
    have hS9 : H16.sl ≤ s0 + Sl := hS
    refine hp_callV_t (x := x17) (H1 := H16) (As := [.ref a12, .int p1]) (rest := []) d_Body_givenMember_18 (k_Body_memberHere z14 (C := H16.sh.length - H7.sh.length) (Sl := H16.sl - H7.sl) (by show H16.sh.length ≤ _; omega) (by show H16.sl ≤ _; omega)) (ab_mkC s_Body_memberHere (Nat.le_of_ble_eq_true rfl) (Nat.le_of_ble_eq_true rfl) (show (H7.sh.length - c0) + (H16.sh.length - H7.sh.length) ≤ C from by omega) (show (H7.sl - s0) + (H16.sl - H7.sl) ≤ Sl from by omega)) (k5 197 rfl rfl) i_Body_memberHere v_Body_memberHere q_3 (by decide) rfl rfl (Nat.le_of_ble_eq_true rfl) ?_
    exact ab_U_out rfl (by show _ + (H16.sh.length - H7.sh.length) ≤ C; omega) (by show _ + (H16.sl - H7.sl) ≤ Sl; omega) ⟨rfl, rfl⟩
  clear hG
  have mz_14 : Mo H7 H16 := (m_Body_memberHere z14)
  have b_15l := (mz_14).len
  have b_15s := (mz_14).2
  have b_15c : c0 ≤ H16.sh.length := by omega
  have b_15d : s0 ≤ H16.sl := by omega
  have q_16 := (mz_14).get q_3
  have q_17 := (mz_14).get q_4
  have q_18 := (mz_14).get q11
  obtain ⟨a18, e19, hG⟩ := rf_s hF; clear hF
  have fH16 : Mo H16 r.2 := by
    have hm := Mo.rf H16
    obtain ⟨q20, hF⟩ := ck_s hG; clear hG
    refine bT_c hF (fun x24 H23 z21 er => ?_) (fun v22 H23 z21 hG => ?_)
    · subst er; exact hm.tr (m_Lexer_take z21)
    clear hF
    replace hm : Mo H16 H23 := hm.tr (m_Lexer_take z21)
    have hr := Option.some.inj hG; subst hr
    exact hm
  have b_15m := (fH16).len
  have b_15n := (fH16).2
  have b_15p : H16.sh.length ≤ c0 + C := by omega
  have b_15q : H16.sl ≤ s0 + Sl := by omega
  refine hp_callV_a (v := .int v15) (H1 := H16) (As := [.ref a12, .int p1]) (rest := []) d_Body_givenMember_18 (k_Body_memberHere z14 (C := H16.sh.length - H7.sh.length) (Sl := H16.sl - H7.sl) (by show H16.sh.length ≤ _; omega) (by show H16.sl ≤ _; omega)) (ab_mkC s_Body_memberHere (Nat.le_of_ble_eq_true rfl) (Nat.le_of_ble_eq_true rfl) (show (H7.sh.length - c0) + (H16.sh.length - H7.sh.length) ≤ C from by omega) (show (H7.sl - s0) + (H16.sl - H7.sl) ≤ Sl from by omega)) (k5 197 rfl rfl) i_Body_memberHere v_Body_memberHere q_3 (by decide) rfl rfl (Nat.le_of_ble_eq_true rfl) ?_
  refine ab_widen (cells' := H16.sh.length - c0) (slots' := H16.sl - s0) (by show _ + (H16.sh.length - H7.sh.length) ≤ _; omega) (by show _ + (H16.sl - H7.sl) ≤ _; omega) ?_
  clear b_15l b_15s b_15m b_15n b_2c b_2d b_2p b_2q
  refine ab_istore_n (lv' := [some (.ref p0), some (.int p1), some (.int v15)]) d_Body_givenMember_21 rfl (by decide) rfl ?_
  refine ab_aload_n d_Body_givenMember_22 rfl rfl rfl ?_
  refine hp_getR (f := 0) d_Body_givenMember_23 q_16 (by decide) rfl (by decide) (k1 157 rfl rfl) rfl e19 ?_
  refine ab_bipush (v := 17) d_Body_givenMember_26 (by decide) ?_
  obtain ⟨q20, hF⟩ := ck_s hG; clear hG
  refine bT_c hF (fun x24 H23 z21 er => ?_) (fun v22 H23 z21 hG => ?_)
  · subst er
    have mz : Mo H16 H23 := (m_Lexer_take z21)
    have ml := mz.len
    have m2 := mz.2
    have hC9 : H23.sh.length ≤ c0 + C := hC
    have hS9 : H23.sl ≤ s0 + Sl := hS
    refine hp_callV_t (x := x24) (H1 := H23) (As := [.int 17]) (rest := []) d_Body_givenMember_28 (k_Lexer_take z21 (C := H23.sh.length - H16.sh.length) (Sl := H23.sl - H16.sl) (by show H23.sh.length ≤ _; omega) (by show H23.sl ≤ _; omega)) (ab_mkC s_Lexer_take (Nat.le_of_ble_eq_true rfl) (Nat.le_of_ble_eq_true rfl) (show (H16.sh.length - c0) + (H23.sh.length - H16.sh.length) ≤ C from by omega) (show (H16.sl - s0) + (H23.sl - H16.sl) ≤ Sl from by omega)) (k5 116 rfl rfl) i_Lexer_take v_Lexer_take q20 (by decide) rfl rfl (Nat.le_of_ble_eq_true rfl) ?_
    exact ab_U_out rfl (by show _ + (H23.sh.length - H16.sh.length) ≤ C; omega) (by show _ + (H23.sl - H16.sl) ≤ Sl; omega) ⟨rfl, rfl⟩
  clear hF
  have mz_24 : Mo H16 H23 := (m_Lexer_take z21)
  have b_25l := (mz_24).len
  have b_25s := (mz_24).2
  have b_25c : c0 ≤ H23.sh.length := by omega
  have b_25d : s0 ≤ H23.sl := by omega
  have q_26 := (mz_24).get q_16
  have q_27 := (mz_24).get q_17
  have q_28 := (mz_24).get q_18
  have q_29 := (mz_24).get q20
  have fH23 : Mo H23 r.2 := by
    have hm := Mo.rf H23
    have hr := Option.some.inj hG; subst hr
    exact hm
  have b_25m := (fH23).len
  have b_25n := (fH23).2
  have b_25p : H23.sh.length ≤ c0 + C := by omega
  have b_25q : H23.sl ≤ s0 + Sl := by omega
  refine hp_callV_v (H1 := H23) (As := [.int 17]) (rest := []) d_Body_givenMember_28 (k_Lexer_take z21 (C := H23.sh.length - H16.sh.length) (Sl := H23.sl - H16.sl) (by show H23.sh.length ≤ _; omega) (by show H23.sl ≤ _; omega)) (ab_mkC s_Lexer_take (Nat.le_of_ble_eq_true rfl) (Nat.le_of_ble_eq_true rfl) (show (H16.sh.length - c0) + (H23.sh.length - H16.sh.length) ≤ C from by omega) (show (H16.sl - s0) + (H23.sl - H16.sl) ≤ Sl from by omega)) (k5 116 rfl rfl) i_Lexer_take v_Lexer_take q20 (by decide) rfl rfl (Nat.le_of_ble_eq_true rfl) ?_
  refine ab_widen (cells' := H23.sh.length - c0) (slots' := H23.sl - s0) (by show _ + (H23.sh.length - H16.sh.length) ≤ _; omega) (by show _ + (H23.sl - H16.sl) ≤ _; omega) ?_
  clear b_25l b_25s b_25m b_25n b_15c b_15d b_15p b_15q
  refine ab_iload_n d_Body_givenMember_31 rfl rfl ?_
  exact ab_iret d_Body_givenMember_32 rfl (by show _ ≤ C; omega) (by show _ ≤ Sl; omega) (by have hr := Option.some.inj hG; subst hr; exact ⟨rfl, rfl⟩)
def y_Body_readGiven : ab_Y := (⟨"WorldEngine$Body", "readGiven", "()V"⟩, prog_2_method_22_code, 4, none, [])
theorem d_Body_readGiven_0 : decode y_Body_readGiven.2.1 0 = .ok (.aload_n 0, 1) := by decide +kernel
theorem d_Body_readGiven_1 : decode y_Body_readGiven.2.1 1 = .ok (.getfield 7, 3) := by decide +kernel
theorem d_Body_readGiven_4 : decode y_Body_readGiven.2.1 4 = .ok (.getfield 96, 3) := by decide +kernel
theorem d_Body_readGiven_7 : decode y_Body_readGiven.2.1 7 = .ok (.istore_n 1, 1) := by decide +kernel
theorem d_Body_readGiven_8 : decode y_Body_readGiven.2.1 8 = .ok (.aload_n 0, 1) := by decide +kernel
theorem d_Body_readGiven_9 : decode y_Body_readGiven.2.1 9 = .ok (.invokevirtual 184, 3) := by decide +kernel
theorem d_Body_readGiven_12 : decode y_Body_readGiven.2.1 12 = .ok (.astore_n 2, 1) := by decide +kernel
theorem d_Body_readGiven_13 : decode y_Body_readGiven.2.1 13 = .ok (.aload_n 0, 1) := by decide +kernel
theorem d_Body_readGiven_14 : decode y_Body_readGiven.2.1 14 = .ok (.getfield 7, 3) := by decide +kernel
theorem d_Body_readGiven_17 : decode y_Body_readGiven.2.1 17 = .ok (.getfield 45, 3) := by decide +kernel
theorem d_Body_readGiven_20 : decode y_Body_readGiven.2.1 20 = .ok (.bipush 17, 2) := by decide +kernel
theorem d_Body_readGiven_22 : decode y_Body_readGiven.2.1 22 = .ok (.if_icmp .ne 61, 3) := by decide +kernel
theorem d_Body_readGiven_25 : decode y_Body_readGiven.2.1 25 = .ok (.aload_n 2, 1) := by decide +kernel
theorem d_Body_readGiven_26 : decode y_Body_readGiven.2.1 26 = .ok (.getfield 188, 3) := by decide +kernel
theorem d_Body_readGiven_29 : decode y_Body_readGiven.2.1 29 = .ok (.iconst 5, 1) := by decide +kernel
theorem d_Body_readGiven_30 : decode y_Body_readGiven.2.1 30 = .ok (.if_icmp .eq 12, 3) := by decide +kernel
theorem d_Body_readGiven_33 : decode y_Body_readGiven.2.1 33 = .ok (.aload_n 0, 1) := by decide +kernel
theorem d_Body_readGiven_34 : decode y_Body_readGiven.2.1 34 = .ok (.getfield 7, 3) := by decide +kernel
theorem d_Body_readGiven_37 : decode y_Body_readGiven.2.1 37 = .ok (.iconst 5, 1) := by decide +kernel
theorem d_Body_readGiven_38 : decode y_Body_readGiven.2.1 38 = .ok (.iload_n 1, 1) := by decide +kernel
theorem d_Body_readGiven_39 : decode y_Body_readGiven.2.1 39 = .ok (.invokevirtual 99, 3) := by decide +kernel
theorem d_Body_readGiven_42 : decode y_Body_readGiven.2.1 42 = .ok (.aload_n 0, 1) := by decide +kernel
theorem d_Body_readGiven_43 : decode y_Body_readGiven.2.1 43 = .ok (.getfield 7, 3) := by decide +kernel
theorem d_Body_readGiven_46 : decode y_Body_readGiven.2.1 46 = .ok (.invokevirtual 93, 3) := by decide +kernel
theorem d_Body_readGiven_49 : decode y_Body_readGiven.2.1 49 = .ok (.aload_n 0, 1) := by decide +kernel
theorem d_Body_readGiven_50 : decode y_Body_readGiven.2.1 50 = .ok (.aload_n 2, 1) := by decide +kernel
theorem d_Body_readGiven_51 : decode y_Body_readGiven.2.1 51 = .ok (.getfield 170, 3) := by decide +kernel
theorem d_Body_readGiven_54 : decode y_Body_readGiven.2.1 54 = .ok (.invokevirtual 111, 3) := by decide +kernel
theorem d_Body_readGiven_57 : decode y_Body_readGiven.2.1 57 = .ok (.pop, 1) := by decide +kernel
theorem d_Body_readGiven_58 : decode y_Body_readGiven.2.1 58 = .ok (.aload_n 0, 1) := by decide +kernel
theorem d_Body_readGiven_59 : decode y_Body_readGiven.2.1 59 = .ok (.getfield 17, 3) := by decide +kernel
theorem d_Body_readGiven_62 : decode y_Body_readGiven.2.1 62 = .ok (.bipush 34, 2) := by decide +kernel
theorem d_Body_readGiven_64 : decode y_Body_readGiven.2.1 64 = .ok (.invokevirtual 50, 3) := by decide +kernel
theorem d_Body_readGiven_67 : decode y_Body_readGiven.2.1 67 = .ok (.pop, 1) := by decide +kernel
theorem d_Body_readGiven_68 : decode y_Body_readGiven.2.1 68 = .ok (.aload_n 0, 1) := by decide +kernel
theorem d_Body_readGiven_69 : decode y_Body_readGiven.2.1 69 = .ok (.getfield 17, 3) := by decide +kernel
theorem d_Body_readGiven_72 : decode y_Body_readGiven.2.1 72 = .ok (.aload_n 2, 1) := by decide +kernel
theorem d_Body_readGiven_73 : decode y_Body_readGiven.2.1 73 = .ok (.getfield 191, 3) := by decide +kernel
theorem d_Body_readGiven_76 : decode y_Body_readGiven.2.1 76 = .ok (.invokevirtual 50, 3) := by decide +kernel
theorem d_Body_readGiven_79 : decode y_Body_readGiven.2.1 79 = .ok (.pop, 1) := by decide +kernel
theorem d_Body_readGiven_80 : decode y_Body_readGiven.2.1 80 = .ok (.goto 109, 3) := by decide +kernel
theorem d_Body_readGiven_83 : decode y_Body_readGiven.2.1 83 = .ok (.aload_n 0, 1) := by decide +kernel
theorem d_Body_readGiven_84 : decode y_Body_readGiven.2.1 84 = .ok (.getfield 7, 3) := by decide +kernel
theorem d_Body_readGiven_87 : decode y_Body_readGiven.2.1 87 = .ok (.getfield 45, 3) := by decide +kernel
theorem d_Body_readGiven_90 : decode y_Body_readGiven.2.1 90 = .ok (.bipush 16, 2) := by decide +kernel
theorem d_Body_readGiven_92 : decode y_Body_readGiven.2.1 92 = .ok (.if_icmp .ne 82, 3) := by decide +kernel
theorem d_Body_readGiven_95 : decode y_Body_readGiven.2.1 95 = .ok (.aload_n 2, 1) := by decide +kernel
theorem d_Body_readGiven_96 : decode y_Body_readGiven.2.1 96 = .ok (.getfield 188, 3) := by decide +kernel
theorem d_Body_readGiven_99 : decode y_Body_readGiven.2.1 99 = .ok (.ifCond .ne 25, 3) := by decide +kernel
theorem d_Body_readGiven_102 : decode y_Body_readGiven.2.1 102 = .ok (.aload_n 0, 1) := by decide +kernel
theorem d_Body_readGiven_103 : decode y_Body_readGiven.2.1 103 = .ok (.getfield 17, 3) := by decide +kernel
theorem d_Body_readGiven_106 : decode y_Body_readGiven.2.1 106 = .ok (.getfield 202, 3) := by decide +kernel
theorem d_Body_readGiven_109 : decode y_Body_readGiven.2.1 109 = .ok (.aload_n 0, 1) := by decide +kernel
theorem d_Body_readGiven_110 : decode y_Body_readGiven.2.1 110 = .ok (.getfield 27, 3) := by decide +kernel
theorem d_Body_readGiven_113 : decode y_Body_readGiven.2.1 113 = .ok (.iaload, 1) := by decide +kernel
theorem d_Body_readGiven_114 : decode y_Body_readGiven.2.1 114 = .ok (.aload_n 2, 1) := by decide +kernel
theorem d_Body_readGiven_115 : decode y_Body_readGiven.2.1 115 = .ok (.getfield 191, 3) := by decide +kernel
theorem d_Body_readGiven_118 : decode y_Body_readGiven.2.1 118 = .ok (.ishr, 1) := by decide +kernel
theorem d_Body_readGiven_119 : decode y_Body_readGiven.2.1 119 = .ok (.iconst 1, 1) := by decide +kernel
theorem d_Body_readGiven_120 : decode y_Body_readGiven.2.1 120 = .ok (.iand, 1) := by decide +kernel
theorem d_Body_readGiven_121 : decode y_Body_readGiven.2.1 121 = .ok (.ifCond .ne 12, 3) := by decide +kernel
theorem d_Body_readGiven_124 : decode y_Body_readGiven.2.1 124 = .ok (.aload_n 0, 1) := by decide +kernel
theorem d_Body_readGiven_125 : decode y_Body_readGiven.2.1 125 = .ok (.getfield 7, 3) := by decide +kernel
theorem d_Body_readGiven_128 : decode y_Body_readGiven.2.1 128 = .ok (.iconst 5, 1) := by decide +kernel
theorem d_Body_readGiven_129 : decode y_Body_readGiven.2.1 129 = .ok (.iload_n 1, 1) := by decide +kernel
theorem d_Body_readGiven_130 : decode y_Body_readGiven.2.1 130 = .ok (.invokevirtual 99, 3) := by decide +kernel
theorem d_Body_readGiven_133 : decode y_Body_readGiven.2.1 133 = .ok (.aload_n 0, 1) := by decide +kernel
theorem d_Body_readGiven_134 : decode y_Body_readGiven.2.1 134 = .ok (.aload_n 2, 1) := by decide +kernel
theorem d_Body_readGiven_135 : decode y_Body_readGiven.2.1 135 = .ok (.getfield 191, 3) := by decide +kernel
theorem d_Body_readGiven_138 : decode y_Body_readGiven.2.1 138 = .ok (.invokevirtual 205, 3) := by decide +kernel
theorem d_Body_readGiven_141 : decode y_Body_readGiven.2.1 141 = .ok (.istore_n 3, 1) := by decide +kernel
theorem d_Body_readGiven_142 : decode y_Body_readGiven.2.1 142 = .ok (.aload_n 0, 1) := by decide +kernel
theorem d_Body_readGiven_143 : decode y_Body_readGiven.2.1 143 = .ok (.aload_n 0, 1) := by decide +kernel
theorem d_Body_readGiven_144 : decode y_Body_readGiven.2.1 144 = .ok (.iload_n 3, 1) := by decide +kernel
theorem d_Body_readGiven_145 : decode y_Body_readGiven.2.1 145 = .ok (.invokevirtual 208, 3) := by decide +kernel
theorem d_Body_readGiven_148 : decode y_Body_readGiven.2.1 148 = .ok (.invokevirtual 111, 3) := by decide +kernel
theorem d_Body_readGiven_151 : decode y_Body_readGiven.2.1 151 = .ok (.pop, 1) := by decide +kernel
theorem d_Body_readGiven_152 : decode y_Body_readGiven.2.1 152 = .ok (.aload_n 0, 1) := by decide +kernel
theorem d_Body_readGiven_153 : decode y_Body_readGiven.2.1 153 = .ok (.getfield 17, 3) := by decide +kernel
theorem d_Body_readGiven_156 : decode y_Body_readGiven.2.1 156 = .ok (.bipush 36, 2) := by decide +kernel
theorem d_Body_readGiven_158 : decode y_Body_readGiven.2.1 158 = .ok (.invokevirtual 50, 3) := by decide +kernel
theorem d_Body_readGiven_161 : decode y_Body_readGiven.2.1 161 = .ok (.pop, 1) := by decide +kernel
theorem d_Body_readGiven_162 : decode y_Body_readGiven.2.1 162 = .ok (.aload_n 0, 1) := by decide +kernel
theorem d_Body_readGiven_163 : decode y_Body_readGiven.2.1 163 = .ok (.getfield 17, 3) := by decide +kernel
theorem d_Body_readGiven_166 : decode y_Body_readGiven.2.1 166 = .ok (.iload_n 3, 1) := by decide +kernel
theorem d_Body_readGiven_167 : decode y_Body_readGiven.2.1 167 = .ok (.invokevirtual 50, 3) := by decide +kernel
theorem d_Body_readGiven_170 : decode y_Body_readGiven.2.1 170 = .ok (.pop, 1) := by decide +kernel
theorem d_Body_readGiven_171 : decode y_Body_readGiven.2.1 171 = .ok (.goto 18, 3) := by decide +kernel
theorem d_Body_readGiven_174 : decode y_Body_readGiven.2.1 174 = .ok (.aload_n 0, 1) := by decide +kernel
theorem d_Body_readGiven_175 : decode y_Body_readGiven.2.1 175 = .ok (.getfield 7, 3) := by decide +kernel
theorem d_Body_readGiven_178 : decode y_Body_readGiven.2.1 178 = .ok (.iconst 1, 1) := by decide +kernel
theorem d_Body_readGiven_179 : decode y_Body_readGiven.2.1 179 = .ok (.aload_n 0, 1) := by decide +kernel
theorem d_Body_readGiven_180 : decode y_Body_readGiven.2.1 180 = .ok (.getfield 7, 3) := by decide +kernel
theorem d_Body_readGiven_183 : decode y_Body_readGiven.2.1 183 = .ok (.getfield 96, 3) := by decide +kernel
theorem d_Body_readGiven_186 : decode y_Body_readGiven.2.1 186 = .ok (.invokevirtual 99, 3) := by decide +kernel
theorem d_Body_readGiven_189 : decode y_Body_readGiven.2.1 189 = .ok (.aload_n 0, 1) := by decide +kernel
theorem d_Body_readGiven_190 : decode y_Body_readGiven.2.1 190 = .ok (.getfield 7, 3) := by decide +kernel
theorem d_Body_readGiven_193 : decode y_Body_readGiven.2.1 193 = .ok (.bipush 15, 2) := by decide +kernel
theorem d_Body_readGiven_195 : decode y_Body_readGiven.2.1 195 = .ok (.invokevirtual 41, 3) := by decide +kernel
theorem d_Body_readGiven_198 : decode y_Body_readGiven.2.1 198 = .ok (.return_, 1) := by decide +kernel
theorem s_Body_readGiven : ab_Stat y_Body_readGiven 0 := ⟨(k6 4 rfl rfl), (k1 8 rfl rfl), ⟨by decide, by decide⟩, by decide +kernel⟩
theorem i_Body_readGiven : Cond.instanceMethod y_Body_readGiven.1 ∈ ab_T := (k6 3 rfl rfl)
theorem v_Body_readGiven : Cond.selects "WorldEngine$Body" y_Body_readGiven.1 y_Body_readGiven.1 ∈ ab_T := ab_s (List.mem_of_getElem? (i := 46) rfl) rfl
def B_Body_readGiven_189 (N : Nat) (p0 : Nat)  (H : Hp) : Option ((Ot Unit) × Hp) :=
    ck (H.sh[p0]? = some (6, 0)) <|
    rf (H.P p0 0) fun a46 =>
    ck (H.sh[a46]? = some (1, 0)) <|
    bT (F_Lexer_take N a46 (15 : Int32) H) fun v50 H51 =>
    some (.inl (), H51)
set_option maxRecDepth 20000 in
set_option maxHeartbeats 2000000 in
theorem mB_Body_readGiven_189 {N : Nat} {p0 : Nat}  {H : Hp} {r : (Ot Unit) × Hp} (hF : B_Body_readGiven_189 N p0  H = some r) : Mo H r.2 := by
  unfold B_Body_readGiven_189 at hF
  have hm := Mo.rf H
  obtain ⟨q53, hG⟩ := ck_s hF; clear hF
  obtain ⟨a54, e55, hF⟩ := rf_s hG; clear hG
  obtain ⟨q56, hG⟩ := ck_s hF; clear hF
  refine bT_c hG (fun x60 H59 z57 er => ?_) (fun v58 H59 z57 hF => ?_)
  · subst er; exact hm.tr (m_Lexer_take z57)
  clear hG
  replace hm : Mo H H59 := hm.tr (m_Lexer_take z57)
  have hr := Option.some.inj hF; subst hr
  exact hm
set_option maxRecDepth 20000 in
set_option maxHeartbeats 2000000 in
theorem kB_Body_readGiven_189 {N : Nat} {p0 : Nat} {c0 s0 C Sl : Nat}  {H : Hp} {r : (Ot Unit) × Hp} (hF : B_Body_readGiven_189 N p0  H = some r) (hc0 : c0 ≤ H.sh.length) (hs0 : s0 ≤ H.sl) (hcc : H.sh.length ≤ c0 + C) (hss : H.sl ≤ s0 + Sl) (hC : r.2.sh.length ≤ c0 + C) (hS : r.2.sl ≤ s0 + Sl) : ab_V y_Body_readGiven { frames := 570, cells := C, slots := Sl, locals := 13502 } (po (oV r.1) r.2) C Sl (H.sh.length - c0) (H.sl - s0) 189 [some (.ref p0), none, none, none] [] (hpw H) := by
  unfold B_Body_readGiven_189 at hF
  refine ab_aload_n d_Body_readGiven_189 rfl rfl rfl ?_
  obtain ⟨q45, hG⟩ := ck_s hF; clear hF
  obtain ⟨a46, e47, hF⟩ := rf_s hG; clear hG
  refine hp_getR (f := 0) d_Body_readGiven_190 q45 (by decide) rfl (by decide) (k1 157 rfl rfl) rfl e47 ?_
  refine ab_bipush (v := 15) d_Body_readGiven_193 (by decide) ?_
  obtain ⟨q48, hG⟩ := ck_s hF; clear hF
  refine bT_c hG (fun x52 H51 z49 er => ?_) (fun v50 H51 z49 hF => ?_)
  · subst er
    have mz : Mo H H51 := (m_Lexer_take z49)
    have ml := mz.len
    have m2 := mz.2
    have hC9 : H51.sh.length ≤ c0 + C := hC
    have hS9 : H51.sl ≤ s0 + Sl := hS
    refine hp_callV_t (x := x52) (H1 := H51) (As := [.int 15]) (rest := []) d_Body_readGiven_195 (k_Lexer_take z49 (C := H51.sh.length - H.sh.length) (Sl := H51.sl - H.sl) (by show H51.sh.length ≤ _; omega) (by show H51.sl ≤ _; omega)) (ab_mkC s_Lexer_take (Nat.le_of_ble_eq_true rfl) (Nat.le_of_ble_eq_true rfl) (show (H.sh.length - c0) + (H51.sh.length - H.sh.length) ≤ C from by omega) (show (H.sl - s0) + (H51.sl - H.sl) ≤ Sl from by omega)) (k5 116 rfl rfl) i_Lexer_take v_Lexer_take q48 (by decide) rfl rfl (Nat.le_of_ble_eq_true rfl) ?_
    exact ab_U_out rfl (by show _ + (H51.sh.length - H.sh.length) ≤ C; omega) (by show _ + (H51.sl - H.sl) ≤ Sl; omega) ⟨rfl, rfl⟩
  clear hG
  have mz_17 : Mo H H51 := (m_Lexer_take z49)
  have b_18l := (mz_17).len
  have b_18s := (mz_17).2
  have b_18c : c0 ≤ H51.sh.length := by omega
  have b_18d : s0 ≤ H51.sl := by omega
  have q_19 := (mz_17).get q45
  have q_20 := (mz_17).get q48
  have fH51 : Mo H51 r.2 := by
    have hm := Mo.rf H51
    have hr := Option.some.inj hF; subst hr
    exact hm
  have b_18m := (fH51).len
  have b_18n := (fH51).2
  have b_18p : H51.sh.length ≤ c0 + C := by omega
  have b_18q : H51.sl ≤ s0 + Sl := by omega
  refine hp_callV_v (H1 := H51) (As := [.int 15]) (rest := []) d_Body_readGiven_195 (k_Lexer_take z49 (C := H51.sh.length - H.sh.length) (Sl := H51.sl - H.sl) (by show H51.sh.length ≤ _; omega) (by show H51.sl ≤ _; omega)) (ab_mkC s_Lexer_take (Nat.le_of_ble_eq_true rfl) (Nat.le_of_ble_eq_true rfl) (show (H.sh.length - c0) + (H51.sh.length - H.sh.length) ≤ C from by omega) (show (H.sl - s0) + (H51.sl - H.sl) ≤ Sl from by omega)) (k5 116 rfl rfl) i_Lexer_take v_Lexer_take q48 (by decide) rfl rfl (Nat.le_of_ble_eq_true rfl) ?_
  refine ab_widen (cells' := H51.sh.length - c0) (slots' := H51.sl - s0) (by show _ + (H51.sh.length - H.sh.length) ≤ _; omega) (by show _ + (H51.sl - H.sl) ≤ _; omega) ?_
  clear b_18l b_18s b_18m b_18n
  exact ab_vret d_Body_readGiven_198 rfl (by show _ ≤ C; omega) (by show _ ≤ Sl; omega) (by have hr := Option.some.inj hF; subst hr; exact ⟨rfl, rfl⟩)
def B_Body_readGiven_42 (N : Nat) (p0 : Nat) (l2 : Nat) (H : Hp) : Option ((Ot Unit) × Hp) :=
    ck (H.sh[p0]? = some (6, 0)) <|
    rf (H.P p0 0) fun a20 =>
    ck (H.sh[a20]? = some (1, 0)) <|
    bC (F_Lexer_advance N a20 H) fun v24 H25 =>
    ck (H25.sh[l2]? = some (2, 0)) <|
    bnd ((H25.D l2 3)) fun x27 =>
    bT (F_Body_want N (X_BodyE N 140) p0 x27 H25) fun v29 H30 =>
    rf (H30.P p0 1) fun a32 =>
    ck (H30.sh[a32]? = some (4, 0)) <|
    bC (F_Program_add N a32 (34 : Int32) H30) fun v36 H37 =>
    rf (H37.P p0 1) fun a38 =>
    bnd ((H37.D l2 2)) fun x40 =>
    ck (H37.sh[a38]? = some (4, 0)) <|
    bC (F_Program_add N a38 x40 H37) fun v43 H44 =>
    B_Body_readGiven_189 N p0  H44
set_option maxRecDepth 20000 in
set_option maxHeartbeats 2000000 in
theorem mB_Body_readGiven_42 {N : Nat} {p0 : Nat} {l2 : Nat} {H : Hp} {r : (Ot Unit) × Hp} (hF : B_Body_readGiven_42 N p0 l2 H = some r) : Mo H r.2 := by
  unfold B_Body_readGiven_42 at hF
  have hm := Mo.rf H
  obtain ⟨q45, hG⟩ := ck_s hF; clear hF
  obtain ⟨a46, e47, hF⟩ := rf_s hG; clear hG
  obtain ⟨q48, hG⟩ := ck_s hF; clear hF
  obtain ⟨v50, H51, z49, hF⟩ := bC_s hG; clear hG
  replace hm : Mo H H51 := hm.tr ((m_Lexer_advance z49)).mo
  obtain ⟨q52, hG⟩ := ck_s hF; clear hF
  obtain ⟨x53, -, hF⟩ := bnd_g hG; clear hG
  refine bT_c hF (fun x57 H56 z54 er => ?_) (fun v55 H56 z54 hG => ?_)
  · subst er; exact hm.tr (m_Body_want (moX_BodyE 140) z54)
  clear hF
  replace hm : Mo H H56 := hm.tr (m_Body_want (moX_BodyE 140) z54)
  obtain ⟨a58, e59, hF⟩ := rf_s hG; clear hG
  obtain ⟨q60, hG⟩ := ck_s hF; clear hF
  obtain ⟨v62, H63, z61, hF⟩ := bC_s hG; clear hG
  replace hm : Mo H H63 := hm.tr ((m_Program_add z61)).mo
  obtain ⟨a64, e65, hG⟩ := rf_s hF; clear hF
  obtain ⟨x66, -, hF⟩ := bnd_g hG; clear hG
  obtain ⟨q67, hG⟩ := ck_s hF; clear hF
  obtain ⟨v69, H70, z68, hF⟩ := bC_s hG; clear hG
  replace hm : Mo H H70 := hm.tr ((m_Program_add z68)).mo
  exact hm.tr (mB_Body_readGiven_189 hF)
set_option maxRecDepth 20000 in
set_option maxHeartbeats 2000000 in
theorem kB_Body_readGiven_42 {N : Nat} {p0 : Nat} {c0 s0 C Sl : Nat} {l2 : Nat} {H : Hp} {r : (Ot Unit) × Hp} (hF : B_Body_readGiven_42 N p0 l2 H = some r) (hc0 : c0 ≤ H.sh.length) (hs0 : s0 ≤ H.sl) (hcc : H.sh.length ≤ c0 + C) (hss : H.sl ≤ s0 + Sl) (hC : r.2.sh.length ≤ c0 + C) (hS : r.2.sl ≤ s0 + Sl) : ab_V y_Body_readGiven { frames := 570, cells := C, slots := Sl, locals := 13502 } (po (oV r.1) r.2) C Sl (H.sh.length - c0) (H.sl - s0) 42 [some (.ref p0), none, some (.ref l2), none] [] (hpw H) := by
  unfold B_Body_readGiven_42 at hF
  refine ab_aload_n d_Body_readGiven_42 rfl rfl rfl ?_
  obtain ⟨q19, hG⟩ := ck_s hF; clear hF
  obtain ⟨a20, e21, hF⟩ := rf_s hG; clear hG
  refine hp_getR (f := 0) d_Body_readGiven_43 q19 (by decide) rfl (by decide) (k1 157 rfl rfl) rfl e21 ?_
  obtain ⟨q22, hG⟩ := ck_s hF; clear hF
  obtain ⟨v24, H25, z23, hF⟩ := bC_s hG; clear hG
  refine hp_callV_v (H1 := H25) (As := []) (rest := []) d_Body_readGiven_46 (k_Lexer_advance z23) (ab_mkC s_Lexer_advance (Nat.le_of_ble_eq_true rfl) (Nat.le_of_ble_eq_true rfl) (show (H.sh.length - c0) + 0 ≤ C from by omega) (show (H.sl - s0) + 0 ≤ Sl from by omega)) (k5 129 rfl rfl) i_Lexer_advance v_Lexer_advance q22 (by decide) rfl rfl (Nat.le_of_ble_eq_true rfl) ?_
  have s_9 : Sa H H25 := (m_Lexer_advance z23)
  refine ab_widen (cells' := H.sh.length - c0) (slots' := H.sl - s0) (by show (H.sh.length - c0) + 0 ≤ _; omega) (by show (H.sl - s0) + 0 ≤ _; omega) ?_
  refine ab_aload_n d_Body_readGiven_49 rfl rfl rfl ?_
  refine ab_aload_n d_Body_readGiven_50 rfl rfl rfl ?_
  obtain ⟨q26, hG⟩ := ck_s hF; clear hF
  rw [(s_9).1] at q26
  refine hp_getI (f := 3) d_Body_readGiven_51 (by rw [(s_9).1]; exact q26) (by decide) rfl (by decide) (k3 3 rfl rfl) rfl ?_
  refine ab_topi (fun x27 ex27 => ?_)
  replace hG := bnd_s ex27 hG
  refine bT_c hG (fun x31 H30 z28 er => ?_) (fun v29 H30 z28 hF => ?_)
  · subst er
    refine ab_widen (cells' := H25.sh.length - c0) (slots' := H25.sl - s0) (by rw [(s_9).1]; exact Nat.le_refl _) (by rw [(s_9).2]; exact Nat.le_refl _) ?_
    have mz : Mo H25 H30 := (m_Body_want (moX_BodyE 140) z28)
    have ml := mz.len
    have m2 := mz.2
    have be := congrArg List.length (s_9).1
    have bfx := (s_9).2
    have hC9 : H30.sh.length ≤ c0 + C := hC
    have hS9 : H30.sl ≤ s0 + Sl := hS
    refine hp_callV_t (x := x31) (H1 := H30) (As := [.int x27]) (rest := []) d_Body_readGiven_54 (k_Body_want (okX_BodyE 140) (moX_BodyE 140) z28 (C := H30.sh.length - H25.sh.length) (Sl := H30.sl - H25.sl) (by show H30.sh.length ≤ _; omega) (by show H30.sl ≤ _; omega)) (ab_mkC s_Body_want (Nat.le_of_ble_eq_true rfl) (Nat.le_of_ble_eq_true rfl) (show (H25.sh.length - c0) + (H30.sh.length - H25.sh.length) ≤ C from by omega) (show (H25.sl - s0) + (H30.sl - H25.sl) ≤ Sl from by omega)) (k5 137 rfl rfl) i_Body_want v_Body_want (by rw [(s_9).1]; exact q19) (by decide) rfl rfl (Nat.le_of_ble_eq_true rfl) ?_
    exact ab_U_out rfl (by show _ + (H30.sh.length - H25.sh.length) ≤ C; omega) (by show _ + (H30.sl - H25.sl) ≤ Sl; omega) ⟨rfl, rfl⟩
  clear hG
  refine ab_widen (cells' := H25.sh.length - c0) (slots' := H25.sl - s0) (by rw [(s_9).1]; exact Nat.le_refl _) (by rw [(s_9).2]; exact Nat.le_refl _) ?_
  have mz_10 : Mo H25 H30 := (m_Body_want (moX_BodyE 140) z28)
  have b_11l := (mz_10).len
  have b_11s := (mz_10).2
  have b_11e := congrArg List.length (s_9).1
  have b_11f := (s_9).2
  have b_11c : c0 ≤ H30.sh.length := by omega
  have b_11d : s0 ≤ H30.sl := by omega
  have q_12 := (mz_10).get (by rw [(s_9).1]; exact q19)
  have q_13 := (mz_10).get (by rw [(s_9).1]; exact q22)
  have q_14 := (mz_10).get (by rw [(s_9).1]; exact q26)
  obtain ⟨a32, e33, hG⟩ := rf_s hF; clear hF
  obtain ⟨q34, hF⟩ := ck_s hG; clear hG
  obtain ⟨v36, H37, z35, hG⟩ := bC_s hF; clear hF
  have jH37 : Mo H30 H37 := ((m_Program_add z35)).mo
  obtain ⟨a38, e39, hF⟩ := rf_s hG; clear hG
  obtain ⟨x40, ex40, hG⟩ := bnd_g hF; clear hF
  obtain ⟨q41, hF⟩ := ck_s hG; clear hG
  obtain ⟨v43, H44, z42, hG⟩ := bC_s hF; clear hF
  have jH44 : Mo H37 H44 := ((m_Program_add z42)).mo
  have fH44 : Mo H44 r.2 := by
    have hm := Mo.rf H44
    exact hm.tr (mB_Body_readGiven_189 hG)
  have fH37 : Mo H37 r.2 := jH44.tr fH44
  have fH30 : Mo H30 r.2 := jH37.tr fH37
  have b_11m := (fH30).len
  have b_11n := (fH30).2
  have b_11p : H30.sh.length ≤ c0 + C := by omega
  have b_11q : H30.sl ≤ s0 + Sl := by omega
  refine hp_callV_a (v := .int v29) (H1 := H30) (As := [.int x27]) (rest := []) d_Body_readGiven_54 (k_Body_want (okX_BodyE 140) (moX_BodyE 140) z28 (C := H30.sh.length - H25.sh.length) (Sl := H30.sl - H25.sl) (by show H30.sh.length ≤ _; omega) (by show H30.sl ≤ _; omega)) (ab_mkC s_Body_want (Nat.le_of_ble_eq_true rfl) (Nat.le_of_ble_eq_true rfl) (show (H25.sh.length - c0) + (H30.sh.length - H25.sh.length) ≤ C from by omega) (show (H25.sl - s0) + (H30.sl - H25.sl) ≤ Sl from by omega)) (k5 137 rfl rfl) i_Body_want v_Body_want (by rw [(s_9).1]; exact q19) (by decide) rfl rfl (Nat.le_of_ble_eq_true rfl) ?_
  refine ab_widen (cells' := H30.sh.length - c0) (slots' := H30.sl - s0) (by show _ + (H30.sh.length - H25.sh.length) ≤ _; omega) (by show _ + (H30.sl - H25.sl) ≤ _; omega) ?_
  clear b_11l b_11s b_11m b_11n b_11e b_11f
  refine ab_pop d_Body_readGiven_57 rfl ?_
  refine ab_aload_n d_Body_readGiven_58 rfl rfl rfl ?_
  refine hp_getR (f := 1) d_Body_readGiven_59 q_12 (by decide) rfl (by decide) (k1 158 rfl rfl) rfl e33 ?_
  refine ab_bipush (v := 34) d_Body_readGiven_62 (by decide) ?_
  refine hp_callV_a (v := .int v36) (H1 := H37) (As := [.int 34]) (rest := []) d_Body_readGiven_64 (k_Program_add z35) (ab_mkC s_Program_add (Nat.le_of_ble_eq_true rfl) (Nat.le_of_ble_eq_true rfl) (show (H30.sh.length - c0) + 0 ≤ C from by omega) (show (H30.sl - s0) + 0 ≤ Sl from by omega)) (k5 117 rfl rfl) i_Program_add v_Program_add q34 (by decide) rfl rfl (Nat.le_of_ble_eq_true rfl) ?_
  have s_25 : Sa H30 H37 := (m_Program_add z35)
  refine ab_widen (cells' := H30.sh.length - c0) (slots' := H30.sl - s0) (by show (H30.sh.length - c0) + 0 ≤ _; omega) (by show (H30.sl - s0) + 0 ≤ _; omega) ?_
  refine ab_pop d_Body_readGiven_67 rfl ?_
  refine ab_aload_n d_Body_readGiven_68 rfl rfl rfl ?_
  refine hp_getR (f := 1) d_Body_readGiven_69 (by rw [(s_25).1]; exact q_12) (by decide) rfl (by decide) (k1 158 rfl rfl) rfl e39 ?_
  refine ab_aload_n d_Body_readGiven_72 rfl rfl rfl ?_
  refine hp_getI (f := 2) d_Body_readGiven_73 (by rw [(s_25).1]; exact q_14) (by decide) rfl (by decide) (k2 237 rfl rfl) rfl ?_
  refine ab_topxi ex40 ?_
  rw [(s_25).1] at q41
  refine ab_widen (cells' := H37.sh.length - c0) (slots' := H37.sl - s0) (by rw [(s_25).1]; exact Nat.le_refl _) (by rw [(s_25).2]; exact Nat.le_refl _) ?_
  have b_26e := congrArg List.length (s_25).1
  have b_26f := (s_25).2
  refine hp_callV_a (v := .int v43) (H1 := H44) (As := [.int x40]) (rest := []) d_Body_readGiven_76 (k_Program_add z42) (ab_mkC s_Program_add (Nat.le_of_ble_eq_true rfl) (Nat.le_of_ble_eq_true rfl) (show (H37.sh.length - c0) + 0 ≤ C from by omega) (show (H37.sl - s0) + 0 ≤ Sl from by omega)) (k5 117 rfl rfl) i_Program_add v_Program_add (by rw [(s_25).1]; exact q41) (by decide) rfl rfl (Nat.le_of_ble_eq_true rfl) ?_
  have s_27 : Sa H30 H44 := (s_25).tr (m_Program_add z42)
  refine ab_widen (cells' := H30.sh.length - c0) (slots' := H30.sl - s0) (by show (H37.sh.length - c0) + 0 ≤ _; omega) (by show (H37.sl - s0) + 0 ≤ _; omega) ?_
  clear b_26e b_26f
  refine ab_pop d_Body_readGiven_79 rfl ?_
  refine ab_goto (tgt := 189) d_Body_readGiven_80 (by decide) ?_
  refine ab_le (lv' := [some (.ref p0), none, none, none]) ⟨rfl, trivial⟩ ?_
  refine ab_widen (cells' := H44.sh.length - c0) (slots' := H44.sl - s0) (by rw [(s_27).1]; exact Nat.le_refl _) (by rw [(s_27).2]; exact Nat.le_refl _) ?_
  exact kB_Body_readGiven_189 hG (by rw [(s_27).1]; exact b_11c) (by rw [(s_27).2]; exact b_11d) (by rw [(s_27).1]; exact b_11p) (by rw [(s_27).2]; exact b_11q) hC hS
def B_Body_readGiven_133 (N : Nat) (p0 : Nat) (l2 : Nat) (H : Hp) : Option ((Ot Unit) × Hp) :=
    ck (H.sh[l2]? = some (2, 0)) <|
    bnd ((H.D l2 2)) fun x107 =>
    ck (H.sh[p0]? = some (6, 0)) <|
    bT (F_Body_givenMember N p0 x107 H) fun v110 H111 =>
    bC (F_Body_kindAt N p0 v110 H111) fun v114 H115 =>
    bT (F_Body_want N (X_BodyE N 140) p0 v114 H115) fun v117 H118 =>
    rf (H118.P p0 1) fun a120 =>
    ck (H118.sh[a120]? = some (4, 0)) <|
    bC (F_Program_add N a120 (36 : Int32) H118) fun v124 H125 =>
    rf (H125.P p0 1) fun a126 =>
    ck (H125.sh[a126]? = some (4, 0)) <|
    bC (F_Program_add N a126 v110 H125) fun v130 H131 =>
    B_Body_readGiven_189 N p0  H131
set_option maxRecDepth 20000 in
set_option maxHeartbeats 2000000 in
theorem mB_Body_readGiven_133 {N : Nat} {p0 : Nat} {l2 : Nat} {H : Hp} {r : (Ot Unit) × Hp} (hF : B_Body_readGiven_133 N p0 l2 H = some r) : Mo H r.2 := by
  unfold B_Body_readGiven_133 at hF
  have hm := Mo.rf H
  obtain ⟨q132, hG⟩ := ck_s hF; clear hF
  obtain ⟨x133, -, hF⟩ := bnd_g hG; clear hG
  obtain ⟨q134, hG⟩ := ck_s hF; clear hF
  refine bT_c hG (fun x138 H137 z135 er => ?_) (fun v136 H137 z135 hF => ?_)
  · subst er; exact hm.tr (m_Body_givenMember z135)
  clear hG
  replace hm : Mo H H137 := hm.tr (m_Body_givenMember z135)
  obtain ⟨v140, H141, z139, hG⟩ := bC_s hF; clear hF
  replace hm : Mo H H141 := hm.tr ((m_Body_kindAt z139)).mo
  refine bT_c hG (fun x145 H144 z142 er => ?_) (fun v143 H144 z142 hF => ?_)
  · subst er; exact hm.tr (m_Body_want (moX_BodyE 140) z142)
  clear hG
  replace hm : Mo H H144 := hm.tr (m_Body_want (moX_BodyE 140) z142)
  obtain ⟨a146, e147, hG⟩ := rf_s hF; clear hF
  obtain ⟨q148, hF⟩ := ck_s hG; clear hG
  obtain ⟨v150, H151, z149, hG⟩ := bC_s hF; clear hF
  replace hm : Mo H H151 := hm.tr ((m_Program_add z149)).mo
  obtain ⟨a152, e153, hF⟩ := rf_s hG; clear hG
  obtain ⟨q154, hG⟩ := ck_s hF; clear hF
  obtain ⟨v156, H157, z155, hF⟩ := bC_s hG; clear hG
  replace hm : Mo H H157 := hm.tr ((m_Program_add z155)).mo
  exact hm.tr (mB_Body_readGiven_189 hF)
set_option maxRecDepth 20000 in
set_option maxHeartbeats 2000000 in
theorem kB_Body_readGiven_133 {N : Nat} {p0 : Nat} {c0 s0 C Sl : Nat} {l2 : Nat} {H : Hp} {r : (Ot Unit) × Hp} (hF : B_Body_readGiven_133 N p0 l2 H = some r) (hc0 : c0 ≤ H.sh.length) (hs0 : s0 ≤ H.sl) (hcc : H.sh.length ≤ c0 + C) (hss : H.sl ≤ s0 + Sl) (hC : r.2.sh.length ≤ c0 + C) (hS : r.2.sl ≤ s0 + Sl) : ab_V y_Body_readGiven { frames := 570, cells := C, slots := Sl, locals := 13502 } (po (oV r.1) r.2) C Sl (H.sh.length - c0) (H.sl - s0) 133 [some (.ref p0), none, some (.ref l2), none] [] (hpw H) := by
  unfold B_Body_readGiven_133 at hF
  refine ab_aload_n d_Body_readGiven_133 rfl rfl rfl ?_
  refine ab_aload_n d_Body_readGiven_134 rfl rfl rfl ?_
  obtain ⟨q106, hG⟩ := ck_s hF; clear hF
  refine hp_getI (f := 2) d_Body_readGiven_135 q106 (by decide) rfl (by decide) (k2 237 rfl rfl) rfl ?_
  refine ab_topi (fun x107 ex107 => ?_)
  replace hG := bnd_s ex107 hG
  obtain ⟨q108, hF⟩ := ck_s hG; clear hG
  refine bT_c hF (fun x112 H111 z109 er => ?_) (fun v110 H111 z109 hG => ?_)
  · subst er
    have mz : Mo H H111 := (m_Body_givenMember z109)
    have ml := mz.len
    have m2 := mz.2
    have hC9 : H111.sh.length ≤ c0 + C := hC
    have hS9 : H111.sl ≤ s0 + Sl := hS
    refine hp_callV_t (x := x112) (H1 := H111) (As := [.int x107]) (rest := []) d_Body_readGiven_138 (k_Body_givenMember z109 (C := H111.sh.length - H.sh.length) (Sl := H111.sl - H.sl) (by show H111.sh.length ≤ _; omega) (by show H111.sl ≤ _; omega)) (ab_mkC s_Body_givenMember (Nat.le_of_ble_eq_true rfl) (Nat.le_of_ble_eq_true rfl) (show (H.sh.length - c0) + (H111.sh.length - H.sh.length) ≤ C from by omega) (show (H.sl - s0) + (H111.sl - H.sl) ≤ Sl from by omega)) (k6 5 rfl rfl) i_Body_givenMember v_Body_givenMember q108 (by decide) rfl rfl (Nat.le_of_ble_eq_true rfl) ?_
    exact ab_U_out rfl (by show _ + (H111.sh.length - H.sh.length) ≤ C; omega) (by show _ + (H111.sl - H.sl) ≤ Sl; omega) ⟨rfl, rfl⟩
  clear hF
  have mz_45 : Mo H H111 := (m_Body_givenMember z109)
  have b_46l := (mz_45).len
  have b_46s := (mz_45).2
  have b_46c : c0 ≤ H111.sh.length := by omega
  have b_46d : s0 ≤ H111.sl := by omega
  have q_47 := (mz_45).get q106
  have q_48 := (mz_45).get q108
  obtain ⟨v114, H115, z113, hF⟩ := bC_s hG; clear hG
  have jH115 : Mo H111 H115 := ((m_Body_kindAt z113)).mo
  have fH115 : Mo H115 r.2 := by
    have hm := Mo.rf H115
    refine bT_c hF (fun x119 H118 z116 er => ?_) (fun v117 H118 z116 hG => ?_)
    · subst er; exact hm.tr (m_Body_want (moX_BodyE 140) z116)
    clear hF
    replace hm : Mo H115 H118 := hm.tr (m_Body_want (moX_BodyE 140) z116)
    obtain ⟨a120, e121, hF⟩ := rf_s hG; clear hG
    obtain ⟨q122, hG⟩ := ck_s hF; clear hF
    obtain ⟨v124, H125, z123, hF⟩ := bC_s hG; clear hG
    replace hm : Mo H115 H125 := hm.tr ((m_Program_add z123)).mo
    obtain ⟨a126, e127, hG⟩ := rf_s hF; clear hF
    obtain ⟨q128, hF⟩ := ck_s hG; clear hG
    obtain ⟨v130, H131, z129, hG⟩ := bC_s hF; clear hF
    replace hm : Mo H115 H131 := hm.tr ((m_Program_add z129)).mo
    exact hm.tr (mB_Body_readGiven_189 hG)
  have fH111 : Mo H111 r.2 := jH115.tr fH115
  have b_46m := (fH111).len
  have b_46n := (fH111).2
  have b_46p : H111.sh.length ≤ c0 + C := by omega
  have b_46q : H111.sl ≤ s0 + Sl := by omega
  refine hp_callV_a (v := .int v110) (H1 := H111) (As := [.int x107]) (rest := []) d_Body_readGiven_138 (k_Body_givenMember z109 (C := H111.sh.length - H.sh.length) (Sl := H111.sl - H.sl) (by show H111.sh.length ≤ _; omega) (by show H111.sl ≤ _; omega)) (ab_mkC s_Body_givenMember (Nat.le_of_ble_eq_true rfl) (Nat.le_of_ble_eq_true rfl) (show (H.sh.length - c0) + (H111.sh.length - H.sh.length) ≤ C from by omega) (show (H.sl - s0) + (H111.sl - H.sl) ≤ Sl from by omega)) (k6 5 rfl rfl) i_Body_givenMember v_Body_givenMember q108 (by decide) rfl rfl (Nat.le_of_ble_eq_true rfl) ?_
  refine ab_widen (cells' := H111.sh.length - c0) (slots' := H111.sl - s0) (by show _ + (H111.sh.length - H.sh.length) ≤ _; omega) (by show _ + (H111.sl - H.sl) ≤ _; omega) ?_
  clear b_46l b_46s b_46m b_46n
  refine ab_istore_n (lv' := [some (.ref p0), none, some (.ref l2), some (.int v110)]) d_Body_readGiven_141 rfl (by decide) rfl ?_
  refine ab_aload_n d_Body_readGiven_142 rfl rfl rfl ?_
  refine ab_aload_n d_Body_readGiven_143 rfl rfl rfl ?_
  refine ab_iload_n d_Body_readGiven_144 rfl rfl ?_
  refine hp_callV_a (v := .int v114) (H1 := H115) (As := [.int v110]) (rest := [.ref p0]) d_Body_readGiven_145 (k_Body_kindAt z113) (ab_mkC s_Body_kindAt (Nat.le_of_ble_eq_true rfl) (Nat.le_of_ble_eq_true rfl) (show (H111.sh.length - c0) + 0 ≤ C from by omega) (show (H111.sl - s0) + 0 ≤ Sl from by omega)) (k5 205 rfl rfl) i_Body_kindAt v_Body_kindAt q_48 (by decide) rfl rfl (Nat.le_of_ble_eq_true rfl) ?_
  have s_54 : Sa H111 H115 := (m_Body_kindAt z113)
  refine ab_widen (cells' := H111.sh.length - c0) (slots' := H111.sl - s0) (by show (H111.sh.length - c0) + 0 ≤ _; omega) (by show (H111.sl - s0) + 0 ≤ _; omega) ?_
  refine bT_c hF (fun x119 H118 z116 er => ?_) (fun v117 H118 z116 hG => ?_)
  · subst er
    refine ab_widen (cells' := H115.sh.length - c0) (slots' := H115.sl - s0) (by rw [(s_54).1]; exact Nat.le_refl _) (by rw [(s_54).2]; exact Nat.le_refl _) ?_
    have mz : Mo H115 H118 := (m_Body_want (moX_BodyE 140) z116)
    have ml := mz.len
    have m2 := mz.2
    have be := congrArg List.length (s_54).1
    have bfx := (s_54).2
    have hC9 : H118.sh.length ≤ c0 + C := hC
    have hS9 : H118.sl ≤ s0 + Sl := hS
    refine hp_callV_t (x := x119) (H1 := H118) (As := [.int v114]) (rest := []) d_Body_readGiven_148 (k_Body_want (okX_BodyE 140) (moX_BodyE 140) z116 (C := H118.sh.length - H115.sh.length) (Sl := H118.sl - H115.sl) (by show H118.sh.length ≤ _; omega) (by show H118.sl ≤ _; omega)) (ab_mkC s_Body_want (Nat.le_of_ble_eq_true rfl) (Nat.le_of_ble_eq_true rfl) (show (H115.sh.length - c0) + (H118.sh.length - H115.sh.length) ≤ C from by omega) (show (H115.sl - s0) + (H118.sl - H115.sl) ≤ Sl from by omega)) (k5 137 rfl rfl) i_Body_want v_Body_want (by rw [(s_54).1]; exact q_48) (by decide) rfl rfl (Nat.le_of_ble_eq_true rfl) ?_
    exact ab_U_out rfl (by show _ + (H118.sh.length - H115.sh.length) ≤ C; omega) (by show _ + (H118.sl - H115.sl) ≤ Sl; omega) ⟨rfl, rfl⟩
  clear hF
  refine ab_widen (cells' := H115.sh.length - c0) (slots' := H115.sl - s0) (by rw [(s_54).1]; exact Nat.le_refl _) (by rw [(s_54).2]; exact Nat.le_refl _) ?_
  have mz_55 : Mo H115 H118 := (m_Body_want (moX_BodyE 140) z116)
  have b_56l := (mz_55).len
  have b_56s := (mz_55).2
  have b_56e := congrArg List.length (s_54).1
  have b_56f := (s_54).2
  have b_56c : c0 ≤ H118.sh.length := by omega
  have b_56d : s0 ≤ H118.sl := by omega
  have q_57 := (mz_55).get (by rw [(s_54).1]; exact q_47)
  have q_58 := (mz_55).get (by rw [(s_54).1]; exact q_48)
  obtain ⟨a120, e121, hF⟩ := rf_s hG; clear hG
  obtain ⟨q122, hG⟩ := ck_s hF; clear hF
  obtain ⟨v124, H125, z123, hF⟩ := bC_s hG; clear hG
  have jH125 : Mo H118 H125 := ((m_Program_add z123)).mo
  obtain ⟨a126, e127, hG⟩ := rf_s hF; clear hF
  obtain ⟨q128, hF⟩ := ck_s hG; clear hG
  obtain ⟨v130, H131, z129, hG⟩ := bC_s hF; clear hF
  have jH131 : Mo H125 H131 := ((m_Program_add z129)).mo
  have fH131 : Mo H131 r.2 := by
    have hm := Mo.rf H131
    exact hm.tr (mB_Body_readGiven_189 hG)
  have fH125 : Mo H125 r.2 := jH131.tr fH131
  have fH118 : Mo H118 r.2 := jH125.tr fH125
  have b_56m := (fH118).len
  have b_56n := (fH118).2
  have b_56p : H118.sh.length ≤ c0 + C := by omega
  have b_56q : H118.sl ≤ s0 + Sl := by omega
  refine hp_callV_a (v := .int v117) (H1 := H118) (As := [.int v114]) (rest := []) d_Body_readGiven_148 (k_Body_want (okX_BodyE 140) (moX_BodyE 140) z116 (C := H118.sh.length - H115.sh.length) (Sl := H118.sl - H115.sl) (by show H118.sh.length ≤ _; omega) (by show H118.sl ≤ _; omega)) (ab_mkC s_Body_want (Nat.le_of_ble_eq_true rfl) (Nat.le_of_ble_eq_true rfl) (show (H115.sh.length - c0) + (H118.sh.length - H115.sh.length) ≤ C from by omega) (show (H115.sl - s0) + (H118.sl - H115.sl) ≤ Sl from by omega)) (k5 137 rfl rfl) i_Body_want v_Body_want (by rw [(s_54).1]; exact q_48) (by decide) rfl rfl (Nat.le_of_ble_eq_true rfl) ?_
  refine ab_widen (cells' := H118.sh.length - c0) (slots' := H118.sl - s0) (by show _ + (H118.sh.length - H115.sh.length) ≤ _; omega) (by show _ + (H118.sl - H115.sl) ≤ _; omega) ?_
  clear b_56l b_56s b_56m b_56n b_56e b_56f b_46c b_46d b_46p b_46q
  refine ab_pop d_Body_readGiven_151 rfl ?_
  refine ab_aload_n d_Body_readGiven_152 rfl rfl rfl ?_
  refine hp_getR (f := 1) d_Body_readGiven_153 q_58 (by decide) rfl (by decide) (k1 158 rfl rfl) rfl e121 ?_
  refine ab_bipush (v := 36) d_Body_readGiven_156 (by decide) ?_
  refine hp_callV_a (v := .int v124) (H1 := H125) (As := [.int 36]) (rest := []) d_Body_readGiven_158 (k_Program_add z123) (ab_mkC s_Program_add (Nat.le_of_ble_eq_true rfl) (Nat.le_of_ble_eq_true rfl) (show (H118.sh.length - c0) + 0 ≤ C from by omega) (show (H118.sl - s0) + 0 ≤ Sl from by omega)) (k5 117 rfl rfl) i_Program_add v_Program_add q122 (by decide) rfl rfl (Nat.le_of_ble_eq_true rfl) ?_
  have s_62 : Sa H118 H125 := (m_Program_add z123)
  refine ab_widen (cells' := H118.sh.length - c0) (slots' := H118.sl - s0) (by show (H118.sh.length - c0) + 0 ≤ _; omega) (by show (H118.sl - s0) + 0 ≤ _; omega) ?_
  refine ab_pop d_Body_readGiven_161 rfl ?_
  refine ab_aload_n d_Body_readGiven_162 rfl rfl rfl ?_
  refine hp_getR (f := 1) d_Body_readGiven_163 (by rw [(s_62).1]; exact q_58) (by decide) rfl (by decide) (k1 158 rfl rfl) rfl e127 ?_
  refine ab_iload_n d_Body_readGiven_166 rfl rfl ?_
  rw [(s_62).1] at q128
  refine ab_widen (cells' := H125.sh.length - c0) (slots' := H125.sl - s0) (by rw [(s_62).1]; exact Nat.le_refl _) (by rw [(s_62).2]; exact Nat.le_refl _) ?_
  have b_63e := congrArg List.length (s_62).1
  have b_63f := (s_62).2
  refine hp_callV_a (v := .int v130) (H1 := H131) (As := [.int v110]) (rest := []) d_Body_readGiven_167 (k_Program_add z129) (ab_mkC s_Program_add (Nat.le_of_ble_eq_true rfl) (Nat.le_of_ble_eq_true rfl) (show (H125.sh.length - c0) + 0 ≤ C from by omega) (show (H125.sl - s0) + 0 ≤ Sl from by omega)) (k5 117 rfl rfl) i_Program_add v_Program_add (by rw [(s_62).1]; exact q128) (by decide) rfl rfl (Nat.le_of_ble_eq_true rfl) ?_
  have s_64 : Sa H118 H131 := (s_62).tr (m_Program_add z129)
  refine ab_widen (cells' := H118.sh.length - c0) (slots' := H118.sl - s0) (by show (H125.sh.length - c0) + 0 ≤ _; omega) (by show (H125.sl - s0) + 0 ≤ _; omega) ?_
  clear b_63e b_63f
  refine ab_pop d_Body_readGiven_170 rfl ?_
  refine ab_goto (tgt := 189) d_Body_readGiven_171 (by decide) ?_
  refine ab_le (lv' := [some (.ref p0), none, none, none]) ⟨rfl, trivial⟩ ?_
  refine ab_widen (cells' := H131.sh.length - c0) (slots' := H131.sl - s0) (by rw [(s_64).1]; exact Nat.le_refl _) (by rw [(s_64).2]; exact Nat.le_refl _) ?_
  exact kB_Body_readGiven_189 hG (by rw [(s_64).1]; exact b_56c) (by rw [(s_64).2]; exact b_56d) (by rw [(s_64).1]; exact b_56p) (by rw [(s_64).2]; exact b_56q) hC hS
def B_Body_readGiven_124 (N : Nat) (p0 : Nat) (l1 : Int32) (l2 : Nat) (H : Hp) : Option ((Ot Unit) × Hp) :=
    ck (H.sh[p0]? = some (6, 0)) <|
    rf (H.P p0 0) fun a99 =>
    ck (H.sh[a99]? = some (1, 0)) <|
    bT (F_Lexer_refuse N a99 (5 : Int32) l1 H) fun v103 H104 =>
    B_Body_readGiven_133 N p0 l2 H104
set_option maxRecDepth 20000 in
set_option maxHeartbeats 2000000 in
theorem mB_Body_readGiven_124 {N : Nat} {p0 : Nat} {l1 : Int32} {l2 : Nat} {H : Hp} {r : (Ot Unit) × Hp} (hF : B_Body_readGiven_124 N p0 l1 l2 H = some r) : Mo H r.2 := by
  unfold B_Body_readGiven_124 at hF
  have hm := Mo.rf H
  obtain ⟨q106, hG⟩ := ck_s hF; clear hF
  obtain ⟨a107, e108, hF⟩ := rf_s hG; clear hG
  obtain ⟨q109, hG⟩ := ck_s hF; clear hF
  refine bT_c hG (fun x113 H112 z110 er => ?_) (fun v111 H112 z110 hF => ?_)
  · subst er; exact hm.tr (m_Lexer_refuse z110)
  clear hG
  replace hm : Mo H H112 := hm.tr (m_Lexer_refuse z110)
  exact hm.tr (mB_Body_readGiven_133 hF)
set_option maxRecDepth 20000 in
set_option maxHeartbeats 2000000 in
theorem kB_Body_readGiven_124 {N : Nat} {p0 : Nat} {c0 s0 C Sl : Nat} {l1 : Int32} {l2 : Nat} {H : Hp} {r : (Ot Unit) × Hp} (hF : B_Body_readGiven_124 N p0 l1 l2 H = some r) (hc0 : c0 ≤ H.sh.length) (hs0 : s0 ≤ H.sl) (hcc : H.sh.length ≤ c0 + C) (hss : H.sl ≤ s0 + Sl) (hC : r.2.sh.length ≤ c0 + C) (hS : r.2.sl ≤ s0 + Sl) : ab_V y_Body_readGiven { frames := 570, cells := C, slots := Sl, locals := 13502 } (po (oV r.1) r.2) C Sl (H.sh.length - c0) (H.sl - s0) 124 [some (.ref p0), some (.int l1), some (.ref l2), none] [] (hpw H) := by
  unfold B_Body_readGiven_124 at hF
  refine ab_aload_n d_Body_readGiven_124 rfl rfl rfl ?_
  obtain ⟨q98, hG⟩ := ck_s hF; clear hF
  obtain ⟨a99, e100, hF⟩ := rf_s hG; clear hG
  refine hp_getR (f := 0) d_Body_readGiven_125 q98 (by decide) rfl (by decide) (k1 157 rfl rfl) rfl e100 ?_
  refine ab_iconst (v := 5) d_Body_readGiven_128 (by decide) ?_
  refine ab_iload_n d_Body_readGiven_129 rfl rfl ?_
  obtain ⟨q101, hG⟩ := ck_s hF; clear hF
  refine bT_c hG (fun x105 H104 z102 er => ?_) (fun v103 H104 z102 hF => ?_)
  · subst er
    have mz : Mo H H104 := (m_Lexer_refuse z102)
    have ml := mz.len
    have m2 := mz.2
    have hC9 : H104.sh.length ≤ c0 + C := hC
    have hS9 : H104.sl ≤ s0 + Sl := hS
    refine hp_callV_t (x := x105) (H1 := H104) (As := [.int 5, .int l1]) (rest := []) d_Body_readGiven_130 (k_Lexer_refuse z102 (C := H104.sh.length - H.sh.length) (Sl := H104.sl - H.sl) (by show H104.sh.length ≤ _; omega) (by show H104.sl ≤ _; omega)) (ab_mkC s_Lexer_refuse (Nat.le_of_ble_eq_true rfl) (Nat.le_of_ble_eq_true rfl) (show (H.sh.length - c0) + (H104.sh.length - H.sh.length) ≤ C from by omega) (show (H.sl - s0) + (H104.sl - H.sl) ≤ Sl from by omega)) (k5 135 rfl rfl) i_Lexer_refuse v_Lexer_refuse q101 (by decide) rfl rfl (Nat.le_of_ble_eq_true rfl) ?_
    exact ab_U_out rfl (by show _ + (H104.sh.length - H.sh.length) ≤ C; omega) (by show _ + (H104.sl - H.sl) ≤ Sl; omega) ⟨rfl, rfl⟩
  clear hG
  have mz_41 : Mo H H104 := (m_Lexer_refuse z102)
  have b_42l := (mz_41).len
  have b_42s := (mz_41).2
  have b_42c : c0 ≤ H104.sh.length := by omega
  have b_42d : s0 ≤ H104.sl := by omega
  have q_43 := (mz_41).get q98
  have q_44 := (mz_41).get q101
  have fH104 : Mo H104 r.2 := by
    have hm := Mo.rf H104
    exact hm.tr (mB_Body_readGiven_133 hF)
  have b_42m := (fH104).len
  have b_42n := (fH104).2
  have b_42p : H104.sh.length ≤ c0 + C := by omega
  have b_42q : H104.sl ≤ s0 + Sl := by omega
  refine hp_callV_v (H1 := H104) (As := [.int 5, .int l1]) (rest := []) d_Body_readGiven_130 (k_Lexer_refuse z102 (C := H104.sh.length - H.sh.length) (Sl := H104.sl - H.sl) (by show H104.sh.length ≤ _; omega) (by show H104.sl ≤ _; omega)) (ab_mkC s_Lexer_refuse (Nat.le_of_ble_eq_true rfl) (Nat.le_of_ble_eq_true rfl) (show (H.sh.length - c0) + (H104.sh.length - H.sh.length) ≤ C from by omega) (show (H.sl - s0) + (H104.sl - H.sl) ≤ Sl from by omega)) (k5 135 rfl rfl) i_Lexer_refuse v_Lexer_refuse q101 (by decide) rfl rfl (Nat.le_of_ble_eq_true rfl) ?_
  refine ab_widen (cells' := H104.sh.length - c0) (slots' := H104.sl - s0) (by show _ + (H104.sh.length - H.sh.length) ≤ _; omega) (by show _ + (H104.sl - H.sl) ≤ _; omega) ?_
  clear b_42l b_42s b_42m b_42n
  refine ab_le (lv' := [some (.ref p0), none, some (.ref l2), none]) ⟨rfl, ⟨rfl, trivial⟩⟩ ?_
  exact kB_Body_readGiven_133 hF b_42c b_42d b_42p b_42q hC hS
def F_Body_readGiven (N : Nat) (p0 : Nat) (H : Hp) : Option ((Ot Unit) × Hp) :=
    ck (H.sh[p0]? = some (6, 0)) <|
    rf (H.P p0 0) fun a2 =>
    ck (H.sh[a2]? = some (1, 0)) <|
    bnd ((H.D a2 3)) fun x5 =>
    bT (F_Body_knownHere N p0 H) fun v7 H8 =>
    on v7 fun a10 =>
    rf (H8.P p0 0) fun a11 =>
    ck (H8.sh[a11]? = some (1, 0)) <|
    bnd ((H8.D a11 2)) fun x14 =>
    if x14 = (17 : Int32) then
    ck (H8.sh[a10]? = some (2, 0)) <|
    bnd ((H8.D a10 1)) fun x48 =>
    if x48 = (5 : Int32) then
    B_Body_readGiven_42 N p0 a10 H8
    else
    rf (H8.P p0 0) fun a50 =>
    ck (H8.sh[a50]? = some (1, 0)) <|
    bT (F_Lexer_refuse N a50 (5 : Int32) x5 H8) fun v54 H55 =>
    B_Body_readGiven_42 N p0 a10 H55
    else
    rf (H8.P p0 0) fun a16 =>
    ck (H8.sh[a16]? = some (1, 0)) <|
    bnd ((H8.D a16 2)) fun x19 =>
    if x19 = (16 : Int32) then
    ck (H8.sh[a10]? = some (2, 0)) <|
    bnd ((H8.D a10 1)) fun x33 =>
    if x33 = (0 : Int32) then
    rf (H8.P p0 1) fun a35 =>
    ck (H8.sh[a35]? = some (4, 0)) <|
    rf (H8.P a35 11) fun a38 =>
    bnd ((H8.D p0 2)) fun x40 =>
    ar H8 100 a38 fun n41 =>
    ck (inb x40 n41) <|
    bnd ((H8.D a38 (x40).toNatClampNeg)) fun x44 =>
    bnd ((H8.D a10 2)) fun x45 =>
    if ((x44 >>> (x45 &&& 31)) &&& (1 : Int32)) = (0 : Int32) then
    B_Body_readGiven_124 N p0 x5 a10 H8
    else
    B_Body_readGiven_133 N p0 a10 H8
    else
    B_Body_readGiven_124 N p0 x5 a10 H8
    else
    rf (H8.P p0 0) fun a21 =>
    rf (H8.P p0 0) fun a23 =>
    ck (H8.sh[a23]? = some (1, 0)) <|
    bnd ((H8.D a23 3)) fun x26 =>
    ck (H8.sh[a21]? = some (1, 0)) <|
    bT (F_Lexer_refuse N a21 (1 : Int32) x26 H8) fun v29 H30 =>
    B_Body_readGiven_189 N p0  H30
set_option maxRecDepth 20000 in
set_option maxHeartbeats 2000000 in
theorem m_Body_readGiven {N : Nat} {p0 : Nat} {H : Hp} {r : (Ot Unit) × Hp} (hF : F_Body_readGiven N p0 H = some r) : Mo H r.2 := by
  unfold F_Body_readGiven at hF
  have hm := Mo.rf H
  obtain ⟨q57, hG⟩ := ck_s hF; clear hF
  obtain ⟨a58, e59, hF⟩ := rf_s hG; clear hG
  obtain ⟨q60, hG⟩ := ck_s hF; clear hF
  obtain ⟨x61, -, hF⟩ := bnd_g hG; clear hG
  refine bT_c hF (fun x65 H64 z62 er => ?_) (fun v63 H64 z62 hG => ?_)
  · subst er; exact hm.tr (m_Body_knownHere z62)
  clear hF
  replace hm : Mo H H64 := hm.tr (m_Body_knownHere z62)
  obtain ⟨a66, ea66, hF⟩ := on_s hG; clear hG
  subst ea66
  obtain ⟨a67, e68, hG⟩ := rf_s hF; clear hF
  obtain ⟨q69, hF⟩ := ck_s hG; clear hG
  obtain ⟨x70, -, hG⟩ := bnd_g hF; clear hF
  rcases ite_s hG with ⟨q_99, hF⟩ | ⟨q_99, hF⟩
  · clear hG
    obtain ⟨q72, hG⟩ := ck_s hF; clear hF
    obtain ⟨x73, -, hF⟩ := bnd_g hG; clear hG
    rcases ite_s hF with ⟨q_100, hG⟩ | ⟨q_100, hG⟩
    · clear hF
      exact hm.tr (mB_Body_readGiven_42 hG)
    · clear hF
      obtain ⟨a75, e76, hF⟩ := rf_s hG; clear hG
      obtain ⟨q77, hG⟩ := ck_s hF; clear hF
      refine bT_c hG (fun x81 H80 z78 er => ?_) (fun v79 H80 z78 hF => ?_)
      · subst er; exact hm.tr (m_Lexer_refuse z78)
      clear hG
      replace hm : Mo H H80 := hm.tr (m_Lexer_refuse z78)
      exact hm.tr (mB_Body_readGiven_42 hF)
  · clear hG
    obtain ⟨a82, e83, hG⟩ := rf_s hF; clear hF
    obtain ⟨q84, hF⟩ := ck_s hG; clear hG
    obtain ⟨x85, -, hG⟩ := bnd_g hF; clear hF
    rcases ite_s hG with ⟨q_107, hF⟩ | ⟨q_107, hF⟩
    · clear hG
      obtain ⟨q87, hG⟩ := ck_s hF; clear hF
      obtain ⟨x88, -, hF⟩ := bnd_g hG; clear hG
      rcases ite_s hF with ⟨q_108, hG⟩ | ⟨q_108, hG⟩
      · clear hF
        obtain ⟨a90, e91, hF⟩ := rf_s hG; clear hG
        obtain ⟨q92, hG⟩ := ck_s hF; clear hF
        obtain ⟨a93, e94, hF⟩ := rf_s hG; clear hG
        obtain ⟨x95, -, hG⟩ := bnd_g hF; clear hF
        obtain ⟨n96, q97, hF⟩ := ar_s hG; clear hG
        obtain ⟨q98, hG⟩ := ck_s hF; clear hF
        obtain ⟨x99, -, hF⟩ := bnd_g hG; clear hG
        obtain ⟨x100, -, hG⟩ := bnd_g hF; clear hF
        rcases ite_s hG with ⟨q_109, hF⟩ | ⟨q_109, hF⟩
        · clear hG
          exact hm.tr (mB_Body_readGiven_124 hF)
        · clear hG
          exact hm.tr (mB_Body_readGiven_133 hF)
      · clear hF
        exact hm.tr (mB_Body_readGiven_124 hG)
    · clear hG
      obtain ⟨a102, e103, hG⟩ := rf_s hF; clear hF
      obtain ⟨a104, e105, hF⟩ := rf_s hG; clear hG
      obtain ⟨q106, hG⟩ := ck_s hF; clear hF
      obtain ⟨x107, -, hF⟩ := bnd_g hG; clear hG
      obtain ⟨q108, hG⟩ := ck_s hF; clear hF
      refine bT_c hG (fun x112 H111 z109 er => ?_) (fun v110 H111 z109 hF => ?_)
      · subst er; exact hm.tr (m_Lexer_refuse z109)
      clear hG
      replace hm : Mo H H111 := hm.tr (m_Lexer_refuse z109)
      exact hm.tr (mB_Body_readGiven_189 hF)
set_option maxRecDepth 20000 in
set_option maxHeartbeats 2000000 in
theorem k_Body_readGiven {N : Nat} {p0 : Nat} {H : Hp} {r : (Ot Unit) × Hp} {C Sl : Nat} (hF : F_Body_readGiven N p0 H = some r) (hC : r.2.sh.length ≤ H.sh.length + C) (hS : r.2.sl ≤ H.sl + Sl) : ab_M y_Body_readGiven { frames := 570, cells := C, slots := Sl, locals := 13502 } [.ref p0] (hpw H) (po (oV r.1) r.2) := by
  unfold F_Body_readGiven at hF
  obtain ⟨c0, e0⟩ : ∃ q, q = H.sh.length := ⟨_, rfl⟩
  obtain ⟨s0, e1⟩ : ∃ q, q = H.sl := ⟨_, rfl⟩
  rw [← e0] at hC
  rw [← e1] at hS
  have hc0 : c0 ≤ H.sh.length := Nat.le_of_eq e0
  have hs0 : s0 ≤ H.sl := Nat.le_of_eq e1
  have hcc : H.sh.length ≤ c0 + C := by omega
  have hss : H.sl ≤ s0 + Sl := by omega
  refine ab_of2 (lv := [some (.ref p0), none, none, none]) 3 rfl rfl (Nat.le_of_ble_eq_true rfl) ?_
  refine ab_widen (cells' := H.sh.length - c0) (slots' := H.sl - s0) (Nat.zero_le _) (Nat.zero_le _) ?_
  refine ab_aload_n d_Body_readGiven_0 rfl rfl rfl ?_
  obtain ⟨q1, hG⟩ := ck_s hF; clear hF
  obtain ⟨a2, e3, hF⟩ := rf_s hG; clear hG
  refine hp_getR (f := 0) d_Body_readGiven_1 q1 (by decide) rfl (by decide) (k1 157 rfl rfl) rfl e3 ?_
  obtain ⟨q4, hG⟩ := ck_s hF; clear hF
  refine hp_getI (f := 3) d_Body_readGiven_4 q4 (by decide) rfl (by decide) (k1 103 rfl rfl) rfl ?_
  refine ab_topi (fun x5 ex5 => ?_)
  replace hG := bnd_s ex5 hG
  refine ab_istore_n (lv' := [some (.ref p0), some (.int x5), none, none]) d_Body_readGiven_7 rfl (by decide) rfl ?_
  refine ab_aload_n d_Body_readGiven_8 rfl rfl rfl ?_
  refine bT_c hG (fun x9 H8 z6 er => ?_) (fun v7 H8 z6 hF => ?_)
  · subst er
    have mz : Mo H H8 := (m_Body_knownHere z6)
    have ml := mz.len
    have m2 := mz.2
    have hC9 : H8.sh.length ≤ c0 + C := hC
    have hS9 : H8.sl ≤ s0 + Sl := hS
    refine hp_callV_t (x := x9) (H1 := H8) (As := []) (rest := []) d_Body_readGiven_9 (k_Body_knownHere z6 (C := H8.sh.length - H.sh.length) (Sl := H8.sl - H.sl) (by show H8.sh.length ≤ _; omega) (by show H8.sl ≤ _; omega)) (ab_mkC s_Body_knownHere (Nat.le_of_ble_eq_true rfl) (Nat.le_of_ble_eq_true rfl) (show (H.sh.length - c0) + (H8.sh.length - H.sh.length) ≤ C from by omega) (show (H.sl - s0) + (H8.sl - H.sl) ≤ Sl from by omega)) (k5 181 rfl rfl) i_Body_knownHere v_Body_knownHere q1 (by decide) rfl rfl (Nat.le_of_ble_eq_true rfl) ?_
    exact ab_U_out rfl (by show _ + (H8.sh.length - H.sh.length) ≤ C; omega) (by show _ + (H8.sl - H.sl) ≤ Sl; omega) ⟨rfl, rfl⟩
  clear hG
  have mz_1 : Mo H H8 := (m_Body_knownHere z6)
  have b_2l := (mz_1).len
  have b_2s := (mz_1).2
  have b_2c : c0 ≤ H8.sh.length := by omega
  have b_2d : s0 ≤ H8.sl := by omega
  have q_3 := (mz_1).get q1
  have q_4 := (mz_1).get q4
  have mf_5 : Mo H8 r.2 := by
    have hm := Mo.rf H8
    obtain ⟨a10, ea10, hG⟩ := on_s hF; clear hF
    subst ea10
    obtain ⟨a11, e12, hF⟩ := rf_s hG; clear hG
    obtain ⟨q13, hG⟩ := ck_s hF; clear hF
    obtain ⟨x14, -, hF⟩ := bnd_g hG; clear hG
    rcases ite_s hF with ⟨q_6, hG⟩ | ⟨q_6, hG⟩
    · clear hF
      obtain ⟨q16, hF⟩ := ck_s hG; clear hG
      obtain ⟨x17, -, hG⟩ := bnd_g hF; clear hF
      rcases ite_s hG with ⟨q_7, hF⟩ | ⟨q_7, hF⟩
      · clear hG
        exact hm.tr (mB_Body_readGiven_42 hF)
      · clear hG
        obtain ⟨a71, e72, hG⟩ := rf_s hF; clear hF
        obtain ⟨q73, hF⟩ := ck_s hG; clear hG
        refine bT_c hF (fun x77 H76 z74 er => ?_) (fun v75 H76 z74 hG => ?_)
        · subst er; exact hm.tr (m_Lexer_refuse z74)
        clear hF
        replace hm : Mo H8 H76 := hm.tr (m_Lexer_refuse z74)
        exact hm.tr (mB_Body_readGiven_42 hG)
    · clear hF
      obtain ⟨a78, e79, hF⟩ := rf_s hG; clear hG
      obtain ⟨q80, hG⟩ := ck_s hF; clear hF
      obtain ⟨x81, -, hF⟩ := bnd_g hG; clear hG
      rcases ite_s hF with ⟨q_38, hG⟩ | ⟨q_38, hG⟩
      · clear hF
        obtain ⟨q83, hF⟩ := ck_s hG; clear hG
        obtain ⟨x84, -, hG⟩ := bnd_g hF; clear hF
        rcases ite_s hG with ⟨q_39, hF⟩ | ⟨q_39, hF⟩
        · clear hG
          obtain ⟨a86, e87, hG⟩ := rf_s hF; clear hF
          obtain ⟨q88, hF⟩ := ck_s hG; clear hG
          obtain ⟨a89, e90, hG⟩ := rf_s hF; clear hF
          obtain ⟨x91, -, hF⟩ := bnd_g hG; clear hG
          obtain ⟨n92, q93, hG⟩ := ar_s hF; clear hF
          obtain ⟨q94, hF⟩ := ck_s hG; clear hG
          obtain ⟨x95, -, hG⟩ := bnd_g hF; clear hF
          obtain ⟨x96, -, hF⟩ := bnd_g hG; clear hG
          rcases ite_s hF with ⟨q_40, hG⟩ | ⟨q_40, hG⟩
          · clear hF
            exact hm.tr (mB_Body_readGiven_124 hG)
          · clear hF
            exact hm.tr (mB_Body_readGiven_133 hG)
        · clear hG
          exact hm.tr (mB_Body_readGiven_124 hF)
      · clear hF
        obtain ⟨a114, e115, hF⟩ := rf_s hG; clear hG
        obtain ⟨a116, e117, hG⟩ := rf_s hF; clear hF
        obtain ⟨q118, hF⟩ := ck_s hG; clear hG
        obtain ⟨x119, -, hG⟩ := bnd_g hF; clear hF
        obtain ⟨q120, hF⟩ := ck_s hG; clear hG
        refine bT_c hF (fun x124 H123 z121 er => ?_) (fun v122 H123 z121 hG => ?_)
        · subst er; exact hm.tr (m_Lexer_refuse z121)
        clear hF
        replace hm : Mo H8 H123 := hm.tr (m_Lexer_refuse z121)
        exact hm.tr (mB_Body_readGiven_189 hG)
  have b_2m := (mf_5).len
  have b_2n := (mf_5).2
  have b_2p : H8.sh.length ≤ c0 + C := by omega
  have b_2q : H8.sl ≤ s0 + Sl := by omega
  refine hp_callV_a (v := ab_rf v7) (H1 := H8) (As := []) (rest := []) d_Body_readGiven_9 (k_Body_knownHere z6 (C := H8.sh.length - H.sh.length) (Sl := H8.sl - H.sl) (by show H8.sh.length ≤ _; omega) (by show H8.sl ≤ _; omega)) (ab_mkC s_Body_knownHere (Nat.le_of_ble_eq_true rfl) (Nat.le_of_ble_eq_true rfl) (show (H.sh.length - c0) + (H8.sh.length - H.sh.length) ≤ C from by omega) (show (H.sl - s0) + (H8.sl - H.sl) ≤ Sl from by omega)) (k5 181 rfl rfl) i_Body_knownHere v_Body_knownHere q1 (by decide) rfl rfl (Nat.le_of_ble_eq_true rfl) ?_
  refine ab_widen (cells' := H8.sh.length - c0) (slots' := H8.sl - s0) (by show _ + (H8.sh.length - H.sh.length) ≤ _; omega) (by show _ + (H8.sl - H.sl) ≤ _; omega) ?_
  clear b_2l b_2s b_2m b_2n
  obtain ⟨a10, ea10, hG⟩ := on_s hF; clear hF
  subst ea10
  refine ab_astore_n (lv' := [some (.ref p0), some (.int x5), some (.ref a10), none]) d_Body_readGiven_12 rfl (by decide) rfl rfl ?_
  refine ab_aload_n d_Body_readGiven_13 rfl rfl rfl ?_
  obtain ⟨a11, e12, hF⟩ := rf_s hG; clear hG
  refine hp_getR (f := 0) d_Body_readGiven_14 q_3 (by decide) rfl (by decide) (k1 157 rfl rfl) rfl e12 ?_
  obtain ⟨q13, hG⟩ := ck_s hF; clear hF
  refine hp_getI (f := 2) d_Body_readGiven_17 q13 (by decide) rfl (by decide) (k1 99 rfl rfl) rfl ?_
  refine ab_topi (fun x14 ex14 => ?_)
  replace hG := bnd_s ex14 hG
  refine ab_bipush (v := 17) d_Body_readGiven_20 (by decide) ?_
  refine ab_icmp_ne (tgt := 83) d_Body_readGiven_22 (by decide) (fun q15 => ?_) (fun q15 => ?_)
  · rw [if_neg q15] at hG
    refine ab_aload_n d_Body_readGiven_83 rfl rfl rfl ?_
    obtain ⟨a16, e17, hF⟩ := rf_s hG; clear hG
    refine hp_getR (f := 0) d_Body_readGiven_84 q_3 (by decide) rfl (by decide) (k1 157 rfl rfl) rfl e17 ?_
    obtain ⟨q18, hG⟩ := ck_s hF; clear hF
    refine hp_getI (f := 2) d_Body_readGiven_87 q18 (by decide) rfl (by decide) (k1 99 rfl rfl) rfl ?_
    refine ab_topi (fun x19 ex19 => ?_)
    replace hG := bnd_s ex19 hG
    refine ab_bipush (v := 16) d_Body_readGiven_90 (by decide) ?_
    refine ab_icmp_ne (tgt := 174) d_Body_readGiven_92 (by decide) (fun q20 => ?_) (fun q20 => ?_)
    · rw [if_neg q20] at hG
      refine ab_aload_n d_Body_readGiven_174 rfl rfl rfl ?_
      obtain ⟨a21, e22, hF⟩ := rf_s hG; clear hG
      refine hp_getR (f := 0) d_Body_readGiven_175 q_3 (by decide) rfl (by decide) (k1 157 rfl rfl) rfl e22 ?_
      refine ab_iconst (v := 1) d_Body_readGiven_178 (by decide) ?_
      refine ab_aload_n d_Body_readGiven_179 rfl rfl rfl ?_
      obtain ⟨a23, e24, hG⟩ := rf_s hF; clear hF
      refine hp_getR (f := 0) d_Body_readGiven_180 q_3 (by decide) rfl (by decide) (k1 157 rfl rfl) rfl e24 ?_
      obtain ⟨q25, hF⟩ := ck_s hG; clear hG
      refine hp_getI (f := 3) d_Body_readGiven_183 q25 (by decide) rfl (by decide) (k1 103 rfl rfl) rfl ?_
      refine ab_topi (fun x26 ex26 => ?_)
      replace hF := bnd_s ex26 hF
      obtain ⟨q27, hG⟩ := ck_s hF; clear hF
      refine bT_c hG (fun x31 H30 z28 er => ?_) (fun v29 H30 z28 hF => ?_)
      · subst er
        have mz : Mo H8 H30 := (m_Lexer_refuse z28)
        have ml := mz.len
        have m2 := mz.2
        have hC9 : H30.sh.length ≤ c0 + C := hC
        have hS9 : H30.sl ≤ s0 + Sl := hS
        refine hp_callV_t (x := x31) (H1 := H30) (As := [.int 1, .int x26]) (rest := []) d_Body_readGiven_186 (k_Lexer_refuse z28 (C := H30.sh.length - H8.sh.length) (Sl := H30.sl - H8.sl) (by show H30.sh.length ≤ _; omega) (by show H30.sl ≤ _; omega)) (ab_mkC s_Lexer_refuse (Nat.le_of_ble_eq_true rfl) (Nat.le_of_ble_eq_true rfl) (show (H8.sh.length - c0) + (H30.sh.length - H8.sh.length) ≤ C from by omega) (show (H8.sl - s0) + (H30.sl - H8.sl) ≤ Sl from by omega)) (k5 135 rfl rfl) i_Lexer_refuse v_Lexer_refuse q27 (by decide) rfl rfl (Nat.le_of_ble_eq_true rfl) ?_
        exact ab_U_out rfl (by show _ + (H30.sh.length - H8.sh.length) ≤ C; omega) (by show _ + (H30.sl - H8.sl) ≤ Sl; omega) ⟨rfl, rfl⟩
      clear hG
      have mz_81 : Mo H8 H30 := (m_Lexer_refuse z28)
      have b_82l := (mz_81).len
      have b_82s := (mz_81).2
      have b_82c : c0 ≤ H30.sh.length := by omega
      have b_82d : s0 ≤ H30.sl := by omega
      have q_83 := (mz_81).get q_3
      have q_84 := (mz_81).get q_4
      have q_85 := (mz_81).get q13
      have q_86 := (mz_81).get q18
      have q_87 := (mz_81).get q25
      have q_88 := (mz_81).get q27
      have fH30 : Mo H30 r.2 := by
        have hm := Mo.rf H30
        exact hm.tr (mB_Body_readGiven_189 hF)
      have b_82m := (fH30).len
      have b_82n := (fH30).2
      have b_82p : H30.sh.length ≤ c0 + C := by omega
      have b_82q : H30.sl ≤ s0 + Sl := by omega
      refine hp_callV_v (H1 := H30) (As := [.int 1, .int x26]) (rest := []) d_Body_readGiven_186 (k_Lexer_refuse z28 (C := H30.sh.length - H8.sh.length) (Sl := H30.sl - H8.sl) (by show H30.sh.length ≤ _; omega) (by show H30.sl ≤ _; omega)) (ab_mkC s_Lexer_refuse (Nat.le_of_ble_eq_true rfl) (Nat.le_of_ble_eq_true rfl) (show (H8.sh.length - c0) + (H30.sh.length - H8.sh.length) ≤ C from by omega) (show (H8.sl - s0) + (H30.sl - H8.sl) ≤ Sl from by omega)) (k5 135 rfl rfl) i_Lexer_refuse v_Lexer_refuse q27 (by decide) rfl rfl (Nat.le_of_ble_eq_true rfl) ?_
      refine ab_widen (cells' := H30.sh.length - c0) (slots' := H30.sl - s0) (by show _ + (H30.sh.length - H8.sh.length) ≤ _; omega) (by show _ + (H30.sl - H8.sl) ≤ _; omega) ?_
      clear b_82l b_82s b_82m b_82n b_2c b_2d b_2p b_2q
      refine ab_le (lv' := [some (.ref p0), none, none, none]) ⟨rfl, trivial⟩ ?_
      exact kB_Body_readGiven_189 hF b_82c b_82d b_82p b_82q hC hS
    · rw [if_pos q20] at hG
      refine ab_aload_n d_Body_readGiven_95 rfl rfl rfl ?_
      obtain ⟨q32, hF⟩ := ck_s hG; clear hG
      refine hp_getI (f := 1) d_Body_readGiven_96 q32 (by decide) rfl (by decide) (k2 234 rfl rfl) rfl ?_
      refine ab_topi (fun x33 ex33 => ?_)
      replace hF := bnd_s ex33 hF
      refine ab_if_ne (tgt := 124) d_Body_readGiven_99 (by decide) (fun q34 => ?_) (fun q34 => ?_)
      · rw [if_neg q34] at hF
        exact kB_Body_readGiven_124 hF b_2c b_2d b_2p b_2q hC hS
      · rw [if_pos q34] at hF
        refine ab_aload_n d_Body_readGiven_102 rfl rfl rfl ?_
        obtain ⟨a35, e36, hG⟩ := rf_s hF; clear hF
        refine hp_getR (f := 1) d_Body_readGiven_103 q_3 (by decide) rfl (by decide) (k1 158 rfl rfl) rfl e36 ?_
        obtain ⟨q37, hF⟩ := ck_s hG; clear hG
        obtain ⟨a38, e39, hG⟩ := rf_s hF; clear hF
        refine hp_getR (f := 11) d_Body_readGiven_106 q37 (by decide) rfl (by decide) (k3 97 rfl rfl) rfl e39 ?_
        refine ab_aload_n d_Body_readGiven_109 rfl rfl rfl ?_
        refine hp_getI (f := 2) d_Body_readGiven_110 q_3 (by decide) rfl (by decide) (k1 159 rfl rfl) rfl ?_
        refine ab_topi (fun x40 ex40 => ?_)
        replace hG := bnd_s ex40 hG
        obtain ⟨n41, q42, hF⟩ := ar_s hG; clear hG
        obtain ⟨q43, hG⟩ := ck_s hF; clear hF
        refine hp_iald d_Body_readGiven_113 tI q42 q43 ?_
        refine ab_topi (fun x44 ex44 => ?_)
        replace hG := bnd_s ex44 hG
        refine ab_aload_n d_Body_readGiven_114 rfl rfl rfl ?_
        refine hp_getI (f := 2) d_Body_readGiven_115 q32 (by decide) rfl (by decide) (k2 237 rfl rfl) rfl ?_
        refine ab_topi (fun x45 ex45 => ?_)
        replace hG := bnd_s ex45 hG
        refine ab_ishr d_Body_readGiven_118 ?_
        refine ab_iconst (v := 1) d_Body_readGiven_119 (by decide) ?_
        refine ab_iand d_Body_readGiven_120 ?_
        refine ab_if_ne (tgt := 133) d_Body_readGiven_121 (by decide) (fun q46 => ?_) (fun q46 => ?_)
        · rw [if_neg q46] at hG
          refine ab_le (lv' := [some (.ref p0), none, some (.ref a10), none]) ⟨rfl, ⟨rfl, trivial⟩⟩ ?_
          exact kB_Body_readGiven_133 hG b_2c b_2d b_2p b_2q hC hS
        · rw [if_pos q46] at hG
          exact kB_Body_readGiven_124 hG b_2c b_2d b_2p b_2q hC hS
  · rw [if_pos q15] at hG
    refine ab_aload_n d_Body_readGiven_25 rfl rfl rfl ?_
    obtain ⟨q47, hF⟩ := ck_s hG; clear hG
    refine hp_getI (f := 1) d_Body_readGiven_26 q47 (by decide) rfl (by decide) (k2 234 rfl rfl) rfl ?_
    refine ab_topi (fun x48 ex48 => ?_)
    replace hF := bnd_s ex48 hF
    refine ab_iconst (v := 5) d_Body_readGiven_29 (by decide) ?_
    refine ab_icmp_eq (tgt := 42) d_Body_readGiven_30 (by decide) (fun q49 => ?_) (fun q49 => ?_)
    · rw [if_pos q49] at hF
      refine ab_le (lv' := [some (.ref p0), none, some (.ref a10), none]) ⟨rfl, ⟨rfl, trivial⟩⟩ ?_
      exact kB_Body_readGiven_42 hF b_2c b_2d b_2p b_2q hC hS
    · rw [if_neg q49] at hF
      refine ab_aload_n d_Body_readGiven_33 rfl rfl rfl ?_
      obtain ⟨a50, e51, hG⟩ := rf_s hF; clear hF
      refine hp_getR (f := 0) d_Body_readGiven_34 q_3 (by decide) rfl (by decide) (k1 157 rfl rfl) rfl e51 ?_
      refine ab_iconst (v := 5) d_Body_readGiven_37 (by decide) ?_
      refine ab_iload_n d_Body_readGiven_38 rfl rfl ?_
      obtain ⟨q52, hF⟩ := ck_s hG; clear hG
      refine bT_c hF (fun x56 H55 z53 er => ?_) (fun v54 H55 z53 hG => ?_)
      · subst er
        have mz : Mo H8 H55 := (m_Lexer_refuse z53)
        have ml := mz.len
        have m2 := mz.2
        have hC9 : H55.sh.length ≤ c0 + C := hC
        have hS9 : H55.sl ≤ s0 + Sl := hS
        refine hp_callV_t (x := x56) (H1 := H55) (As := [.int 5, .int x5]) (rest := []) d_Body_readGiven_39 (k_Lexer_refuse z53 (C := H55.sh.length - H8.sh.length) (Sl := H55.sl - H8.sl) (by show H55.sh.length ≤ _; omega) (by show H55.sl ≤ _; omega)) (ab_mkC s_Lexer_refuse (Nat.le_of_ble_eq_true rfl) (Nat.le_of_ble_eq_true rfl) (show (H8.sh.length - c0) + (H55.sh.length - H8.sh.length) ≤ C from by omega) (show (H8.sl - s0) + (H55.sl - H8.sl) ≤ Sl from by omega)) (k5 135 rfl rfl) i_Lexer_refuse v_Lexer_refuse q52 (by decide) rfl rfl (Nat.le_of_ble_eq_true rfl) ?_
        exact ab_U_out rfl (by show _ + (H55.sh.length - H8.sh.length) ≤ C; omega) (by show _ + (H55.sl - H8.sl) ≤ Sl; omega) ⟨rfl, rfl⟩
      clear hF
      have mz_89 : Mo H8 H55 := (m_Lexer_refuse z53)
      have b_90l := (mz_89).len
      have b_90s := (mz_89).2
      have b_90c : c0 ≤ H55.sh.length := by omega
      have b_90d : s0 ≤ H55.sl := by omega
      have q_91 := (mz_89).get q_3
      have q_92 := (mz_89).get q_4
      have q_93 := (mz_89).get q13
      have q_94 := (mz_89).get q47
      have q_95 := (mz_89).get q52
      have fH55 : Mo H55 r.2 := by
        have hm := Mo.rf H55
        exact hm.tr (mB_Body_readGiven_42 hG)
      have b_90m := (fH55).len
      have b_90n := (fH55).2
      have b_90p : H55.sh.length ≤ c0 + C := by omega
      have b_90q : H55.sl ≤ s0 + Sl := by omega
      refine hp_callV_v (H1 := H55) (As := [.int 5, .int x5]) (rest := []) d_Body_readGiven_39 (k_Lexer_refuse z53 (C := H55.sh.length - H8.sh.length) (Sl := H55.sl - H8.sl) (by show H55.sh.length ≤ _; omega) (by show H55.sl ≤ _; omega)) (ab_mkC s_Lexer_refuse (Nat.le_of_ble_eq_true rfl) (Nat.le_of_ble_eq_true rfl) (show (H8.sh.length - c0) + (H55.sh.length - H8.sh.length) ≤ C from by omega) (show (H8.sl - s0) + (H55.sl - H8.sl) ≤ Sl from by omega)) (k5 135 rfl rfl) i_Lexer_refuse v_Lexer_refuse q52 (by decide) rfl rfl (Nat.le_of_ble_eq_true rfl) ?_
      refine ab_widen (cells' := H55.sh.length - c0) (slots' := H55.sl - s0) (by show _ + (H55.sh.length - H8.sh.length) ≤ _; omega) (by show _ + (H55.sl - H8.sl) ≤ _; omega) ?_
      clear b_90l b_90s b_90m b_90n b_2c b_2d b_2p b_2q
      refine ab_le (lv' := [some (.ref p0), none, some (.ref a10), none]) ⟨rfl, ⟨rfl, trivial⟩⟩ ?_
      exact kB_Body_readGiven_42 hG b_90c b_90d b_90p b_90q hC hS
def y_Body_canBeNear : ab_Y := (⟨"WorldEngine$Body", "canBeNear", "(I)Z"⟩, prog_2_method_12_code, 3, (some FieldType.boolean), [])
theorem d_Body_canBeNear_0 : decode y_Body_canBeNear.2.1 0 = .ok (.aload_n 0, 1) := by decide +kernel
theorem d_Body_canBeNear_1 : decode y_Body_canBeNear.2.1 1 = .ok (.getfield 17, 3) := by decide +kernel
theorem d_Body_canBeNear_4 : decode y_Body_canBeNear.2.1 4 = .ok (.getfield 148, 3) := by decide +kernel
theorem d_Body_canBeNear_7 : decode y_Body_canBeNear.2.1 7 = .ok (.getfield 152, 3) := by decide +kernel
theorem d_Body_canBeNear_10 : decode y_Body_canBeNear.2.1 10 = .ok (.iload_n 1, 1) := by decide +kernel
theorem d_Body_canBeNear_11 : decode y_Body_canBeNear.2.1 11 = .ok (.iaload, 1) := by decide +kernel
theorem d_Body_canBeNear_12 : decode y_Body_canBeNear.2.1 12 = .ok (.istore_n 2, 1) := by decide +kernel
theorem d_Body_canBeNear_13 : decode y_Body_canBeNear.2.1 13 = .ok (.aload_n 0, 1) := by decide +kernel
theorem d_Body_canBeNear_14 : decode y_Body_canBeNear.2.1 14 = .ok (.getfield 17, 3) := by decide +kernel
theorem d_Body_canBeNear_17 : decode y_Body_canBeNear.2.1 17 = .ok (.getfield 157, 3) := by decide +kernel
theorem d_Body_canBeNear_20 : decode y_Body_canBeNear.2.1 20 = .ok (.aload_n 0, 1) := by decide +kernel
theorem d_Body_canBeNear_21 : decode y_Body_canBeNear.2.1 21 = .ok (.getfield 27, 3) := by decide +kernel
theorem d_Body_canBeNear_24 : decode y_Body_canBeNear.2.1 24 = .ok (.iaload, 1) := by decide +kernel
theorem d_Body_canBeNear_25 : decode y_Body_canBeNear.2.1 25 = .ok (.aload_n 0, 1) := by decide +kernel
theorem d_Body_canBeNear_26 : decode y_Body_canBeNear.2.1 26 = .ok (.getfield 17, 3) := by decide +kernel
theorem d_Body_canBeNear_29 : decode y_Body_canBeNear.2.1 29 = .ok (.getfield 160, 3) := by decide +kernel
theorem d_Body_canBeNear_32 : decode y_Body_canBeNear.2.1 32 = .ok (.aload_n 0, 1) := by decide +kernel
theorem d_Body_canBeNear_33 : decode y_Body_canBeNear.2.1 33 = .ok (.getfield 27, 3) := by decide +kernel
theorem d_Body_canBeNear_36 : decode y_Body_canBeNear.2.1 36 = .ok (.iaload, 1) := by decide +kernel
theorem d_Body_canBeNear_37 : decode y_Body_canBeNear.2.1 37 = .ok (.iand, 1) := by decide +kernel
theorem d_Body_canBeNear_38 : decode y_Body_canBeNear.2.1 38 = .ok (.iload_n 1, 1) := by decide +kernel
theorem d_Body_canBeNear_39 : decode y_Body_canBeNear.2.1 39 = .ok (.ishr, 1) := by decide +kernel
theorem d_Body_canBeNear_40 : decode y_Body_canBeNear.2.1 40 = .ok (.iconst 1, 1) := by decide +kernel
theorem d_Body_canBeNear_41 : decode y_Body_canBeNear.2.1 41 = .ok (.iand, 1) := by decide +kernel
theorem d_Body_canBeNear_42 : decode y_Body_canBeNear.2.1 42 = .ok (.iconst 1, 1) := by decide +kernel
theorem d_Body_canBeNear_43 : decode y_Body_canBeNear.2.1 43 = .ok (.if_icmp .ne 62, 3) := by decide +kernel
theorem d_Body_canBeNear_46 : decode y_Body_canBeNear.2.1 46 = .ok (.aload_n 0, 1) := by decide +kernel
theorem d_Body_canBeNear_47 : decode y_Body_canBeNear.2.1 47 = .ok (.getfield 17, 3) := by decide +kernel
theorem d_Body_canBeNear_50 : decode y_Body_canBeNear.2.1 50 = .ok (.getfield 148, 3) := by decide +kernel
theorem d_Body_canBeNear_53 : decode y_Body_canBeNear.2.1 53 = .ok (.iload_n 1, 1) := by decide +kernel
theorem d_Body_canBeNear_54 : decode y_Body_canBeNear.2.1 54 = .ok (.invokevirtual 163, 3) := by decide +kernel
theorem d_Body_canBeNear_57 : decode y_Body_canBeNear.2.1 57 = .ok (.iconst 2, 1) := by decide +kernel
theorem d_Body_canBeNear_58 : decode y_Body_canBeNear.2.1 58 = .ok (.if_icmp .lt 47, 3) := by decide +kernel
theorem d_Body_canBeNear_61 : decode y_Body_canBeNear.2.1 61 = .ok (.aload_n 0, 1) := by decide +kernel
theorem d_Body_canBeNear_62 : decode y_Body_canBeNear.2.1 62 = .ok (.getfield 17, 3) := by decide +kernel
theorem d_Body_canBeNear_65 : decode y_Body_canBeNear.2.1 65 = .ok (.getfield 148, 3) := by decide +kernel
theorem d_Body_canBeNear_68 : decode y_Body_canBeNear.2.1 68 = .ok (.getfield 166, 3) := by decide +kernel
theorem d_Body_canBeNear_71 : decode y_Body_canBeNear.2.1 71 = .ok (.iload_n 2, 1) := by decide +kernel
theorem d_Body_canBeNear_72 : decode y_Body_canBeNear.2.1 72 = .ok (.aaload, 1) := by decide +kernel
theorem d_Body_canBeNear_73 : decode y_Body_canBeNear.2.1 73 = .ok (.getfield 170, 3) := by decide +kernel
theorem d_Body_canBeNear_76 : decode y_Body_canBeNear.2.1 76 = .ok (.iconst 2, 1) := by decide +kernel
theorem d_Body_canBeNear_77 : decode y_Body_canBeNear.2.1 77 = .ok (.if_icmp .ne 28, 3) := by decide +kernel
theorem d_Body_canBeNear_80 : decode y_Body_canBeNear.2.1 80 = .ok (.aload_n 0, 1) := by decide +kernel
theorem d_Body_canBeNear_81 : decode y_Body_canBeNear.2.1 81 = .ok (.getfield 17, 3) := by decide +kernel
theorem d_Body_canBeNear_84 : decode y_Body_canBeNear.2.1 84 = .ok (.getfield 148, 3) := by decide +kernel
theorem d_Body_canBeNear_87 : decode y_Body_canBeNear.2.1 87 = .ok (.getfield 166, 3) := by decide +kernel
theorem d_Body_canBeNear_90 : decode y_Body_canBeNear.2.1 90 = .ok (.iload_n 2, 1) := by decide +kernel
theorem d_Body_canBeNear_91 : decode y_Body_canBeNear.2.1 91 = .ok (.iconst 1, 1) := by decide +kernel
theorem d_Body_canBeNear_92 : decode y_Body_canBeNear.2.1 92 = .ok (.iadd, 1) := by decide +kernel
theorem d_Body_canBeNear_93 : decode y_Body_canBeNear.2.1 93 = .ok (.aaload, 1) := by decide +kernel
theorem d_Body_canBeNear_94 : decode y_Body_canBeNear.2.1 94 = .ok (.getfield 170, 3) := by decide +kernel
theorem d_Body_canBeNear_97 : decode y_Body_canBeNear.2.1 97 = .ok (.iconst 2, 1) := by decide +kernel
theorem d_Body_canBeNear_98 : decode y_Body_canBeNear.2.1 98 = .ok (.if_icmp .ne 7, 3) := by decide +kernel
theorem d_Body_canBeNear_101 : decode y_Body_canBeNear.2.1 101 = .ok (.iconst 1, 1) := by decide +kernel
theorem d_Body_canBeNear_102 : decode y_Body_canBeNear.2.1 102 = .ok (.goto 4, 3) := by decide +kernel
theorem d_Body_canBeNear_105 : decode y_Body_canBeNear.2.1 105 = .ok (.iconst 0, 1) := by decide +kernel
theorem d_Body_canBeNear_106 : decode y_Body_canBeNear.2.1 106 = .ok (.ireturn, 1) := by decide +kernel
theorem s_Body_canBeNear : ab_Stat y_Body_canBeNear 1 := ⟨(k6 33 rfl rfl), (k1 8 rfl rfl), ⟨by decide, by decide⟩, by decide +kernel⟩
theorem i_Body_canBeNear : Cond.instanceMethod y_Body_canBeNear.1 ∈ ab_T := (k6 32 rfl rfl)
theorem v_Body_canBeNear : Cond.selects "WorldEngine$Body" y_Body_canBeNear.1 y_Body_canBeNear.1 ∈ ab_T := ab_s (List.mem_of_getElem? (i := 53) rfl) rfl
def F_Body_canBeNear (N : Nat) (p0 : Nat) (p1 : Int32) (H : Hp) : Option (Int32 × Hp) :=
    ck (H.sh[p0]? = some (6, 0)) <|
    rf (H.P p0 1) fun a2 =>
    ck (H.sh[a2]? = some (4, 0)) <|
    rf (H.P a2 2) fun a5 =>
    ck (H.sh[a5]? = some (3, 0)) <|
    rf (H.P a5 2) fun a8 =>
    ar H 100 a8 fun n10 =>
    ck (inb p1 n10) <|
    bnd ((H.D a8 (p1).toNatClampNeg)) fun x13 =>
    rf (H.P p0 1) fun a14 =>
    ck (H.sh[a14]? = some (4, 0)) <|
    rf (H.P a14 9) fun a17 =>
    bnd ((H.D p0 2)) fun x19 =>
    ar H 100 a17 fun n20 =>
    ck (inb x19 n20) <|
    bnd ((H.D a17 (x19).toNatClampNeg)) fun x23 =>
    rf (H.P p0 1) fun a24 =>
    ck (H.sh[a24]? = some (4, 0)) <|
    rf (H.P a24 12) fun a27 =>
    bnd ((H.D p0 2)) fun x29 =>
    ar H 100 a27 fun n30 =>
    ck (inb x29 n30) <|
    bnd ((H.D a27 (x29).toNatClampNeg)) fun x33 =>
    if (((x23 &&& x33) >>> (p1 &&& 31)) &&& (1 : Int32)) = (1 : Int32) then
    rf (H.P p0 1) fun a35 =>
    ck (H.sh[a35]? = some (4, 0)) <|
    rf (H.P a35 2) fun a38 =>
    ck (H.sh[a38]? = some (3, 0)) <|
    bC (F_Shapes_sizeOf N a38 p1 H) fun v42 H43 =>
    if v42 < (2 : Int32) then
    some (0, H43)
    else
    rf (H43.P p0 1) fun a45 =>
    ck (H43.sh[a45]? = some (4, 0)) <|
    rf (H43.P a45 2) fun a48 =>
    ck (H43.sh[a48]? = some (3, 0)) <|
    rf (H43.P a48 1) fun a51 =>
    ar H43 106 a51 fun n53 =>
    ck (inb x13 n53) <|
    rf (H43.P a51 (x13).toNatClampNeg) fun a56 =>
    ck (H43.sh[a56]? = some (2, 0)) <|
    bnd ((H43.D a56 3)) fun x59 =>
    if x59 = (2 : Int32) then
    rf (H43.P p0 1) fun a61 =>
    ck (H43.sh[a61]? = some (4, 0)) <|
    rf (H43.P a61 2) fun a64 =>
    ck (H43.sh[a64]? = some (3, 0)) <|
    rf (H43.P a64 1) fun a67 =>
    ar H43 106 a67 fun n69 =>
    ck (inb (x13 + (1 : Int32)) n69) <|
    rf (H43.P a67 ((x13 + (1 : Int32))).toNatClampNeg) fun a72 =>
    ck (H43.sh[a72]? = some (2, 0)) <|
    bnd ((H43.D a72 3)) fun x75 =>
    if x75 = (2 : Int32) then
    some (1, H43)
    else
    some (0, H43)
    else
    some (0, H43)
    else
    some (0, H)
set_option maxRecDepth 20000 in
set_option maxHeartbeats 2000000 in
theorem m_Body_canBeNear {N : Nat} {p0 : Nat} {p1 : Int32} {H : Hp} {r : Int32 × Hp} (hF : F_Body_canBeNear N p0 p1 H = some r) : Sa H r.2 := by
  unfold F_Body_canBeNear at hF
  have hm := Sa.rf H
  obtain ⟨q77, hG⟩ := ck_s hF; clear hF
  obtain ⟨a78, e79, hF⟩ := rf_s hG; clear hG
  obtain ⟨q80, hG⟩ := ck_s hF; clear hF
  obtain ⟨a81, e82, hF⟩ := rf_s hG; clear hG
  obtain ⟨q83, hG⟩ := ck_s hF; clear hF
  obtain ⟨a84, e85, hF⟩ := rf_s hG; clear hG
  obtain ⟨n86, q87, hG⟩ := ar_s hF; clear hF
  obtain ⟨q88, hF⟩ := ck_s hG; clear hG
  obtain ⟨x89, -, hG⟩ := bnd_g hF; clear hF
  obtain ⟨a90, e91, hF⟩ := rf_s hG; clear hG
  obtain ⟨q92, hG⟩ := ck_s hF; clear hF
  obtain ⟨a93, e94, hF⟩ := rf_s hG; clear hG
  obtain ⟨x95, -, hG⟩ := bnd_g hF; clear hF
  obtain ⟨n96, q97, hF⟩ := ar_s hG; clear hG
  obtain ⟨q98, hG⟩ := ck_s hF; clear hF
  obtain ⟨x99, -, hF⟩ := bnd_g hG; clear hG
  obtain ⟨a100, e101, hG⟩ := rf_s hF; clear hF
  obtain ⟨q102, hF⟩ := ck_s hG; clear hG
  obtain ⟨a103, e104, hG⟩ := rf_s hF; clear hF
  obtain ⟨x105, -, hF⟩ := bnd_g hG; clear hG
  obtain ⟨n106, q107, hG⟩ := ar_s hF; clear hF
  obtain ⟨q108, hF⟩ := ck_s hG; clear hG
  obtain ⟨x109, -, hG⟩ := bnd_g hF; clear hF
  rcases ite_s hG with ⟨q_2, hF⟩ | ⟨q_2, hF⟩
  · clear hG
    obtain ⟨a111, e112, hG⟩ := rf_s hF; clear hF
    obtain ⟨q113, hF⟩ := ck_s hG; clear hG
    obtain ⟨a114, e115, hG⟩ := rf_s hF; clear hF
    obtain ⟨q116, hF⟩ := ck_s hG; clear hG
    obtain ⟨v118, H119, z117, hG⟩ := bC_s hF; clear hF
    replace hm : Sa H H119 := hm.tr (m_Shapes_sizeOf z117)
    rcases ite_s hG with ⟨q_4, hF⟩ | ⟨q_4, hF⟩
    · clear hG
      have hr := Option.some.inj hF; subst hr
      exact hm
    · clear hG
      obtain ⟨a121, e122, hG⟩ := rf_s hF; clear hF
      obtain ⟨q123, hF⟩ := ck_s hG; clear hG
      obtain ⟨a124, e125, hG⟩ := rf_s hF; clear hF
      obtain ⟨q126, hF⟩ := ck_s hG; clear hG
      obtain ⟨a127, e128, hG⟩ := rf_s hF; clear hF
      obtain ⟨n129, q130, hF⟩ := ar_s hG; clear hG
      obtain ⟨q131, hG⟩ := ck_s hF; clear hF
      obtain ⟨a132, e133, hF⟩ := rf_s hG; clear hG
      obtain ⟨q134, hG⟩ := ck_s hF; clear hF
      obtain ⟨x135, -, hF⟩ := bnd_g hG; clear hG
      rcases ite_s hF with ⟨q_5, hG⟩ | ⟨q_5, hG⟩
      · clear hF
        obtain ⟨a137, e138, hF⟩ := rf_s hG; clear hG
        obtain ⟨q139, hG⟩ := ck_s hF; clear hF
        obtain ⟨a140, e141, hF⟩ := rf_s hG; clear hG
        obtain ⟨q142, hG⟩ := ck_s hF; clear hF
        obtain ⟨a143, e144, hF⟩ := rf_s hG; clear hG
        obtain ⟨n145, q146, hG⟩ := ar_s hF; clear hF
        obtain ⟨q147, hF⟩ := ck_s hG; clear hG
        obtain ⟨a148, e149, hG⟩ := rf_s hF; clear hF
        obtain ⟨q150, hF⟩ := ck_s hG; clear hG
        obtain ⟨x151, -, hG⟩ := bnd_g hF; clear hF
        rcases ite_s hG with ⟨q_6, hF⟩ | ⟨q_6, hF⟩
        · clear hG
          have hr := Option.some.inj hF; subst hr
          exact hm
        · clear hG
          have hr := Option.some.inj hF; subst hr
          exact hm
      · clear hF
        have hr := Option.some.inj hG; subst hr
        exact hm
  · clear hG
    have hr := Option.some.inj hF; subst hr
    exact hm
set_option maxRecDepth 20000 in
set_option maxHeartbeats 2000000 in
theorem k_Body_canBeNear {N : Nat} {p0 : Nat} {p1 : Int32} {H : Hp} {r : Int32 × Hp} (hF : F_Body_canBeNear N p0 p1 H = some r) : ab_M y_Body_canBeNear { frames := 1, cells := 0, slots := 0, locals := 21 } [.ref p0, .int p1] (hpw H) (po (.returned (some (.int r.1))) r.2) := by
  unfold F_Body_canBeNear at hF
  refine ab_of2 (lv := [some (.ref p0), some (.int p1), none]) 1 rfl rfl (Nat.le_of_ble_eq_true rfl) ?_
  refine ab_aload_n d_Body_canBeNear_0 rfl rfl rfl ?_
  obtain ⟨q1, hG⟩ := ck_s hF; clear hF
  obtain ⟨a2, e3, hF⟩ := rf_s hG; clear hG
  refine hp_getR (f := 1) d_Body_canBeNear_1 q1 (by decide) rfl (by decide) (k1 158 rfl rfl) rfl e3 ?_
  obtain ⟨q4, hG⟩ := ck_s hF; clear hF
  obtain ⟨a5, e6, hF⟩ := rf_s hG; clear hG
  refine hp_getR (f := 2) d_Body_canBeNear_4 q4 (by decide) rfl (by decide) (k3 60 rfl rfl) rfl e6 ?_
  obtain ⟨q7, hG⟩ := ck_s hF; clear hF
  obtain ⟨a8, e9, hF⟩ := rf_s hG; clear hG
  refine hp_getR (f := 2) d_Body_canBeNear_7 q7 (by decide) rfl (by decide) (k3 36 rfl rfl) rfl e9 ?_
  refine ab_iload_n d_Body_canBeNear_10 rfl rfl ?_
  obtain ⟨n10, q11, hG⟩ := ar_s hF; clear hF
  obtain ⟨q12, hF⟩ := ck_s hG; clear hG
  refine hp_iald d_Body_canBeNear_11 tI q11 q12 ?_
  refine ab_topi (fun x13 ex13 => ?_)
  replace hF := bnd_s ex13 hF
  refine ab_istore_n (lv' := [some (.ref p0), some (.int p1), some (.int x13)]) d_Body_canBeNear_12 rfl (by decide) rfl ?_
  refine ab_aload_n d_Body_canBeNear_13 rfl rfl rfl ?_
  obtain ⟨a14, e15, hG⟩ := rf_s hF; clear hF
  refine hp_getR (f := 1) d_Body_canBeNear_14 q1 (by decide) rfl (by decide) (k1 158 rfl rfl) rfl e15 ?_
  obtain ⟨q16, hF⟩ := ck_s hG; clear hG
  obtain ⟨a17, e18, hG⟩ := rf_s hF; clear hF
  refine hp_getR (f := 9) d_Body_canBeNear_17 q16 (by decide) rfl (by decide) (k3 88 rfl rfl) rfl e18 ?_
  refine ab_aload_n d_Body_canBeNear_20 rfl rfl rfl ?_
  refine hp_getI (f := 2) d_Body_canBeNear_21 q1 (by decide) rfl (by decide) (k1 159 rfl rfl) rfl ?_
  refine ab_topi (fun x19 ex19 => ?_)
  replace hG := bnd_s ex19 hG
  obtain ⟨n20, q21, hF⟩ := ar_s hG; clear hG
  obtain ⟨q22, hG⟩ := ck_s hF; clear hF
  refine hp_iald d_Body_canBeNear_24 tI q21 q22 ?_
  refine ab_topi (fun x23 ex23 => ?_)
  replace hG := bnd_s ex23 hG
  refine ab_aload_n d_Body_canBeNear_25 rfl rfl rfl ?_
  obtain ⟨a24, e25, hF⟩ := rf_s hG; clear hG
  refine hp_getR (f := 1) d_Body_canBeNear_26 q1 (by decide) rfl (by decide) (k1 158 rfl rfl) rfl e25 ?_
  obtain ⟨q26, hG⟩ := ck_s hF; clear hF
  obtain ⟨a27, e28, hF⟩ := rf_s hG; clear hG
  refine hp_getR (f := 12) d_Body_canBeNear_29 q26 (by decide) rfl (by decide) (k3 99 rfl rfl) rfl e28 ?_
  refine ab_aload_n d_Body_canBeNear_32 rfl rfl rfl ?_
  refine hp_getI (f := 2) d_Body_canBeNear_33 q1 (by decide) rfl (by decide) (k1 159 rfl rfl) rfl ?_
  refine ab_topi (fun x29 ex29 => ?_)
  replace hF := bnd_s ex29 hF
  obtain ⟨n30, q31, hG⟩ := ar_s hF; clear hF
  obtain ⟨q32, hF⟩ := ck_s hG; clear hG
  refine hp_iald d_Body_canBeNear_36 tI q31 q32 ?_
  refine ab_topi (fun x33 ex33 => ?_)
  replace hF := bnd_s ex33 hF
  refine ab_iand d_Body_canBeNear_37 ?_
  refine ab_iload_n d_Body_canBeNear_38 rfl rfl ?_
  refine ab_ishr d_Body_canBeNear_39 ?_
  refine ab_iconst (v := 1) d_Body_canBeNear_40 (by decide) ?_
  refine ab_iand d_Body_canBeNear_41 ?_
  refine ab_iconst (v := 1) d_Body_canBeNear_42 (by decide) ?_
  refine ab_icmp_ne (tgt := 105) d_Body_canBeNear_43 (by decide) (fun q34 => ?_) (fun q34 => ?_)
  · rw [if_neg q34] at hF
    refine ab_iconst (v := 0) d_Body_canBeNear_105 (by decide) ?_
    exact ab_zret d_Body_canBeNear_106 rfl rfl (Nat.le_refl _) (Nat.le_refl _) (by have hr := Option.some.inj hF; subst hr; exact ⟨rfl, rfl⟩)
  · rw [if_pos q34] at hF
    refine ab_aload_n d_Body_canBeNear_46 rfl rfl rfl ?_
    obtain ⟨a35, e36, hG⟩ := rf_s hF; clear hF
    refine hp_getR (f := 1) d_Body_canBeNear_47 q1 (by decide) rfl (by decide) (k1 158 rfl rfl) rfl e36 ?_
    obtain ⟨q37, hF⟩ := ck_s hG; clear hG
    obtain ⟨a38, e39, hG⟩ := rf_s hF; clear hF
    refine hp_getR (f := 2) d_Body_canBeNear_50 q37 (by decide) rfl (by decide) (k3 60 rfl rfl) rfl e39 ?_
    refine ab_iload_n d_Body_canBeNear_53 rfl rfl ?_
    obtain ⟨q40, hF⟩ := ck_s hG; clear hG
    obtain ⟨v42, H43, z41, hG⟩ := bC_s hF; clear hF
    refine hp_callV_a (v := .int v42) (H1 := H43) (As := [.int p1]) (rest := []) d_Body_canBeNear_54 (k_Shapes_sizeOf z41) (ab_mkC s_Shapes_sizeOf (Nat.le_of_ble_eq_true rfl) (Nat.le_of_ble_eq_true rfl) (Nat.le_refl 0) (Nat.le_refl 0)) (k6 34 rfl rfl) i_Shapes_sizeOf v_Shapes_sizeOf q40 (by decide) rfl rfl (Nat.le_of_ble_eq_true rfl) ?_
    have s_1 : Sa H H43 := (m_Shapes_sizeOf z41)
    refine ab_iconst (v := 2) d_Body_canBeNear_57 (by decide) ?_
    refine ab_icmp_lt (tgt := 105) d_Body_canBeNear_58 (by decide) (fun q44 => ?_) (fun q44 => ?_)
    · rw [if_pos q44] at hG
      refine ab_iconst (v := 0) d_Body_canBeNear_105 (by decide) ?_
      exact ab_zret d_Body_canBeNear_106 rfl rfl (Nat.le_refl _) (Nat.le_refl _) (by have hr := Option.some.inj hG; subst hr; exact ⟨rfl, rfl⟩)
    · rw [if_neg q44] at hG
      refine ab_aload_n d_Body_canBeNear_61 rfl rfl rfl ?_
      obtain ⟨a45, e46, hF⟩ := rf_s hG; clear hG
      refine hp_getR (f := 1) d_Body_canBeNear_62 (by rw [(s_1).1]; exact q1) (by decide) rfl (by decide) (k1 158 rfl rfl) rfl e46 ?_
      obtain ⟨q47, hG⟩ := ck_s hF; clear hF
      rw [(s_1).1] at q47
      obtain ⟨a48, e49, hF⟩ := rf_s hG; clear hG
      refine hp_getR (f := 2) d_Body_canBeNear_65 (by rw [(s_1).1]; exact q47) (by decide) rfl (by decide) (k3 60 rfl rfl) rfl e49 ?_
      obtain ⟨q50, hG⟩ := ck_s hF; clear hF
      rw [(s_1).1] at q50
      obtain ⟨a51, e52, hF⟩ := rf_s hG; clear hG
      refine hp_getR (f := 1) d_Body_canBeNear_68 (by rw [(s_1).1]; exact q50) (by decide) rfl (by decide) (k3 29 rfl rfl) rfl e52 ?_
      refine ab_iload_n d_Body_canBeNear_71 rfl rfl ?_
      obtain ⟨n53, q54, hG⟩ := ar_s hF; clear hF
      rw [(s_1).1] at q54
      obtain ⟨q55, hF⟩ := ck_s hG; clear hG
      obtain ⟨a56, e57, hG⟩ := rf_s hF; clear hF
      refine hp_aald (q := 106) d_Body_canBeNear_72 (by decide) tN (by rw [(s_1).1]; exact q54) q55 e57 ?_
      obtain ⟨q58, hF⟩ := ck_s hG; clear hG
      rw [(s_1).1] at q58
      refine hp_getI (f := 3) d_Body_canBeNear_73 (by rw [(s_1).1]; exact q58) (by decide) rfl (by decide) (k3 3 rfl rfl) rfl ?_
      refine ab_topi (fun x59 ex59 => ?_)
      replace hF := bnd_s ex59 hF
      refine ab_iconst (v := 2) d_Body_canBeNear_76 (by decide) ?_
      refine ab_icmp_ne (tgt := 105) d_Body_canBeNear_77 (by decide) (fun q60 => ?_) (fun q60 => ?_)
      · rw [if_neg q60] at hF
        refine ab_iconst (v := 0) d_Body_canBeNear_105 (by decide) ?_
        exact ab_zret d_Body_canBeNear_106 rfl rfl (Nat.le_refl _) (Nat.le_refl _) (by have hr := Option.some.inj hF; subst hr; exact ⟨rfl, rfl⟩)
      · rw [if_pos q60] at hF
        refine ab_aload_n d_Body_canBeNear_80 rfl rfl rfl ?_
        obtain ⟨a61, e62, hG⟩ := rf_s hF; clear hF
        refine hp_getR (f := 1) d_Body_canBeNear_81 (by rw [(s_1).1]; exact q1) (by decide) rfl (by decide) (k1 158 rfl rfl) rfl e62 ?_
        obtain ⟨q63, hF⟩ := ck_s hG; clear hG
        rw [(s_1).1] at q63
        obtain ⟨a64, e65, hG⟩ := rf_s hF; clear hF
        refine hp_getR (f := 2) d_Body_canBeNear_84 (by rw [(s_1).1]; exact q63) (by decide) rfl (by decide) (k3 60 rfl rfl) rfl e65 ?_
        obtain ⟨q66, hF⟩ := ck_s hG; clear hG
        rw [(s_1).1] at q66
        obtain ⟨a67, e68, hG⟩ := rf_s hF; clear hF
        refine hp_getR (f := 1) d_Body_canBeNear_87 (by rw [(s_1).1]; exact q66) (by decide) rfl (by decide) (k3 29 rfl rfl) rfl e68 ?_
        refine ab_iload_n d_Body_canBeNear_90 rfl rfl ?_
        refine ab_iconst (v := 1) d_Body_canBeNear_91 (by decide) ?_
        refine ab_iadd d_Body_canBeNear_92 ?_
        obtain ⟨n69, q70, hF⟩ := ar_s hG; clear hG
        rw [(s_1).1] at q70
        obtain ⟨q71, hG⟩ := ck_s hF; clear hF
        obtain ⟨a72, e73, hF⟩ := rf_s hG; clear hG
        refine hp_aald (q := 106) d_Body_canBeNear_93 (by decide) tN (by rw [(s_1).1]; exact q70) q71 e73 ?_
        obtain ⟨q74, hG⟩ := ck_s hF; clear hF
        rw [(s_1).1] at q74
        refine hp_getI (f := 3) d_Body_canBeNear_94 (by rw [(s_1).1]; exact q74) (by decide) rfl (by decide) (k3 3 rfl rfl) rfl ?_
        refine ab_topi (fun x75 ex75 => ?_)
        replace hG := bnd_s ex75 hG
        refine ab_iconst (v := 2) d_Body_canBeNear_97 (by decide) ?_
        refine ab_icmp_ne (tgt := 105) d_Body_canBeNear_98 (by decide) (fun q76 => ?_) (fun q76 => ?_)
        · rw [if_neg q76] at hG
          refine ab_iconst (v := 0) d_Body_canBeNear_105 (by decide) ?_
          exact ab_zret d_Body_canBeNear_106 rfl rfl (Nat.le_refl _) (Nat.le_refl _) (by have hr := Option.some.inj hG; subst hr; exact ⟨rfl, rfl⟩)
        · rw [if_pos q76] at hG
          refine ab_iconst (v := 1) d_Body_canBeNear_101 (by decide) ?_
          refine ab_goto (tgt := 106) d_Body_canBeNear_102 (by decide) ?_
          exact ab_zret d_Body_canBeNear_106 rfl rfl (Nat.le_refl _) (Nat.le_refl _) (by have hr := Option.some.inj hG; subst hr; exact ⟨rfl, rfl⟩)
def y_Program_forget : ab_Y := (⟨"WorldEngine$Program", "forget", "(I)V"⟩, prog_6_method_5_code, 2, none, [])
theorem d_Program_forget_0 : decode y_Program_forget.2.1 0 = .ok (.aload_n 0, 1) := by decide +kernel
theorem d_Program_forget_1 : decode y_Program_forget.2.1 1 = .ok (.iconst 0, 1) := by decide +kernel
theorem d_Program_forget_2 : decode y_Program_forget.2.1 2 = .ok (.aload_n 0, 1) := by decide +kernel
theorem d_Program_forget_3 : decode y_Program_forget.2.1 3 = .ok (.getfield 62, 3) := by decide +kernel
theorem d_Program_forget_6 : decode y_Program_forget.2.1 6 = .ok (.iload_n 1, 1) := by decide +kernel
theorem d_Program_forget_7 : decode y_Program_forget.2.1 7 = .ok (.isub, 1) := by decide +kernel
theorem d_Program_forget_8 : decode y_Program_forget.2.1 8 = .ok (.invokestatic 95, 3) := by decide +kernel
theorem d_Program_forget_11 : decode y_Program_forget.2.1 11 = .ok (.putfield 62, 3) := by decide +kernel
theorem d_Program_forget_14 : decode y_Program_forget.2.1 14 = .ok (.return_, 1) := by decide +kernel
theorem s_Program_forget : ab_Stat y_Program_forget 1 := ⟨(k6 38 rfl rfl), (k1 15 rfl rfl), ⟨by decide, by decide⟩, by decide +kernel⟩
theorem i_Program_forget : Cond.instanceMethod y_Program_forget.1 ∈ ab_T := (k6 36 rfl rfl)
theorem v_Program_forget : Cond.selects "WorldEngine$Program" y_Program_forget.1 y_Program_forget.1 ∈ ab_T := (k6 37 rfl rfl)
def F_Program_forget (N : Nat) (p0 : Nat) (p1 : Int32) (H : Hp) : Option (Unit × Hp) :=
    ck (H.sh[p0]? = some (4, 0)) <|
    bnd ((H.D p0 1)) fun x2 =>
    bC (F_Math_max N (0 : Int32) (x2 - p1) H) fun v4 H5 =>
    bnd (H5.sD p0 1 v4) fun H6 =>
    some ((), H6)
set_option maxRecDepth 20000 in
set_option maxHeartbeats 2000000 in
theorem m_Program_forget {N : Nat} {p0 : Nat} {p1 : Int32} {H : Hp} {r : Unit × Hp} (hF : F_Program_forget N p0 p1 H = some r) : Sa H r.2 := by
  unfold F_Program_forget at hF
  have hm := Sa.rf H
  obtain ⟨q7, hG⟩ := ck_s hF; clear hF
  obtain ⟨x8, -, hF⟩ := bnd_g hG; clear hG
  obtain ⟨v10, H11, z9, hG⟩ := bC_s hF; clear hF
  replace hm : Sa H H11 := hm.tr (m_Math_max z9)
  obtain ⟨H12, eH12, hF⟩ := bnd_g hG; clear hG
  replace hm : Sa H H12 := by rw [eH12]; exact hm
  have hr := Option.some.inj hF; subst hr
  exact hm
set_option maxRecDepth 20000 in
set_option maxHeartbeats 2000000 in
theorem k_Program_forget {N : Nat} {p0 : Nat} {p1 : Int32} {H : Hp} {r : Unit × Hp} (hF : F_Program_forget N p0 p1 H = some r) : ab_M y_Program_forget { frames := 1, cells := 0, slots := 0, locals := 21 } [.ref p0, .int p1] (hpw H) (po (.returned none) r.2) := by
  unfold F_Program_forget at hF
  refine ab_of2 (lv := [some (.ref p0), some (.int p1)]) 0 rfl rfl (Nat.le_of_ble_eq_true rfl) ?_
  refine ab_aload_n d_Program_forget_0 rfl rfl rfl ?_
  refine ab_iconst (v := 0) d_Program_forget_1 (by decide) ?_
  refine ab_aload_n d_Program_forget_2 rfl rfl rfl ?_
  obtain ⟨q1, hG⟩ := ck_s hF; clear hF
  refine hp_getI (f := 1) d_Program_forget_3 q1 (by decide) rfl (by decide) (k3 54 rfl rfl) rfl ?_
  refine ab_topi (fun x2 ex2 => ?_)
  replace hG := bnd_s ex2 hG
  refine ab_iload_n d_Program_forget_6 rfl rfl ?_
  refine ab_isub d_Program_forget_7 ?_
  obtain ⟨v4, H5, z3, hF⟩ := bC_s hG; clear hG
  refine hp_callS_a (v := .int v4) (H1 := H5) (As := [.int 0, .int (x2 - p1)]) (rest := [.ref p0]) d_Program_forget_8 (k_Math_max z3) (ab_mkC s_Math_max (Nat.le_of_ble_eq_true rfl) (Nat.le_of_ble_eq_true rfl) (Nat.le_refl 0) (Nat.le_refl 0)) (k6 39 rfl rfl) t_Math_max rfl (Nat.le_of_ble_eq_true rfl) ?_
  have s_1 : Sa H H5 := (m_Math_max z3)
  refine hp_putI (v := v4) (f := 1) d_Program_forget_11 (by rw [(s_1).1]; exact q1) (by decide) rfl (by decide) (k3 54 rfl rfl) rfl rfl (fun _ => rfl) (fun _ => rfl) rfl ?_
  refine hp_gen (fun H6 eH6 => ?_)
  replace hF := bnd_s eH6 hF
  have s_2 : Sa H H6 := by rw [eH6]; exact s_1
  exact ab_vret d_Program_forget_14 rfl (Nat.le_refl _) (Nat.le_refl _) (by have hr := Option.some.inj hF; subst hr; exact ⟨rfl, rfl⟩)
