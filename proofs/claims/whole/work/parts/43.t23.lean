def y_Body_readWhile : ab_Y := (⟨"WorldEngine$Body", "readWhile", "()V"⟩, prog_2_method_9_code, 3, none, [])
theorem d_Body_readWhile_0 : decode y_Body_readWhile.2.1 0 = .ok (.aload_n 0, 1) := by decide +kernel
theorem d_Body_readWhile_1 : decode y_Body_readWhile.2.1 1 = .ok (.getfield 7, 3) := by decide +kernel
theorem d_Body_readWhile_4 : decode y_Body_readWhile.2.1 4 = .ok (.invokevirtual 93, 3) := by decide +kernel
theorem d_Body_readWhile_7 : decode y_Body_readWhile.2.1 7 = .ok (.aload_n 0, 1) := by decide +kernel
theorem d_Body_readWhile_8 : decode y_Body_readWhile.2.1 8 = .ok (.getfield 17, 3) := by decide +kernel
theorem d_Body_readWhile_11 : decode y_Body_readWhile.2.1 11 = .ok (.getfield 123, 3) := by decide +kernel
theorem d_Body_readWhile_14 : decode y_Body_readWhile.2.1 14 = .ok (.istore_n 1, 1) := by decide +kernel
theorem d_Body_readWhile_15 : decode y_Body_readWhile.2.1 15 = .ok (.aload_n 0, 1) := by decide +kernel
theorem d_Body_readWhile_16 : decode y_Body_readWhile.2.1 16 = .ok (.iconst 3, 1) := by decide +kernel
theorem d_Body_readWhile_17 : decode y_Body_readWhile.2.1 17 = .ok (.invokevirtual 111, 3) := by decide +kernel
theorem d_Body_readWhile_20 : decode y_Body_readWhile.2.1 20 = .ok (.pop, 1) := by decide +kernel
theorem d_Body_readWhile_21 : decode y_Body_readWhile.2.1 21 = .ok (.aload_n 0, 1) := by decide +kernel
theorem d_Body_readWhile_22 : decode y_Body_readWhile.2.1 22 = .ok (.iconst 3, 1) := by decide +kernel
theorem d_Body_readWhile_23 : decode y_Body_readWhile.2.1 23 = .ok (.invokevirtual 114, 3) := by decide +kernel
theorem d_Body_readWhile_26 : decode y_Body_readWhile.2.1 26 = .ok (.istore_n 2, 1) := by decide +kernel
theorem d_Body_readWhile_27 : decode y_Body_readWhile.2.1 27 = .ok (.aload_n 0, 1) := by decide +kernel
theorem d_Body_readWhile_28 : decode y_Body_readWhile.2.1 28 = .ok (.iload_n 1, 1) := by decide +kernel
theorem d_Body_readWhile_29 : decode y_Body_readWhile.2.1 29 = .ok (.iload_n 2, 1) := by decide +kernel
theorem d_Body_readWhile_30 : decode y_Body_readWhile.2.1 30 = .ok (.iconst (-1), 1) := by decide +kernel
theorem d_Body_readWhile_31 : decode y_Body_readWhile.2.1 31 = .ok (.invokevirtual 126, 3) := by decide +kernel
theorem d_Body_readWhile_34 : decode y_Body_readWhile.2.1 34 = .ok (.return_, 1) := by decide +kernel
theorem s_Body_readWhile : ab_Stat y_Body_readWhile 0 := ⟨(k6 21 rfl rfl), (k1 8 rfl rfl), ⟨by decide, by decide⟩, by decide +kernel⟩
theorem i_Body_readWhile : Cond.instanceMethod y_Body_readWhile.1 ∈ ab_T := (k6 20 rfl rfl)
theorem v_Body_readWhile : Cond.selects "WorldEngine$Body" y_Body_readWhile.1 y_Body_readWhile.1 ∈ ab_T := ab_s (List.mem_of_getElem? (i := 50) rfl) rfl
def F_Body_readWhile (N : Nat) (o : Orc_BodyS) (p0 : Nat) (H : Hp) : Option ((Ot Unit) × Hp) :=
    ck (H.sh[p0]? = some (6, 0)) <|
    rf (H.P p0 0) fun a2 =>
    ck (H.sh[a2]? = some (1, 0)) <|
    bC (F_Lexer_advance N a2 H) fun v6 H7 =>
    rf (H7.P p0 1) fun a8 =>
    ck (H7.sh[a8]? = some (4, 0)) <|
    bnd ((H7.D a8 17)) fun x11 =>
    bT (F_Body_want N (X_BodyE N 140) p0 (3 : Int32) H7) fun v13 H14 =>
    bC (F_Body_jump N p0 (3 : Int32) H14) fun v17 H18 =>
    bT (F_Body_turns N o p0 x11 v17 ((-1) : Int32) H18) fun v20 H21 =>
    some (.inl (), H21)
set_option maxRecDepth 20000 in
set_option maxHeartbeats 2000000 in
theorem m_Body_readWhile {N : Nat} {o : Orc_BodyS} (hmo : mo_BodyS o) {p0 : Nat} {H : Hp} {r : (Ot Unit) × Hp} (hF : F_Body_readWhile N o p0 H = some r) : Mo H r.2 := by
  unfold F_Body_readWhile at hF
  have hm := Mo.rf H
  obtain ⟨q23, hG⟩ := ck_s hF; clear hF
  obtain ⟨a24, e25, hF⟩ := rf_s hG; clear hG
  obtain ⟨q26, hG⟩ := ck_s hF; clear hF
  obtain ⟨v28, H29, z27, hF⟩ := bC_s hG; clear hG
  replace hm : Mo H H29 := hm.tr ((m_Lexer_advance z27)).mo
  obtain ⟨a30, e31, hG⟩ := rf_s hF; clear hF
  obtain ⟨q32, hF⟩ := ck_s hG; clear hG
  obtain ⟨x33, -, hG⟩ := bnd_g hF; clear hF
  refine bT_c hG (fun x37 H36 z34 er => ?_) (fun v35 H36 z34 hF => ?_)
  · subst er; exact hm.tr (m_Body_want (moX_BodyE 140) z34)
  clear hG
  replace hm : Mo H H36 := hm.tr (m_Body_want (moX_BodyE 140) z34)
  obtain ⟨v39, H40, z38, hG⟩ := bC_s hF; clear hF
  replace hm : Mo H H40 := hm.tr ((m_Body_jump z38)).mo
  refine bT_c hG (fun x44 H43 z41 er => ?_) (fun v42 H43 z41 hF => ?_)
  · subst er; exact hm.tr (m_Body_turns hmo z41)
  clear hG
  replace hm : Mo H H43 := hm.tr (m_Body_turns hmo z41)
  have hr := Option.some.inj hF; subst hr
  exact hm
set_option maxRecDepth 20000 in
set_option maxHeartbeats 2000000 in
theorem k_Body_readWhile {N : Nat} {o : Orc_BodyS} {fr lo : Nat} (ho : ok_BodyS o fr lo) (hmo : mo_BodyS o) {p0 : Nat} {H : Hp} {r : (Ot Unit) × Hp} {C Sl : Nat} (hF : F_Body_readWhile N o p0 H = some r) (hC : r.2.sh.length ≤ H.sh.length + C) (hS : r.2.sl ≤ H.sl + Sl) : ab_M y_Body_readWhile { frames := fr + 3, cells := C, slots := Sl, locals := lo + 65 } [.ref p0] (hpw H) (po (oV r.1) r.2) := by
  unfold F_Body_readWhile at hF
  obtain ⟨c0, e0⟩ : ∃ q, q = H.sh.length := ⟨_, rfl⟩
  obtain ⟨s0, e1⟩ : ∃ q, q = H.sl := ⟨_, rfl⟩
  rw [← e0] at hC
  rw [← e1] at hS
  have hc0 : c0 ≤ H.sh.length := Nat.le_of_eq e0
  have hs0 : s0 ≤ H.sl := Nat.le_of_eq e1
  have hcc : H.sh.length ≤ c0 + C := by omega
  have hss : H.sl ≤ s0 + Sl := by omega
  refine ab_of2 (lv := [some (.ref p0), none, none]) 2 rfl rfl (Nat.le_of_ble_eq_true rfl) ?_
  refine ab_widen (cells' := H.sh.length - c0) (slots' := H.sl - s0) (Nat.zero_le _) (Nat.zero_le _) ?_
  refine ab_aload_n d_Body_readWhile_0 rfl rfl rfl ?_
  obtain ⟨q1, hG⟩ := ck_s hF; clear hF
  obtain ⟨a2, e3, hF⟩ := rf_s hG; clear hG
  refine hp_getR (f := 0) d_Body_readWhile_1 q1 (by decide) rfl (by decide) (k1 157 rfl rfl) rfl e3 ?_
  obtain ⟨q4, hG⟩ := ck_s hF; clear hF
  obtain ⟨v6, H7, z5, hF⟩ := bC_s hG; clear hG
  refine hp_callV_v (H1 := H7) (As := []) (rest := []) d_Body_readWhile_4 (k_Lexer_advance z5) (ab_mkC s_Lexer_advance (show 0 + 1 ≤ fr + 3 from by have := ho.1; omega) (show 8 + (1 + 11) + 0 ≤ lo + 65 from by have := ho.2.1; omega) (show (H.sh.length - c0) + 0 ≤ C from by omega) (show (H.sl - s0) + 0 ≤ Sl from by omega)) (k5 129 rfl rfl) i_Lexer_advance v_Lexer_advance q4 (by decide) rfl rfl (Nat.le_of_ble_eq_true rfl) ?_
  have s_2 : Sa H H7 := (m_Lexer_advance z5)
  refine ab_widen (cells' := H.sh.length - c0) (slots' := H.sl - s0) (by show (H.sh.length - c0) + 0 ≤ _; omega) (by show (H.sl - s0) + 0 ≤ _; omega) ?_
  refine ab_aload_n d_Body_readWhile_7 rfl rfl rfl ?_
  obtain ⟨a8, e9, hG⟩ := rf_s hF; clear hF
  refine hp_getR (f := 1) d_Body_readWhile_8 (by rw [(s_2).1]; exact q1) (by decide) rfl (by decide) (k1 158 rfl rfl) rfl e9 ?_
  obtain ⟨q10, hF⟩ := ck_s hG; clear hG
  rw [(s_2).1] at q10
  refine hp_getI (f := 17) d_Body_readWhile_11 (by rw [(s_2).1]; exact q10) (by decide) rfl (by decide) (k3 114 rfl rfl) rfl ?_
  refine ab_topi (fun x11 ex11 => ?_)
  replace hF := bnd_s ex11 hF
  refine ab_istore_n (lv' := [some (.ref p0), some (.int x11), none]) d_Body_readWhile_14 rfl (by decide) rfl ?_
  refine ab_aload_n d_Body_readWhile_15 rfl rfl rfl ?_
  refine ab_iconst (v := 3) d_Body_readWhile_16 (by decide) ?_
  refine bT_c hF (fun x15 H14 z12 er => ?_) (fun v13 H14 z12 hG => ?_)
  · subst er
    refine ab_widen (cells' := H7.sh.length - c0) (slots' := H7.sl - s0) (by rw [(s_2).1]; exact Nat.le_refl _) (by rw [(s_2).2]; exact Nat.le_refl _) ?_
    have mz : Mo H7 H14 := (m_Body_want (moX_BodyE 140) z12)
    have ml := mz.len
    have m2 := mz.2
    have be := congrArg List.length (s_2).1
    have bfx := (s_2).2
    have hC9 : H14.sh.length ≤ c0 + C := hC
    have hS9 : H14.sl ≤ s0 + Sl := hS
    refine hp_callV_t (x := x15) (H1 := H14) (As := [.int 3]) (rest := []) d_Body_readWhile_17 (k_Body_want (okX_BodyE 140) (moX_BodyE 140) z12 (C := H14.sh.length - H7.sh.length) (Sl := H14.sl - H7.sl) (by show H14.sh.length ≤ _; omega) (by show H14.sl ≤ _; omega)) (ab_mkC s_Body_want (show (8 + 4 * 140 + 1) + 1 ≤ fr + 3 from by have := ho.1; omega) (show 8 + (4 + 11) + (152 + 95 * 140 + 27) ≤ lo + 65 from by have := ho.2.1; omega) (show (H7.sh.length - c0) + (H14.sh.length - H7.sh.length) ≤ C from by omega) (show (H7.sl - s0) + (H14.sl - H7.sl) ≤ Sl from by omega)) (k5 137 rfl rfl) i_Body_want v_Body_want (by rw [(s_2).1]; exact q1) (by decide) rfl rfl (Nat.le_of_ble_eq_true rfl) ?_
    exact ab_U_out rfl (by show _ + (H14.sh.length - H7.sh.length) ≤ C; omega) (by show _ + (H14.sl - H7.sl) ≤ Sl; omega) ⟨rfl, rfl⟩
  clear hF
  refine ab_widen (cells' := H7.sh.length - c0) (slots' := H7.sl - s0) (by rw [(s_2).1]; exact Nat.le_refl _) (by rw [(s_2).2]; exact Nat.le_refl _) ?_
  have mz_3 : Mo H7 H14 := (m_Body_want (moX_BodyE 140) z12)
  have b_4l := (mz_3).len
  have b_4s := (mz_3).2
  have b_4e := congrArg List.length (s_2).1
  have b_4f := (s_2).2
  have b_4c : c0 ≤ H14.sh.length := by omega
  have b_4d : s0 ≤ H14.sl := by omega
  have q_5 := (mz_3).get (by rw [(s_2).1]; exact q1)
  have q_6 := (mz_3).get (by rw [(s_2).1]; exact q4)
  have q_7 := (mz_3).get (by rw [(s_2).1]; exact q10)
  obtain ⟨v17, H18, z16, hF⟩ := bC_s hG; clear hG
  have jH18 : Mo H14 H18 := ((m_Body_jump z16)).mo
  have fH18 : Mo H18 r.2 := by
    have hm := Mo.rf H18
    refine bT_c hF (fun x22 H21 z19 er => ?_) (fun v20 H21 z19 hG => ?_)
    · subst er; exact hm.tr (m_Body_turns hmo z19)
    clear hF
    replace hm : Mo H18 H21 := hm.tr (m_Body_turns hmo z19)
    have hr := Option.some.inj hG; subst hr
    exact hm
  have fH14 : Mo H14 r.2 := jH18.tr fH18
  have b_4m := (fH14).len
  have b_4n := (fH14).2
  have b_4p : H14.sh.length ≤ c0 + C := by omega
  have b_4q : H14.sl ≤ s0 + Sl := by omega
  refine hp_callV_a (v := .int v13) (H1 := H14) (As := [.int 3]) (rest := []) d_Body_readWhile_17 (k_Body_want (okX_BodyE 140) (moX_BodyE 140) z12 (C := H14.sh.length - H7.sh.length) (Sl := H14.sl - H7.sl) (by show H14.sh.length ≤ _; omega) (by show H14.sl ≤ _; omega)) (ab_mkC s_Body_want (show (8 + 4 * 140 + 1) + 1 ≤ fr + 3 from by have := ho.1; omega) (show 8 + (4 + 11) + (152 + 95 * 140 + 27) ≤ lo + 65 from by have := ho.2.1; omega) (show (H7.sh.length - c0) + (H14.sh.length - H7.sh.length) ≤ C from by omega) (show (H7.sl - s0) + (H14.sl - H7.sl) ≤ Sl from by omega)) (k5 137 rfl rfl) i_Body_want v_Body_want (by rw [(s_2).1]; exact q1) (by decide) rfl rfl (Nat.le_of_ble_eq_true rfl) ?_
  refine ab_widen (cells' := H14.sh.length - c0) (slots' := H14.sl - s0) (by show _ + (H14.sh.length - H7.sh.length) ≤ _; omega) (by show _ + (H14.sl - H7.sl) ≤ _; omega) ?_
  clear b_4l b_4s b_4m b_4n b_4e b_4f
  refine ab_pop d_Body_readWhile_20 rfl ?_
  refine ab_aload_n d_Body_readWhile_21 rfl rfl rfl ?_
  refine ab_iconst (v := 3) d_Body_readWhile_22 (by decide) ?_
  refine hp_callV_a (v := .int v17) (H1 := H18) (As := [.int 3]) (rest := []) d_Body_readWhile_23 (k_Body_jump z16) (ab_mkC s_Body_jump (show 1 + 1 ≤ fr + 3 from by have := ho.1; omega) (show 8 + (2 + 11) + 21 ≤ lo + 65 from by have := ho.2.1; omega) (show (H14.sh.length - c0) + 0 ≤ C from by omega) (show (H14.sl - s0) + 0 ≤ Sl from by omega)) (k5 221 rfl rfl) i_Body_jump v_Body_jump q_5 (by decide) rfl rfl (Nat.le_of_ble_eq_true rfl) ?_
  have s_14 : Sa H14 H18 := (m_Body_jump z16)
  refine ab_widen (cells' := H14.sh.length - c0) (slots' := H14.sl - s0) (by show (H14.sh.length - c0) + 0 ≤ _; omega) (by show (H14.sl - s0) + 0 ≤ _; omega) ?_
  refine ab_istore_n (lv' := [some (.ref p0), some (.int x11), some (.int v17)]) d_Body_readWhile_26 rfl (by decide) rfl ?_
  refine ab_aload_n d_Body_readWhile_27 rfl rfl rfl ?_
  refine ab_iload_n d_Body_readWhile_28 rfl rfl ?_
  refine ab_iload_n d_Body_readWhile_29 rfl rfl ?_
  refine ab_iconst (v := (-1)) d_Body_readWhile_30 (by decide) ?_
  refine bT_c hF (fun x22 H21 z19 er => ?_) (fun v20 H21 z19 hG => ?_)
  · subst er
    refine ab_widen (cells' := H18.sh.length - c0) (slots' := H18.sl - s0) (by rw [(s_14).1]; exact Nat.le_refl _) (by rw [(s_14).2]; exact Nat.le_refl _) ?_
    have mz : Mo H18 H21 := (m_Body_turns hmo z19)
    have ml := mz.len
    have m2 := mz.2
    have be := congrArg List.length (s_14).1
    have bfx := (s_14).2
    have hC9 : H21.sh.length ≤ c0 + C := hC
    have hS9 : H21.sl ≤ s0 + Sl := hS
    refine hp_callV_t (x := x22) (H1 := H21) (As := [.int x11, .int v17, .int (-1)]) (rest := []) d_Body_readWhile_31 (k_Body_turns ho hmo z19 (C := H21.sh.length - H18.sh.length) (Sl := H21.sl - H18.sl) (by show H21.sh.length ≤ _; omega) (by show H21.sl ≤ _; omega)) (ab_mkC s_Body_turns (show (fr + 2) + 1 ≤ fr + 3 from by have := ho.1; omega) (show 8 + (4 + 11) + (lo + 42) ≤ lo + 65 from by have := ho.2.1; omega) (show (H18.sh.length - c0) + (H21.sh.length - H18.sh.length) ≤ C from by omega) (show (H18.sl - s0) + (H21.sl - H18.sl) ≤ Sl from by omega)) (k6 22 rfl rfl) i_Body_turns v_Body_turns (by rw [(s_14).1]; exact q_5) (by decide) rfl rfl (Nat.le_of_ble_eq_true rfl) ?_
    exact ab_U_out rfl (by show _ + (H21.sh.length - H18.sh.length) ≤ C; omega) (by show _ + (H21.sl - H18.sl) ≤ Sl; omega) ⟨rfl, rfl⟩
  clear hF
  refine ab_widen (cells' := H18.sh.length - c0) (slots' := H18.sl - s0) (by rw [(s_14).1]; exact Nat.le_refl _) (by rw [(s_14).2]; exact Nat.le_refl _) ?_
  have mz_15 : Mo H18 H21 := (m_Body_turns hmo z19)
  have b_16l := (mz_15).len
  have b_16s := (mz_15).2
  have b_16e := congrArg List.length (s_14).1
  have b_16f := (s_14).2
  have b_16c : c0 ≤ H21.sh.length := by omega
  have b_16d : s0 ≤ H21.sl := by omega
  have q_17 := (mz_15).get (by rw [(s_14).1]; exact q_5)
  have q_18 := (mz_15).get (by rw [(s_14).1]; exact q_6)
  have q_19 := (mz_15).get (by rw [(s_14).1]; exact q_7)
  have fH21 : Mo H21 r.2 := by
    have hm := Mo.rf H21
    have hr := Option.some.inj hG; subst hr
    exact hm
  have b_16m := (fH21).len
  have b_16n := (fH21).2
  have b_16p : H21.sh.length ≤ c0 + C := by omega
  have b_16q : H21.sl ≤ s0 + Sl := by omega
  refine hp_callV_v (H1 := H21) (As := [.int x11, .int v17, .int (-1)]) (rest := []) d_Body_readWhile_31 (k_Body_turns ho hmo z19 (C := H21.sh.length - H18.sh.length) (Sl := H21.sl - H18.sl) (by show H21.sh.length ≤ _; omega) (by show H21.sl ≤ _; omega)) (ab_mkC s_Body_turns (show (fr + 2) + 1 ≤ fr + 3 from by have := ho.1; omega) (show 8 + (4 + 11) + (lo + 42) ≤ lo + 65 from by have := ho.2.1; omega) (show (H18.sh.length - c0) + (H21.sh.length - H18.sh.length) ≤ C from by omega) (show (H18.sl - s0) + (H21.sl - H18.sl) ≤ Sl from by omega)) (k6 22 rfl rfl) i_Body_turns v_Body_turns (by rw [(s_14).1]; exact q_5) (by decide) rfl rfl (Nat.le_of_ble_eq_true rfl) ?_
  refine ab_widen (cells' := H21.sh.length - c0) (slots' := H21.sl - s0) (by show _ + (H21.sh.length - H18.sh.length) ≤ _; omega) (by show _ + (H21.sl - H18.sl) ≤ _; omega) ?_
  clear b_16l b_16s b_16m b_16n b_16e b_16f b_4c b_4d b_4p b_4q
  exact ab_vret d_Body_readWhile_34 rfl (by show _ ≤ C; omega) (by show _ ≤ Sl; omega) (by have hr := Option.some.inj hG; subst hr; exact ⟨rfl, rfl⟩)
def y_Body_readIf : ab_Y := (⟨"WorldEngine$Body", "readIf", "()V"⟩, prog_2_method_8_code, 3, none, [])
theorem d_Body_readIf_0 : decode y_Body_readIf.2.1 0 = .ok (.aload_n 0, 1) := by decide +kernel
theorem d_Body_readIf_1 : decode y_Body_readIf.2.1 1 = .ok (.getfield 7, 3) := by decide +kernel
theorem d_Body_readIf_4 : decode y_Body_readIf.2.1 4 = .ok (.invokevirtual 93, 3) := by decide +kernel
theorem d_Body_readIf_7 : decode y_Body_readIf.2.1 7 = .ok (.aload_n 0, 1) := by decide +kernel
theorem d_Body_readIf_8 : decode y_Body_readIf.2.1 8 = .ok (.iconst 3, 1) := by decide +kernel
theorem d_Body_readIf_9 : decode y_Body_readIf.2.1 9 = .ok (.invokevirtual 111, 3) := by decide +kernel
theorem d_Body_readIf_12 : decode y_Body_readIf.2.1 12 = .ok (.pop, 1) := by decide +kernel
theorem d_Body_readIf_13 : decode y_Body_readIf.2.1 13 = .ok (.aload_n 0, 1) := by decide +kernel
theorem d_Body_readIf_14 : decode y_Body_readIf.2.1 14 = .ok (.iconst 3, 1) := by decide +kernel
theorem d_Body_readIf_15 : decode y_Body_readIf.2.1 15 = .ok (.invokevirtual 114, 3) := by decide +kernel
theorem d_Body_readIf_18 : decode y_Body_readIf.2.1 18 = .ok (.istore_n 1, 1) := by decide +kernel
theorem d_Body_readIf_19 : decode y_Body_readIf.2.1 19 = .ok (.aload_n 0, 1) := by decide +kernel
theorem d_Body_readIf_20 : decode y_Body_readIf.2.1 20 = .ok (.invokevirtual 117, 3) := by decide +kernel
theorem d_Body_readIf_23 : decode y_Body_readIf.2.1 23 = .ok (.aload_n 0, 1) := by decide +kernel
theorem d_Body_readIf_24 : decode y_Body_readIf.2.1 24 = .ok (.getfield 7, 3) := by decide +kernel
theorem d_Body_readIf_27 : decode y_Body_readIf.2.1 27 = .ok (.getfield 45, 3) := by decide +kernel
theorem d_Body_readIf_30 : decode y_Body_readIf.2.1 30 = .ok (.bipush 56, 2) := by decide +kernel
theorem d_Body_readIf_32 : decode y_Body_readIf.2.1 32 = .ok (.if_icmp .eq 12, 3) := by decide +kernel
theorem d_Body_readIf_35 : decode y_Body_readIf.2.1 35 = .ok (.aload_n 0, 1) := by decide +kernel
theorem d_Body_readIf_36 : decode y_Body_readIf.2.1 36 = .ok (.getfield 17, 3) := by decide +kernel
theorem d_Body_readIf_39 : decode y_Body_readIf.2.1 39 = .ok (.iload_n 1, 1) := by decide +kernel
theorem d_Body_readIf_40 : decode y_Body_readIf.2.1 40 = .ok (.invokevirtual 120, 3) := by decide +kernel
theorem d_Body_readIf_43 : decode y_Body_readIf.2.1 43 = .ok (.return_, 1) := by decide +kernel
theorem d_Body_readIf_44 : decode y_Body_readIf.2.1 44 = .ok (.aload_n 0, 1) := by decide +kernel
theorem d_Body_readIf_45 : decode y_Body_readIf.2.1 45 = .ok (.getfield 7, 3) := by decide +kernel
theorem d_Body_readIf_48 : decode y_Body_readIf.2.1 48 = .ok (.invokevirtual 93, 3) := by decide +kernel
theorem d_Body_readIf_51 : decode y_Body_readIf.2.1 51 = .ok (.aload_n 0, 1) := by decide +kernel
theorem d_Body_readIf_52 : decode y_Body_readIf.2.1 52 = .ok (.iconst 2, 1) := by decide +kernel
theorem d_Body_readIf_53 : decode y_Body_readIf.2.1 53 = .ok (.invokevirtual 114, 3) := by decide +kernel
theorem d_Body_readIf_56 : decode y_Body_readIf.2.1 56 = .ok (.istore_n 2, 1) := by decide +kernel
theorem d_Body_readIf_57 : decode y_Body_readIf.2.1 57 = .ok (.aload_n 0, 1) := by decide +kernel
theorem d_Body_readIf_58 : decode y_Body_readIf.2.1 58 = .ok (.getfield 17, 3) := by decide +kernel
theorem d_Body_readIf_61 : decode y_Body_readIf.2.1 61 = .ok (.iload_n 1, 1) := by decide +kernel
theorem d_Body_readIf_62 : decode y_Body_readIf.2.1 62 = .ok (.invokevirtual 120, 3) := by decide +kernel
theorem d_Body_readIf_65 : decode y_Body_readIf.2.1 65 = .ok (.aload_n 0, 1) := by decide +kernel
theorem d_Body_readIf_66 : decode y_Body_readIf.2.1 66 = .ok (.invokevirtual 117, 3) := by decide +kernel
theorem d_Body_readIf_69 : decode y_Body_readIf.2.1 69 = .ok (.aload_n 0, 1) := by decide +kernel
theorem d_Body_readIf_70 : decode y_Body_readIf.2.1 70 = .ok (.getfield 17, 3) := by decide +kernel
theorem d_Body_readIf_73 : decode y_Body_readIf.2.1 73 = .ok (.iload_n 2, 1) := by decide +kernel
theorem d_Body_readIf_74 : decode y_Body_readIf.2.1 74 = .ok (.invokevirtual 120, 3) := by decide +kernel
theorem d_Body_readIf_77 : decode y_Body_readIf.2.1 77 = .ok (.return_, 1) := by decide +kernel
theorem s_Body_readIf : ab_Stat y_Body_readIf 0 := ⟨(k6 12 rfl rfl), (k1 8 rfl rfl), ⟨by decide, by decide⟩, by decide +kernel⟩
theorem i_Body_readIf : Cond.instanceMethod y_Body_readIf.1 ∈ ab_T := (k6 11 rfl rfl)
theorem v_Body_readIf : Cond.selects "WorldEngine$Body" y_Body_readIf.1 y_Body_readIf.1 ∈ ab_T := ab_s (List.mem_of_getElem? (i := 48) rfl) rfl
def F_Body_readIf (N : Nat) (o : Orc_BodyS) (p0 : Nat) (H : Hp) : Option ((Ot Unit) × Hp) :=
    ck (H.sh[p0]? = some (6, 0)) <|
    rf (H.P p0 0) fun a2 =>
    ck (H.sh[a2]? = some (1, 0)) <|
    bC (F_Lexer_advance N a2 H) fun v6 H7 =>
    bT (F_Body_want N (X_BodyE N 140) p0 (3 : Int32) H7) fun v9 H10 =>
    bC (F_Body_jump N p0 (3 : Int32) H10) fun v13 H14 =>
    bT (F_Body_innerBlock N o p0 H14) fun v16 H17 =>
    rf (H17.P p0 0) fun a19 =>
    ck (H17.sh[a19]? = some (1, 0)) <|
    bnd ((H17.D a19 2)) fun x22 =>
    if x22 = (56 : Int32) then
    rf (H17.P p0 0) fun a24 =>
    ck (H17.sh[a24]? = some (1, 0)) <|
    bC (F_Lexer_advance N a24 H17) fun v28 H29 =>
    bC (F_Body_jump N p0 (2 : Int32) H29) fun v31 H32 =>
    rf (H32.P p0 1) fun a33 =>
    ck (H32.sh[a33]? = some (4, 0)) <|
    bC (F_Program_aim N a33 v13 H32) fun v37 H38 =>
    bT (F_Body_innerBlock N o p0 H38) fun v40 H41 =>
    rf (H41.P p0 1) fun a43 =>
    ck (H41.sh[a43]? = some (4, 0)) <|
    bC (F_Program_aim N a43 v31 H41) fun v47 H48 =>
    some (.inl (), H48)
    else
    rf (H17.P p0 1) fun a49 =>
    ck (H17.sh[a49]? = some (4, 0)) <|
    bC (F_Program_aim N a49 v13 H17) fun v53 H54 =>
    some (.inl (), H54)
set_option maxRecDepth 20000 in
set_option maxHeartbeats 2000000 in
theorem m_Body_readIf {N : Nat} {o : Orc_BodyS} (hmo : mo_BodyS o) {p0 : Nat} {H : Hp} {r : (Ot Unit) × Hp} (hF : F_Body_readIf N o p0 H = some r) : Mo H r.2 := by
  unfold F_Body_readIf at hF
  have hm := Mo.rf H
  obtain ⟨q55, hG⟩ := ck_s hF; clear hF
  obtain ⟨a56, e57, hF⟩ := rf_s hG; clear hG
  obtain ⟨q58, hG⟩ := ck_s hF; clear hF
  obtain ⟨v60, H61, z59, hF⟩ := bC_s hG; clear hG
  replace hm : Mo H H61 := hm.tr ((m_Lexer_advance z59)).mo
  refine bT_c hF (fun x65 H64 z62 er => ?_) (fun v63 H64 z62 hG => ?_)
  · subst er; exact hm.tr (m_Body_want (moX_BodyE 140) z62)
  clear hF
  replace hm : Mo H H64 := hm.tr (m_Body_want (moX_BodyE 140) z62)
  obtain ⟨v67, H68, z66, hF⟩ := bC_s hG; clear hG
  replace hm : Mo H H68 := hm.tr ((m_Body_jump z66)).mo
  refine bT_c hF (fun x72 H71 z69 er => ?_) (fun v70 H71 z69 hG => ?_)
  · subst er; exact hm.tr (m_Body_innerBlock hmo z69)
  clear hF
  replace hm : Mo H H71 := hm.tr (m_Body_innerBlock hmo z69)
  obtain ⟨a73, e74, hF⟩ := rf_s hG; clear hG
  obtain ⟨q75, hG⟩ := ck_s hF; clear hF
  obtain ⟨x76, -, hF⟩ := bnd_g hG; clear hG
  rcases ite_s hF with ⟨q_55, hG⟩ | ⟨q_55, hG⟩
  · clear hF
    obtain ⟨a78, e79, hF⟩ := rf_s hG; clear hG
    obtain ⟨q80, hG⟩ := ck_s hF; clear hF
    obtain ⟨v82, H83, z81, hF⟩ := bC_s hG; clear hG
    replace hm : Mo H H83 := hm.tr ((m_Lexer_advance z81)).mo
    obtain ⟨v85, H86, z84, hG⟩ := bC_s hF; clear hF
    replace hm : Mo H H86 := hm.tr ((m_Body_jump z84)).mo
    obtain ⟨a87, e88, hF⟩ := rf_s hG; clear hG
    obtain ⟨q89, hG⟩ := ck_s hF; clear hF
    obtain ⟨v91, H92, z90, hF⟩ := bC_s hG; clear hG
    replace hm : Mo H H92 := hm.tr ((m_Program_aim z90)).mo
    refine bT_c hF (fun x96 H95 z93 er => ?_) (fun v94 H95 z93 hG => ?_)
    · subst er; exact hm.tr (m_Body_innerBlock hmo z93)
    clear hF
    replace hm : Mo H H95 := hm.tr (m_Body_innerBlock hmo z93)
    obtain ⟨a97, e98, hF⟩ := rf_s hG; clear hG
    obtain ⟨q99, hG⟩ := ck_s hF; clear hF
    obtain ⟨v101, H102, z100, hF⟩ := bC_s hG; clear hG
    replace hm : Mo H H102 := hm.tr ((m_Program_aim z100)).mo
    have hr := Option.some.inj hF; subst hr
    exact hm
  · clear hF
    obtain ⟨a103, e104, hF⟩ := rf_s hG; clear hG
    obtain ⟨q105, hG⟩ := ck_s hF; clear hF
    obtain ⟨v107, H108, z106, hF⟩ := bC_s hG; clear hG
    replace hm : Mo H H108 := hm.tr ((m_Program_aim z106)).mo
    have hr := Option.some.inj hF; subst hr
    exact hm
set_option maxRecDepth 20000 in
set_option maxHeartbeats 2000000 in
theorem k_Body_readIf {N : Nat} {o : Orc_BodyS} {fr lo : Nat} (ho : ok_BodyS o fr lo) (hmo : mo_BodyS o) {p0 : Nat} {H : Hp} {r : (Ot Unit) × Hp} {C Sl : Nat} (hF : F_Body_readIf N o p0 H = some r) (hC : r.2.sh.length ≤ H.sh.length + C) (hS : r.2.sl ≤ H.sl + Sl) : ab_M y_Body_readIf { frames := fr + 2, cells := C, slots := Sl, locals := lo + 42 } [.ref p0] (hpw H) (po (oV r.1) r.2) := by
  unfold F_Body_readIf at hF
  obtain ⟨c0, e0⟩ : ∃ q, q = H.sh.length := ⟨_, rfl⟩
  obtain ⟨s0, e1⟩ : ∃ q, q = H.sl := ⟨_, rfl⟩
  rw [← e0] at hC
  rw [← e1] at hS
  have hc0 : c0 ≤ H.sh.length := Nat.le_of_eq e0
  have hs0 : s0 ≤ H.sl := Nat.le_of_eq e1
  have hcc : H.sh.length ≤ c0 + C := by omega
  have hss : H.sl ≤ s0 + Sl := by omega
  refine ab_of2 (lv := [some (.ref p0), none, none]) 2 rfl rfl (Nat.le_of_ble_eq_true rfl) ?_
  refine ab_widen (cells' := H.sh.length - c0) (slots' := H.sl - s0) (Nat.zero_le _) (Nat.zero_le _) ?_
  refine ab_aload_n d_Body_readIf_0 rfl rfl rfl ?_
  obtain ⟨q1, hG⟩ := ck_s hF; clear hF
  obtain ⟨a2, e3, hF⟩ := rf_s hG; clear hG
  refine hp_getR (f := 0) d_Body_readIf_1 q1 (by decide) rfl (by decide) (k1 157 rfl rfl) rfl e3 ?_
  obtain ⟨q4, hG⟩ := ck_s hF; clear hF
  obtain ⟨v6, H7, z5, hF⟩ := bC_s hG; clear hG
  refine hp_callV_v (H1 := H7) (As := []) (rest := []) d_Body_readIf_4 (k_Lexer_advance z5) (ab_mkC s_Lexer_advance (show 0 + 1 ≤ fr + 2 from by have := ho.1; omega) (show 8 + (1 + 11) + 0 ≤ lo + 42 from by have := ho.2.1; omega) (show (H.sh.length - c0) + 0 ≤ C from by omega) (show (H.sl - s0) + 0 ≤ Sl from by omega)) (k5 129 rfl rfl) i_Lexer_advance v_Lexer_advance q4 (by decide) rfl rfl (Nat.le_of_ble_eq_true rfl) ?_
  have s_2 : Sa H H7 := (m_Lexer_advance z5)
  refine ab_widen (cells' := H.sh.length - c0) (slots' := H.sl - s0) (by show (H.sh.length - c0) + 0 ≤ _; omega) (by show (H.sl - s0) + 0 ≤ _; omega) ?_
  refine ab_aload_n d_Body_readIf_7 rfl rfl rfl ?_
  refine ab_iconst (v := 3) d_Body_readIf_8 (by decide) ?_
  refine bT_c hF (fun x11 H10 z8 er => ?_) (fun v9 H10 z8 hG => ?_)
  · subst er
    refine ab_widen (cells' := H7.sh.length - c0) (slots' := H7.sl - s0) (by rw [(s_2).1]; exact Nat.le_refl _) (by rw [(s_2).2]; exact Nat.le_refl _) ?_
    have mz : Mo H7 H10 := (m_Body_want (moX_BodyE 140) z8)
    have ml := mz.len
    have m2 := mz.2
    have be := congrArg List.length (s_2).1
    have bfx := (s_2).2
    have hC9 : H10.sh.length ≤ c0 + C := hC
    have hS9 : H10.sl ≤ s0 + Sl := hS
    refine hp_callV_t (x := x11) (H1 := H10) (As := [.int 3]) (rest := []) d_Body_readIf_9 (k_Body_want (okX_BodyE 140) (moX_BodyE 140) z8 (C := H10.sh.length - H7.sh.length) (Sl := H10.sl - H7.sl) (by show H10.sh.length ≤ _; omega) (by show H10.sl ≤ _; omega)) (ab_mkC s_Body_want (show (8 + 4 * 140 + 1) + 1 ≤ fr + 2 from by have := ho.1; omega) (show 8 + (4 + 11) + (152 + 95 * 140 + 27) ≤ lo + 42 from by have := ho.2.1; omega) (show (H7.sh.length - c0) + (H10.sh.length - H7.sh.length) ≤ C from by omega) (show (H7.sl - s0) + (H10.sl - H7.sl) ≤ Sl from by omega)) (k5 137 rfl rfl) i_Body_want v_Body_want (by rw [(s_2).1]; exact q1) (by decide) rfl rfl (Nat.le_of_ble_eq_true rfl) ?_
    exact ab_U_out rfl (by show _ + (H10.sh.length - H7.sh.length) ≤ C; omega) (by show _ + (H10.sl - H7.sl) ≤ Sl; omega) ⟨rfl, rfl⟩
  clear hF
  refine ab_widen (cells' := H7.sh.length - c0) (slots' := H7.sl - s0) (by rw [(s_2).1]; exact Nat.le_refl _) (by rw [(s_2).2]; exact Nat.le_refl _) ?_
  have mz_3 : Mo H7 H10 := (m_Body_want (moX_BodyE 140) z8)
  have b_4l := (mz_3).len
  have b_4s := (mz_3).2
  have b_4e := congrArg List.length (s_2).1
  have b_4f := (s_2).2
  have b_4c : c0 ≤ H10.sh.length := by omega
  have b_4d : s0 ≤ H10.sl := by omega
  have q_5 := (mz_3).get (by rw [(s_2).1]; exact q1)
  have q_6 := (mz_3).get (by rw [(s_2).1]; exact q4)
  obtain ⟨v13, H14, z12, hF⟩ := bC_s hG; clear hG
  have jH14 : Mo H10 H14 := ((m_Body_jump z12)).mo
  have fH14 : Mo H14 r.2 := by
    have hm := Mo.rf H14
    refine bT_c hF (fun x18 H17 z15 er => ?_) (fun v16 H17 z15 hG => ?_)
    · subst er; exact hm.tr (m_Body_innerBlock hmo z15)
    clear hF
    replace hm : Mo H14 H17 := hm.tr (m_Body_innerBlock hmo z15)
    obtain ⟨a19, e20, hF⟩ := rf_s hG; clear hG
    obtain ⟨q21, hG⟩ := ck_s hF; clear hF
    obtain ⟨x22, -, hF⟩ := bnd_g hG; clear hG
    rcases ite_s hF with ⟨q_11, hG⟩ | ⟨q_11, hG⟩
    · clear hF
      obtain ⟨a24, e25, hF⟩ := rf_s hG; clear hG
      obtain ⟨q26, hG⟩ := ck_s hF; clear hF
      obtain ⟨v28, H29, z27, hF⟩ := bC_s hG; clear hG
      replace hm : Mo H14 H29 := hm.tr ((m_Lexer_advance z27)).mo
      obtain ⟨v31, H32, z30, hG⟩ := bC_s hF; clear hF
      replace hm : Mo H14 H32 := hm.tr ((m_Body_jump z30)).mo
      obtain ⟨a33, e34, hF⟩ := rf_s hG; clear hG
      obtain ⟨q35, hG⟩ := ck_s hF; clear hF
      obtain ⟨v37, H38, z36, hF⟩ := bC_s hG; clear hG
      replace hm : Mo H14 H38 := hm.tr ((m_Program_aim z36)).mo
      refine bT_c hF (fun x42 H41 z39 er => ?_) (fun v40 H41 z39 hG => ?_)
      · subst er; exact hm.tr (m_Body_innerBlock hmo z39)
      clear hF
      replace hm : Mo H14 H41 := hm.tr (m_Body_innerBlock hmo z39)
      obtain ⟨a43, e44, hF⟩ := rf_s hG; clear hG
      obtain ⟨q45, hG⟩ := ck_s hF; clear hF
      obtain ⟨v47, H48, z46, hF⟩ := bC_s hG; clear hG
      replace hm : Mo H14 H48 := hm.tr ((m_Program_aim z46)).mo
      have hr := Option.some.inj hF; subst hr
      exact hm
    · clear hF
      obtain ⟨a49, e50, hF⟩ := rf_s hG; clear hG
      obtain ⟨q51, hG⟩ := ck_s hF; clear hF
      obtain ⟨v53, H54, z52, hF⟩ := bC_s hG; clear hG
      replace hm : Mo H14 H54 := hm.tr ((m_Program_aim z52)).mo
      have hr := Option.some.inj hF; subst hr
      exact hm
  have fH10 : Mo H10 r.2 := jH14.tr fH14
  have b_4m := (fH10).len
  have b_4n := (fH10).2
  have b_4p : H10.sh.length ≤ c0 + C := by omega
  have b_4q : H10.sl ≤ s0 + Sl := by omega
  refine hp_callV_a (v := .int v9) (H1 := H10) (As := [.int 3]) (rest := []) d_Body_readIf_9 (k_Body_want (okX_BodyE 140) (moX_BodyE 140) z8 (C := H10.sh.length - H7.sh.length) (Sl := H10.sl - H7.sl) (by show H10.sh.length ≤ _; omega) (by show H10.sl ≤ _; omega)) (ab_mkC s_Body_want (show (8 + 4 * 140 + 1) + 1 ≤ fr + 2 from by have := ho.1; omega) (show 8 + (4 + 11) + (152 + 95 * 140 + 27) ≤ lo + 42 from by have := ho.2.1; omega) (show (H7.sh.length - c0) + (H10.sh.length - H7.sh.length) ≤ C from by omega) (show (H7.sl - s0) + (H10.sl - H7.sl) ≤ Sl from by omega)) (k5 137 rfl rfl) i_Body_want v_Body_want (by rw [(s_2).1]; exact q1) (by decide) rfl rfl (Nat.le_of_ble_eq_true rfl) ?_
  refine ab_widen (cells' := H10.sh.length - c0) (slots' := H10.sl - s0) (by show _ + (H10.sh.length - H7.sh.length) ≤ _; omega) (by show _ + (H10.sl - H7.sl) ≤ _; omega) ?_
  clear b_4l b_4s b_4m b_4n b_4e b_4f
  refine ab_pop d_Body_readIf_12 rfl ?_
  refine ab_aload_n d_Body_readIf_13 rfl rfl rfl ?_
  refine ab_iconst (v := 3) d_Body_readIf_14 (by decide) ?_
  refine hp_callV_a (v := .int v13) (H1 := H14) (As := [.int 3]) (rest := []) d_Body_readIf_15 (k_Body_jump z12) (ab_mkC s_Body_jump (show 1 + 1 ≤ fr + 2 from by have := ho.1; omega) (show 8 + (2 + 11) + 21 ≤ lo + 42 from by have := ho.2.1; omega) (show (H10.sh.length - c0) + 0 ≤ C from by omega) (show (H10.sl - s0) + 0 ≤ Sl from by omega)) (k5 221 rfl rfl) i_Body_jump v_Body_jump q_5 (by decide) rfl rfl (Nat.le_of_ble_eq_true rfl) ?_
  have s_19 : Sa H10 H14 := (m_Body_jump z12)
  refine ab_widen (cells' := H10.sh.length - c0) (slots' := H10.sl - s0) (by show (H10.sh.length - c0) + 0 ≤ _; omega) (by show (H10.sl - s0) + 0 ≤ _; omega) ?_
  refine ab_istore_n (lv' := [some (.ref p0), some (.int v13), none]) d_Body_readIf_18 rfl (by decide) rfl ?_
  refine ab_aload_n d_Body_readIf_19 rfl rfl rfl ?_
  refine bT_c hF (fun x18 H17 z15 er => ?_) (fun v16 H17 z15 hG => ?_)
  · subst er
    refine ab_widen (cells' := H14.sh.length - c0) (slots' := H14.sl - s0) (by rw [(s_19).1]; exact Nat.le_refl _) (by rw [(s_19).2]; exact Nat.le_refl _) ?_
    have mz : Mo H14 H17 := (m_Body_innerBlock hmo z15)
    have ml := mz.len
    have m2 := mz.2
    have be := congrArg List.length (s_19).1
    have bfx := (s_19).2
    have hC9 : H17.sh.length ≤ c0 + C := hC
    have hS9 : H17.sl ≤ s0 + Sl := hS
    refine hp_callV_t (x := x18) (H1 := H17) (As := []) (rest := []) d_Body_readIf_20 (k_Body_innerBlock ho hmo z15 (C := H17.sh.length - H14.sh.length) (Sl := H17.sl - H14.sl) (by show H17.sh.length ≤ _; omega) (by show H17.sl ≤ _; omega)) (ab_mkC s_Body_innerBlock (show (fr + 1) + 1 ≤ fr + 2 from by have := ho.1; omega) (show 8 + (1 + 11) + (lo + 22) ≤ lo + 42 from by have := ho.2.1; omega) (show (H14.sh.length - c0) + (H17.sh.length - H14.sh.length) ≤ C from by omega) (show (H14.sl - s0) + (H17.sl - H14.sl) ≤ Sl from by omega)) (k6 13 rfl rfl) i_Body_innerBlock v_Body_innerBlock (by rw [(s_19).1]; exact q_5) (by decide) rfl rfl (Nat.le_of_ble_eq_true rfl) ?_
    exact ab_U_out rfl (by show _ + (H17.sh.length - H14.sh.length) ≤ C; omega) (by show _ + (H17.sl - H14.sl) ≤ Sl; omega) ⟨rfl, rfl⟩
  clear hF
  refine ab_widen (cells' := H14.sh.length - c0) (slots' := H14.sl - s0) (by rw [(s_19).1]; exact Nat.le_refl _) (by rw [(s_19).2]; exact Nat.le_refl _) ?_
  have mz_20 : Mo H14 H17 := (m_Body_innerBlock hmo z15)
  have b_21l := (mz_20).len
  have b_21s := (mz_20).2
  have b_21e := congrArg List.length (s_19).1
  have b_21f := (s_19).2
  have b_21c : c0 ≤ H17.sh.length := by omega
  have b_21d : s0 ≤ H17.sl := by omega
  have q_22 := (mz_20).get (by rw [(s_19).1]; exact q_5)
  have q_23 := (mz_20).get (by rw [(s_19).1]; exact q_6)
  obtain ⟨a19, e20, hF⟩ := rf_s hG; clear hG
  obtain ⟨q21, hG⟩ := ck_s hF; clear hF
  obtain ⟨x22, ex22, hF⟩ := bnd_g hG; clear hG
  have fH17 : Mo H17 r.2 := by
    have hm := Mo.rf H17
    rcases ite_s hF with ⟨q_24, hG⟩ | ⟨q_24, hG⟩
    · clear hF
      obtain ⟨a24, e25, hF⟩ := rf_s hG; clear hG
      obtain ⟨q26, hG⟩ := ck_s hF; clear hF
      obtain ⟨v28, H29, z27, hF⟩ := bC_s hG; clear hG
      replace hm : Mo H17 H29 := hm.tr ((m_Lexer_advance z27)).mo
      obtain ⟨v31, H32, z30, hG⟩ := bC_s hF; clear hF
      replace hm : Mo H17 H32 := hm.tr ((m_Body_jump z30)).mo
      obtain ⟨a33, e34, hF⟩ := rf_s hG; clear hG
      obtain ⟨q35, hG⟩ := ck_s hF; clear hF
      obtain ⟨v37, H38, z36, hF⟩ := bC_s hG; clear hG
      replace hm : Mo H17 H38 := hm.tr ((m_Program_aim z36)).mo
      refine bT_c hF (fun x42 H41 z39 er => ?_) (fun v40 H41 z39 hG => ?_)
      · subst er; exact hm.tr (m_Body_innerBlock hmo z39)
      clear hF
      replace hm : Mo H17 H41 := hm.tr (m_Body_innerBlock hmo z39)
      obtain ⟨a43, e44, hF⟩ := rf_s hG; clear hG
      obtain ⟨q45, hG⟩ := ck_s hF; clear hF
      obtain ⟨v47, H48, z46, hF⟩ := bC_s hG; clear hG
      replace hm : Mo H17 H48 := hm.tr ((m_Program_aim z46)).mo
      have hr := Option.some.inj hF; subst hr
      exact hm
    · clear hF
      obtain ⟨a49, e50, hF⟩ := rf_s hG; clear hG
      obtain ⟨q51, hG⟩ := ck_s hF; clear hF
      obtain ⟨v53, H54, z52, hF⟩ := bC_s hG; clear hG
      replace hm : Mo H17 H54 := hm.tr ((m_Program_aim z52)).mo
      have hr := Option.some.inj hF; subst hr
      exact hm
  have b_21m := (fH17).len
  have b_21n := (fH17).2
  have b_21p : H17.sh.length ≤ c0 + C := by omega
  have b_21q : H17.sl ≤ s0 + Sl := by omega
  refine hp_callV_v (H1 := H17) (As := []) (rest := []) d_Body_readIf_20 (k_Body_innerBlock ho hmo z15 (C := H17.sh.length - H14.sh.length) (Sl := H17.sl - H14.sl) (by show H17.sh.length ≤ _; omega) (by show H17.sl ≤ _; omega)) (ab_mkC s_Body_innerBlock (show (fr + 1) + 1 ≤ fr + 2 from by have := ho.1; omega) (show 8 + (1 + 11) + (lo + 22) ≤ lo + 42 from by have := ho.2.1; omega) (show (H14.sh.length - c0) + (H17.sh.length - H14.sh.length) ≤ C from by omega) (show (H14.sl - s0) + (H17.sl - H14.sl) ≤ Sl from by omega)) (k6 13 rfl rfl) i_Body_innerBlock v_Body_innerBlock (by rw [(s_19).1]; exact q_5) (by decide) rfl rfl (Nat.le_of_ble_eq_true rfl) ?_
  refine ab_widen (cells' := H17.sh.length - c0) (slots' := H17.sl - s0) (by show _ + (H17.sh.length - H14.sh.length) ≤ _; omega) (by show _ + (H17.sl - H14.sl) ≤ _; omega) ?_
  clear b_21l b_21s b_21m b_21n b_21e b_21f b_4c b_4d b_4p b_4q
  refine ab_aload_n d_Body_readIf_23 rfl rfl rfl ?_
  refine hp_getR (f := 0) d_Body_readIf_24 q_22 (by decide) rfl (by decide) (k1 157 rfl rfl) rfl e20 ?_
  refine hp_getI (f := 2) d_Body_readIf_27 q21 (by decide) rfl (by decide) (k1 99 rfl rfl) rfl ?_
  refine ab_topxi ex22 ?_
  refine ab_bipush (v := 56) d_Body_readIf_30 (by decide) ?_
  refine ab_icmp_eq (tgt := 44) d_Body_readIf_32 (by decide) (fun q23 => ?_) (fun q23 => ?_)
  · rw [if_pos q23] at hF
    refine ab_aload_n d_Body_readIf_44 rfl rfl rfl ?_
    obtain ⟨a24, e25, hG⟩ := rf_s hF; clear hF
    refine hp_getR (f := 0) d_Body_readIf_45 q_22 (by decide) rfl (by decide) (k1 157 rfl rfl) rfl e25 ?_
    obtain ⟨q26, hF⟩ := ck_s hG; clear hG
    obtain ⟨v28, H29, z27, hG⟩ := bC_s hF; clear hF
    refine hp_callV_v (H1 := H29) (As := []) (rest := []) d_Body_readIf_48 (k_Lexer_advance z27) (ab_mkC s_Lexer_advance (show 0 + 1 ≤ fr + 2 from by have := ho.1; omega) (show 8 + (1 + 11) + 0 ≤ lo + 42 from by have := ho.2.1; omega) (show (H17.sh.length - c0) + 0 ≤ C from by omega) (show (H17.sl - s0) + 0 ≤ Sl from by omega)) (k5 129 rfl rfl) i_Lexer_advance v_Lexer_advance q26 (by decide) rfl rfl (Nat.le_of_ble_eq_true rfl) ?_
    have s_32 : Sa H17 H29 := (m_Lexer_advance z27)
    refine ab_widen (cells' := H17.sh.length - c0) (slots' := H17.sl - s0) (by show (H17.sh.length - c0) + 0 ≤ _; omega) (by show (H17.sl - s0) + 0 ≤ _; omega) ?_
    refine ab_aload_n d_Body_readIf_51 rfl rfl rfl ?_
    refine ab_iconst (v := 2) d_Body_readIf_52 (by decide) ?_
    obtain ⟨v31, H32, z30, hF⟩ := bC_s hG; clear hG
    refine ab_widen (cells' := H29.sh.length - c0) (slots' := H29.sl - s0) (by rw [(s_32).1]; exact Nat.le_refl _) (by rw [(s_32).2]; exact Nat.le_refl _) ?_
    have b_33e := congrArg List.length (s_32).1
    have b_33f := (s_32).2
    refine hp_callV_a (v := .int v31) (H1 := H32) (As := [.int 2]) (rest := []) d_Body_readIf_53 (k_Body_jump z30) (ab_mkC s_Body_jump (show 1 + 1 ≤ fr + 2 from by have := ho.1; omega) (show 8 + (2 + 11) + 21 ≤ lo + 42 from by have := ho.2.1; omega) (show (H29.sh.length - c0) + 0 ≤ C from by omega) (show (H29.sl - s0) + 0 ≤ Sl from by omega)) (k5 221 rfl rfl) i_Body_jump v_Body_jump (by rw [(s_32).1]; exact q_22) (by decide) rfl rfl (Nat.le_of_ble_eq_true rfl) ?_
    have s_34 : Sa H17 H32 := (s_32).tr (m_Body_jump z30)
    refine ab_widen (cells' := H17.sh.length - c0) (slots' := H17.sl - s0) (by show (H29.sh.length - c0) + 0 ≤ _; omega) (by show (H29.sl - s0) + 0 ≤ _; omega) ?_
    clear b_33e b_33f
    refine ab_istore_n (lv' := [some (.ref p0), some (.int v13), some (.int v31)]) d_Body_readIf_56 rfl (by decide) rfl ?_
    refine ab_aload_n d_Body_readIf_57 rfl rfl rfl ?_
    obtain ⟨a33, e34, hG⟩ := rf_s hF; clear hF
    refine hp_getR (f := 1) d_Body_readIf_58 (by rw [(s_34).1]; exact q_22) (by decide) rfl (by decide) (k1 158 rfl rfl) rfl e34 ?_
    refine ab_iload_n d_Body_readIf_61 rfl rfl ?_
    obtain ⟨q35, hF⟩ := ck_s hG; clear hG
    rw [(s_34).1] at q35
    obtain ⟨v37, H38, z36, hG⟩ := bC_s hF; clear hF
    refine ab_widen (cells' := H32.sh.length - c0) (slots' := H32.sl - s0) (by rw [(s_34).1]; exact Nat.le_refl _) (by rw [(s_34).2]; exact Nat.le_refl _) ?_
    have b_35e := congrArg List.length (s_34).1
    have b_35f := (s_34).2
    refine hp_callV_v (H1 := H38) (As := [.int v13]) (rest := []) d_Body_readIf_62 (k_Program_aim z36) (ab_mkC s_Program_aim (show 0 + 1 ≤ fr + 2 from by have := ho.1; omega) (show 8 + (2 + 11) + 0 ≤ lo + 42 from by have := ho.2.1; omega) (show (H32.sh.length - c0) + 0 ≤ C from by omega) (show (H32.sl - s0) + 0 ≤ Sl from by omega)) (k5 232 rfl rfl) i_Program_aim v_Program_aim (by rw [(s_34).1]; exact q35) (by decide) rfl rfl (Nat.le_of_ble_eq_true rfl) ?_
    have s_36 : Sa H17 H38 := (s_34).tr (m_Program_aim z36)
    refine ab_widen (cells' := H17.sh.length - c0) (slots' := H17.sl - s0) (by show (H32.sh.length - c0) + 0 ≤ _; omega) (by show (H32.sl - s0) + 0 ≤ _; omega) ?_
    clear b_35e b_35f
    refine ab_aload_n d_Body_readIf_65 rfl rfl rfl ?_
    refine bT_c hG (fun x42 H41 z39 er => ?_) (fun v40 H41 z39 hF => ?_)
    · subst er
      refine ab_widen (cells' := H38.sh.length - c0) (slots' := H38.sl - s0) (by rw [(s_36).1]; exact Nat.le_refl _) (by rw [(s_36).2]; exact Nat.le_refl _) ?_
      have mz : Mo H38 H41 := (m_Body_innerBlock hmo z39)
      have ml := mz.len
      have m2 := mz.2
      have be := congrArg List.length (s_36).1
      have bfx := (s_36).2
      have hC9 : H41.sh.length ≤ c0 + C := hC
      have hS9 : H41.sl ≤ s0 + Sl := hS
      refine hp_callV_t (x := x42) (H1 := H41) (As := []) (rest := []) d_Body_readIf_66 (k_Body_innerBlock ho hmo z39 (C := H41.sh.length - H38.sh.length) (Sl := H41.sl - H38.sl) (by show H41.sh.length ≤ _; omega) (by show H41.sl ≤ _; omega)) (ab_mkC s_Body_innerBlock (show (fr + 1) + 1 ≤ fr + 2 from by have := ho.1; omega) (show 8 + (1 + 11) + (lo + 22) ≤ lo + 42 from by have := ho.2.1; omega) (show (H38.sh.length - c0) + (H41.sh.length - H38.sh.length) ≤ C from by omega) (show (H38.sl - s0) + (H41.sl - H38.sl) ≤ Sl from by omega)) (k6 13 rfl rfl) i_Body_innerBlock v_Body_innerBlock (by rw [(s_36).1]; exact q_22) (by decide) rfl rfl (Nat.le_of_ble_eq_true rfl) ?_
      exact ab_U_out rfl (by show _ + (H41.sh.length - H38.sh.length) ≤ C; omega) (by show _ + (H41.sl - H38.sl) ≤ Sl; omega) ⟨rfl, rfl⟩
    clear hG
    refine ab_widen (cells' := H38.sh.length - c0) (slots' := H38.sl - s0) (by rw [(s_36).1]; exact Nat.le_refl _) (by rw [(s_36).2]; exact Nat.le_refl _) ?_
    have mz_37 : Mo H38 H41 := (m_Body_innerBlock hmo z39)
    have b_38l := (mz_37).len
    have b_38s := (mz_37).2
    have b_38e := congrArg List.length (s_36).1
    have b_38f := (s_36).2
    have b_38c : c0 ≤ H41.sh.length := by omega
    have b_38d : s0 ≤ H41.sl := by omega
    have q_39 := (mz_37).get (by rw [(s_36).1]; exact q_22)
    have q_40 := (mz_37).get (by rw [(s_36).1]; exact q_23)
    have q_41 := (mz_37).get (by rw [(s_36).1]; exact q21)
    have q_42 := (mz_37).get (by rw [(s_36).1]; exact q26)
    have q_43 := (mz_37).get (by rw [(s_36).1]; exact q35)
    obtain ⟨a43, e44, hG⟩ := rf_s hF; clear hF
    obtain ⟨q45, hF⟩ := ck_s hG; clear hG
    obtain ⟨v47, H48, z46, hG⟩ := bC_s hF; clear hF
    have jH48 : Mo H41 H48 := ((m_Program_aim z46)).mo
    have fH48 : Mo H48 r.2 := by
      have hm := Mo.rf H48
      have hr := Option.some.inj hG; subst hr
      exact hm
    have fH41 : Mo H41 r.2 := jH48.tr fH48
    have b_38m := (fH41).len
    have b_38n := (fH41).2
    have b_38p : H41.sh.length ≤ c0 + C := by omega
    have b_38q : H41.sl ≤ s0 + Sl := by omega
    refine hp_callV_v (H1 := H41) (As := []) (rest := []) d_Body_readIf_66 (k_Body_innerBlock ho hmo z39 (C := H41.sh.length - H38.sh.length) (Sl := H41.sl - H38.sl) (by show H41.sh.length ≤ _; omega) (by show H41.sl ≤ _; omega)) (ab_mkC s_Body_innerBlock (show (fr + 1) + 1 ≤ fr + 2 from by have := ho.1; omega) (show 8 + (1 + 11) + (lo + 22) ≤ lo + 42 from by have := ho.2.1; omega) (show (H38.sh.length - c0) + (H41.sh.length - H38.sh.length) ≤ C from by omega) (show (H38.sl - s0) + (H41.sl - H38.sl) ≤ Sl from by omega)) (k6 13 rfl rfl) i_Body_innerBlock v_Body_innerBlock (by rw [(s_36).1]; exact q_22) (by decide) rfl rfl (Nat.le_of_ble_eq_true rfl) ?_
    refine ab_widen (cells' := H41.sh.length - c0) (slots' := H41.sl - s0) (by show _ + (H41.sh.length - H38.sh.length) ≤ _; omega) (by show _ + (H41.sl - H38.sl) ≤ _; omega) ?_
    clear b_38l b_38s b_38m b_38n b_38e b_38f b_21c b_21d b_21p b_21q
    refine ab_aload_n d_Body_readIf_69 rfl rfl rfl ?_
    refine hp_getR (f := 1) d_Body_readIf_70 q_39 (by decide) rfl (by decide) (k1 158 rfl rfl) rfl e44 ?_
    refine ab_iload_n d_Body_readIf_73 rfl rfl ?_
    refine hp_callV_v (H1 := H48) (As := [.int v31]) (rest := []) d_Body_readIf_74 (k_Program_aim z46) (ab_mkC s_Program_aim (show 0 + 1 ≤ fr + 2 from by have := ho.1; omega) (show 8 + (2 + 11) + 0 ≤ lo + 42 from by have := ho.2.1; omega) (show (H41.sh.length - c0) + 0 ≤ C from by omega) (show (H41.sl - s0) + 0 ≤ Sl from by omega)) (k5 232 rfl rfl) i_Program_aim v_Program_aim q45 (by decide) rfl rfl (Nat.le_of_ble_eq_true rfl) ?_
    have s_46 : Sa H41 H48 := (m_Program_aim z46)
    refine ab_widen (cells' := H41.sh.length - c0) (slots' := H41.sl - s0) (by show (H41.sh.length - c0) + 0 ≤ _; omega) (by show (H41.sl - s0) + 0 ≤ _; omega) ?_
    exact ab_vret d_Body_readIf_77 rfl (by show _ ≤ C; omega) (by show _ ≤ Sl; omega) (by have hr := Option.some.inj hG; subst hr; exact ⟨rfl, rfl⟩)
  · rw [if_neg q23] at hF
    refine ab_aload_n d_Body_readIf_35 rfl rfl rfl ?_
    obtain ⟨a49, e50, hG⟩ := rf_s hF; clear hF
    refine hp_getR (f := 1) d_Body_readIf_36 q_22 (by decide) rfl (by decide) (k1 158 rfl rfl) rfl e50 ?_
    refine ab_iload_n d_Body_readIf_39 rfl rfl ?_
    obtain ⟨q51, hF⟩ := ck_s hG; clear hG
    obtain ⟨v53, H54, z52, hG⟩ := bC_s hF; clear hF
    refine hp_callV_v (H1 := H54) (As := [.int v13]) (rest := []) d_Body_readIf_40 (k_Program_aim z52) (ab_mkC s_Program_aim (show 0 + 1 ≤ fr + 2 from by have := ho.1; omega) (show 8 + (2 + 11) + 0 ≤ lo + 42 from by have := ho.2.1; omega) (show (H17.sh.length - c0) + 0 ≤ C from by omega) (show (H17.sl - s0) + 0 ≤ Sl from by omega)) (k5 232 rfl rfl) i_Program_aim v_Program_aim q51 (by decide) rfl rfl (Nat.le_of_ble_eq_true rfl) ?_
    have s_48 : Sa H17 H54 := (m_Program_aim z52)
    refine ab_widen (cells' := H17.sh.length - c0) (slots' := H17.sl - s0) (by show (H17.sh.length - c0) + 0 ≤ _; omega) (by show (H17.sl - s0) + 0 ≤ _; omega) ?_
    exact ab_vret d_Body_readIf_43 rfl (by show _ ≤ C; omega) (by show _ ≤ Sl; omega) (by have hr := Option.some.inj hG; subst hr; exact ⟨rfl, rfl⟩)
def y_Body_readStatement : ab_Y := (⟨"WorldEngine$Body", "readStatement", "()V"⟩, prog_2_method_4_code, 1, none, [])
theorem d_Body_readStatement_0 : decode y_Body_readStatement.2.1 0 = .ok (.aload_n 0, 1) := by decide +kernel
theorem d_Body_readStatement_1 : decode y_Body_readStatement.2.1 1 = .ok (.getfield 7, 3) := by decide +kernel
theorem d_Body_readStatement_4 : decode y_Body_readStatement.2.1 4 = .ok (.getfield 45, 3) := by decide +kernel
theorem d_Body_readStatement_7 : decode y_Body_readStatement.2.1 7 = .ok (.lookupswitch 234 #[(2, 128), (54, 121), (55, 135), (57, 142), (58, 149), (61, 156), (62, 163), (63, 170), (64, 170), (65, 170), (66, 184), (67, 191), (69, 198), (70, 205)], 121) := by decide +kernel
theorem d_Body_readStatement_128 : decode y_Body_readStatement.2.1 128 = .ok (.aload_n 0, 1) := by decide +kernel
theorem d_Body_readStatement_129 : decode y_Body_readStatement.2.1 129 = .ok (.invokevirtual 60, 3) := by decide +kernel
theorem d_Body_readStatement_132 : decode y_Body_readStatement.2.1 132 = .ok (.goto 124, 3) := by decide +kernel
theorem d_Body_readStatement_135 : decode y_Body_readStatement.2.1 135 = .ok (.aload_n 0, 1) := by decide +kernel
theorem d_Body_readStatement_136 : decode y_Body_readStatement.2.1 136 = .ok (.invokevirtual 63, 3) := by decide +kernel
theorem d_Body_readStatement_139 : decode y_Body_readStatement.2.1 139 = .ok (.goto 117, 3) := by decide +kernel
theorem d_Body_readStatement_142 : decode y_Body_readStatement.2.1 142 = .ok (.aload_n 0, 1) := by decide +kernel
theorem d_Body_readStatement_143 : decode y_Body_readStatement.2.1 143 = .ok (.invokevirtual 66, 3) := by decide +kernel
theorem d_Body_readStatement_146 : decode y_Body_readStatement.2.1 146 = .ok (.goto 110, 3) := by decide +kernel
theorem d_Body_readStatement_149 : decode y_Body_readStatement.2.1 149 = .ok (.aload_n 0, 1) := by decide +kernel
theorem d_Body_readStatement_150 : decode y_Body_readStatement.2.1 150 = .ok (.invokevirtual 69, 3) := by decide +kernel
theorem d_Body_readStatement_153 : decode y_Body_readStatement.2.1 153 = .ok (.goto 103, 3) := by decide +kernel
theorem d_Body_readStatement_156 : decode y_Body_readStatement.2.1 156 = .ok (.aload_n 0, 1) := by decide +kernel
theorem d_Body_readStatement_157 : decode y_Body_readStatement.2.1 157 = .ok (.invokevirtual 72, 3) := by decide +kernel
theorem d_Body_readStatement_160 : decode y_Body_readStatement.2.1 160 = .ok (.goto 96, 3) := by decide +kernel
theorem d_Body_readStatement_163 : decode y_Body_readStatement.2.1 163 = .ok (.aload_n 0, 1) := by decide +kernel
theorem d_Body_readStatement_164 : decode y_Body_readStatement.2.1 164 = .ok (.invokevirtual 75, 3) := by decide +kernel
theorem d_Body_readStatement_167 : decode y_Body_readStatement.2.1 167 = .ok (.goto 89, 3) := by decide +kernel
theorem d_Body_readStatement_170 : decode y_Body_readStatement.2.1 170 = .ok (.aload_n 0, 1) := by decide +kernel
theorem d_Body_readStatement_171 : decode y_Body_readStatement.2.1 171 = .ok (.invokevirtual 78, 3) := by decide +kernel
theorem d_Body_readStatement_174 : decode y_Body_readStatement.2.1 174 = .ok (.goto 82, 3) := by decide +kernel
theorem d_Body_readStatement_177 : decode y_Body_readStatement.2.1 177 = .ok (.aload_n 0, 1) := by decide +kernel
theorem d_Body_readStatement_178 : decode y_Body_readStatement.2.1 178 = .ok (.aload_n 0, 1) := by decide +kernel
theorem d_Body_readStatement_179 : decode y_Body_readStatement.2.1 179 = .ok (.getfield 7, 3) := by decide +kernel
theorem d_Body_readStatement_182 : decode y_Body_readStatement.2.1 182 = .ok (.getfield 45, 3) := by decide +kernel
theorem d_Body_readStatement_185 : decode y_Body_readStatement.2.1 185 = .ok (.invokevirtual 81, 3) := by decide +kernel
theorem d_Body_readStatement_188 : decode y_Body_readStatement.2.1 188 = .ok (.goto 68, 3) := by decide +kernel
theorem d_Body_readStatement_191 : decode y_Body_readStatement.2.1 191 = .ok (.aload_n 0, 1) := by decide +kernel
theorem d_Body_readStatement_192 : decode y_Body_readStatement.2.1 192 = .ok (.invokevirtual 84, 3) := by decide +kernel
theorem d_Body_readStatement_195 : decode y_Body_readStatement.2.1 195 = .ok (.goto 61, 3) := by decide +kernel
theorem d_Body_readStatement_198 : decode y_Body_readStatement.2.1 198 = .ok (.aload_n 0, 1) := by decide +kernel
theorem d_Body_readStatement_199 : decode y_Body_readStatement.2.1 199 = .ok (.invokevirtual 87, 3) := by decide +kernel
theorem d_Body_readStatement_202 : decode y_Body_readStatement.2.1 202 = .ok (.goto 54, 3) := by decide +kernel
theorem d_Body_readStatement_205 : decode y_Body_readStatement.2.1 205 = .ok (.aload_n 0, 1) := by decide +kernel
theorem d_Body_readStatement_206 : decode y_Body_readStatement.2.1 206 = .ok (.invokevirtual 90, 3) := by decide +kernel
theorem d_Body_readStatement_209 : decode y_Body_readStatement.2.1 209 = .ok (.goto 47, 3) := by decide +kernel
theorem d_Body_readStatement_212 : decode y_Body_readStatement.2.1 212 = .ok (.aload_n 0, 1) := by decide +kernel
theorem d_Body_readStatement_213 : decode y_Body_readStatement.2.1 213 = .ok (.getfield 7, 3) := by decide +kernel
theorem d_Body_readStatement_216 : decode y_Body_readStatement.2.1 216 = .ok (.invokevirtual 93, 3) := by decide +kernel
theorem d_Body_readStatement_219 : decode y_Body_readStatement.2.1 219 = .ok (.aload_n 0, 1) := by decide +kernel
theorem d_Body_readStatement_220 : decode y_Body_readStatement.2.1 220 = .ok (.getfield 17, 3) := by decide +kernel
theorem d_Body_readStatement_223 : decode y_Body_readStatement.2.1 223 = .ok (.bipush 11, 2) := by decide +kernel
theorem d_Body_readStatement_225 : decode y_Body_readStatement.2.1 225 = .ok (.invokevirtual 50, 3) := by decide +kernel
theorem d_Body_readStatement_228 : decode y_Body_readStatement.2.1 228 = .ok (.pop, 1) := by decide +kernel
theorem d_Body_readStatement_229 : decode y_Body_readStatement.2.1 229 = .ok (.aload_n 0, 1) := by decide +kernel
theorem d_Body_readStatement_230 : decode y_Body_readStatement.2.1 230 = .ok (.getfield 7, 3) := by decide +kernel
theorem d_Body_readStatement_233 : decode y_Body_readStatement.2.1 233 = .ok (.bipush 15, 2) := by decide +kernel
theorem d_Body_readStatement_235 : decode y_Body_readStatement.2.1 235 = .ok (.invokevirtual 41, 3) := by decide +kernel
theorem d_Body_readStatement_238 : decode y_Body_readStatement.2.1 238 = .ok (.goto 18, 3) := by decide +kernel
theorem d_Body_readStatement_241 : decode y_Body_readStatement.2.1 241 = .ok (.aload_n 0, 1) := by decide +kernel
theorem d_Body_readStatement_242 : decode y_Body_readStatement.2.1 242 = .ok (.getfield 7, 3) := by decide +kernel
theorem d_Body_readStatement_245 : decode y_Body_readStatement.2.1 245 = .ok (.iconst 1, 1) := by decide +kernel
theorem d_Body_readStatement_246 : decode y_Body_readStatement.2.1 246 = .ok (.aload_n 0, 1) := by decide +kernel
theorem d_Body_readStatement_247 : decode y_Body_readStatement.2.1 247 = .ok (.getfield 7, 3) := by decide +kernel
theorem d_Body_readStatement_250 : decode y_Body_readStatement.2.1 250 = .ok (.getfield 96, 3) := by decide +kernel
theorem d_Body_readStatement_253 : decode y_Body_readStatement.2.1 253 = .ok (.invokevirtual 99, 3) := by decide +kernel
theorem d_Body_readStatement_256 : decode y_Body_readStatement.2.1 256 = .ok (.return_, 1) := by decide +kernel
theorem s_Body_readStatement : ab_Stat y_Body_readStatement 0 := ⟨(k5 124 rfl rfl), (k1 8 rfl rfl), ⟨by decide, by decide⟩, by decide +kernel⟩
theorem i_Body_readStatement : Cond.instanceMethod y_Body_readStatement.1 ∈ ab_T := (k5 123 rfl rfl)
theorem v_Body_readStatement : Cond.selects "WorldEngine$Body" y_Body_readStatement.1 y_Body_readStatement.1 ∈ ab_T := ab_s (List.mem_of_getElem? (i := 22) rfl) rfl
def F_Body_readStatement (N : Nat) (o : Orc_BodyS) (p0 : Nat) (H : Hp) : Option ((Ot Unit) × Hp) :=
    ck (H.sh[p0]? = some (6, 0)) <|
    rf (H.P p0 0) fun a2 =>
    ck (H.sh[a2]? = some (1, 0)) <|
    bnd ((H.D a2 2)) fun x5 =>
    if x5 = 2 then
    bT (F_Body_readGiven N p0 H) fun v8 H9 =>
    some (.inl (), H9)
    else if x5 = 54 then
    bT (F_Body_readLet N p0 H) fun v13 H14 =>
    some (.inl (), H14)
    else if x5 = 55 then
    bT (F_Body_readIf N o p0 H) fun v18 H19 =>
    some (.inl (), H19)
    else if x5 = 57 then
    bT (F_Body_readWhile N o p0 H) fun v23 H24 =>
    some (.inl (), H24)
    else if x5 = 58 then
    bT (F_Body_readFor N o p0 H) fun v28 H29 =>
    some (.inl (), H29)
    else if x5 = 61 then
    bT (F_Body_readHear N o p0 H) fun v33 H34 =>
    some (.inl (), H34)
    else if x5 = 62 then
    bT (F_Body_readSpawn N p0 H) fun v38 H39 =>
    some (.inl (), H39)
    else if x5 = 63 then
    rf (H.P p0 0) fun a42 =>
    ck (H.sh[a42]? = some (1, 0)) <|
    bnd ((H.D a42 2)) fun x45 =>
    bT (F_Body_readTargeted N p0 x45 H) fun v47 H48 =>
    some (.inl (), H48)
    else if x5 = 64 then
    rf (H.P p0 0) fun a51 =>
    ck (H.sh[a51]? = some (1, 0)) <|
    bnd ((H.D a51 2)) fun x54 =>
    bT (F_Body_readTargeted N p0 x54 H) fun v56 H57 =>
    some (.inl (), H57)
    else if x5 = 65 then
    rf (H.P p0 0) fun a60 =>
    ck (H.sh[a60]? = some (1, 0)) <|
    bnd ((H.D a60 2)) fun x63 =>
    bT (F_Body_readTargeted N p0 x63 H) fun v65 H66 =>
    some (.inl (), H66)
    else if x5 = 66 then
    bT (F_Body_readPut N p0 H) fun v70 H71 =>
    some (.inl (), H71)
    else if x5 = 67 then
    bT (F_Body_readEmit N p0 H) fun v75 H76 =>
    some (.inl (), H76)
    else if x5 = 69 then
    bT (F_Body_readShow N p0 H) fun v80 H81 =>
    some (.inl (), H81)
    else if x5 = 70 then
    rf (H.P p0 0) fun a84 =>
    ck (H.sh[a84]? = some (1, 0)) <|
    bC (F_Lexer_advance N a84 H) fun v88 H89 =>
    rf (H89.P p0 1) fun a90 =>
    ck (H89.sh[a90]? = some (4, 0)) <|
    bC (F_Program_add N a90 (11 : Int32) H89) fun v94 H95 =>
    rf (H95.P p0 0) fun a96 =>
    ck (H95.sh[a96]? = some (1, 0)) <|
    bT (F_Lexer_take N a96 (15 : Int32) H95) fun v100 H101 =>
    some (.inl (), H101)
    else rf (H.P p0 0) fun a103 =>
    rf (H.P p0 0) fun a105 =>
    ck (H.sh[a105]? = some (1, 0)) <|
    bnd ((H.D a105 3)) fun x108 =>
    ck (H.sh[a103]? = some (1, 0)) <|
    bT (F_Lexer_refuse N a103 (1 : Int32) x108 H) fun v111 H112 =>
    some (.inl (), H112)
set_option maxRecDepth 20000 in
set_option maxHeartbeats 2000000 in
theorem m_Body_readStatement {N : Nat} {o : Orc_BodyS} (hmo : mo_BodyS o) {p0 : Nat} {H : Hp} {r : (Ot Unit) × Hp} (hF : F_Body_readStatement N o p0 H = some r) : Mo H r.2 := by
  unfold F_Body_readStatement at hF
  have hm := Mo.rf H
  obtain ⟨q114, hG⟩ := ck_s hF; clear hF
  obtain ⟨a115, e116, hF⟩ := rf_s hG; clear hG
  obtain ⟨q117, hG⟩ := ck_s hF; clear hF
  obtain ⟨x118, -, hF⟩ := bnd_g hG; clear hG
  rcases ite_s hF with ⟨q_73, hG⟩ | ⟨q_73, hG⟩
  · clear hF
    refine bT_c hG (fun x123 H122 z120 er => ?_) (fun v121 H122 z120 hF => ?_)
    · subst er; exact hm.tr (m_Body_readGiven z120)
    clear hG
    replace hm : Mo H H122 := hm.tr (m_Body_readGiven z120)
    have hr := Option.some.inj hF; subst hr
    exact hm
  clear hF
  rcases ite_s hG with ⟨q_77, hF⟩ | ⟨q_77, hF⟩
  · clear hG
    refine bT_c hF (fun x128 H127 z125 er => ?_) (fun v126 H127 z125 hG => ?_)
    · subst er; exact hm.tr (m_Body_readLet z125)
    clear hF
    replace hm : Mo H H127 := hm.tr (m_Body_readLet z125)
    have hr := Option.some.inj hG; subst hr
    exact hm
  clear hG
  rcases ite_s hF with ⟨q_81, hG⟩ | ⟨q_81, hG⟩
  · clear hF
    refine bT_c hG (fun x133 H132 z130 er => ?_) (fun v131 H132 z130 hF => ?_)
    · subst er; exact hm.tr (m_Body_readIf hmo z130)
    clear hG
    replace hm : Mo H H132 := hm.tr (m_Body_readIf hmo z130)
    have hr := Option.some.inj hF; subst hr
    exact hm
  clear hF
  rcases ite_s hG with ⟨q_85, hF⟩ | ⟨q_85, hF⟩
  · clear hG
    refine bT_c hF (fun x138 H137 z135 er => ?_) (fun v136 H137 z135 hG => ?_)
    · subst er; exact hm.tr (m_Body_readWhile hmo z135)
    clear hF
    replace hm : Mo H H137 := hm.tr (m_Body_readWhile hmo z135)
    have hr := Option.some.inj hG; subst hr
    exact hm
  clear hG
  rcases ite_s hF with ⟨q_89, hG⟩ | ⟨q_89, hG⟩
  · clear hF
    refine bT_c hG (fun x143 H142 z140 er => ?_) (fun v141 H142 z140 hF => ?_)
    · subst er; exact hm.tr (m_Body_readFor hmo z140)
    clear hG
    replace hm : Mo H H142 := hm.tr (m_Body_readFor hmo z140)
    have hr := Option.some.inj hF; subst hr
    exact hm
  clear hF
  rcases ite_s hG with ⟨q_93, hF⟩ | ⟨q_93, hF⟩
  · clear hG
    refine bT_c hF (fun x148 H147 z145 er => ?_) (fun v146 H147 z145 hG => ?_)
    · subst er; exact hm.tr (m_Body_readHear hmo z145)
    clear hF
    replace hm : Mo H H147 := hm.tr (m_Body_readHear hmo z145)
    have hr := Option.some.inj hG; subst hr
    exact hm
  clear hG
  rcases ite_s hF with ⟨q_97, hG⟩ | ⟨q_97, hG⟩
  · clear hF
    refine bT_c hG (fun x153 H152 z150 er => ?_) (fun v151 H152 z150 hF => ?_)
    · subst er; exact hm.tr (m_Body_readSpawn z150)
    clear hG
    replace hm : Mo H H152 := hm.tr (m_Body_readSpawn z150)
    have hr := Option.some.inj hF; subst hr
    exact hm
  clear hF
  rcases ite_s hG with ⟨q_101, hF⟩ | ⟨q_101, hF⟩
  · clear hG
    obtain ⟨a155, e156, hG⟩ := rf_s hF; clear hF
    obtain ⟨q157, hF⟩ := ck_s hG; clear hG
    obtain ⟨x158, -, hG⟩ := bnd_g hF; clear hF
    refine bT_c hG (fun x162 H161 z159 er => ?_) (fun v160 H161 z159 hF => ?_)
    · subst er; exact hm.tr (m_Body_readTargeted z159)
    clear hG
    replace hm : Mo H H161 := hm.tr (m_Body_readTargeted z159)
    have hr := Option.some.inj hF; subst hr
    exact hm
  clear hG
  rcases ite_s hF with ⟨q_106, hG⟩ | ⟨q_106, hG⟩
  · clear hF
    obtain ⟨a164, e165, hF⟩ := rf_s hG; clear hG
    obtain ⟨q166, hG⟩ := ck_s hF; clear hF
    obtain ⟨x167, -, hF⟩ := bnd_g hG; clear hG
    refine bT_c hF (fun x171 H170 z168 er => ?_) (fun v169 H170 z168 hG => ?_)
    · subst er; exact hm.tr (m_Body_readTargeted z168)
    clear hF
    replace hm : Mo H H170 := hm.tr (m_Body_readTargeted z168)
    have hr := Option.some.inj hG; subst hr
    exact hm
  clear hF
  rcases ite_s hG with ⟨q_111, hF⟩ | ⟨q_111, hF⟩
  · clear hG
    obtain ⟨a173, e174, hG⟩ := rf_s hF; clear hF
    obtain ⟨q175, hF⟩ := ck_s hG; clear hG
    obtain ⟨x176, -, hG⟩ := bnd_g hF; clear hF
    refine bT_c hG (fun x180 H179 z177 er => ?_) (fun v178 H179 z177 hF => ?_)
    · subst er; exact hm.tr (m_Body_readTargeted z177)
    clear hG
    replace hm : Mo H H179 := hm.tr (m_Body_readTargeted z177)
    have hr := Option.some.inj hF; subst hr
    exact hm
  clear hG
  rcases ite_s hF with ⟨q_116, hG⟩ | ⟨q_116, hG⟩
  · clear hF
    refine bT_c hG (fun x185 H184 z182 er => ?_) (fun v183 H184 z182 hF => ?_)
    · subst er; exact hm.tr (m_Body_readPut z182)
    clear hG
    replace hm : Mo H H184 := hm.tr (m_Body_readPut z182)
    have hr := Option.some.inj hF; subst hr
    exact hm
  clear hF
  rcases ite_s hG with ⟨q_120, hF⟩ | ⟨q_120, hF⟩
  · clear hG
    refine bT_c hF (fun x190 H189 z187 er => ?_) (fun v188 H189 z187 hG => ?_)
    · subst er; exact hm.tr (m_Body_readEmit z187)
    clear hF
    replace hm : Mo H H189 := hm.tr (m_Body_readEmit z187)
    have hr := Option.some.inj hG; subst hr
    exact hm
  clear hG
  rcases ite_s hF with ⟨q_124, hG⟩ | ⟨q_124, hG⟩
  · clear hF
    refine bT_c hG (fun x195 H194 z192 er => ?_) (fun v193 H194 z192 hF => ?_)
    · subst er; exact hm.tr (m_Body_readShow z192)
    clear hG
    replace hm : Mo H H194 := hm.tr (m_Body_readShow z192)
    have hr := Option.some.inj hF; subst hr
    exact hm
  clear hF
  rcases ite_s hG with ⟨q_128, hF⟩ | ⟨q_128, hF⟩
  · clear hG
    obtain ⟨a197, e198, hG⟩ := rf_s hF; clear hF
    obtain ⟨q199, hF⟩ := ck_s hG; clear hG
    obtain ⟨v201, H202, z200, hG⟩ := bC_s hF; clear hF
    replace hm : Mo H H202 := hm.tr ((m_Lexer_advance z200)).mo
    obtain ⟨a203, e204, hF⟩ := rf_s hG; clear hG
    obtain ⟨q205, hG⟩ := ck_s hF; clear hF
    obtain ⟨v207, H208, z206, hF⟩ := bC_s hG; clear hG
    replace hm : Mo H H208 := hm.tr ((m_Program_add z206)).mo
    obtain ⟨a209, e210, hG⟩ := rf_s hF; clear hF
    obtain ⟨q211, hF⟩ := ck_s hG; clear hG
    refine bT_c hF (fun x215 H214 z212 er => ?_) (fun v213 H214 z212 hG => ?_)
    · subst er; exact hm.tr (m_Lexer_take z212)
    clear hF
    replace hm : Mo H H214 := hm.tr (m_Lexer_take z212)
    have hr := Option.some.inj hG; subst hr
    exact hm
  clear hG
  obtain ⟨a216, e217, hG⟩ := rf_s hF; clear hF
  obtain ⟨a218, e219, hF⟩ := rf_s hG; clear hG
  obtain ⟨q220, hG⟩ := ck_s hF; clear hF
  obtain ⟨x221, -, hF⟩ := bnd_g hG; clear hG
  obtain ⟨q222, hG⟩ := ck_s hF; clear hF
  refine bT_c hG (fun x226 H225 z223 er => ?_) (fun v224 H225 z223 hF => ?_)
  · subst er; exact hm.tr (m_Lexer_refuse z223)
  clear hG
  replace hm : Mo H H225 := hm.tr (m_Lexer_refuse z223)
  have hr := Option.some.inj hF; subst hr
  exact hm
set_option maxRecDepth 20000 in
set_option maxHeartbeats 2000000 in
theorem k_Body_readStatement {N : Nat} {o : Orc_BodyS} {fr lo : Nat} (ho : ok_BodyS o fr lo) (hmo : mo_BodyS o) {p0 : Nat} {H : Hp} {r : (Ot Unit) × Hp} {C Sl : Nat} (hF : F_Body_readStatement N o p0 H = some r) (hC : r.2.sh.length ≤ H.sh.length + C) (hS : r.2.sl ≤ H.sl + Sl) : ab_M y_Body_readStatement { frames := fr + 4, cells := C, slots := Sl, locals := lo + 90 } [.ref p0] (hpw H) (po (oV r.1) r.2) := by
  unfold F_Body_readStatement at hF
  obtain ⟨c0, e0⟩ : ∃ q, q = H.sh.length := ⟨_, rfl⟩
  obtain ⟨s0, e1⟩ : ∃ q, q = H.sl := ⟨_, rfl⟩
  rw [← e0] at hC
  rw [← e1] at hS
  have hc0 : c0 ≤ H.sh.length := Nat.le_of_eq e0
  have hs0 : s0 ≤ H.sl := Nat.le_of_eq e1
  have hcc : H.sh.length ≤ c0 + C := by omega
  have hss : H.sl ≤ s0 + Sl := by omega
  refine ab_of2 (lv := [some (.ref p0)]) 0 rfl rfl (Nat.le_of_ble_eq_true rfl) ?_
  refine ab_widen (cells' := H.sh.length - c0) (slots' := H.sl - s0) (Nat.zero_le _) (Nat.zero_le _) ?_
  refine ab_aload_n d_Body_readStatement_0 rfl rfl rfl ?_
  obtain ⟨q1, hG⟩ := ck_s hF; clear hF
  obtain ⟨a2, e3, hF⟩ := rf_s hG; clear hG
  refine hp_getR (f := 0) d_Body_readStatement_1 q1 (by decide) rfl (by decide) (k1 157 rfl rfl) rfl e3 ?_
  obtain ⟨q4, hG⟩ := ck_s hF; clear hF
  refine hp_getI (f := 2) d_Body_readStatement_4 q4 (by decide) rfl (by decide) (k1 99 rfl rfl) rfl ?_
  refine ab_topi (fun x5 ex5 => ?_)
  replace hG := bnd_s ex5 hG
  by_cases t6 : x5 = 2
  · rw [if_pos t6] at hG
    refine ab_lookup (off := 128) (tgt := 135) d_Body_readStatement_7 (by decide) (by rw [t6]; decide) (by decide) ?_
    refine ab_aload_n d_Body_readStatement_135 rfl rfl rfl ?_
    refine bT_c hG (fun x10 H9 z7 er => ?_) (fun v8 H9 z7 hF => ?_)
    · subst er
      have mz : Mo H H9 := (m_Body_readGiven z7)
      have ml := mz.len
      have m2 := mz.2
      have hC9 : H9.sh.length ≤ c0 + C := hC
      have hS9 : H9.sl ≤ s0 + Sl := hS
      refine hp_callV_t (x := x10) (H1 := H9) (As := []) (rest := []) d_Body_readStatement_136 (k_Body_readGiven z7 (C := H9.sh.length - H.sh.length) (Sl := H9.sl - H.sl) (by show H9.sh.length ≤ _; omega) (by show H9.sl ≤ _; omega)) (ab_mkC s_Body_readGiven (show 570 + 1 ≤ fr + 4 from by have := ho.1; omega) (show 8 + (4 + 11) + 13502 ≤ lo + 90 from by have := ho.2.1; omega) (show (H.sh.length - c0) + (H9.sh.length - H.sh.length) ≤ C from by omega) (show (H.sl - s0) + (H9.sl - H.sl) ≤ Sl from by omega)) (k6 1 rfl rfl) i_Body_readGiven v_Body_readGiven q1 (by decide) rfl rfl (Nat.le_of_ble_eq_true rfl) ?_
      exact ab_U_out rfl (by show _ + (H9.sh.length - H.sh.length) ≤ C; omega) (by show _ + (H9.sl - H.sl) ≤ Sl; omega) ⟨rfl, rfl⟩
    clear hG
    have mz_1 : Mo H H9 := (m_Body_readGiven z7)
    have b_2l := (mz_1).len
    have b_2s := (mz_1).2
    have b_2c : c0 ≤ H9.sh.length := by omega
    have b_2d : s0 ≤ H9.sl := by omega
    have q_3 := (mz_1).get q1
    have q_4 := (mz_1).get q4
    have fH9 : Mo H9 r.2 := by
      have hm := Mo.rf H9
      have hr := Option.some.inj hF; subst hr
      exact hm
    have b_2m := (fH9).len
    have b_2n := (fH9).2
    have b_2p : H9.sh.length ≤ c0 + C := by omega
    have b_2q : H9.sl ≤ s0 + Sl := by omega
    refine hp_callV_v (H1 := H9) (As := []) (rest := []) d_Body_readStatement_136 (k_Body_readGiven z7 (C := H9.sh.length - H.sh.length) (Sl := H9.sl - H.sl) (by show H9.sh.length ≤ _; omega) (by show H9.sl ≤ _; omega)) (ab_mkC s_Body_readGiven (show 570 + 1 ≤ fr + 4 from by have := ho.1; omega) (show 8 + (4 + 11) + 13502 ≤ lo + 90 from by have := ho.2.1; omega) (show (H.sh.length - c0) + (H9.sh.length - H.sh.length) ≤ C from by omega) (show (H.sl - s0) + (H9.sl - H.sl) ≤ Sl from by omega)) (k6 1 rfl rfl) i_Body_readGiven v_Body_readGiven q1 (by decide) rfl rfl (Nat.le_of_ble_eq_true rfl) ?_
    refine ab_widen (cells' := H9.sh.length - c0) (slots' := H9.sl - s0) (by show _ + (H9.sh.length - H.sh.length) ≤ _; omega) (by show _ + (H9.sl - H.sl) ≤ _; omega) ?_
    clear b_2l b_2s b_2m b_2n
    refine ab_goto (tgt := 256) d_Body_readStatement_139 (by decide) ?_
    exact ab_vret d_Body_readStatement_256 rfl (by show _ ≤ C; omega) (by show _ ≤ Sl; omega) (by have hr := Option.some.inj hF; subst hr; exact ⟨rfl, rfl⟩)
  rw [if_neg t6] at hG
  have ut6 : ¬ (2 : Int) = (x5).toInt := fun z => t6 (Int32.toInt_inj.mp (z.symm.trans (by decide)))
  by_cases t11 : x5 = 54
  · rw [if_pos t11] at hG
    refine ab_lookup (off := 121) (tgt := 128) d_Body_readStatement_7 (by decide) (by rw [t11]; decide) (by decide) ?_
    refine ab_aload_n d_Body_readStatement_128 rfl rfl rfl ?_
    refine bT_c hG (fun x15 H14 z12 er => ?_) (fun v13 H14 z12 hF => ?_)
    · subst er
      have mz : Mo H H14 := (m_Body_readLet z12)
      have ml := mz.len
      have m2 := mz.2
      have hC9 : H14.sh.length ≤ c0 + C := hC
      have hS9 : H14.sl ≤ s0 + Sl := hS
      refine hp_callV_t (x := x15) (H1 := H14) (As := []) (rest := []) d_Body_readStatement_129 (k_Body_readLet z12 (C := H14.sh.length - H.sh.length) (Sl := H14.sl - H.sl) (by show H14.sh.length ≤ _; omega) (by show H14.sl ≤ _; omega)) (ab_mkC s_Body_readLet (show 570 + 1 ≤ fr + 4 from by have := ho.1; omega) (show 8 + (3 + 11) + 13502 ≤ lo + 90 from by have := ho.2.1; omega) (show (H.sh.length - c0) + (H14.sh.length - H.sh.length) ≤ C from by omega) (show (H.sl - s0) + (H14.sl - H.sl) ≤ Sl from by omega)) (k5 125 rfl rfl) i_Body_readLet v_Body_readLet q1 (by decide) rfl rfl (Nat.le_of_ble_eq_true rfl) ?_
      exact ab_U_out rfl (by show _ + (H14.sh.length - H.sh.length) ≤ C; omega) (by show _ + (H14.sl - H.sl) ≤ Sl; omega) ⟨rfl, rfl⟩
    clear hG
    have mz_5 : Mo H H14 := (m_Body_readLet z12)
    have b_6l := (mz_5).len
    have b_6s := (mz_5).2
    have b_6c : c0 ≤ H14.sh.length := by omega
    have b_6d : s0 ≤ H14.sl := by omega
    have q_7 := (mz_5).get q1
    have q_8 := (mz_5).get q4
    have fH14 : Mo H14 r.2 := by
      have hm := Mo.rf H14
      have hr := Option.some.inj hF; subst hr
      exact hm
    have b_6m := (fH14).len
    have b_6n := (fH14).2
    have b_6p : H14.sh.length ≤ c0 + C := by omega
    have b_6q : H14.sl ≤ s0 + Sl := by omega
    refine hp_callV_v (H1 := H14) (As := []) (rest := []) d_Body_readStatement_129 (k_Body_readLet z12 (C := H14.sh.length - H.sh.length) (Sl := H14.sl - H.sl) (by show H14.sh.length ≤ _; omega) (by show H14.sl ≤ _; omega)) (ab_mkC s_Body_readLet (show 570 + 1 ≤ fr + 4 from by have := ho.1; omega) (show 8 + (3 + 11) + 13502 ≤ lo + 90 from by have := ho.2.1; omega) (show (H.sh.length - c0) + (H14.sh.length - H.sh.length) ≤ C from by omega) (show (H.sl - s0) + (H14.sl - H.sl) ≤ Sl from by omega)) (k5 125 rfl rfl) i_Body_readLet v_Body_readLet q1 (by decide) rfl rfl (Nat.le_of_ble_eq_true rfl) ?_
    refine ab_widen (cells' := H14.sh.length - c0) (slots' := H14.sl - s0) (by show _ + (H14.sh.length - H.sh.length) ≤ _; omega) (by show _ + (H14.sl - H.sl) ≤ _; omega) ?_
    clear b_6l b_6s b_6m b_6n
    refine ab_goto (tgt := 256) d_Body_readStatement_132 (by decide) ?_
    exact ab_vret d_Body_readStatement_256 rfl (by show _ ≤ C; omega) (by show _ ≤ Sl; omega) (by have hr := Option.some.inj hF; subst hr; exact ⟨rfl, rfl⟩)
  rw [if_neg t11] at hG
  have ut11 : ¬ (54 : Int) = (x5).toInt := fun z => t11 (Int32.toInt_inj.mp (z.symm.trans (by decide)))
  by_cases t16 : x5 = 55
  · rw [if_pos t16] at hG
    refine ab_lookup (off := 135) (tgt := 142) d_Body_readStatement_7 (by decide) (by rw [t16]; decide) (by decide) ?_
    refine ab_aload_n d_Body_readStatement_142 rfl rfl rfl ?_
    refine bT_c hG (fun x20 H19 z17 er => ?_) (fun v18 H19 z17 hF => ?_)
    · subst er
      have mz : Mo H H19 := (m_Body_readIf hmo z17)
      have ml := mz.len
      have m2 := mz.2
      have hC9 : H19.sh.length ≤ c0 + C := hC
      have hS9 : H19.sl ≤ s0 + Sl := hS
      refine hp_callV_t (x := x20) (H1 := H19) (As := []) (rest := []) d_Body_readStatement_143 (k_Body_readIf ho hmo z17 (C := H19.sh.length - H.sh.length) (Sl := H19.sl - H.sl) (by show H19.sh.length ≤ _; omega) (by show H19.sl ≤ _; omega)) (ab_mkC s_Body_readIf (show (fr + 2) + 1 ≤ fr + 4 from by have := ho.1; omega) (show 8 + (3 + 11) + (lo + 42) ≤ lo + 90 from by have := ho.2.1; omega) (show (H.sh.length - c0) + (H19.sh.length - H.sh.length) ≤ C from by omega) (show (H.sl - s0) + (H19.sl - H.sl) ≤ Sl from by omega)) (k6 9 rfl rfl) i_Body_readIf v_Body_readIf q1 (by decide) rfl rfl (Nat.le_of_ble_eq_true rfl) ?_
      exact ab_U_out rfl (by show _ + (H19.sh.length - H.sh.length) ≤ C; omega) (by show _ + (H19.sl - H.sl) ≤ Sl; omega) ⟨rfl, rfl⟩
    clear hG
    have mz_9 : Mo H H19 := (m_Body_readIf hmo z17)
    have b_10l := (mz_9).len
    have b_10s := (mz_9).2
    have b_10c : c0 ≤ H19.sh.length := by omega
    have b_10d : s0 ≤ H19.sl := by omega
    have q_11 := (mz_9).get q1
    have q_12 := (mz_9).get q4
    have fH19 : Mo H19 r.2 := by
      have hm := Mo.rf H19
      have hr := Option.some.inj hF; subst hr
      exact hm
    have b_10m := (fH19).len
    have b_10n := (fH19).2
    have b_10p : H19.sh.length ≤ c0 + C := by omega
    have b_10q : H19.sl ≤ s0 + Sl := by omega
    refine hp_callV_v (H1 := H19) (As := []) (rest := []) d_Body_readStatement_143 (k_Body_readIf ho hmo z17 (C := H19.sh.length - H.sh.length) (Sl := H19.sl - H.sl) (by show H19.sh.length ≤ _; omega) (by show H19.sl ≤ _; omega)) (ab_mkC s_Body_readIf (show (fr + 2) + 1 ≤ fr + 4 from by have := ho.1; omega) (show 8 + (3 + 11) + (lo + 42) ≤ lo + 90 from by have := ho.2.1; omega) (show (H.sh.length - c0) + (H19.sh.length - H.sh.length) ≤ C from by omega) (show (H.sl - s0) + (H19.sl - H.sl) ≤ Sl from by omega)) (k6 9 rfl rfl) i_Body_readIf v_Body_readIf q1 (by decide) rfl rfl (Nat.le_of_ble_eq_true rfl) ?_
    refine ab_widen (cells' := H19.sh.length - c0) (slots' := H19.sl - s0) (by show _ + (H19.sh.length - H.sh.length) ≤ _; omega) (by show _ + (H19.sl - H.sl) ≤ _; omega) ?_
    clear b_10l b_10s b_10m b_10n
    refine ab_goto (tgt := 256) d_Body_readStatement_146 (by decide) ?_
    exact ab_vret d_Body_readStatement_256 rfl (by show _ ≤ C; omega) (by show _ ≤ Sl; omega) (by have hr := Option.some.inj hF; subst hr; exact ⟨rfl, rfl⟩)
  rw [if_neg t16] at hG
  have ut16 : ¬ (55 : Int) = (x5).toInt := fun z => t16 (Int32.toInt_inj.mp (z.symm.trans (by decide)))
  by_cases t21 : x5 = 57
  · rw [if_pos t21] at hG
    refine ab_lookup (off := 142) (tgt := 149) d_Body_readStatement_7 (by decide) (by rw [t21]; decide) (by decide) ?_
    refine ab_aload_n d_Body_readStatement_149 rfl rfl rfl ?_
    refine bT_c hG (fun x25 H24 z22 er => ?_) (fun v23 H24 z22 hF => ?_)
    · subst er
      have mz : Mo H H24 := (m_Body_readWhile hmo z22)
      have ml := mz.len
      have m2 := mz.2
      have hC9 : H24.sh.length ≤ c0 + C := hC
      have hS9 : H24.sl ≤ s0 + Sl := hS
      refine hp_callV_t (x := x25) (H1 := H24) (As := []) (rest := []) d_Body_readStatement_150 (k_Body_readWhile ho hmo z22 (C := H24.sh.length - H.sh.length) (Sl := H24.sl - H.sl) (by show H24.sh.length ≤ _; omega) (by show H24.sl ≤ _; omega)) (ab_mkC s_Body_readWhile (show (fr + 3) + 1 ≤ fr + 4 from by have := ho.1; omega) (show 8 + (3 + 11) + (lo + 65) ≤ lo + 90 from by have := ho.2.1; omega) (show (H.sh.length - c0) + (H24.sh.length - H.sh.length) ≤ C from by omega) (show (H.sl - s0) + (H24.sl - H.sl) ≤ Sl from by omega)) (k6 18 rfl rfl) i_Body_readWhile v_Body_readWhile q1 (by decide) rfl rfl (Nat.le_of_ble_eq_true rfl) ?_
      exact ab_U_out rfl (by show _ + (H24.sh.length - H.sh.length) ≤ C; omega) (by show _ + (H24.sl - H.sl) ≤ Sl; omega) ⟨rfl, rfl⟩
    clear hG
    have mz_13 : Mo H H24 := (m_Body_readWhile hmo z22)
    have b_14l := (mz_13).len
    have b_14s := (mz_13).2
    have b_14c : c0 ≤ H24.sh.length := by omega
    have b_14d : s0 ≤ H24.sl := by omega
    have q_15 := (mz_13).get q1
    have q_16 := (mz_13).get q4
    have fH24 : Mo H24 r.2 := by
      have hm := Mo.rf H24
      have hr := Option.some.inj hF; subst hr
      exact hm
    have b_14m := (fH24).len
    have b_14n := (fH24).2
    have b_14p : H24.sh.length ≤ c0 + C := by omega
    have b_14q : H24.sl ≤ s0 + Sl := by omega
    refine hp_callV_v (H1 := H24) (As := []) (rest := []) d_Body_readStatement_150 (k_Body_readWhile ho hmo z22 (C := H24.sh.length - H.sh.length) (Sl := H24.sl - H.sl) (by show H24.sh.length ≤ _; omega) (by show H24.sl ≤ _; omega)) (ab_mkC s_Body_readWhile (show (fr + 3) + 1 ≤ fr + 4 from by have := ho.1; omega) (show 8 + (3 + 11) + (lo + 65) ≤ lo + 90 from by have := ho.2.1; omega) (show (H.sh.length - c0) + (H24.sh.length - H.sh.length) ≤ C from by omega) (show (H.sl - s0) + (H24.sl - H.sl) ≤ Sl from by omega)) (k6 18 rfl rfl) i_Body_readWhile v_Body_readWhile q1 (by decide) rfl rfl (Nat.le_of_ble_eq_true rfl) ?_
    refine ab_widen (cells' := H24.sh.length - c0) (slots' := H24.sl - s0) (by show _ + (H24.sh.length - H.sh.length) ≤ _; omega) (by show _ + (H24.sl - H.sl) ≤ _; omega) ?_
    clear b_14l b_14s b_14m b_14n
    refine ab_goto (tgt := 256) d_Body_readStatement_153 (by decide) ?_
    exact ab_vret d_Body_readStatement_256 rfl (by show _ ≤ C; omega) (by show _ ≤ Sl; omega) (by have hr := Option.some.inj hF; subst hr; exact ⟨rfl, rfl⟩)
  rw [if_neg t21] at hG
  have ut21 : ¬ (57 : Int) = (x5).toInt := fun z => t21 (Int32.toInt_inj.mp (z.symm.trans (by decide)))
  by_cases t26 : x5 = 58
  · rw [if_pos t26] at hG
    refine ab_lookup (off := 149) (tgt := 156) d_Body_readStatement_7 (by decide) (by rw [t26]; decide) (by decide) ?_
    refine ab_aload_n d_Body_readStatement_156 rfl rfl rfl ?_
    refine bT_c hG (fun x30 H29 z27 er => ?_) (fun v28 H29 z27 hF => ?_)
    · subst er
      have mz : Mo H H29 := (m_Body_readFor hmo z27)
      have ml := mz.len
      have m2 := mz.2
      have hC9 : H29.sh.length ≤ c0 + C := hC
      have hS9 : H29.sl ≤ s0 + Sl := hS
      refine hp_callV_t (x := x30) (H1 := H29) (As := []) (rest := []) d_Body_readStatement_157 (k_Body_readFor ho hmo z27 (C := H29.sh.length - H.sh.length) (Sl := H29.sl - H.sl) (by show H29.sh.length ≤ _; omega) (by show H29.sl ≤ _; omega)) (ab_mkC s_Body_readFor (show (fr + 3) + 1 ≤ fr + 4 from by have := ho.1; omega) (show 8 + (6 + 11) + (lo + 65) ≤ lo + 90 from by have := ho.2.1; omega) (show (H.sh.length - c0) + (H29.sh.length - H.sh.length) ≤ C from by omega) (show (H.sl - s0) + (H29.sl - H.sl) ≤ Sl from by omega)) (k6 26 rfl rfl) i_Body_readFor v_Body_readFor q1 (by decide) rfl rfl (Nat.le_of_ble_eq_true rfl) ?_
      exact ab_U_out rfl (by show _ + (H29.sh.length - H.sh.length) ≤ C; omega) (by show _ + (H29.sl - H.sl) ≤ Sl; omega) ⟨rfl, rfl⟩
    clear hG
    have mz_17 : Mo H H29 := (m_Body_readFor hmo z27)
    have b_18l := (mz_17).len
    have b_18s := (mz_17).2
    have b_18c : c0 ≤ H29.sh.length := by omega
    have b_18d : s0 ≤ H29.sl := by omega
    have q_19 := (mz_17).get q1
    have q_20 := (mz_17).get q4
    have fH29 : Mo H29 r.2 := by
      have hm := Mo.rf H29
      have hr := Option.some.inj hF; subst hr
      exact hm
    have b_18m := (fH29).len
    have b_18n := (fH29).2
    have b_18p : H29.sh.length ≤ c0 + C := by omega
    have b_18q : H29.sl ≤ s0 + Sl := by omega
    refine hp_callV_v (H1 := H29) (As := []) (rest := []) d_Body_readStatement_157 (k_Body_readFor ho hmo z27 (C := H29.sh.length - H.sh.length) (Sl := H29.sl - H.sl) (by show H29.sh.length ≤ _; omega) (by show H29.sl ≤ _; omega)) (ab_mkC s_Body_readFor (show (fr + 3) + 1 ≤ fr + 4 from by have := ho.1; omega) (show 8 + (6 + 11) + (lo + 65) ≤ lo + 90 from by have := ho.2.1; omega) (show (H.sh.length - c0) + (H29.sh.length - H.sh.length) ≤ C from by omega) (show (H.sl - s0) + (H29.sl - H.sl) ≤ Sl from by omega)) (k6 26 rfl rfl) i_Body_readFor v_Body_readFor q1 (by decide) rfl rfl (Nat.le_of_ble_eq_true rfl) ?_
    refine ab_widen (cells' := H29.sh.length - c0) (slots' := H29.sl - s0) (by show _ + (H29.sh.length - H.sh.length) ≤ _; omega) (by show _ + (H29.sl - H.sl) ≤ _; omega) ?_
    clear b_18l b_18s b_18m b_18n
    refine ab_goto (tgt := 256) d_Body_readStatement_160 (by decide) ?_
    exact ab_vret d_Body_readStatement_256 rfl (by show _ ≤ C; omega) (by show _ ≤ Sl; omega) (by have hr := Option.some.inj hF; subst hr; exact ⟨rfl, rfl⟩)
  rw [if_neg t26] at hG
  have ut26 : ¬ (58 : Int) = (x5).toInt := fun z => t26 (Int32.toInt_inj.mp (z.symm.trans (by decide)))
  by_cases t31 : x5 = 61
  · rw [if_pos t31] at hG
    refine ab_lookup (off := 156) (tgt := 163) d_Body_readStatement_7 (by decide) (by rw [t31]; decide) (by decide) ?_
    refine ab_aload_n d_Body_readStatement_163 rfl rfl rfl ?_
    refine bT_c hG (fun x35 H34 z32 er => ?_) (fun v33 H34 z32 hF => ?_)
    · subst er
      have mz : Mo H H34 := (m_Body_readHear hmo z32)
      have ml := mz.len
      have m2 := mz.2
      have hC9 : H34.sh.length ≤ c0 + C := hC
      have hS9 : H34.sl ≤ s0 + Sl := hS
      refine hp_callV_t (x := x35) (H1 := H34) (As := []) (rest := []) d_Body_readStatement_164 (k_Body_readHear ho hmo z32 (C := H34.sh.length - H.sh.length) (Sl := H34.sl - H.sl) (by show H34.sh.length ≤ _; omega) (by show H34.sl ≤ _; omega)) (ab_mkC s_Body_readHear (show (fr + 3) + 1 ≤ fr + 4 from by have := ho.1; omega) (show 8 + (4 + 11) + (lo + 65) ≤ lo + 90 from by have := ho.2.1; omega) (show (H.sh.length - c0) + (H34.sh.length - H.sh.length) ≤ C from by omega) (show (H.sl - s0) + (H34.sl - H.sl) ≤ Sl from by omega)) (k6 40 rfl rfl) i_Body_readHear v_Body_readHear q1 (by decide) rfl rfl (Nat.le_of_ble_eq_true rfl) ?_
      exact ab_U_out rfl (by show _ + (H34.sh.length - H.sh.length) ≤ C; omega) (by show _ + (H34.sl - H.sl) ≤ Sl; omega) ⟨rfl, rfl⟩
    clear hG
    have mz_21 : Mo H H34 := (m_Body_readHear hmo z32)
    have b_22l := (mz_21).len
    have b_22s := (mz_21).2
    have b_22c : c0 ≤ H34.sh.length := by omega
    have b_22d : s0 ≤ H34.sl := by omega
    have q_23 := (mz_21).get q1
    have q_24 := (mz_21).get q4
    have fH34 : Mo H34 r.2 := by
      have hm := Mo.rf H34
      have hr := Option.some.inj hF; subst hr
      exact hm
    have b_22m := (fH34).len
    have b_22n := (fH34).2
    have b_22p : H34.sh.length ≤ c0 + C := by omega
    have b_22q : H34.sl ≤ s0 + Sl := by omega
    refine hp_callV_v (H1 := H34) (As := []) (rest := []) d_Body_readStatement_164 (k_Body_readHear ho hmo z32 (C := H34.sh.length - H.sh.length) (Sl := H34.sl - H.sl) (by show H34.sh.length ≤ _; omega) (by show H34.sl ≤ _; omega)) (ab_mkC s_Body_readHear (show (fr + 3) + 1 ≤ fr + 4 from by have := ho.1; omega) (show 8 + (4 + 11) + (lo + 65) ≤ lo + 90 from by have := ho.2.1; omega) (show (H.sh.length - c0) + (H34.sh.length - H.sh.length) ≤ C from by omega) (show (H.sl - s0) + (H34.sl - H.sl) ≤ Sl from by omega)) (k6 40 rfl rfl) i_Body_readHear v_Body_readHear q1 (by decide) rfl rfl (Nat.le_of_ble_eq_true rfl) ?_
    refine ab_widen (cells' := H34.sh.length - c0) (slots' := H34.sl - s0) (by show _ + (H34.sh.length - H.sh.length) ≤ _; omega) (by show _ + (H34.sl - H.sl) ≤ _; omega) ?_
    clear b_22l b_22s b_22m b_22n
    refine ab_goto (tgt := 256) d_Body_readStatement_167 (by decide) ?_
    exact ab_vret d_Body_readStatement_256 rfl (by show _ ≤ C; omega) (by show _ ≤ Sl; omega) (by have hr := Option.some.inj hF; subst hr; exact ⟨rfl, rfl⟩)
  rw [if_neg t31] at hG
  have ut31 : ¬ (61 : Int) = (x5).toInt := fun z => t31 (Int32.toInt_inj.mp (z.symm.trans (by decide)))
  by_cases t36 : x5 = 62
  · rw [if_pos t36] at hG
    refine ab_lookup (off := 163) (tgt := 170) d_Body_readStatement_7 (by decide) (by rw [t36]; decide) (by decide) ?_
    refine ab_aload_n d_Body_readStatement_170 rfl rfl rfl ?_
    refine bT_c hG (fun x40 H39 z37 er => ?_) (fun v38 H39 z37 hF => ?_)
    · subst er
      have mz : Mo H H39 := (m_Body_readSpawn z37)
      have ml := mz.len
      have m2 := mz.2
      have hC9 : H39.sh.length ≤ c0 + C := hC
      have hS9 : H39.sl ≤ s0 + Sl := hS
      refine hp_callV_t (x := x40) (H1 := H39) (As := []) (rest := []) d_Body_readStatement_171 (k_Body_readSpawn z37 (C := H39.sh.length - H.sh.length) (Sl := H39.sl - H.sl) (by show H39.sh.length ≤ _; omega) (by show H39.sl ≤ _; omega)) (ab_mkC s_Body_readSpawn (show 570 + 1 ≤ fr + 4 from by have := ho.1; omega) (show 8 + (7 + 11) + 13502 ≤ lo + 90 from by have := ho.2.1; omega) (show (H.sh.length - c0) + (H39.sh.length - H.sh.length) ≤ C from by omega) (show (H.sl - s0) + (H39.sl - H.sl) ≤ Sl from by omega)) (k6 44 rfl rfl) i_Body_readSpawn v_Body_readSpawn q1 (by decide) rfl rfl (Nat.le_of_ble_eq_true rfl) ?_
      exact ab_U_out rfl (by show _ + (H39.sh.length - H.sh.length) ≤ C; omega) (by show _ + (H39.sl - H.sl) ≤ Sl; omega) ⟨rfl, rfl⟩
    clear hG
    have mz_25 : Mo H H39 := (m_Body_readSpawn z37)
    have b_26l := (mz_25).len
    have b_26s := (mz_25).2
    have b_26c : c0 ≤ H39.sh.length := by omega
    have b_26d : s0 ≤ H39.sl := by omega
    have q_27 := (mz_25).get q1
    have q_28 := (mz_25).get q4
    have fH39 : Mo H39 r.2 := by
      have hm := Mo.rf H39
      have hr := Option.some.inj hF; subst hr
      exact hm
    have b_26m := (fH39).len
    have b_26n := (fH39).2
    have b_26p : H39.sh.length ≤ c0 + C := by omega
    have b_26q : H39.sl ≤ s0 + Sl := by omega
    refine hp_callV_v (H1 := H39) (As := []) (rest := []) d_Body_readStatement_171 (k_Body_readSpawn z37 (C := H39.sh.length - H.sh.length) (Sl := H39.sl - H.sl) (by show H39.sh.length ≤ _; omega) (by show H39.sl ≤ _; omega)) (ab_mkC s_Body_readSpawn (show 570 + 1 ≤ fr + 4 from by have := ho.1; omega) (show 8 + (7 + 11) + 13502 ≤ lo + 90 from by have := ho.2.1; omega) (show (H.sh.length - c0) + (H39.sh.length - H.sh.length) ≤ C from by omega) (show (H.sl - s0) + (H39.sl - H.sl) ≤ Sl from by omega)) (k6 44 rfl rfl) i_Body_readSpawn v_Body_readSpawn q1 (by decide) rfl rfl (Nat.le_of_ble_eq_true rfl) ?_
    refine ab_widen (cells' := H39.sh.length - c0) (slots' := H39.sl - s0) (by show _ + (H39.sh.length - H.sh.length) ≤ _; omega) (by show _ + (H39.sl - H.sl) ≤ _; omega) ?_
    clear b_26l b_26s b_26m b_26n
    refine ab_goto (tgt := 256) d_Body_readStatement_174 (by decide) ?_
    exact ab_vret d_Body_readStatement_256 rfl (by show _ ≤ C; omega) (by show _ ≤ Sl; omega) (by have hr := Option.some.inj hF; subst hr; exact ⟨rfl, rfl⟩)
  rw [if_neg t36] at hG
  have ut36 : ¬ (62 : Int) = (x5).toInt := fun z => t36 (Int32.toInt_inj.mp (z.symm.trans (by decide)))
  by_cases t41 : x5 = 63
  · rw [if_pos t41] at hG
    refine ab_lookup (off := 170) (tgt := 177) d_Body_readStatement_7 (by decide) (by rw [t41]; decide) (by decide) ?_
    refine ab_aload_n d_Body_readStatement_177 rfl rfl rfl ?_
    refine ab_aload_n d_Body_readStatement_178 rfl rfl rfl ?_
    obtain ⟨a42, e43, hF⟩ := rf_s hG; clear hG
    refine hp_getR (f := 0) d_Body_readStatement_179 q1 (by decide) rfl (by decide) (k1 157 rfl rfl) rfl e43 ?_
    obtain ⟨q44, hG⟩ := ck_s hF; clear hF
    refine hp_getI (f := 2) d_Body_readStatement_182 q44 (by decide) rfl (by decide) (k1 99 rfl rfl) rfl ?_
    refine ab_topi (fun x45 ex45 => ?_)
    replace hG := bnd_s ex45 hG
    refine bT_c hG (fun x49 H48 z46 er => ?_) (fun v47 H48 z46 hF => ?_)
    · subst er
      have mz : Mo H H48 := (m_Body_readTargeted z46)
      have ml := mz.len
      have m2 := mz.2
      have hC9 : H48.sh.length ≤ c0 + C := hC
      have hS9 : H48.sl ≤ s0 + Sl := hS
      refine hp_callV_t (x := x49) (H1 := H48) (As := [.int x45]) (rest := []) d_Body_readStatement_185 (k_Body_readTargeted z46 (C := H48.sh.length - H.sh.length) (Sl := H48.sl - H.sl) (by show H48.sh.length ≤ _; omega) (by show H48.sl ≤ _; omega)) (ab_mkC s_Body_readTargeted (show 571 + 1 ≤ fr + 4 from by have := ho.1; omega) (show 8 + (3 + 11) + 13524 ≤ lo + 90 from by have := ho.2.1; omega) (show (H.sh.length - c0) + (H48.sh.length - H.sh.length) ≤ C from by omega) (show (H.sl - s0) + (H48.sl - H.sl) ≤ Sl from by omega)) (k6 52 rfl rfl) i_Body_readTargeted v_Body_readTargeted q1 (by decide) rfl rfl (Nat.le_of_ble_eq_true rfl) ?_
      exact ab_U_out rfl (by show _ + (H48.sh.length - H.sh.length) ≤ C; omega) (by show _ + (H48.sl - H.sl) ≤ Sl; omega) ⟨rfl, rfl⟩
    clear hG
    have mz_29 : Mo H H48 := (m_Body_readTargeted z46)
    have b_30l := (mz_29).len
    have b_30s := (mz_29).2
    have b_30c : c0 ≤ H48.sh.length := by omega
    have b_30d : s0 ≤ H48.sl := by omega
    have q_31 := (mz_29).get q1
    have q_32 := (mz_29).get q4
    have q_33 := (mz_29).get q44
    have fH48 : Mo H48 r.2 := by
      have hm := Mo.rf H48
      have hr := Option.some.inj hF; subst hr
      exact hm
    have b_30m := (fH48).len
    have b_30n := (fH48).2
    have b_30p : H48.sh.length ≤ c0 + C := by omega
    have b_30q : H48.sl ≤ s0 + Sl := by omega
    refine hp_callV_v (H1 := H48) (As := [.int x45]) (rest := []) d_Body_readStatement_185 (k_Body_readTargeted z46 (C := H48.sh.length - H.sh.length) (Sl := H48.sl - H.sl) (by show H48.sh.length ≤ _; omega) (by show H48.sl ≤ _; omega)) (ab_mkC s_Body_readTargeted (show 571 + 1 ≤ fr + 4 from by have := ho.1; omega) (show 8 + (3 + 11) + 13524 ≤ lo + 90 from by have := ho.2.1; omega) (show (H.sh.length - c0) + (H48.sh.length - H.sh.length) ≤ C from by omega) (show (H.sl - s0) + (H48.sl - H.sl) ≤ Sl from by omega)) (k6 52 rfl rfl) i_Body_readTargeted v_Body_readTargeted q1 (by decide) rfl rfl (Nat.le_of_ble_eq_true rfl) ?_
    refine ab_widen (cells' := H48.sh.length - c0) (slots' := H48.sl - s0) (by show _ + (H48.sh.length - H.sh.length) ≤ _; omega) (by show _ + (H48.sl - H.sl) ≤ _; omega) ?_
    clear b_30l b_30s b_30m b_30n
    refine ab_goto (tgt := 256) d_Body_readStatement_188 (by decide) ?_
    exact ab_vret d_Body_readStatement_256 rfl (by show _ ≤ C; omega) (by show _ ≤ Sl; omega) (by have hr := Option.some.inj hF; subst hr; exact ⟨rfl, rfl⟩)
  rw [if_neg t41] at hG
  have ut41 : ¬ (63 : Int) = (x5).toInt := fun z => t41 (Int32.toInt_inj.mp (z.symm.trans (by decide)))
  by_cases t50 : x5 = 64
  · rw [if_pos t50] at hG
    refine ab_lookup (off := 170) (tgt := 177) d_Body_readStatement_7 (by decide) (by rw [t50]; decide) (by decide) ?_
    refine ab_aload_n d_Body_readStatement_177 rfl rfl rfl ?_
    refine ab_aload_n d_Body_readStatement_178 rfl rfl rfl ?_
    obtain ⟨a51, e52, hF⟩ := rf_s hG; clear hG
    refine hp_getR (f := 0) d_Body_readStatement_179 q1 (by decide) rfl (by decide) (k1 157 rfl rfl) rfl e52 ?_
    obtain ⟨q53, hG⟩ := ck_s hF; clear hF
    refine hp_getI (f := 2) d_Body_readStatement_182 q53 (by decide) rfl (by decide) (k1 99 rfl rfl) rfl ?_
    refine ab_topi (fun x54 ex54 => ?_)
    replace hG := bnd_s ex54 hG
    refine bT_c hG (fun x58 H57 z55 er => ?_) (fun v56 H57 z55 hF => ?_)
    · subst er
      have mz : Mo H H57 := (m_Body_readTargeted z55)
      have ml := mz.len
      have m2 := mz.2
      have hC9 : H57.sh.length ≤ c0 + C := hC
      have hS9 : H57.sl ≤ s0 + Sl := hS
      refine hp_callV_t (x := x58) (H1 := H57) (As := [.int x54]) (rest := []) d_Body_readStatement_185 (k_Body_readTargeted z55 (C := H57.sh.length - H.sh.length) (Sl := H57.sl - H.sl) (by show H57.sh.length ≤ _; omega) (by show H57.sl ≤ _; omega)) (ab_mkC s_Body_readTargeted (show 571 + 1 ≤ fr + 4 from by have := ho.1; omega) (show 8 + (3 + 11) + 13524 ≤ lo + 90 from by have := ho.2.1; omega) (show (H.sh.length - c0) + (H57.sh.length - H.sh.length) ≤ C from by omega) (show (H.sl - s0) + (H57.sl - H.sl) ≤ Sl from by omega)) (k6 52 rfl rfl) i_Body_readTargeted v_Body_readTargeted q1 (by decide) rfl rfl (Nat.le_of_ble_eq_true rfl) ?_
      exact ab_U_out rfl (by show _ + (H57.sh.length - H.sh.length) ≤ C; omega) (by show _ + (H57.sl - H.sl) ≤ Sl; omega) ⟨rfl, rfl⟩
    clear hG
    have mz_34 : Mo H H57 := (m_Body_readTargeted z55)
    have b_35l := (mz_34).len
    have b_35s := (mz_34).2
    have b_35c : c0 ≤ H57.sh.length := by omega
    have b_35d : s0 ≤ H57.sl := by omega
    have q_36 := (mz_34).get q1
    have q_37 := (mz_34).get q4
    have q_38 := (mz_34).get q53
    have fH57 : Mo H57 r.2 := by
      have hm := Mo.rf H57
      have hr := Option.some.inj hF; subst hr
      exact hm
    have b_35m := (fH57).len
    have b_35n := (fH57).2
    have b_35p : H57.sh.length ≤ c0 + C := by omega
    have b_35q : H57.sl ≤ s0 + Sl := by omega
    refine hp_callV_v (H1 := H57) (As := [.int x54]) (rest := []) d_Body_readStatement_185 (k_Body_readTargeted z55 (C := H57.sh.length - H.sh.length) (Sl := H57.sl - H.sl) (by show H57.sh.length ≤ _; omega) (by show H57.sl ≤ _; omega)) (ab_mkC s_Body_readTargeted (show 571 + 1 ≤ fr + 4 from by have := ho.1; omega) (show 8 + (3 + 11) + 13524 ≤ lo + 90 from by have := ho.2.1; omega) (show (H.sh.length - c0) + (H57.sh.length - H.sh.length) ≤ C from by omega) (show (H.sl - s0) + (H57.sl - H.sl) ≤ Sl from by omega)) (k6 52 rfl rfl) i_Body_readTargeted v_Body_readTargeted q1 (by decide) rfl rfl (Nat.le_of_ble_eq_true rfl) ?_
    refine ab_widen (cells' := H57.sh.length - c0) (slots' := H57.sl - s0) (by show _ + (H57.sh.length - H.sh.length) ≤ _; omega) (by show _ + (H57.sl - H.sl) ≤ _; omega) ?_
    clear b_35l b_35s b_35m b_35n
    refine ab_goto (tgt := 256) d_Body_readStatement_188 (by decide) ?_
    exact ab_vret d_Body_readStatement_256 rfl (by show _ ≤ C; omega) (by show _ ≤ Sl; omega) (by have hr := Option.some.inj hF; subst hr; exact ⟨rfl, rfl⟩)
  rw [if_neg t50] at hG
  have ut50 : ¬ (64 : Int) = (x5).toInt := fun z => t50 (Int32.toInt_inj.mp (z.symm.trans (by decide)))
  by_cases t59 : x5 = 65
  · rw [if_pos t59] at hG
    refine ab_lookup (off := 170) (tgt := 177) d_Body_readStatement_7 (by decide) (by rw [t59]; decide) (by decide) ?_
    refine ab_aload_n d_Body_readStatement_177 rfl rfl rfl ?_
    refine ab_aload_n d_Body_readStatement_178 rfl rfl rfl ?_
    obtain ⟨a60, e61, hF⟩ := rf_s hG; clear hG
    refine hp_getR (f := 0) d_Body_readStatement_179 q1 (by decide) rfl (by decide) (k1 157 rfl rfl) rfl e61 ?_
    obtain ⟨q62, hG⟩ := ck_s hF; clear hF
    refine hp_getI (f := 2) d_Body_readStatement_182 q62 (by decide) rfl (by decide) (k1 99 rfl rfl) rfl ?_
    refine ab_topi (fun x63 ex63 => ?_)
    replace hG := bnd_s ex63 hG
    refine bT_c hG (fun x67 H66 z64 er => ?_) (fun v65 H66 z64 hF => ?_)
    · subst er
      have mz : Mo H H66 := (m_Body_readTargeted z64)
      have ml := mz.len
      have m2 := mz.2
      have hC9 : H66.sh.length ≤ c0 + C := hC
      have hS9 : H66.sl ≤ s0 + Sl := hS
      refine hp_callV_t (x := x67) (H1 := H66) (As := [.int x63]) (rest := []) d_Body_readStatement_185 (k_Body_readTargeted z64 (C := H66.sh.length - H.sh.length) (Sl := H66.sl - H.sl) (by show H66.sh.length ≤ _; omega) (by show H66.sl ≤ _; omega)) (ab_mkC s_Body_readTargeted (show 571 + 1 ≤ fr + 4 from by have := ho.1; omega) (show 8 + (3 + 11) + 13524 ≤ lo + 90 from by have := ho.2.1; omega) (show (H.sh.length - c0) + (H66.sh.length - H.sh.length) ≤ C from by omega) (show (H.sl - s0) + (H66.sl - H.sl) ≤ Sl from by omega)) (k6 52 rfl rfl) i_Body_readTargeted v_Body_readTargeted q1 (by decide) rfl rfl (Nat.le_of_ble_eq_true rfl) ?_
      exact ab_U_out rfl (by show _ + (H66.sh.length - H.sh.length) ≤ C; omega) (by show _ + (H66.sl - H.sl) ≤ Sl; omega) ⟨rfl, rfl⟩
    clear hG
    have mz_39 : Mo H H66 := (m_Body_readTargeted z64)
    have b_40l := (mz_39).len
    have b_40s := (mz_39).2
    have b_40c : c0 ≤ H66.sh.length := by omega
    have b_40d : s0 ≤ H66.sl := by omega
    have q_41 := (mz_39).get q1
    have q_42 := (mz_39).get q4
    have q_43 := (mz_39).get q62
    have fH66 : Mo H66 r.2 := by
      have hm := Mo.rf H66
      have hr := Option.some.inj hF; subst hr
      exact hm
    have b_40m := (fH66).len
    have b_40n := (fH66).2
    have b_40p : H66.sh.length ≤ c0 + C := by omega
    have b_40q : H66.sl ≤ s0 + Sl := by omega
    refine hp_callV_v (H1 := H66) (As := [.int x63]) (rest := []) d_Body_readStatement_185 (k_Body_readTargeted z64 (C := H66.sh.length - H.sh.length) (Sl := H66.sl - H.sl) (by show H66.sh.length ≤ _; omega) (by show H66.sl ≤ _; omega)) (ab_mkC s_Body_readTargeted (show 571 + 1 ≤ fr + 4 from by have := ho.1; omega) (show 8 + (3 + 11) + 13524 ≤ lo + 90 from by have := ho.2.1; omega) (show (H.sh.length - c0) + (H66.sh.length - H.sh.length) ≤ C from by omega) (show (H.sl - s0) + (H66.sl - H.sl) ≤ Sl from by omega)) (k6 52 rfl rfl) i_Body_readTargeted v_Body_readTargeted q1 (by decide) rfl rfl (Nat.le_of_ble_eq_true rfl) ?_
    refine ab_widen (cells' := H66.sh.length - c0) (slots' := H66.sl - s0) (by show _ + (H66.sh.length - H.sh.length) ≤ _; omega) (by show _ + (H66.sl - H.sl) ≤ _; omega) ?_
    clear b_40l b_40s b_40m b_40n
    refine ab_goto (tgt := 256) d_Body_readStatement_188 (by decide) ?_
    exact ab_vret d_Body_readStatement_256 rfl (by show _ ≤ C; omega) (by show _ ≤ Sl; omega) (by have hr := Option.some.inj hF; subst hr; exact ⟨rfl, rfl⟩)
  rw [if_neg t59] at hG
  have ut59 : ¬ (65 : Int) = (x5).toInt := fun z => t59 (Int32.toInt_inj.mp (z.symm.trans (by decide)))
  by_cases t68 : x5 = 66
  · rw [if_pos t68] at hG
    refine ab_lookup (off := 184) (tgt := 191) d_Body_readStatement_7 (by decide) (by rw [t68]; decide) (by decide) ?_
    refine ab_aload_n d_Body_readStatement_191 rfl rfl rfl ?_
    refine bT_c hG (fun x72 H71 z69 er => ?_) (fun v70 H71 z69 hF => ?_)
    · subst er
      have mz : Mo H H71 := (m_Body_readPut z69)
      have ml := mz.len
      have m2 := mz.2
      have hC9 : H71.sh.length ≤ c0 + C := hC
      have hS9 : H71.sl ≤ s0 + Sl := hS
      refine hp_callV_t (x := x72) (H1 := H71) (As := []) (rest := []) d_Body_readStatement_192 (k_Body_readPut z69 (C := H71.sh.length - H.sh.length) (Sl := H71.sl - H.sl) (by show H71.sh.length ≤ _; omega) (by show H71.sl ≤ _; omega)) (ab_mkC s_Body_readPut (show 571 + 1 ≤ fr + 4 from by have := ho.1; omega) (show 8 + (3 + 11) + 13524 ≤ lo + 90 from by have := ho.2.1; omega) (show (H.sh.length - c0) + (H71.sh.length - H.sh.length) ≤ C from by omega) (show (H.sl - s0) + (H71.sl - H.sl) ≤ Sl from by omega)) (k6 56 rfl rfl) i_Body_readPut v_Body_readPut q1 (by decide) rfl rfl (Nat.le_of_ble_eq_true rfl) ?_
      exact ab_U_out rfl (by show _ + (H71.sh.length - H.sh.length) ≤ C; omega) (by show _ + (H71.sl - H.sl) ≤ Sl; omega) ⟨rfl, rfl⟩
    clear hG
    have mz_44 : Mo H H71 := (m_Body_readPut z69)
    have b_45l := (mz_44).len
    have b_45s := (mz_44).2
    have b_45c : c0 ≤ H71.sh.length := by omega
    have b_45d : s0 ≤ H71.sl := by omega
    have q_46 := (mz_44).get q1
    have q_47 := (mz_44).get q4
    have fH71 : Mo H71 r.2 := by
      have hm := Mo.rf H71
      have hr := Option.some.inj hF; subst hr
      exact hm
    have b_45m := (fH71).len
    have b_45n := (fH71).2
    have b_45p : H71.sh.length ≤ c0 + C := by omega
    have b_45q : H71.sl ≤ s0 + Sl := by omega
    refine hp_callV_v (H1 := H71) (As := []) (rest := []) d_Body_readStatement_192 (k_Body_readPut z69 (C := H71.sh.length - H.sh.length) (Sl := H71.sl - H.sl) (by show H71.sh.length ≤ _; omega) (by show H71.sl ≤ _; omega)) (ab_mkC s_Body_readPut (show 571 + 1 ≤ fr + 4 from by have := ho.1; omega) (show 8 + (3 + 11) + 13524 ≤ lo + 90 from by have := ho.2.1; omega) (show (H.sh.length - c0) + (H71.sh.length - H.sh.length) ≤ C from by omega) (show (H.sl - s0) + (H71.sl - H.sl) ≤ Sl from by omega)) (k6 56 rfl rfl) i_Body_readPut v_Body_readPut q1 (by decide) rfl rfl (Nat.le_of_ble_eq_true rfl) ?_
    refine ab_widen (cells' := H71.sh.length - c0) (slots' := H71.sl - s0) (by show _ + (H71.sh.length - H.sh.length) ≤ _; omega) (by show _ + (H71.sl - H.sl) ≤ _; omega) ?_
    clear b_45l b_45s b_45m b_45n
    refine ab_goto (tgt := 256) d_Body_readStatement_195 (by decide) ?_
    exact ab_vret d_Body_readStatement_256 rfl (by show _ ≤ C; omega) (by show _ ≤ Sl; omega) (by have hr := Option.some.inj hF; subst hr; exact ⟨rfl, rfl⟩)
  rw [if_neg t68] at hG
  have ut68 : ¬ (66 : Int) = (x5).toInt := fun z => t68 (Int32.toInt_inj.mp (z.symm.trans (by decide)))
  by_cases t73 : x5 = 67
  · rw [if_pos t73] at hG
    refine ab_lookup (off := 191) (tgt := 198) d_Body_readStatement_7 (by decide) (by rw [t73]; decide) (by decide) ?_
    refine ab_aload_n d_Body_readStatement_198 rfl rfl rfl ?_
    refine bT_c hG (fun x77 H76 z74 er => ?_) (fun v75 H76 z74 hF => ?_)
    · subst er
      have mz : Mo H H76 := (m_Body_readEmit z74)
      have ml := mz.len
      have m2 := mz.2
      have hC9 : H76.sh.length ≤ c0 + C := hC
      have hS9 : H76.sl ≤ s0 + Sl := hS
      refine hp_callV_t (x := x77) (H1 := H76) (As := []) (rest := []) d_Body_readStatement_199 (k_Body_readEmit z74 (C := H76.sh.length - H.sh.length) (Sl := H76.sl - H.sl) (by show H76.sh.length ≤ _; omega) (by show H76.sl ≤ _; omega)) (ab_mkC s_Body_readEmit (show 571 + 1 ≤ fr + 4 from by have := ho.1; omega) (show 8 + (6 + 11) + 13524 ≤ lo + 90 from by have := ho.2.1; omega) (show (H.sh.length - c0) + (H76.sh.length - H.sh.length) ≤ C from by omega) (show (H.sl - s0) + (H76.sl - H.sl) ≤ Sl from by omega)) (k6 60 rfl rfl) i_Body_readEmit v_Body_readEmit q1 (by decide) rfl rfl (Nat.le_of_ble_eq_true rfl) ?_
      exact ab_U_out rfl (by show _ + (H76.sh.length - H.sh.length) ≤ C; omega) (by show _ + (H76.sl - H.sl) ≤ Sl; omega) ⟨rfl, rfl⟩
    clear hG
    have mz_48 : Mo H H76 := (m_Body_readEmit z74)
    have b_49l := (mz_48).len
    have b_49s := (mz_48).2
    have b_49c : c0 ≤ H76.sh.length := by omega
    have b_49d : s0 ≤ H76.sl := by omega
    have q_50 := (mz_48).get q1
    have q_51 := (mz_48).get q4
    have fH76 : Mo H76 r.2 := by
      have hm := Mo.rf H76
      have hr := Option.some.inj hF; subst hr
      exact hm
    have b_49m := (fH76).len
    have b_49n := (fH76).2
    have b_49p : H76.sh.length ≤ c0 + C := by omega
    have b_49q : H76.sl ≤ s0 + Sl := by omega
    refine hp_callV_v (H1 := H76) (As := []) (rest := []) d_Body_readStatement_199 (k_Body_readEmit z74 (C := H76.sh.length - H.sh.length) (Sl := H76.sl - H.sl) (by show H76.sh.length ≤ _; omega) (by show H76.sl ≤ _; omega)) (ab_mkC s_Body_readEmit (show 571 + 1 ≤ fr + 4 from by have := ho.1; omega) (show 8 + (6 + 11) + 13524 ≤ lo + 90 from by have := ho.2.1; omega) (show (H.sh.length - c0) + (H76.sh.length - H.sh.length) ≤ C from by omega) (show (H.sl - s0) + (H76.sl - H.sl) ≤ Sl from by omega)) (k6 60 rfl rfl) i_Body_readEmit v_Body_readEmit q1 (by decide) rfl rfl (Nat.le_of_ble_eq_true rfl) ?_
    refine ab_widen (cells' := H76.sh.length - c0) (slots' := H76.sl - s0) (by show _ + (H76.sh.length - H.sh.length) ≤ _; omega) (by show _ + (H76.sl - H.sl) ≤ _; omega) ?_
    clear b_49l b_49s b_49m b_49n
    refine ab_goto (tgt := 256) d_Body_readStatement_202 (by decide) ?_
    exact ab_vret d_Body_readStatement_256 rfl (by show _ ≤ C; omega) (by show _ ≤ Sl; omega) (by have hr := Option.some.inj hF; subst hr; exact ⟨rfl, rfl⟩)
  rw [if_neg t73] at hG
  have ut73 : ¬ (67 : Int) = (x5).toInt := fun z => t73 (Int32.toInt_inj.mp (z.symm.trans (by decide)))
  by_cases t78 : x5 = 69
  · rw [if_pos t78] at hG
    refine ab_lookup (off := 198) (tgt := 205) d_Body_readStatement_7 (by decide) (by rw [t78]; decide) (by decide) ?_
    refine ab_aload_n d_Body_readStatement_205 rfl rfl rfl ?_
    refine bT_c hG (fun x82 H81 z79 er => ?_) (fun v80 H81 z79 hF => ?_)
    · subst er
      have mz : Mo H H81 := (m_Body_readShow z79)
      have ml := mz.len
      have m2 := mz.2
      have hC9 : H81.sh.length ≤ c0 + C := hC
      have hS9 : H81.sl ≤ s0 + Sl := hS
      refine hp_callV_t (x := x82) (H1 := H81) (As := []) (rest := []) d_Body_readStatement_206 (k_Body_readShow z79 (C := H81.sh.length - H.sh.length) (Sl := H81.sl - H.sl) (by show H81.sh.length ≤ _; omega) (by show H81.sl ≤ _; omega)) (ab_mkC s_Body_readShow (show 571 + 1 ≤ fr + 4 from by have := ho.1; omega) (show 8 + (1 + 11) + 13524 ≤ lo + 90 from by have := ho.2.1; omega) (show (H.sh.length - c0) + (H81.sh.length - H.sh.length) ≤ C from by omega) (show (H.sl - s0) + (H81.sl - H.sl) ≤ Sl from by omega)) (k6 64 rfl rfl) i_Body_readShow v_Body_readShow q1 (by decide) rfl rfl (Nat.le_of_ble_eq_true rfl) ?_
      exact ab_U_out rfl (by show _ + (H81.sh.length - H.sh.length) ≤ C; omega) (by show _ + (H81.sl - H.sl) ≤ Sl; omega) ⟨rfl, rfl⟩
    clear hG
    have mz_52 : Mo H H81 := (m_Body_readShow z79)
    have b_53l := (mz_52).len
    have b_53s := (mz_52).2
    have b_53c : c0 ≤ H81.sh.length := by omega
    have b_53d : s0 ≤ H81.sl := by omega
    have q_54 := (mz_52).get q1
    have q_55 := (mz_52).get q4
    have fH81 : Mo H81 r.2 := by
      have hm := Mo.rf H81
      have hr := Option.some.inj hF; subst hr
      exact hm
    have b_53m := (fH81).len
    have b_53n := (fH81).2
    have b_53p : H81.sh.length ≤ c0 + C := by omega
    have b_53q : H81.sl ≤ s0 + Sl := by omega
    refine hp_callV_v (H1 := H81) (As := []) (rest := []) d_Body_readStatement_206 (k_Body_readShow z79 (C := H81.sh.length - H.sh.length) (Sl := H81.sl - H.sl) (by show H81.sh.length ≤ _; omega) (by show H81.sl ≤ _; omega)) (ab_mkC s_Body_readShow (show 571 + 1 ≤ fr + 4 from by have := ho.1; omega) (show 8 + (1 + 11) + 13524 ≤ lo + 90 from by have := ho.2.1; omega) (show (H.sh.length - c0) + (H81.sh.length - H.sh.length) ≤ C from by omega) (show (H.sl - s0) + (H81.sl - H.sl) ≤ Sl from by omega)) (k6 64 rfl rfl) i_Body_readShow v_Body_readShow q1 (by decide) rfl rfl (Nat.le_of_ble_eq_true rfl) ?_
    refine ab_widen (cells' := H81.sh.length - c0) (slots' := H81.sl - s0) (by show _ + (H81.sh.length - H.sh.length) ≤ _; omega) (by show _ + (H81.sl - H.sl) ≤ _; omega) ?_
    clear b_53l b_53s b_53m b_53n
    refine ab_goto (tgt := 256) d_Body_readStatement_209 (by decide) ?_
    exact ab_vret d_Body_readStatement_256 rfl (by show _ ≤ C; omega) (by show _ ≤ Sl; omega) (by have hr := Option.some.inj hF; subst hr; exact ⟨rfl, rfl⟩)
  rw [if_neg t78] at hG
  have ut78 : ¬ (69 : Int) = (x5).toInt := fun z => t78 (Int32.toInt_inj.mp (z.symm.trans (by decide)))
  by_cases t83 : x5 = 70
  · rw [if_pos t83] at hG
    refine ab_lookup (off := 205) (tgt := 212) d_Body_readStatement_7 (by decide) (by rw [t83]; decide) (by decide) ?_
    refine ab_aload_n d_Body_readStatement_212 rfl rfl rfl ?_
    obtain ⟨a84, e85, hF⟩ := rf_s hG; clear hG
    refine hp_getR (f := 0) d_Body_readStatement_213 q1 (by decide) rfl (by decide) (k1 157 rfl rfl) rfl e85 ?_
    obtain ⟨q86, hG⟩ := ck_s hF; clear hF
    obtain ⟨v88, H89, z87, hF⟩ := bC_s hG; clear hG
    refine hp_callV_v (H1 := H89) (As := []) (rest := []) d_Body_readStatement_216 (k_Lexer_advance z87) (ab_mkC s_Lexer_advance (show 0 + 1 ≤ fr + 4 from by have := ho.1; omega) (show 8 + (1 + 11) + 0 ≤ lo + 90 from by have := ho.2.1; omega) (show (H.sh.length - c0) + 0 ≤ C from by omega) (show (H.sl - s0) + 0 ≤ Sl from by omega)) (k5 129 rfl rfl) i_Lexer_advance v_Lexer_advance q86 (by decide) rfl rfl (Nat.le_of_ble_eq_true rfl) ?_
    have s_57 : Sa H H89 := (m_Lexer_advance z87)
    refine ab_widen (cells' := H.sh.length - c0) (slots' := H.sl - s0) (by show (H.sh.length - c0) + 0 ≤ _; omega) (by show (H.sl - s0) + 0 ≤ _; omega) ?_
    refine ab_aload_n d_Body_readStatement_219 rfl rfl rfl ?_
    obtain ⟨a90, e91, hG⟩ := rf_s hF; clear hF
    refine hp_getR (f := 1) d_Body_readStatement_220 (by rw [(s_57).1]; exact q1) (by decide) rfl (by decide) (k1 158 rfl rfl) rfl e91 ?_
    refine ab_bipush (v := 11) d_Body_readStatement_223 (by decide) ?_
    obtain ⟨q92, hF⟩ := ck_s hG; clear hG
    rw [(s_57).1] at q92
    obtain ⟨v94, H95, z93, hG⟩ := bC_s hF; clear hF
    refine ab_widen (cells' := H89.sh.length - c0) (slots' := H89.sl - s0) (by rw [(s_57).1]; exact Nat.le_refl _) (by rw [(s_57).2]; exact Nat.le_refl _) ?_
    have b_58e := congrArg List.length (s_57).1
    have b_58f := (s_57).2
    refine hp_callV_a (v := .int v94) (H1 := H95) (As := [.int 11]) (rest := []) d_Body_readStatement_225 (k_Program_add z93) (ab_mkC s_Program_add (show 0 + 1 ≤ fr + 4 from by have := ho.1; omega) (show 8 + (2 + 11) + 0 ≤ lo + 90 from by have := ho.2.1; omega) (show (H89.sh.length - c0) + 0 ≤ C from by omega) (show (H89.sl - s0) + 0 ≤ Sl from by omega)) (k5 117 rfl rfl) i_Program_add v_Program_add (by rw [(s_57).1]; exact q92) (by decide) rfl rfl (Nat.le_of_ble_eq_true rfl) ?_
    have s_59 : Sa H H95 := (s_57).tr (m_Program_add z93)
    refine ab_widen (cells' := H.sh.length - c0) (slots' := H.sl - s0) (by show (H89.sh.length - c0) + 0 ≤ _; omega) (by show (H89.sl - s0) + 0 ≤ _; omega) ?_
    clear b_58e b_58f
    refine ab_pop d_Body_readStatement_228 rfl ?_
    refine ab_aload_n d_Body_readStatement_229 rfl rfl rfl ?_
    obtain ⟨a96, e97, hF⟩ := rf_s hG; clear hG
    refine hp_getR (f := 0) d_Body_readStatement_230 (by rw [(s_59).1]; exact q1) (by decide) rfl (by decide) (k1 157 rfl rfl) rfl e97 ?_
    refine ab_bipush (v := 15) d_Body_readStatement_233 (by decide) ?_
    obtain ⟨q98, hG⟩ := ck_s hF; clear hF
    rw [(s_59).1] at q98
    refine bT_c hG (fun x102 H101 z99 er => ?_) (fun v100 H101 z99 hF => ?_)
    · subst er
      refine ab_widen (cells' := H95.sh.length - c0) (slots' := H95.sl - s0) (by rw [(s_59).1]; exact Nat.le_refl _) (by rw [(s_59).2]; exact Nat.le_refl _) ?_
      have mz : Mo H95 H101 := (m_Lexer_take z99)
      have ml := mz.len
      have m2 := mz.2
      have be := congrArg List.length (s_59).1
      have bfx := (s_59).2
      have hC9 : H101.sh.length ≤ c0 + C := hC
      have hS9 : H101.sl ≤ s0 + Sl := hS
      refine hp_callV_t (x := x102) (H1 := H101) (As := [.int 15]) (rest := []) d_Body_readStatement_235 (k_Lexer_take z99 (C := H101.sh.length - H95.sh.length) (Sl := H101.sl - H95.sl) (by show H101.sh.length ≤ _; omega) (by show H101.sl ≤ _; omega)) (ab_mkC s_Lexer_take (show 7 + 1 ≤ fr + 4 from by have := ho.1; omega) (show 8 + (2 + 11) + 122 ≤ lo + 90 from by have := ho.2.1; omega) (show (H95.sh.length - c0) + (H101.sh.length - H95.sh.length) ≤ C from by omega) (show (H95.sl - s0) + (H101.sl - H95.sl) ≤ Sl from by omega)) (k5 116 rfl rfl) i_Lexer_take v_Lexer_take (by rw [(s_59).1]; exact q98) (by decide) rfl rfl (Nat.le_of_ble_eq_true rfl) ?_
      exact ab_U_out rfl (by show _ + (H101.sh.length - H95.sh.length) ≤ C; omega) (by show _ + (H101.sl - H95.sl) ≤ Sl; omega) ⟨rfl, rfl⟩
    clear hG
    refine ab_widen (cells' := H95.sh.length - c0) (slots' := H95.sl - s0) (by rw [(s_59).1]; exact Nat.le_refl _) (by rw [(s_59).2]; exact Nat.le_refl _) ?_
    have mz_60 : Mo H95 H101 := (m_Lexer_take z99)
    have b_61l := (mz_60).len
    have b_61s := (mz_60).2
    have b_61e := congrArg List.length (s_59).1
    have b_61f := (s_59).2
    have b_61c : c0 ≤ H101.sh.length := by omega
    have b_61d : s0 ≤ H101.sl := by omega
    have q_62 := (mz_60).get (by rw [(s_59).1]; exact q1)
    have q_63 := (mz_60).get (by rw [(s_59).1]; exact q4)
    have q_64 := (mz_60).get (by rw [(s_59).1]; exact q86)
    have q_65 := (mz_60).get (by rw [(s_59).1]; exact q92)
    have q_66 := (mz_60).get (by rw [(s_59).1]; exact q98)
    have fH101 : Mo H101 r.2 := by
      have hm := Mo.rf H101
      have hr := Option.some.inj hF; subst hr
      exact hm
    have b_61m := (fH101).len
    have b_61n := (fH101).2
    have b_61p : H101.sh.length ≤ c0 + C := by omega
    have b_61q : H101.sl ≤ s0 + Sl := by omega
    refine hp_callV_v (H1 := H101) (As := [.int 15]) (rest := []) d_Body_readStatement_235 (k_Lexer_take z99 (C := H101.sh.length - H95.sh.length) (Sl := H101.sl - H95.sl) (by show H101.sh.length ≤ _; omega) (by show H101.sl ≤ _; omega)) (ab_mkC s_Lexer_take (show 7 + 1 ≤ fr + 4 from by have := ho.1; omega) (show 8 + (2 + 11) + 122 ≤ lo + 90 from by have := ho.2.1; omega) (show (H95.sh.length - c0) + (H101.sh.length - H95.sh.length) ≤ C from by omega) (show (H95.sl - s0) + (H101.sl - H95.sl) ≤ Sl from by omega)) (k5 116 rfl rfl) i_Lexer_take v_Lexer_take (by rw [(s_59).1]; exact q98) (by decide) rfl rfl (Nat.le_of_ble_eq_true rfl) ?_
    refine ab_widen (cells' := H101.sh.length - c0) (slots' := H101.sl - s0) (by show _ + (H101.sh.length - H95.sh.length) ≤ _; omega) (by show _ + (H101.sl - H95.sl) ≤ _; omega) ?_
    clear b_61l b_61s b_61m b_61n b_61e b_61f
    refine ab_goto (tgt := 256) d_Body_readStatement_238 (by decide) ?_
    exact ab_vret d_Body_readStatement_256 rfl (by show _ ≤ C; omega) (by show _ ≤ Sl; omega) (by have hr := Option.some.inj hF; subst hr; exact ⟨rfl, rfl⟩)
  rw [if_neg t83] at hG
  have ut83 : ¬ (70 : Int) = (x5).toInt := fun z => t83 (Int32.toInt_inj.mp (z.symm.trans (by decide)))
  refine ab_lookup (off := 234) (tgt := 241) d_Body_readStatement_7 (by decide) (by simp [Op.lookupswitch.offset, ut6, ut11, ut16, ut21, ut26, ut31, ut36, ut41, ut50, ut59, ut68, ut73, ut78, ut83]) (by decide) ?_
  refine ab_aload_n d_Body_readStatement_241 rfl rfl rfl ?_
  obtain ⟨a103, e104, hF⟩ := rf_s hG; clear hG
  refine hp_getR (f := 0) d_Body_readStatement_242 q1 (by decide) rfl (by decide) (k1 157 rfl rfl) rfl e104 ?_
  refine ab_iconst (v := 1) d_Body_readStatement_245 (by decide) ?_
  refine ab_aload_n d_Body_readStatement_246 rfl rfl rfl ?_
  obtain ⟨a105, e106, hG⟩ := rf_s hF; clear hF
  refine hp_getR (f := 0) d_Body_readStatement_247 q1 (by decide) rfl (by decide) (k1 157 rfl rfl) rfl e106 ?_
  obtain ⟨q107, hF⟩ := ck_s hG; clear hG
  refine hp_getI (f := 3) d_Body_readStatement_250 q107 (by decide) rfl (by decide) (k1 103 rfl rfl) rfl ?_
  refine ab_topi (fun x108 ex108 => ?_)
  replace hF := bnd_s ex108 hF
  obtain ⟨q109, hG⟩ := ck_s hF; clear hF
  refine bT_c hG (fun x113 H112 z110 er => ?_) (fun v111 H112 z110 hF => ?_)
  · subst er
    have mz : Mo H H112 := (m_Lexer_refuse z110)
    have ml := mz.len
    have m2 := mz.2
    have hC9 : H112.sh.length ≤ c0 + C := hC
    have hS9 : H112.sl ≤ s0 + Sl := hS
    refine hp_callV_t (x := x113) (H1 := H112) (As := [.int 1, .int x108]) (rest := []) d_Body_readStatement_253 (k_Lexer_refuse z110 (C := H112.sh.length - H.sh.length) (Sl := H112.sl - H.sl) (by show H112.sh.length ≤ _; omega) (by show H112.sl ≤ _; omega)) (ab_mkC s_Lexer_refuse (show 6 + 1 ≤ fr + 4 from by have := ho.1; omega) (show 8 + (3 + 11) + 100 ≤ lo + 90 from by have := ho.2.1; omega) (show (H.sh.length - c0) + (H112.sh.length - H.sh.length) ≤ C from by omega) (show (H.sl - s0) + (H112.sl - H.sl) ≤ Sl from by omega)) (k5 135 rfl rfl) i_Lexer_refuse v_Lexer_refuse q109 (by decide) rfl rfl (Nat.le_of_ble_eq_true rfl) ?_
    exact ab_U_out rfl (by show _ + (H112.sh.length - H.sh.length) ≤ C; omega) (by show _ + (H112.sl - H.sl) ≤ Sl; omega) ⟨rfl, rfl⟩
  clear hG
  have mz_67 : Mo H H112 := (m_Lexer_refuse z110)
  have b_68l := (mz_67).len
  have b_68s := (mz_67).2
  have b_68c : c0 ≤ H112.sh.length := by omega
  have b_68d : s0 ≤ H112.sl := by omega
  have q_69 := (mz_67).get q1
  have q_70 := (mz_67).get q4
  have q_71 := (mz_67).get q107
  have q_72 := (mz_67).get q109
  have fH112 : Mo H112 r.2 := by
    have hm := Mo.rf H112
    have hr := Option.some.inj hF; subst hr
    exact hm
  have b_68m := (fH112).len
  have b_68n := (fH112).2
  have b_68p : H112.sh.length ≤ c0 + C := by omega
  have b_68q : H112.sl ≤ s0 + Sl := by omega
  refine hp_callV_v (H1 := H112) (As := [.int 1, .int x108]) (rest := []) d_Body_readStatement_253 (k_Lexer_refuse z110 (C := H112.sh.length - H.sh.length) (Sl := H112.sl - H.sl) (by show H112.sh.length ≤ _; omega) (by show H112.sl ≤ _; omega)) (ab_mkC s_Lexer_refuse (show 6 + 1 ≤ fr + 4 from by have := ho.1; omega) (show 8 + (3 + 11) + 100 ≤ lo + 90 from by have := ho.2.1; omega) (show (H.sh.length - c0) + (H112.sh.length - H.sh.length) ≤ C from by omega) (show (H.sl - s0) + (H112.sl - H.sl) ≤ Sl from by omega)) (k5 135 rfl rfl) i_Lexer_refuse v_Lexer_refuse q109 (by decide) rfl rfl (Nat.le_of_ble_eq_true rfl) ?_
  refine ab_widen (cells' := H112.sh.length - c0) (slots' := H112.sl - s0) (by show _ + (H112.sh.length - H.sh.length) ≤ _; omega) (by show _ + (H112.sl - H.sl) ≤ _; omega) ?_
  clear b_68l b_68s b_68m b_68n
  exact ab_vret d_Body_readStatement_256 rfl (by show _ ≤ C; omega) (by show _ ≤ Sl; omega) (by have hr := Option.some.inj hF; subst hr; exact ⟨rfl, rfl⟩)
