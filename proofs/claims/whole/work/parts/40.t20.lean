def y_Body_readTargeted : ab_Y := (⟨"WorldEngine$Body", "readTargeted", "(I)V"⟩, prog_2_method_25_code, 3, none, [])
theorem d_Body_readTargeted_0 : decode y_Body_readTargeted.2.1 0 = .ok (.aload_n 0, 1) := by decide +kernel
theorem d_Body_readTargeted_1 : decode y_Body_readTargeted.2.1 1 = .ok (.getfield 7, 3) := by decide +kernel
theorem d_Body_readTargeted_4 : decode y_Body_readTargeted.2.1 4 = .ok (.invokevirtual 93, 3) := by decide +kernel
theorem d_Body_readTargeted_7 : decode y_Body_readTargeted.2.1 7 = .ok (.aload_n 0, 1) := by decide +kernel
theorem d_Body_readTargeted_8 : decode y_Body_readTargeted.2.1 8 = .ok (.iconst 4, 1) := by decide +kernel
theorem d_Body_readTargeted_9 : decode y_Body_readTargeted.2.1 9 = .ok (.invokevirtual 141, 3) := by decide +kernel
theorem d_Body_readTargeted_12 : decode y_Body_readTargeted.2.1 12 = .ok (.pop, 1) := by decide +kernel
theorem d_Body_readTargeted_13 : decode y_Body_readTargeted.2.1 13 = .ok (.iload_n 1, 1) := by decide +kernel
theorem d_Body_readTargeted_14 : decode y_Body_readTargeted.2.1 14 = .ok (.bipush 63, 2) := by decide +kernel
theorem d_Body_readTargeted_16 : decode y_Body_readTargeted.2.1 16 = .ok (.if_icmp .ne 16, 3) := by decide +kernel
theorem d_Body_readTargeted_19 : decode y_Body_readTargeted.2.1 19 = .ok (.aload_n 0, 1) := by decide +kernel
theorem d_Body_readTargeted_20 : decode y_Body_readTargeted.2.1 20 = .ok (.getfield 17, 3) := by decide +kernel
theorem d_Body_readTargeted_23 : decode y_Body_readTargeted.2.1 23 = .ok (.bipush 21, 2) := by decide +kernel
theorem d_Body_readTargeted_25 : decode y_Body_readTargeted.2.1 25 = .ok (.invokevirtual 50, 3) := by decide +kernel
theorem d_Body_readTargeted_28 : decode y_Body_readTargeted.2.1 28 = .ok (.pop, 1) := by decide +kernel
theorem d_Body_readTargeted_29 : decode y_Body_readTargeted.2.1 29 = .ok (.goto 39, 3) := by decide +kernel
theorem d_Body_readTargeted_32 : decode y_Body_readTargeted.2.1 32 = .ok (.aload_n 0, 1) := by decide +kernel
theorem d_Body_readTargeted_33 : decode y_Body_readTargeted.2.1 33 = .ok (.iconst 0, 1) := by decide +kernel
theorem d_Body_readTargeted_34 : decode y_Body_readTargeted.2.1 34 = .ok (.invokevirtual 134, 3) := by decide +kernel
theorem d_Body_readTargeted_37 : decode y_Body_readTargeted.2.1 37 = .ok (.istore_n 2, 1) := by decide +kernel
theorem d_Body_readTargeted_38 : decode y_Body_readTargeted.2.1 38 = .ok (.aload_n 0, 1) := by decide +kernel
theorem d_Body_readTargeted_39 : decode y_Body_readTargeted.2.1 39 = .ok (.getfield 17, 3) := by decide +kernel
theorem d_Body_readTargeted_42 : decode y_Body_readTargeted.2.1 42 = .ok (.iload_n 1, 1) := by decide +kernel
theorem d_Body_readTargeted_43 : decode y_Body_readTargeted.2.1 43 = .ok (.bipush 64, 2) := by decide +kernel
theorem d_Body_readTargeted_45 : decode y_Body_readTargeted.2.1 45 = .ok (.if_icmp .ne 8, 3) := by decide +kernel
theorem d_Body_readTargeted_48 : decode y_Body_readTargeted.2.1 48 = .ok (.bipush 22, 2) := by decide +kernel
theorem d_Body_readTargeted_50 : decode y_Body_readTargeted.2.1 50 = .ok (.goto 5, 3) := by decide +kernel
theorem d_Body_readTargeted_53 : decode y_Body_readTargeted.2.1 53 = .ok (.bipush 23, 2) := by decide +kernel
theorem d_Body_readTargeted_55 : decode y_Body_readTargeted.2.1 55 = .ok (.invokevirtual 50, 3) := by decide +kernel
theorem d_Body_readTargeted_58 : decode y_Body_readTargeted.2.1 58 = .ok (.pop, 1) := by decide +kernel
theorem d_Body_readTargeted_59 : decode y_Body_readTargeted.2.1 59 = .ok (.aload_n 0, 1) := by decide +kernel
theorem d_Body_readTargeted_60 : decode y_Body_readTargeted.2.1 60 = .ok (.getfield 17, 3) := by decide +kernel
theorem d_Body_readTargeted_63 : decode y_Body_readTargeted.2.1 63 = .ok (.iload_n 2, 1) := by decide +kernel
theorem d_Body_readTargeted_64 : decode y_Body_readTargeted.2.1 64 = .ok (.invokevirtual 50, 3) := by decide +kernel
theorem d_Body_readTargeted_67 : decode y_Body_readTargeted.2.1 67 = .ok (.pop, 1) := by decide +kernel
theorem d_Body_readTargeted_68 : decode y_Body_readTargeted.2.1 68 = .ok (.aload_n 0, 1) := by decide +kernel
theorem d_Body_readTargeted_69 : decode y_Body_readTargeted.2.1 69 = .ok (.getfield 7, 3) := by decide +kernel
theorem d_Body_readTargeted_72 : decode y_Body_readTargeted.2.1 72 = .ok (.bipush 15, 2) := by decide +kernel
theorem d_Body_readTargeted_74 : decode y_Body_readTargeted.2.1 74 = .ok (.invokevirtual 41, 3) := by decide +kernel
theorem d_Body_readTargeted_77 : decode y_Body_readTargeted.2.1 77 = .ok (.return_, 1) := by decide +kernel
theorem s_Body_readTargeted : ab_Stat y_Body_readTargeted 1 := ⟨(k6 55 rfl rfl), (k1 8 rfl rfl), ⟨by decide, by decide⟩, by decide +kernel⟩
theorem i_Body_readTargeted : Cond.instanceMethod y_Body_readTargeted.1 ∈ ab_T := (k6 54 rfl rfl)
theorem v_Body_readTargeted : Cond.selects "WorldEngine$Body" y_Body_readTargeted.1 y_Body_readTargeted.1 ∈ ab_T := ab_s (List.mem_of_getElem? (i := 57) rfl) rfl
def B_Body_readTargeted_68 (N : Nat) (p0 : Nat) (p1 : Int32)  (H : Hp) : Option ((Ot Unit) × Hp) :=
    ck (H.sh[p0]? = some (6, 0)) <|
    rf (H.P p0 0) fun a20 =>
    ck (H.sh[a20]? = some (1, 0)) <|
    bT (F_Lexer_take N a20 (15 : Int32) H) fun v24 H25 =>
    some (.inl (), H25)
set_option maxRecDepth 20000 in
set_option maxHeartbeats 2000000 in
theorem mB_Body_readTargeted_68 {N : Nat} {p0 : Nat} {p1 : Int32}  {H : Hp} {r : (Ot Unit) × Hp} (hF : B_Body_readTargeted_68 N p0 p1  H = some r) : Mo H r.2 := by
  unfold B_Body_readTargeted_68 at hF
  have hm := Mo.rf H
  obtain ⟨q27, hG⟩ := ck_s hF; clear hF
  obtain ⟨a28, e29, hF⟩ := rf_s hG; clear hG
  obtain ⟨q30, hG⟩ := ck_s hF; clear hF
  refine bT_c hG (fun x34 H33 z31 er => ?_) (fun v32 H33 z31 hF => ?_)
  · subst er; exact hm.tr (m_Lexer_take z31)
  clear hG
  replace hm : Mo H H33 := hm.tr (m_Lexer_take z31)
  have hr := Option.some.inj hF; subst hr
  exact hm
set_option maxRecDepth 20000 in
set_option maxHeartbeats 2000000 in
theorem kB_Body_readTargeted_68 {N : Nat} {p0 : Nat} {p1 : Int32} {c0 s0 C Sl : Nat}  {H : Hp} {r : (Ot Unit) × Hp} (hF : B_Body_readTargeted_68 N p0 p1  H = some r) (hc0 : c0 ≤ H.sh.length) (hs0 : s0 ≤ H.sl) (hcc : H.sh.length ≤ c0 + C) (hss : H.sl ≤ s0 + Sl) (hC : r.2.sh.length ≤ c0 + C) (hS : r.2.sl ≤ s0 + Sl) : ab_V y_Body_readTargeted { frames := 571, cells := C, slots := Sl, locals := 13524 } (po (oV r.1) r.2) C Sl (H.sh.length - c0) (H.sl - s0) 68 [some (.ref p0), some (.int p1), none] [] (hpw H) := by
  unfold B_Body_readTargeted_68 at hF
  refine ab_aload_n d_Body_readTargeted_68 rfl rfl rfl ?_
  obtain ⟨q19, hG⟩ := ck_s hF; clear hF
  obtain ⟨a20, e21, hF⟩ := rf_s hG; clear hG
  refine hp_getR (f := 0) d_Body_readTargeted_69 q19 (by decide) rfl (by decide) (k1 157 rfl rfl) rfl e21 ?_
  refine ab_bipush (v := 15) d_Body_readTargeted_72 (by decide) ?_
  obtain ⟨q22, hG⟩ := ck_s hF; clear hF
  refine bT_c hG (fun x26 H25 z23 er => ?_) (fun v24 H25 z23 hF => ?_)
  · subst er
    have mz : Mo H H25 := (m_Lexer_take z23)
    have ml := mz.len
    have m2 := mz.2
    have hC9 : H25.sh.length ≤ c0 + C := hC
    have hS9 : H25.sl ≤ s0 + Sl := hS
    refine hp_callV_t (x := x26) (H1 := H25) (As := [.int 15]) (rest := []) d_Body_readTargeted_74 (k_Lexer_take z23 (C := H25.sh.length - H.sh.length) (Sl := H25.sl - H.sl) (by show H25.sh.length ≤ _; omega) (by show H25.sl ≤ _; omega)) (ab_mkC s_Lexer_take (Nat.le_of_ble_eq_true rfl) (Nat.le_of_ble_eq_true rfl) (show (H.sh.length - c0) + (H25.sh.length - H.sh.length) ≤ C from by omega) (show (H.sl - s0) + (H25.sl - H.sl) ≤ Sl from by omega)) (k5 116 rfl rfl) i_Lexer_take v_Lexer_take q22 (by decide) rfl rfl (Nat.le_of_ble_eq_true rfl) ?_
    exact ab_U_out rfl (by show _ + (H25.sh.length - H.sh.length) ≤ C; omega) (by show _ + (H25.sl - H.sl) ≤ Sl; omega) ⟨rfl, rfl⟩
  clear hG
  have mz_8 : Mo H H25 := (m_Lexer_take z23)
  have b_9l := (mz_8).len
  have b_9s := (mz_8).2
  have b_9c : c0 ≤ H25.sh.length := by omega
  have b_9d : s0 ≤ H25.sl := by omega
  have q_10 := (mz_8).get q19
  have q_11 := (mz_8).get q22
  have fH25 : Mo H25 r.2 := by
    have hm := Mo.rf H25
    have hr := Option.some.inj hF; subst hr
    exact hm
  have b_9m := (fH25).len
  have b_9n := (fH25).2
  have b_9p : H25.sh.length ≤ c0 + C := by omega
  have b_9q : H25.sl ≤ s0 + Sl := by omega
  refine hp_callV_v (H1 := H25) (As := [.int 15]) (rest := []) d_Body_readTargeted_74 (k_Lexer_take z23 (C := H25.sh.length - H.sh.length) (Sl := H25.sl - H.sl) (by show H25.sh.length ≤ _; omega) (by show H25.sl ≤ _; omega)) (ab_mkC s_Lexer_take (Nat.le_of_ble_eq_true rfl) (Nat.le_of_ble_eq_true rfl) (show (H.sh.length - c0) + (H25.sh.length - H.sh.length) ≤ C from by omega) (show (H.sl - s0) + (H25.sl - H.sl) ≤ Sl from by omega)) (k5 116 rfl rfl) i_Lexer_take v_Lexer_take q22 (by decide) rfl rfl (Nat.le_of_ble_eq_true rfl) ?_
  refine ab_widen (cells' := H25.sh.length - c0) (slots' := H25.sl - s0) (by show _ + (H25.sh.length - H.sh.length) ≤ _; omega) (by show _ + (H25.sl - H.sl) ≤ _; omega) ?_
  clear b_9l b_9s b_9m b_9n
  exact ab_vret d_Body_readTargeted_77 rfl (by show _ ≤ C; omega) (by show _ ≤ Sl; omega) (by have hr := Option.some.inj hF; subst hr; exact ⟨rfl, rfl⟩)
def B_Body_readTargeted_55 (N : Nat) (p0 : Nat) (p1 : Int32) (l2 : Int32) (w0 : Nat) (w1 : Int32) (H : Hp) : Option ((Ot Unit) × Hp) :=
    ck (H.sh[w0]? = some (4, 0)) <|
    bC (F_Program_add N w0 w1 H) fun v44 H45 =>
    ck (H45.sh[p0]? = some (6, 0)) <|
    rf (H45.P p0 1) fun a47 =>
    ck (H45.sh[a47]? = some (4, 0)) <|
    bC (F_Program_add N a47 l2 H45) fun v51 H52 =>
    B_Body_readTargeted_68 N p0 p1  H52
set_option maxRecDepth 20000 in
set_option maxHeartbeats 2000000 in
theorem mB_Body_readTargeted_55 {N : Nat} {p0 : Nat} {p1 : Int32} {l2 : Int32} {w0 : Nat} {w1 : Int32} {H : Hp} {r : (Ot Unit) × Hp} (hF : B_Body_readTargeted_55 N p0 p1 l2 w0 w1 H = some r) : Mo H r.2 := by
  unfold B_Body_readTargeted_55 at hF
  have hm := Mo.rf H
  obtain ⟨q53, hG⟩ := ck_s hF; clear hF
  obtain ⟨v55, H56, z54, hF⟩ := bC_s hG; clear hG
  replace hm : Mo H H56 := hm.tr ((m_Program_add z54)).mo
  obtain ⟨q57, hG⟩ := ck_s hF; clear hF
  obtain ⟨a58, e59, hF⟩ := rf_s hG; clear hG
  obtain ⟨q60, hG⟩ := ck_s hF; clear hF
  obtain ⟨v62, H63, z61, hF⟩ := bC_s hG; clear hG
  replace hm : Mo H H63 := hm.tr ((m_Program_add z61)).mo
  exact hm.tr (mB_Body_readTargeted_68 hF)
set_option maxRecDepth 20000 in
set_option maxHeartbeats 2000000 in
theorem kB_Body_readTargeted_55 {N : Nat} {p0 : Nat} {p1 : Int32} {c0 s0 C Sl : Nat} {l2 : Int32} {w0 : Nat} {w1 : Int32} {H : Hp} {r : (Ot Unit) × Hp} (hF : B_Body_readTargeted_55 N p0 p1 l2 w0 w1 H = some r) (hc0 : c0 ≤ H.sh.length) (hs0 : s0 ≤ H.sl) (hcc : H.sh.length ≤ c0 + C) (hss : H.sl ≤ s0 + Sl) (hC : r.2.sh.length ≤ c0 + C) (hS : r.2.sl ≤ s0 + Sl) : ab_V y_Body_readTargeted { frames := 571, cells := C, slots := Sl, locals := 13524 } (po (oV r.1) r.2) C Sl (H.sh.length - c0) (H.sl - s0) 55 [some (.ref p0), some (.int p1), some (.int l2)] [.int w1, .ref w0] (hpw H) := by
  unfold B_Body_readTargeted_55 at hF
  obtain ⟨q42, hG⟩ := ck_s hF; clear hF
  obtain ⟨v44, H45, z43, hF⟩ := bC_s hG; clear hG
  refine hp_callV_a (v := .int v44) (H1 := H45) (As := [.int w1]) (rest := []) d_Body_readTargeted_55 (k_Program_add z43) (ab_mkC s_Program_add (Nat.le_of_ble_eq_true rfl) (Nat.le_of_ble_eq_true rfl) (show (H.sh.length - c0) + 0 ≤ C from by omega) (show (H.sl - s0) + 0 ≤ Sl from by omega)) (k5 117 rfl rfl) i_Program_add v_Program_add q42 (by decide) rfl rfl (Nat.le_of_ble_eq_true rfl) ?_
  have s_20 : Sa H H45 := (m_Program_add z43)
  refine ab_widen (cells' := H.sh.length - c0) (slots' := H.sl - s0) (by show (H.sh.length - c0) + 0 ≤ _; omega) (by show (H.sl - s0) + 0 ≤ _; omega) ?_
  refine ab_pop d_Body_readTargeted_58 rfl ?_
  refine ab_aload_n d_Body_readTargeted_59 rfl rfl rfl ?_
  obtain ⟨q46, hG⟩ := ck_s hF; clear hF
  rw [(s_20).1] at q46
  obtain ⟨a47, e48, hF⟩ := rf_s hG; clear hG
  refine hp_getR (f := 1) d_Body_readTargeted_60 (by rw [(s_20).1]; exact q46) (by decide) rfl (by decide) (k1 158 rfl rfl) rfl e48 ?_
  refine ab_iload_n d_Body_readTargeted_63 rfl rfl ?_
  obtain ⟨q49, hG⟩ := ck_s hF; clear hF
  rw [(s_20).1] at q49
  obtain ⟨v51, H52, z50, hF⟩ := bC_s hG; clear hG
  refine ab_widen (cells' := H45.sh.length - c0) (slots' := H45.sl - s0) (by rw [(s_20).1]; exact Nat.le_refl _) (by rw [(s_20).2]; exact Nat.le_refl _) ?_
  have b_21e := congrArg List.length (s_20).1
  have b_21f := (s_20).2
  refine hp_callV_a (v := .int v51) (H1 := H52) (As := [.int l2]) (rest := []) d_Body_readTargeted_64 (k_Program_add z50) (ab_mkC s_Program_add (Nat.le_of_ble_eq_true rfl) (Nat.le_of_ble_eq_true rfl) (show (H45.sh.length - c0) + 0 ≤ C from by omega) (show (H45.sl - s0) + 0 ≤ Sl from by omega)) (k5 117 rfl rfl) i_Program_add v_Program_add (by rw [(s_20).1]; exact q49) (by decide) rfl rfl (Nat.le_of_ble_eq_true rfl) ?_
  have s_22 : Sa H H52 := (s_20).tr (m_Program_add z50)
  refine ab_widen (cells' := H.sh.length - c0) (slots' := H.sl - s0) (by show (H45.sh.length - c0) + 0 ≤ _; omega) (by show (H45.sl - s0) + 0 ≤ _; omega) ?_
  clear b_21e b_21f
  refine ab_pop d_Body_readTargeted_67 rfl ?_
  refine ab_le (lv' := [some (.ref p0), some (.int p1), none]) ⟨rfl, ⟨rfl, trivial⟩⟩ ?_
  refine ab_widen (cells' := H52.sh.length - c0) (slots' := H52.sl - s0) (by rw [(s_22).1]; exact Nat.le_refl _) (by rw [(s_22).2]; exact Nat.le_refl _) ?_
  exact kB_Body_readTargeted_68 hF (by rw [(s_22).1]; exact hc0) (by rw [(s_22).2]; exact hs0) (by rw [(s_22).1]; exact hcc) (by rw [(s_22).2]; exact hss) hC hS
def F_Body_readTargeted (N : Nat) (p0 : Nat) (p1 : Int32) (H : Hp) : Option ((Ot Unit) × Hp) :=
    ck (H.sh[p0]? = some (6, 0)) <|
    rf (H.P p0 0) fun a2 =>
    ck (H.sh[a2]? = some (1, 0)) <|
    bC (F_Lexer_advance N a2 H) fun v6 H7 =>
    bT (F_Body_inParens N (X_BodyE N 140) p0 (4 : Int32) H7) fun v9 H10 =>
    if p1 = (63 : Int32) then
    rf (H10.P p0 1) fun a20 =>
    ck (H10.sh[a20]? = some (4, 0)) <|
    bC (F_Program_add N a20 (21 : Int32) H10) fun v24 H25 =>
    B_Body_readTargeted_68 N p0 p1  H25
    else
    bT (F_Body_numberHere N p0 (0 : Int32) H10) fun v14 H15 =>
    rf (H15.P p0 1) fun a17 =>
    if p1 = (64 : Int32) then
    B_Body_readTargeted_55 N p0 p1 v14 a17 22 H15
    else
    B_Body_readTargeted_55 N p0 p1 v14 a17 23 H15
set_option maxRecDepth 20000 in
set_option maxHeartbeats 2000000 in
theorem m_Body_readTargeted {N : Nat} {p0 : Nat} {p1 : Int32} {H : Hp} {r : (Ot Unit) × Hp} (hF : F_Body_readTargeted N p0 p1 H = some r) : Mo H r.2 := by
  unfold F_Body_readTargeted at hF
  have hm := Mo.rf H
  obtain ⟨q26, hG⟩ := ck_s hF; clear hF
  obtain ⟨a27, e28, hF⟩ := rf_s hG; clear hG
  obtain ⟨q29, hG⟩ := ck_s hF; clear hF
  obtain ⟨v31, H32, z30, hF⟩ := bC_s hG; clear hG
  replace hm : Mo H H32 := hm.tr ((m_Lexer_advance z30)).mo
  refine bT_c hF (fun x36 H35 z33 er => ?_) (fun v34 H35 z33 hG => ?_)
  · subst er; exact hm.tr (m_Body_inParens (moX_BodyE 140) z33)
  clear hF
  replace hm : Mo H H35 := hm.tr (m_Body_inParens (moX_BodyE 140) z33)
  rcases ite_s hG with ⟨q_33, hF⟩ | ⟨q_33, hF⟩
  · clear hG
    obtain ⟨a38, e39, hG⟩ := rf_s hF; clear hF
    obtain ⟨q40, hF⟩ := ck_s hG; clear hG
    obtain ⟨v42, H43, z41, hG⟩ := bC_s hF; clear hF
    replace hm : Mo H H43 := hm.tr ((m_Program_add z41)).mo
    exact hm.tr (mB_Body_readTargeted_68 hG)
  · clear hG
    refine bT_c hF (fun x47 H46 z44 er => ?_) (fun v45 H46 z44 hG => ?_)
    · subst er; exact hm.tr (m_Body_numberHere z44)
    clear hF
    replace hm : Mo H H46 := hm.tr (m_Body_numberHere z44)
    obtain ⟨a48, e49, hF⟩ := rf_s hG; clear hG
    rcases ite_s hF with ⟨q_37, hG⟩ | ⟨q_37, hG⟩
    · clear hF
      exact hm.tr (mB_Body_readTargeted_55 hG)
    · clear hF
      exact hm.tr (mB_Body_readTargeted_55 hG)
set_option maxRecDepth 20000 in
set_option maxHeartbeats 2000000 in
theorem k_Body_readTargeted {N : Nat} {p0 : Nat} {p1 : Int32} {H : Hp} {r : (Ot Unit) × Hp} {C Sl : Nat} (hF : F_Body_readTargeted N p0 p1 H = some r) (hC : r.2.sh.length ≤ H.sh.length + C) (hS : r.2.sl ≤ H.sl + Sl) : ab_M y_Body_readTargeted { frames := 571, cells := C, slots := Sl, locals := 13524 } [.ref p0, .int p1] (hpw H) (po (oV r.1) r.2) := by
  unfold F_Body_readTargeted at hF
  obtain ⟨c0, e0⟩ : ∃ q, q = H.sh.length := ⟨_, rfl⟩
  obtain ⟨s0, e1⟩ : ∃ q, q = H.sl := ⟨_, rfl⟩
  rw [← e0] at hC
  rw [← e1] at hS
  have hc0 : c0 ≤ H.sh.length := Nat.le_of_eq e0
  have hs0 : s0 ≤ H.sl := Nat.le_of_eq e1
  have hcc : H.sh.length ≤ c0 + C := by omega
  have hss : H.sl ≤ s0 + Sl := by omega
  refine ab_of2 (lv := [some (.ref p0), some (.int p1), none]) 1 rfl rfl (Nat.le_of_ble_eq_true rfl) ?_
  refine ab_widen (cells' := H.sh.length - c0) (slots' := H.sl - s0) (Nat.zero_le _) (Nat.zero_le _) ?_
  refine ab_aload_n d_Body_readTargeted_0 rfl rfl rfl ?_
  obtain ⟨q1, hG⟩ := ck_s hF; clear hF
  obtain ⟨a2, e3, hF⟩ := rf_s hG; clear hG
  refine hp_getR (f := 0) d_Body_readTargeted_1 q1 (by decide) rfl (by decide) (k1 157 rfl rfl) rfl e3 ?_
  obtain ⟨q4, hG⟩ := ck_s hF; clear hF
  obtain ⟨v6, H7, z5, hF⟩ := bC_s hG; clear hG
  refine hp_callV_v (H1 := H7) (As := []) (rest := []) d_Body_readTargeted_4 (k_Lexer_advance z5) (ab_mkC s_Lexer_advance (Nat.le_of_ble_eq_true rfl) (Nat.le_of_ble_eq_true rfl) (show (H.sh.length - c0) + 0 ≤ C from by omega) (show (H.sl - s0) + 0 ≤ Sl from by omega)) (k5 129 rfl rfl) i_Lexer_advance v_Lexer_advance q4 (by decide) rfl rfl (Nat.le_of_ble_eq_true rfl) ?_
  have s_2 : Sa H H7 := (m_Lexer_advance z5)
  refine ab_widen (cells' := H.sh.length - c0) (slots' := H.sl - s0) (by show (H.sh.length - c0) + 0 ≤ _; omega) (by show (H.sl - s0) + 0 ≤ _; omega) ?_
  refine ab_aload_n d_Body_readTargeted_7 rfl rfl rfl ?_
  refine ab_iconst (v := 4) d_Body_readTargeted_8 (by decide) ?_
  refine bT_c hF (fun x11 H10 z8 er => ?_) (fun v9 H10 z8 hG => ?_)
  · subst er
    refine ab_widen (cells' := H7.sh.length - c0) (slots' := H7.sl - s0) (by rw [(s_2).1]; exact Nat.le_refl _) (by rw [(s_2).2]; exact Nat.le_refl _) ?_
    have mz : Mo H7 H10 := (m_Body_inParens (moX_BodyE 140) z8)
    have ml := mz.len
    have m2 := mz.2
    have be := congrArg List.length (s_2).1
    have bfx := (s_2).2
    have hC9 : H10.sh.length ≤ c0 + C := hC
    have hS9 : H10.sl ≤ s0 + Sl := hS
    refine hp_callV_t (x := x11) (H1 := H10) (As := [.int 4]) (rest := []) d_Body_readTargeted_9 (k_Body_inParens (okX_BodyE 140) (moX_BodyE 140) z8 (C := H10.sh.length - H7.sh.length) (Sl := H10.sl - H7.sl) (by show H10.sh.length ≤ _; omega) (by show H10.sl ≤ _; omega)) (ab_mkC s_Body_inParens (Nat.le_of_ble_eq_true rfl) (Nat.le_of_ble_eq_true rfl) (show (H7.sh.length - c0) + (H10.sh.length - H7.sh.length) ≤ C from by omega) (show (H7.sl - s0) + (H10.sl - H7.sl) ≤ Sl from by omega)) (k5 157 rfl rfl) i_Body_inParens v_Body_inParens (by rw [(s_2).1]; exact q1) (by decide) rfl rfl (Nat.le_of_ble_eq_true rfl) ?_
    exact ab_U_out rfl (by show _ + (H10.sh.length - H7.sh.length) ≤ C; omega) (by show _ + (H10.sl - H7.sl) ≤ Sl; omega) ⟨rfl, rfl⟩
  clear hF
  refine ab_widen (cells' := H7.sh.length - c0) (slots' := H7.sl - s0) (by rw [(s_2).1]; exact Nat.le_refl _) (by rw [(s_2).2]; exact Nat.le_refl _) ?_
  have mz_3 : Mo H7 H10 := (m_Body_inParens (moX_BodyE 140) z8)
  have b_4l := (mz_3).len
  have b_4s := (mz_3).2
  have b_4e := congrArg List.length (s_2).1
  have b_4f := (s_2).2
  have b_4c : c0 ≤ H10.sh.length := by omega
  have b_4d : s0 ≤ H10.sl := by omega
  have q_5 := (mz_3).get (by rw [(s_2).1]; exact q1)
  have q_6 := (mz_3).get (by rw [(s_2).1]; exact q4)
  have fH10 : Mo H10 r.2 := by
    have hm := Mo.rf H10
    rcases ite_s hG with ⟨q_7, hF⟩ | ⟨q_7, hF⟩
    · clear hG
      obtain ⟨a13, e14, hG⟩ := rf_s hF; clear hF
      obtain ⟨q15, hF⟩ := ck_s hG; clear hG
      obtain ⟨v17, H18, z16, hG⟩ := bC_s hF; clear hF
      replace hm : Mo H10 H18 := hm.tr ((m_Program_add z16)).mo
      exact hm.tr (mB_Body_readTargeted_68 hG)
    · clear hG
      refine bT_c hF (fun x38 H37 z35 er => ?_) (fun v36 H37 z35 hG => ?_)
      · subst er; exact hm.tr (m_Body_numberHere z35)
      clear hF
      replace hm : Mo H10 H37 := hm.tr (m_Body_numberHere z35)
      obtain ⟨a39, e40, hF⟩ := rf_s hG; clear hG
      rcases ite_s hF with ⟨q_18, hG⟩ | ⟨q_18, hG⟩
      · clear hF
        exact hm.tr (mB_Body_readTargeted_55 hG)
      · clear hF
        exact hm.tr (mB_Body_readTargeted_55 hG)
  have b_4m := (fH10).len
  have b_4n := (fH10).2
  have b_4p : H10.sh.length ≤ c0 + C := by omega
  have b_4q : H10.sl ≤ s0 + Sl := by omega
  refine hp_callV_a (v := .int v9) (H1 := H10) (As := [.int 4]) (rest := []) d_Body_readTargeted_9 (k_Body_inParens (okX_BodyE 140) (moX_BodyE 140) z8 (C := H10.sh.length - H7.sh.length) (Sl := H10.sl - H7.sl) (by show H10.sh.length ≤ _; omega) (by show H10.sl ≤ _; omega)) (ab_mkC s_Body_inParens (Nat.le_of_ble_eq_true rfl) (Nat.le_of_ble_eq_true rfl) (show (H7.sh.length - c0) + (H10.sh.length - H7.sh.length) ≤ C from by omega) (show (H7.sl - s0) + (H10.sl - H7.sl) ≤ Sl from by omega)) (k5 157 rfl rfl) i_Body_inParens v_Body_inParens (by rw [(s_2).1]; exact q1) (by decide) rfl rfl (Nat.le_of_ble_eq_true rfl) ?_
  refine ab_widen (cells' := H10.sh.length - c0) (slots' := H10.sl - s0) (by show _ + (H10.sh.length - H7.sh.length) ≤ _; omega) (by show _ + (H10.sl - H7.sl) ≤ _; omega) ?_
  clear b_4l b_4s b_4m b_4n b_4e b_4f
  refine ab_pop d_Body_readTargeted_12 rfl ?_
  refine ab_iload_n d_Body_readTargeted_13 rfl rfl ?_
  refine ab_bipush (v := 63) d_Body_readTargeted_14 (by decide) ?_
  refine ab_icmp_ne (tgt := 32) d_Body_readTargeted_16 (by decide) (fun q12 => ?_) (fun q12 => ?_)
  · rw [if_neg q12] at hG
    refine ab_aload_n d_Body_readTargeted_32 rfl rfl rfl ?_
    refine ab_iconst (v := 0) d_Body_readTargeted_33 (by decide) ?_
    refine bT_c hG (fun x16 H15 z13 er => ?_) (fun v14 H15 z13 hF => ?_)
    · subst er
      have mz : Mo H10 H15 := (m_Body_numberHere z13)
      have ml := mz.len
      have m2 := mz.2
      have hC9 : H15.sh.length ≤ c0 + C := hC
      have hS9 : H15.sl ≤ s0 + Sl := hS
      refine hp_callV_t (x := x16) (H1 := H15) (As := [.int 0]) (rest := []) d_Body_readTargeted_34 (k_Body_numberHere z13 (C := H15.sh.length - H10.sh.length) (Sl := H15.sl - H10.sl) (by show H15.sh.length ≤ _; omega) (by show H15.sl ≤ _; omega)) (ab_mkC s_Body_numberHere (Nat.le_of_ble_eq_true rfl) (Nat.le_of_ble_eq_true rfl) (show (H10.sh.length - c0) + (H15.sh.length - H10.sh.length) ≤ C from by omega) (show (H10.sl - s0) + (H15.sl - H10.sl) ≤ Sl from by omega)) (k5 177 rfl rfl) i_Body_numberHere v_Body_numberHere q_5 (by decide) rfl rfl (Nat.le_of_ble_eq_true rfl) ?_
      exact ab_U_out rfl (by show _ + (H15.sh.length - H10.sh.length) ≤ C; omega) (by show _ + (H15.sl - H10.sl) ≤ Sl; omega) ⟨rfl, rfl⟩
    clear hG
    have mz_23 : Mo H10 H15 := (m_Body_numberHere z13)
    have b_24l := (mz_23).len
    have b_24s := (mz_23).2
    have b_24c : c0 ≤ H15.sh.length := by omega
    have b_24d : s0 ≤ H15.sl := by omega
    have q_25 := (mz_23).get q_5
    have q_26 := (mz_23).get q_6
    obtain ⟨a17, e18, hG⟩ := rf_s hF; clear hF
    have fH15 : Mo H15 r.2 := by
      have hm := Mo.rf H15
      rcases ite_s hG with ⟨q_27, hF⟩ | ⟨q_27, hF⟩
      · clear hG
        exact hm.tr (mB_Body_readTargeted_55 hF)
      · clear hG
        exact hm.tr (mB_Body_readTargeted_55 hF)
    have b_24m := (fH15).len
    have b_24n := (fH15).2
    have b_24p : H15.sh.length ≤ c0 + C := by omega
    have b_24q : H15.sl ≤ s0 + Sl := by omega
    refine hp_callV_a (v := .int v14) (H1 := H15) (As := [.int 0]) (rest := []) d_Body_readTargeted_34 (k_Body_numberHere z13 (C := H15.sh.length - H10.sh.length) (Sl := H15.sl - H10.sl) (by show H15.sh.length ≤ _; omega) (by show H15.sl ≤ _; omega)) (ab_mkC s_Body_numberHere (Nat.le_of_ble_eq_true rfl) (Nat.le_of_ble_eq_true rfl) (show (H10.sh.length - c0) + (H15.sh.length - H10.sh.length) ≤ C from by omega) (show (H10.sl - s0) + (H15.sl - H10.sl) ≤ Sl from by omega)) (k5 177 rfl rfl) i_Body_numberHere v_Body_numberHere q_5 (by decide) rfl rfl (Nat.le_of_ble_eq_true rfl) ?_
    refine ab_widen (cells' := H15.sh.length - c0) (slots' := H15.sl - s0) (by show _ + (H15.sh.length - H10.sh.length) ≤ _; omega) (by show _ + (H15.sl - H10.sl) ≤ _; omega) ?_
    clear b_24l b_24s b_24m b_24n b_4c b_4d b_4p b_4q
    refine ab_istore_n (lv' := [some (.ref p0), some (.int p1), some (.int v14)]) d_Body_readTargeted_37 rfl (by decide) rfl ?_
    refine ab_aload_n d_Body_readTargeted_38 rfl rfl rfl ?_
    refine hp_getR (f := 1) d_Body_readTargeted_39 q_25 (by decide) rfl (by decide) (k1 158 rfl rfl) rfl e18 ?_
    refine ab_iload_n d_Body_readTargeted_42 rfl rfl ?_
    refine ab_bipush (v := 64) d_Body_readTargeted_43 (by decide) ?_
    refine ab_icmp_ne (tgt := 53) d_Body_readTargeted_45 (by decide) (fun q19 => ?_) (fun q19 => ?_)
    · rw [if_neg q19] at hG
      refine ab_bipush (v := 23) d_Body_readTargeted_53 (by decide) ?_
      exact kB_Body_readTargeted_55 hG b_24c b_24d b_24p b_24q hC hS
    · rw [if_pos q19] at hG
      refine ab_bipush (v := 22) d_Body_readTargeted_48 (by decide) ?_
      refine ab_goto (tgt := 55) d_Body_readTargeted_50 (by decide) ?_
      exact kB_Body_readTargeted_55 hG b_24c b_24d b_24p b_24q hC hS
  · rw [if_pos q12] at hG
    refine ab_aload_n d_Body_readTargeted_19 rfl rfl rfl ?_
    obtain ⟨a20, e21, hF⟩ := rf_s hG; clear hG
    refine hp_getR (f := 1) d_Body_readTargeted_20 q_5 (by decide) rfl (by decide) (k1 158 rfl rfl) rfl e21 ?_
    refine ab_bipush (v := 21) d_Body_readTargeted_23 (by decide) ?_
    obtain ⟨q22, hG⟩ := ck_s hF; clear hF
    obtain ⟨v24, H25, z23, hF⟩ := bC_s hG; clear hG
    refine hp_callV_a (v := .int v24) (H1 := H25) (As := [.int 21]) (rest := []) d_Body_readTargeted_25 (k_Program_add z23) (ab_mkC s_Program_add (Nat.le_of_ble_eq_true rfl) (Nat.le_of_ble_eq_true rfl) (show (H10.sh.length - c0) + 0 ≤ C from by omega) (show (H10.sl - s0) + 0 ≤ Sl from by omega)) (k5 117 rfl rfl) i_Program_add v_Program_add q22 (by decide) rfl rfl (Nat.le_of_ble_eq_true rfl) ?_
    have s_29 : Sa H10 H25 := (m_Program_add z23)
    refine ab_widen (cells' := H10.sh.length - c0) (slots' := H10.sl - s0) (by show (H10.sh.length - c0) + 0 ≤ _; omega) (by show (H10.sl - s0) + 0 ≤ _; omega) ?_
    refine ab_pop d_Body_readTargeted_28 rfl ?_
    refine ab_goto (tgt := 68) d_Body_readTargeted_29 (by decide) ?_
    refine ab_widen (cells' := H25.sh.length - c0) (slots' := H25.sl - s0) (by rw [(s_29).1]; exact Nat.le_refl _) (by rw [(s_29).2]; exact Nat.le_refl _) ?_
    exact kB_Body_readTargeted_68 hF (by rw [(s_29).1]; exact b_4c) (by rw [(s_29).2]; exact b_4d) (by rw [(s_29).1]; exact b_4p) (by rw [(s_29).2]; exact b_4q) hC hS
def y_Body_readPut : ab_Y := (⟨"WorldEngine$Body", "readPut", "()V"⟩, prog_2_method_26_code, 3, none, [])
theorem d_Body_readPut_0 : decode y_Body_readPut.2.1 0 = .ok (.aload_n 0, 1) := by decide +kernel
theorem d_Body_readPut_1 : decode y_Body_readPut.2.1 1 = .ok (.getfield 7, 3) := by decide +kernel
theorem d_Body_readPut_4 : decode y_Body_readPut.2.1 4 = .ok (.invokevirtual 93, 3) := by decide +kernel
theorem d_Body_readPut_7 : decode y_Body_readPut.2.1 7 = .ok (.aload_n 0, 1) := by decide +kernel
theorem d_Body_readPut_8 : decode y_Body_readPut.2.1 8 = .ok (.iconst 4, 1) := by decide +kernel
theorem d_Body_readPut_9 : decode y_Body_readPut.2.1 9 = .ok (.invokevirtual 141, 3) := by decide +kernel
theorem d_Body_readPut_12 : decode y_Body_readPut.2.1 12 = .ok (.pop, 1) := by decide +kernel
theorem d_Body_readPut_13 : decode y_Body_readPut.2.1 13 = .ok (.aload_n 0, 1) := by decide +kernel
theorem d_Body_readPut_14 : decode y_Body_readPut.2.1 14 = .ok (.iconst 0, 1) := by decide +kernel
theorem d_Body_readPut_15 : decode y_Body_readPut.2.1 15 = .ok (.invokevirtual 134, 3) := by decide +kernel
theorem d_Body_readPut_18 : decode y_Body_readPut.2.1 18 = .ok (.istore_n 1, 1) := by decide +kernel
theorem d_Body_readPut_19 : decode y_Body_readPut.2.1 19 = .ok (.aload_n 0, 1) := by decide +kernel
theorem d_Body_readPut_20 : decode y_Body_readPut.2.1 20 = .ok (.iload_n 1, 1) := by decide +kernel
theorem d_Body_readPut_21 : decode y_Body_readPut.2.1 21 = .ok (.invokevirtual 205, 3) := by decide +kernel
theorem d_Body_readPut_24 : decode y_Body_readPut.2.1 24 = .ok (.istore_n 2, 1) := by decide +kernel
theorem d_Body_readPut_25 : decode y_Body_readPut.2.1 25 = .ok (.aload_n 0, 1) := by decide +kernel
theorem d_Body_readPut_26 : decode y_Body_readPut.2.1 26 = .ok (.aload_n 0, 1) := by decide +kernel
theorem d_Body_readPut_27 : decode y_Body_readPut.2.1 27 = .ok (.iload_n 2, 1) := by decide +kernel
theorem d_Body_readPut_28 : decode y_Body_readPut.2.1 28 = .ok (.invokevirtual 208, 3) := by decide +kernel
theorem d_Body_readPut_31 : decode y_Body_readPut.2.1 31 = .ok (.invokevirtual 111, 3) := by decide +kernel
theorem d_Body_readPut_34 : decode y_Body_readPut.2.1 34 = .ok (.pop, 1) := by decide +kernel
theorem d_Body_readPut_35 : decode y_Body_readPut.2.1 35 = .ok (.aload_n 0, 1) := by decide +kernel
theorem d_Body_readPut_36 : decode y_Body_readPut.2.1 36 = .ok (.getfield 7, 3) := by decide +kernel
theorem d_Body_readPut_39 : decode y_Body_readPut.2.1 39 = .ok (.bipush 15, 2) := by decide +kernel
theorem d_Body_readPut_41 : decode y_Body_readPut.2.1 41 = .ok (.invokevirtual 41, 3) := by decide +kernel
theorem d_Body_readPut_44 : decode y_Body_readPut.2.1 44 = .ok (.aload_n 0, 1) := by decide +kernel
theorem d_Body_readPut_45 : decode y_Body_readPut.2.1 45 = .ok (.getfield 17, 3) := by decide +kernel
theorem d_Body_readPut_48 : decode y_Body_readPut.2.1 48 = .ok (.bipush 24, 2) := by decide +kernel
theorem d_Body_readPut_50 : decode y_Body_readPut.2.1 50 = .ok (.invokevirtual 50, 3) := by decide +kernel
theorem d_Body_readPut_53 : decode y_Body_readPut.2.1 53 = .ok (.pop, 1) := by decide +kernel
theorem d_Body_readPut_54 : decode y_Body_readPut.2.1 54 = .ok (.aload_n 0, 1) := by decide +kernel
theorem d_Body_readPut_55 : decode y_Body_readPut.2.1 55 = .ok (.getfield 17, 3) := by decide +kernel
theorem d_Body_readPut_58 : decode y_Body_readPut.2.1 58 = .ok (.iload_n 1, 1) := by decide +kernel
theorem d_Body_readPut_59 : decode y_Body_readPut.2.1 59 = .ok (.invokevirtual 50, 3) := by decide +kernel
theorem d_Body_readPut_62 : decode y_Body_readPut.2.1 62 = .ok (.pop, 1) := by decide +kernel
theorem d_Body_readPut_63 : decode y_Body_readPut.2.1 63 = .ok (.aload_n 0, 1) := by decide +kernel
theorem d_Body_readPut_64 : decode y_Body_readPut.2.1 64 = .ok (.getfield 17, 3) := by decide +kernel
theorem d_Body_readPut_67 : decode y_Body_readPut.2.1 67 = .ok (.iload_n 2, 1) := by decide +kernel
theorem d_Body_readPut_68 : decode y_Body_readPut.2.1 68 = .ok (.invokevirtual 50, 3) := by decide +kernel
theorem d_Body_readPut_71 : decode y_Body_readPut.2.1 71 = .ok (.pop, 1) := by decide +kernel
theorem d_Body_readPut_72 : decode y_Body_readPut.2.1 72 = .ok (.return_, 1) := by decide +kernel
theorem s_Body_readPut : ab_Stat y_Body_readPut 0 := ⟨(k6 59 rfl rfl), (k1 8 rfl rfl), ⟨by decide, by decide⟩, by decide +kernel⟩
theorem i_Body_readPut : Cond.instanceMethod y_Body_readPut.1 ∈ ab_T := (k6 58 rfl rfl)
theorem v_Body_readPut : Cond.selects "WorldEngine$Body" y_Body_readPut.1 y_Body_readPut.1 ∈ ab_T := ab_s (List.mem_of_getElem? (i := 58) rfl) rfl
def F_Body_readPut (N : Nat) (p0 : Nat) (H : Hp) : Option ((Ot Unit) × Hp) :=
    ck (H.sh[p0]? = some (6, 0)) <|
    rf (H.P p0 0) fun a2 =>
    ck (H.sh[a2]? = some (1, 0)) <|
    bC (F_Lexer_advance N a2 H) fun v6 H7 =>
    bT (F_Body_inParens N (X_BodyE N 140) p0 (4 : Int32) H7) fun v9 H10 =>
    bT (F_Body_numberHere N p0 (0 : Int32) H10) fun v13 H14 =>
    bT (F_Body_givenMember N p0 v13 H14) fun v17 H18 =>
    bC (F_Body_kindAt N p0 v17 H18) fun v21 H22 =>
    bT (F_Body_want N (X_BodyE N 140) p0 v21 H22) fun v24 H25 =>
    rf (H25.P p0 0) fun a27 =>
    ck (H25.sh[a27]? = some (1, 0)) <|
    bT (F_Lexer_take N a27 (15 : Int32) H25) fun v31 H32 =>
    rf (H32.P p0 1) fun a34 =>
    ck (H32.sh[a34]? = some (4, 0)) <|
    bC (F_Program_add N a34 (24 : Int32) H32) fun v38 H39 =>
    rf (H39.P p0 1) fun a40 =>
    ck (H39.sh[a40]? = some (4, 0)) <|
    bC (F_Program_add N a40 v13 H39) fun v44 H45 =>
    rf (H45.P p0 1) fun a46 =>
    ck (H45.sh[a46]? = some (4, 0)) <|
    bC (F_Program_add N a46 v17 H45) fun v50 H51 =>
    some (.inl (), H51)
set_option maxRecDepth 20000 in
set_option maxHeartbeats 2000000 in
theorem m_Body_readPut {N : Nat} {p0 : Nat} {H : Hp} {r : (Ot Unit) × Hp} (hF : F_Body_readPut N p0 H = some r) : Mo H r.2 := by
  unfold F_Body_readPut at hF
  have hm := Mo.rf H
  obtain ⟨q52, hG⟩ := ck_s hF; clear hF
  obtain ⟨a53, e54, hF⟩ := rf_s hG; clear hG
  obtain ⟨q55, hG⟩ := ck_s hF; clear hF
  obtain ⟨v57, H58, z56, hF⟩ := bC_s hG; clear hG
  replace hm : Mo H H58 := hm.tr ((m_Lexer_advance z56)).mo
  refine bT_c hF (fun x62 H61 z59 er => ?_) (fun v60 H61 z59 hG => ?_)
  · subst er; exact hm.tr (m_Body_inParens (moX_BodyE 140) z59)
  clear hF
  replace hm : Mo H H61 := hm.tr (m_Body_inParens (moX_BodyE 140) z59)
  refine bT_c hG (fun x66 H65 z63 er => ?_) (fun v64 H65 z63 hF => ?_)
  · subst er; exact hm.tr (m_Body_numberHere z63)
  clear hG
  replace hm : Mo H H65 := hm.tr (m_Body_numberHere z63)
  refine bT_c hF (fun x70 H69 z67 er => ?_) (fun v68 H69 z67 hG => ?_)
  · subst er; exact hm.tr (m_Body_givenMember z67)
  clear hF
  replace hm : Mo H H69 := hm.tr (m_Body_givenMember z67)
  obtain ⟨v72, H73, z71, hF⟩ := bC_s hG; clear hG
  replace hm : Mo H H73 := hm.tr ((m_Body_kindAt z71)).mo
  refine bT_c hF (fun x77 H76 z74 er => ?_) (fun v75 H76 z74 hG => ?_)
  · subst er; exact hm.tr (m_Body_want (moX_BodyE 140) z74)
  clear hF
  replace hm : Mo H H76 := hm.tr (m_Body_want (moX_BodyE 140) z74)
  obtain ⟨a78, e79, hF⟩ := rf_s hG; clear hG
  obtain ⟨q80, hG⟩ := ck_s hF; clear hF
  refine bT_c hG (fun x84 H83 z81 er => ?_) (fun v82 H83 z81 hF => ?_)
  · subst er; exact hm.tr (m_Lexer_take z81)
  clear hG
  replace hm : Mo H H83 := hm.tr (m_Lexer_take z81)
  obtain ⟨a85, e86, hG⟩ := rf_s hF; clear hF
  obtain ⟨q87, hF⟩ := ck_s hG; clear hG
  obtain ⟨v89, H90, z88, hG⟩ := bC_s hF; clear hF
  replace hm : Mo H H90 := hm.tr ((m_Program_add z88)).mo
  obtain ⟨a91, e92, hF⟩ := rf_s hG; clear hG
  obtain ⟨q93, hG⟩ := ck_s hF; clear hF
  obtain ⟨v95, H96, z94, hF⟩ := bC_s hG; clear hG
  replace hm : Mo H H96 := hm.tr ((m_Program_add z94)).mo
  obtain ⟨a97, e98, hG⟩ := rf_s hF; clear hF
  obtain ⟨q99, hF⟩ := ck_s hG; clear hG
  obtain ⟨v101, H102, z100, hG⟩ := bC_s hF; clear hF
  replace hm : Mo H H102 := hm.tr ((m_Program_add z100)).mo
  have hr := Option.some.inj hG; subst hr
  exact hm
set_option maxRecDepth 20000 in
set_option maxHeartbeats 2000000 in
theorem k_Body_readPut {N : Nat} {p0 : Nat} {H : Hp} {r : (Ot Unit) × Hp} {C Sl : Nat} (hF : F_Body_readPut N p0 H = some r) (hC : r.2.sh.length ≤ H.sh.length + C) (hS : r.2.sl ≤ H.sl + Sl) : ab_M y_Body_readPut { frames := 571, cells := C, slots := Sl, locals := 13524 } [.ref p0] (hpw H) (po (oV r.1) r.2) := by
  unfold F_Body_readPut at hF
  obtain ⟨c0, e0⟩ : ∃ q, q = H.sh.length := ⟨_, rfl⟩
  obtain ⟨s0, e1⟩ : ∃ q, q = H.sl := ⟨_, rfl⟩
  rw [← e0] at hC
  rw [← e1] at hS
  have hc0 : c0 ≤ H.sh.length := Nat.le_of_eq e0
  have hs0 : s0 ≤ H.sl := Nat.le_of_eq e1
  have hcc : H.sh.length ≤ c0 + C := by omega
  have hss : H.sl ≤ s0 + Sl := by omega
  refine ab_of2 (lv := [some (.ref p0), none, none]) 2 rfl rfl (Nat.le_of_ble_eq_true rfl) ?_
  refine ab_widen (cells' := H.sh.length - c0) (slots' := H.sl - s0) (Nat.zero_le _) (Nat.zero_le _) ?_
  refine ab_aload_n d_Body_readPut_0 rfl rfl rfl ?_
  obtain ⟨q1, hG⟩ := ck_s hF; clear hF
  obtain ⟨a2, e3, hF⟩ := rf_s hG; clear hG
  refine hp_getR (f := 0) d_Body_readPut_1 q1 (by decide) rfl (by decide) (k1 157 rfl rfl) rfl e3 ?_
  obtain ⟨q4, hG⟩ := ck_s hF; clear hF
  obtain ⟨v6, H7, z5, hF⟩ := bC_s hG; clear hG
  refine hp_callV_v (H1 := H7) (As := []) (rest := []) d_Body_readPut_4 (k_Lexer_advance z5) (ab_mkC s_Lexer_advance (Nat.le_of_ble_eq_true rfl) (Nat.le_of_ble_eq_true rfl) (show (H.sh.length - c0) + 0 ≤ C from by omega) (show (H.sl - s0) + 0 ≤ Sl from by omega)) (k5 129 rfl rfl) i_Lexer_advance v_Lexer_advance q4 (by decide) rfl rfl (Nat.le_of_ble_eq_true rfl) ?_
  have s_2 : Sa H H7 := (m_Lexer_advance z5)
  refine ab_widen (cells' := H.sh.length - c0) (slots' := H.sl - s0) (by show (H.sh.length - c0) + 0 ≤ _; omega) (by show (H.sl - s0) + 0 ≤ _; omega) ?_
  refine ab_aload_n d_Body_readPut_7 rfl rfl rfl ?_
  refine ab_iconst (v := 4) d_Body_readPut_8 (by decide) ?_
  refine bT_c hF (fun x11 H10 z8 er => ?_) (fun v9 H10 z8 hG => ?_)
  · subst er
    refine ab_widen (cells' := H7.sh.length - c0) (slots' := H7.sl - s0) (by rw [(s_2).1]; exact Nat.le_refl _) (by rw [(s_2).2]; exact Nat.le_refl _) ?_
    have mz : Mo H7 H10 := (m_Body_inParens (moX_BodyE 140) z8)
    have ml := mz.len
    have m2 := mz.2
    have be := congrArg List.length (s_2).1
    have bfx := (s_2).2
    have hC9 : H10.sh.length ≤ c0 + C := hC
    have hS9 : H10.sl ≤ s0 + Sl := hS
    refine hp_callV_t (x := x11) (H1 := H10) (As := [.int 4]) (rest := []) d_Body_readPut_9 (k_Body_inParens (okX_BodyE 140) (moX_BodyE 140) z8 (C := H10.sh.length - H7.sh.length) (Sl := H10.sl - H7.sl) (by show H10.sh.length ≤ _; omega) (by show H10.sl ≤ _; omega)) (ab_mkC s_Body_inParens (Nat.le_of_ble_eq_true rfl) (Nat.le_of_ble_eq_true rfl) (show (H7.sh.length - c0) + (H10.sh.length - H7.sh.length) ≤ C from by omega) (show (H7.sl - s0) + (H10.sl - H7.sl) ≤ Sl from by omega)) (k5 157 rfl rfl) i_Body_inParens v_Body_inParens (by rw [(s_2).1]; exact q1) (by decide) rfl rfl (Nat.le_of_ble_eq_true rfl) ?_
    exact ab_U_out rfl (by show _ + (H10.sh.length - H7.sh.length) ≤ C; omega) (by show _ + (H10.sl - H7.sl) ≤ Sl; omega) ⟨rfl, rfl⟩
  clear hF
  refine ab_widen (cells' := H7.sh.length - c0) (slots' := H7.sl - s0) (by rw [(s_2).1]; exact Nat.le_refl _) (by rw [(s_2).2]; exact Nat.le_refl _) ?_
  have mz_3 : Mo H7 H10 := (m_Body_inParens (moX_BodyE 140) z8)
  have b_4l := (mz_3).len
  have b_4s := (mz_3).2
  have b_4e := congrArg List.length (s_2).1
  have b_4f := (s_2).2
  have b_4c : c0 ≤ H10.sh.length := by omega
  have b_4d : s0 ≤ H10.sl := by omega
  have q_5 := (mz_3).get (by rw [(s_2).1]; exact q1)
  have q_6 := (mz_3).get (by rw [(s_2).1]; exact q4)
  have fH10 : Mo H10 r.2 := by
    have hm := Mo.rf H10
    refine bT_c hG (fun x15 H14 z12 er => ?_) (fun v13 H14 z12 hF => ?_)
    · subst er; exact hm.tr (m_Body_numberHere z12)
    clear hG
    replace hm : Mo H10 H14 := hm.tr (m_Body_numberHere z12)
    refine bT_c hF (fun x19 H18 z16 er => ?_) (fun v17 H18 z16 hG => ?_)
    · subst er; exact hm.tr (m_Body_givenMember z16)
    clear hF
    replace hm : Mo H10 H18 := hm.tr (m_Body_givenMember z16)
    obtain ⟨v21, H22, z20, hF⟩ := bC_s hG; clear hG
    replace hm : Mo H10 H22 := hm.tr ((m_Body_kindAt z20)).mo
    refine bT_c hF (fun x26 H25 z23 er => ?_) (fun v24 H25 z23 hG => ?_)
    · subst er; exact hm.tr (m_Body_want (moX_BodyE 140) z23)
    clear hF
    replace hm : Mo H10 H25 := hm.tr (m_Body_want (moX_BodyE 140) z23)
    obtain ⟨a27, e28, hF⟩ := rf_s hG; clear hG
    obtain ⟨q29, hG⟩ := ck_s hF; clear hF
    refine bT_c hG (fun x33 H32 z30 er => ?_) (fun v31 H32 z30 hF => ?_)
    · subst er; exact hm.tr (m_Lexer_take z30)
    clear hG
    replace hm : Mo H10 H32 := hm.tr (m_Lexer_take z30)
    obtain ⟨a34, e35, hG⟩ := rf_s hF; clear hF
    obtain ⟨q36, hF⟩ := ck_s hG; clear hG
    obtain ⟨v38, H39, z37, hG⟩ := bC_s hF; clear hF
    replace hm : Mo H10 H39 := hm.tr ((m_Program_add z37)).mo
    obtain ⟨a40, e41, hF⟩ := rf_s hG; clear hG
    obtain ⟨q42, hG⟩ := ck_s hF; clear hF
    obtain ⟨v44, H45, z43, hF⟩ := bC_s hG; clear hG
    replace hm : Mo H10 H45 := hm.tr ((m_Program_add z43)).mo
    obtain ⟨a46, e47, hG⟩ := rf_s hF; clear hF
    obtain ⟨q48, hF⟩ := ck_s hG; clear hG
    obtain ⟨v50, H51, z49, hG⟩ := bC_s hF; clear hF
    replace hm : Mo H10 H51 := hm.tr ((m_Program_add z49)).mo
    have hr := Option.some.inj hG; subst hr
    exact hm
  have b_4m := (fH10).len
  have b_4n := (fH10).2
  have b_4p : H10.sh.length ≤ c0 + C := by omega
  have b_4q : H10.sl ≤ s0 + Sl := by omega
  refine hp_callV_a (v := .int v9) (H1 := H10) (As := [.int 4]) (rest := []) d_Body_readPut_9 (k_Body_inParens (okX_BodyE 140) (moX_BodyE 140) z8 (C := H10.sh.length - H7.sh.length) (Sl := H10.sl - H7.sl) (by show H10.sh.length ≤ _; omega) (by show H10.sl ≤ _; omega)) (ab_mkC s_Body_inParens (Nat.le_of_ble_eq_true rfl) (Nat.le_of_ble_eq_true rfl) (show (H7.sh.length - c0) + (H10.sh.length - H7.sh.length) ≤ C from by omega) (show (H7.sl - s0) + (H10.sl - H7.sl) ≤ Sl from by omega)) (k5 157 rfl rfl) i_Body_inParens v_Body_inParens (by rw [(s_2).1]; exact q1) (by decide) rfl rfl (Nat.le_of_ble_eq_true rfl) ?_
  refine ab_widen (cells' := H10.sh.length - c0) (slots' := H10.sl - s0) (by show _ + (H10.sh.length - H7.sh.length) ≤ _; omega) (by show _ + (H10.sl - H7.sl) ≤ _; omega) ?_
  clear b_4l b_4s b_4m b_4n b_4e b_4f
  refine ab_pop d_Body_readPut_12 rfl ?_
  refine ab_aload_n d_Body_readPut_13 rfl rfl rfl ?_
  refine ab_iconst (v := 0) d_Body_readPut_14 (by decide) ?_
  refine bT_c hG (fun x15 H14 z12 er => ?_) (fun v13 H14 z12 hF => ?_)
  · subst er
    have mz : Mo H10 H14 := (m_Body_numberHere z12)
    have ml := mz.len
    have m2 := mz.2
    have hC9 : H14.sh.length ≤ c0 + C := hC
    have hS9 : H14.sl ≤ s0 + Sl := hS
    refine hp_callV_t (x := x15) (H1 := H14) (As := [.int 0]) (rest := []) d_Body_readPut_15 (k_Body_numberHere z12 (C := H14.sh.length - H10.sh.length) (Sl := H14.sl - H10.sl) (by show H14.sh.length ≤ _; omega) (by show H14.sl ≤ _; omega)) (ab_mkC s_Body_numberHere (Nat.le_of_ble_eq_true rfl) (Nat.le_of_ble_eq_true rfl) (show (H10.sh.length - c0) + (H14.sh.length - H10.sh.length) ≤ C from by omega) (show (H10.sl - s0) + (H14.sl - H10.sl) ≤ Sl from by omega)) (k5 177 rfl rfl) i_Body_numberHere v_Body_numberHere q_5 (by decide) rfl rfl (Nat.le_of_ble_eq_true rfl) ?_
    exact ab_U_out rfl (by show _ + (H14.sh.length - H10.sh.length) ≤ C; omega) (by show _ + (H14.sl - H10.sl) ≤ Sl; omega) ⟨rfl, rfl⟩
  clear hG
  have mz_20 : Mo H10 H14 := (m_Body_numberHere z12)
  have b_21l := (mz_20).len
  have b_21s := (mz_20).2
  have b_21c : c0 ≤ H14.sh.length := by omega
  have b_21d : s0 ≤ H14.sl := by omega
  have q_22 := (mz_20).get q_5
  have q_23 := (mz_20).get q_6
  have fH14 : Mo H14 r.2 := by
    have hm := Mo.rf H14
    refine bT_c hF (fun x19 H18 z16 er => ?_) (fun v17 H18 z16 hG => ?_)
    · subst er; exact hm.tr (m_Body_givenMember z16)
    clear hF
    replace hm : Mo H14 H18 := hm.tr (m_Body_givenMember z16)
    obtain ⟨v21, H22, z20, hF⟩ := bC_s hG; clear hG
    replace hm : Mo H14 H22 := hm.tr ((m_Body_kindAt z20)).mo
    refine bT_c hF (fun x26 H25 z23 er => ?_) (fun v24 H25 z23 hG => ?_)
    · subst er; exact hm.tr (m_Body_want (moX_BodyE 140) z23)
    clear hF
    replace hm : Mo H14 H25 := hm.tr (m_Body_want (moX_BodyE 140) z23)
    obtain ⟨a27, e28, hF⟩ := rf_s hG; clear hG
    obtain ⟨q29, hG⟩ := ck_s hF; clear hF
    refine bT_c hG (fun x33 H32 z30 er => ?_) (fun v31 H32 z30 hF => ?_)
    · subst er; exact hm.tr (m_Lexer_take z30)
    clear hG
    replace hm : Mo H14 H32 := hm.tr (m_Lexer_take z30)
    obtain ⟨a34, e35, hG⟩ := rf_s hF; clear hF
    obtain ⟨q36, hF⟩ := ck_s hG; clear hG
    obtain ⟨v38, H39, z37, hG⟩ := bC_s hF; clear hF
    replace hm : Mo H14 H39 := hm.tr ((m_Program_add z37)).mo
    obtain ⟨a40, e41, hF⟩ := rf_s hG; clear hG
    obtain ⟨q42, hG⟩ := ck_s hF; clear hF
    obtain ⟨v44, H45, z43, hF⟩ := bC_s hG; clear hG
    replace hm : Mo H14 H45 := hm.tr ((m_Program_add z43)).mo
    obtain ⟨a46, e47, hG⟩ := rf_s hF; clear hF
    obtain ⟨q48, hF⟩ := ck_s hG; clear hG
    obtain ⟨v50, H51, z49, hG⟩ := bC_s hF; clear hF
    replace hm : Mo H14 H51 := hm.tr ((m_Program_add z49)).mo
    have hr := Option.some.inj hG; subst hr
    exact hm
  have b_21m := (fH14).len
  have b_21n := (fH14).2
  have b_21p : H14.sh.length ≤ c0 + C := by omega
  have b_21q : H14.sl ≤ s0 + Sl := by omega
  refine hp_callV_a (v := .int v13) (H1 := H14) (As := [.int 0]) (rest := []) d_Body_readPut_15 (k_Body_numberHere z12 (C := H14.sh.length - H10.sh.length) (Sl := H14.sl - H10.sl) (by show H14.sh.length ≤ _; omega) (by show H14.sl ≤ _; omega)) (ab_mkC s_Body_numberHere (Nat.le_of_ble_eq_true rfl) (Nat.le_of_ble_eq_true rfl) (show (H10.sh.length - c0) + (H14.sh.length - H10.sh.length) ≤ C from by omega) (show (H10.sl - s0) + (H14.sl - H10.sl) ≤ Sl from by omega)) (k5 177 rfl rfl) i_Body_numberHere v_Body_numberHere q_5 (by decide) rfl rfl (Nat.le_of_ble_eq_true rfl) ?_
  refine ab_widen (cells' := H14.sh.length - c0) (slots' := H14.sl - s0) (by show _ + (H14.sh.length - H10.sh.length) ≤ _; omega) (by show _ + (H14.sl - H10.sl) ≤ _; omega) ?_
  clear b_21l b_21s b_21m b_21n b_4c b_4d b_4p b_4q
  refine ab_istore_n (lv' := [some (.ref p0), some (.int v13), none]) d_Body_readPut_18 rfl (by decide) rfl ?_
  refine ab_aload_n d_Body_readPut_19 rfl rfl rfl ?_
  refine ab_iload_n d_Body_readPut_20 rfl rfl ?_
  refine bT_c hF (fun x19 H18 z16 er => ?_) (fun v17 H18 z16 hG => ?_)
  · subst er
    have mz : Mo H14 H18 := (m_Body_givenMember z16)
    have ml := mz.len
    have m2 := mz.2
    have hC9 : H18.sh.length ≤ c0 + C := hC
    have hS9 : H18.sl ≤ s0 + Sl := hS
    refine hp_callV_t (x := x19) (H1 := H18) (As := [.int v13]) (rest := []) d_Body_readPut_21 (k_Body_givenMember z16 (C := H18.sh.length - H14.sh.length) (Sl := H18.sl - H14.sl) (by show H18.sh.length ≤ _; omega) (by show H18.sl ≤ _; omega)) (ab_mkC s_Body_givenMember (Nat.le_of_ble_eq_true rfl) (Nat.le_of_ble_eq_true rfl) (show (H14.sh.length - c0) + (H18.sh.length - H14.sh.length) ≤ C from by omega) (show (H14.sl - s0) + (H18.sl - H14.sl) ≤ Sl from by omega)) (k6 5 rfl rfl) i_Body_givenMember v_Body_givenMember q_22 (by decide) rfl rfl (Nat.le_of_ble_eq_true rfl) ?_
    exact ab_U_out rfl (by show _ + (H18.sh.length - H14.sh.length) ≤ C; omega) (by show _ + (H18.sl - H14.sl) ≤ Sl; omega) ⟨rfl, rfl⟩
  clear hF
  have mz_34 : Mo H14 H18 := (m_Body_givenMember z16)
  have b_35l := (mz_34).len
  have b_35s := (mz_34).2
  have b_35c : c0 ≤ H18.sh.length := by omega
  have b_35d : s0 ≤ H18.sl := by omega
  have q_36 := (mz_34).get q_22
  have q_37 := (mz_34).get q_23
  obtain ⟨v21, H22, z20, hF⟩ := bC_s hG; clear hG
  have jH22 : Mo H18 H22 := ((m_Body_kindAt z20)).mo
  have fH22 : Mo H22 r.2 := by
    have hm := Mo.rf H22
    refine bT_c hF (fun x26 H25 z23 er => ?_) (fun v24 H25 z23 hG => ?_)
    · subst er; exact hm.tr (m_Body_want (moX_BodyE 140) z23)
    clear hF
    replace hm : Mo H22 H25 := hm.tr (m_Body_want (moX_BodyE 140) z23)
    obtain ⟨a27, e28, hF⟩ := rf_s hG; clear hG
    obtain ⟨q29, hG⟩ := ck_s hF; clear hF
    refine bT_c hG (fun x33 H32 z30 er => ?_) (fun v31 H32 z30 hF => ?_)
    · subst er; exact hm.tr (m_Lexer_take z30)
    clear hG
    replace hm : Mo H22 H32 := hm.tr (m_Lexer_take z30)
    obtain ⟨a34, e35, hG⟩ := rf_s hF; clear hF
    obtain ⟨q36, hF⟩ := ck_s hG; clear hG
    obtain ⟨v38, H39, z37, hG⟩ := bC_s hF; clear hF
    replace hm : Mo H22 H39 := hm.tr ((m_Program_add z37)).mo
    obtain ⟨a40, e41, hF⟩ := rf_s hG; clear hG
    obtain ⟨q42, hG⟩ := ck_s hF; clear hF
    obtain ⟨v44, H45, z43, hF⟩ := bC_s hG; clear hG
    replace hm : Mo H22 H45 := hm.tr ((m_Program_add z43)).mo
    obtain ⟨a46, e47, hG⟩ := rf_s hF; clear hF
    obtain ⟨q48, hF⟩ := ck_s hG; clear hG
    obtain ⟨v50, H51, z49, hG⟩ := bC_s hF; clear hF
    replace hm : Mo H22 H51 := hm.tr ((m_Program_add z49)).mo
    have hr := Option.some.inj hG; subst hr
    exact hm
  have fH18 : Mo H18 r.2 := jH22.tr fH22
  have b_35m := (fH18).len
  have b_35n := (fH18).2
  have b_35p : H18.sh.length ≤ c0 + C := by omega
  have b_35q : H18.sl ≤ s0 + Sl := by omega
  refine hp_callV_a (v := .int v17) (H1 := H18) (As := [.int v13]) (rest := []) d_Body_readPut_21 (k_Body_givenMember z16 (C := H18.sh.length - H14.sh.length) (Sl := H18.sl - H14.sl) (by show H18.sh.length ≤ _; omega) (by show H18.sl ≤ _; omega)) (ab_mkC s_Body_givenMember (Nat.le_of_ble_eq_true rfl) (Nat.le_of_ble_eq_true rfl) (show (H14.sh.length - c0) + (H18.sh.length - H14.sh.length) ≤ C from by omega) (show (H14.sl - s0) + (H18.sl - H14.sl) ≤ Sl from by omega)) (k6 5 rfl rfl) i_Body_givenMember v_Body_givenMember q_22 (by decide) rfl rfl (Nat.le_of_ble_eq_true rfl) ?_
  refine ab_widen (cells' := H18.sh.length - c0) (slots' := H18.sl - s0) (by show _ + (H18.sh.length - H14.sh.length) ≤ _; omega) (by show _ + (H18.sl - H14.sl) ≤ _; omega) ?_
  clear b_35l b_35s b_35m b_35n b_21c b_21d b_21p b_21q
  refine ab_istore_n (lv' := [some (.ref p0), some (.int v13), some (.int v17)]) d_Body_readPut_24 rfl (by decide) rfl ?_
  refine ab_aload_n d_Body_readPut_25 rfl rfl rfl ?_
  refine ab_aload_n d_Body_readPut_26 rfl rfl rfl ?_
  refine ab_iload_n d_Body_readPut_27 rfl rfl ?_
  refine hp_callV_a (v := .int v21) (H1 := H22) (As := [.int v17]) (rest := [.ref p0]) d_Body_readPut_28 (k_Body_kindAt z20) (ab_mkC s_Body_kindAt (Nat.le_of_ble_eq_true rfl) (Nat.le_of_ble_eq_true rfl) (show (H18.sh.length - c0) + 0 ≤ C from by omega) (show (H18.sl - s0) + 0 ≤ Sl from by omega)) (k5 205 rfl rfl) i_Body_kindAt v_Body_kindAt q_36 (by decide) rfl rfl (Nat.le_of_ble_eq_true rfl) ?_
  have s_47 : Sa H18 H22 := (m_Body_kindAt z20)
  refine ab_widen (cells' := H18.sh.length - c0) (slots' := H18.sl - s0) (by show (H18.sh.length - c0) + 0 ≤ _; omega) (by show (H18.sl - s0) + 0 ≤ _; omega) ?_
  refine bT_c hF (fun x26 H25 z23 er => ?_) (fun v24 H25 z23 hG => ?_)
  · subst er
    refine ab_widen (cells' := H22.sh.length - c0) (slots' := H22.sl - s0) (by rw [(s_47).1]; exact Nat.le_refl _) (by rw [(s_47).2]; exact Nat.le_refl _) ?_
    have mz : Mo H22 H25 := (m_Body_want (moX_BodyE 140) z23)
    have ml := mz.len
    have m2 := mz.2
    have be := congrArg List.length (s_47).1
    have bfx := (s_47).2
    have hC9 : H25.sh.length ≤ c0 + C := hC
    have hS9 : H25.sl ≤ s0 + Sl := hS
    refine hp_callV_t (x := x26) (H1 := H25) (As := [.int v21]) (rest := []) d_Body_readPut_31 (k_Body_want (okX_BodyE 140) (moX_BodyE 140) z23 (C := H25.sh.length - H22.sh.length) (Sl := H25.sl - H22.sl) (by show H25.sh.length ≤ _; omega) (by show H25.sl ≤ _; omega)) (ab_mkC s_Body_want (Nat.le_of_ble_eq_true rfl) (Nat.le_of_ble_eq_true rfl) (show (H22.sh.length - c0) + (H25.sh.length - H22.sh.length) ≤ C from by omega) (show (H22.sl - s0) + (H25.sl - H22.sl) ≤ Sl from by omega)) (k5 137 rfl rfl) i_Body_want v_Body_want (by rw [(s_47).1]; exact q_36) (by decide) rfl rfl (Nat.le_of_ble_eq_true rfl) ?_
    exact ab_U_out rfl (by show _ + (H25.sh.length - H22.sh.length) ≤ C; omega) (by show _ + (H25.sl - H22.sl) ≤ Sl; omega) ⟨rfl, rfl⟩
  clear hF
  refine ab_widen (cells' := H22.sh.length - c0) (slots' := H22.sl - s0) (by rw [(s_47).1]; exact Nat.le_refl _) (by rw [(s_47).2]; exact Nat.le_refl _) ?_
  have mz_48 : Mo H22 H25 := (m_Body_want (moX_BodyE 140) z23)
  have b_49l := (mz_48).len
  have b_49s := (mz_48).2
  have b_49e := congrArg List.length (s_47).1
  have b_49f := (s_47).2
  have b_49c : c0 ≤ H25.sh.length := by omega
  have b_49d : s0 ≤ H25.sl := by omega
  have q_50 := (mz_48).get (by rw [(s_47).1]; exact q_36)
  have q_51 := (mz_48).get (by rw [(s_47).1]; exact q_37)
  obtain ⟨a27, e28, hF⟩ := rf_s hG; clear hG
  have fH25 : Mo H25 r.2 := by
    have hm := Mo.rf H25
    obtain ⟨q29, hG⟩ := ck_s hF; clear hF
    refine bT_c hG (fun x33 H32 z30 er => ?_) (fun v31 H32 z30 hF => ?_)
    · subst er; exact hm.tr (m_Lexer_take z30)
    clear hG
    replace hm : Mo H25 H32 := hm.tr (m_Lexer_take z30)
    obtain ⟨a34, e35, hG⟩ := rf_s hF; clear hF
    obtain ⟨q36, hF⟩ := ck_s hG; clear hG
    obtain ⟨v38, H39, z37, hG⟩ := bC_s hF; clear hF
    replace hm : Mo H25 H39 := hm.tr ((m_Program_add z37)).mo
    obtain ⟨a40, e41, hF⟩ := rf_s hG; clear hG
    obtain ⟨q42, hG⟩ := ck_s hF; clear hF
    obtain ⟨v44, H45, z43, hF⟩ := bC_s hG; clear hG
    replace hm : Mo H25 H45 := hm.tr ((m_Program_add z43)).mo
    obtain ⟨a46, e47, hG⟩ := rf_s hF; clear hF
    obtain ⟨q48, hF⟩ := ck_s hG; clear hG
    obtain ⟨v50, H51, z49, hG⟩ := bC_s hF; clear hF
    replace hm : Mo H25 H51 := hm.tr ((m_Program_add z49)).mo
    have hr := Option.some.inj hG; subst hr
    exact hm
  have b_49m := (fH25).len
  have b_49n := (fH25).2
  have b_49p : H25.sh.length ≤ c0 + C := by omega
  have b_49q : H25.sl ≤ s0 + Sl := by omega
  refine hp_callV_a (v := .int v24) (H1 := H25) (As := [.int v21]) (rest := []) d_Body_readPut_31 (k_Body_want (okX_BodyE 140) (moX_BodyE 140) z23 (C := H25.sh.length - H22.sh.length) (Sl := H25.sl - H22.sl) (by show H25.sh.length ≤ _; omega) (by show H25.sl ≤ _; omega)) (ab_mkC s_Body_want (Nat.le_of_ble_eq_true rfl) (Nat.le_of_ble_eq_true rfl) (show (H22.sh.length - c0) + (H25.sh.length - H22.sh.length) ≤ C from by omega) (show (H22.sl - s0) + (H25.sl - H22.sl) ≤ Sl from by omega)) (k5 137 rfl rfl) i_Body_want v_Body_want (by rw [(s_47).1]; exact q_36) (by decide) rfl rfl (Nat.le_of_ble_eq_true rfl) ?_
  refine ab_widen (cells' := H25.sh.length - c0) (slots' := H25.sl - s0) (by show _ + (H25.sh.length - H22.sh.length) ≤ _; omega) (by show _ + (H25.sl - H22.sl) ≤ _; omega) ?_
  clear b_49l b_49s b_49m b_49n b_49e b_49f b_35c b_35d b_35p b_35q
  refine ab_pop d_Body_readPut_34 rfl ?_
  refine ab_aload_n d_Body_readPut_35 rfl rfl rfl ?_
  refine hp_getR (f := 0) d_Body_readPut_36 q_50 (by decide) rfl (by decide) (k1 157 rfl rfl) rfl e28 ?_
  refine ab_bipush (v := 15) d_Body_readPut_39 (by decide) ?_
  obtain ⟨q29, hG⟩ := ck_s hF; clear hF
  refine bT_c hG (fun x33 H32 z30 er => ?_) (fun v31 H32 z30 hF => ?_)
  · subst er
    have mz : Mo H25 H32 := (m_Lexer_take z30)
    have ml := mz.len
    have m2 := mz.2
    have hC9 : H32.sh.length ≤ c0 + C := hC
    have hS9 : H32.sl ≤ s0 + Sl := hS
    refine hp_callV_t (x := x33) (H1 := H32) (As := [.int 15]) (rest := []) d_Body_readPut_41 (k_Lexer_take z30 (C := H32.sh.length - H25.sh.length) (Sl := H32.sl - H25.sl) (by show H32.sh.length ≤ _; omega) (by show H32.sl ≤ _; omega)) (ab_mkC s_Lexer_take (Nat.le_of_ble_eq_true rfl) (Nat.le_of_ble_eq_true rfl) (show (H25.sh.length - c0) + (H32.sh.length - H25.sh.length) ≤ C from by omega) (show (H25.sl - s0) + (H32.sl - H25.sl) ≤ Sl from by omega)) (k5 116 rfl rfl) i_Lexer_take v_Lexer_take q29 (by decide) rfl rfl (Nat.le_of_ble_eq_true rfl) ?_
    exact ab_U_out rfl (by show _ + (H32.sh.length - H25.sh.length) ≤ C; omega) (by show _ + (H32.sl - H25.sl) ≤ Sl; omega) ⟨rfl, rfl⟩
  clear hG
  have mz_56 : Mo H25 H32 := (m_Lexer_take z30)
  have b_57l := (mz_56).len
  have b_57s := (mz_56).2
  have b_57c : c0 ≤ H32.sh.length := by omega
  have b_57d : s0 ≤ H32.sl := by omega
  have q_58 := (mz_56).get q_50
  have q_59 := (mz_56).get q_51
  have q_60 := (mz_56).get q29
  obtain ⟨a34, e35, hG⟩ := rf_s hF; clear hF
  obtain ⟨q36, hF⟩ := ck_s hG; clear hG
  obtain ⟨v38, H39, z37, hG⟩ := bC_s hF; clear hF
  have jH39 : Mo H32 H39 := ((m_Program_add z37)).mo
  obtain ⟨a40, e41, hF⟩ := rf_s hG; clear hG
  obtain ⟨q42, hG⟩ := ck_s hF; clear hF
  obtain ⟨v44, H45, z43, hF⟩ := bC_s hG; clear hG
  have jH45 : Mo H39 H45 := ((m_Program_add z43)).mo
  obtain ⟨a46, e47, hG⟩ := rf_s hF; clear hF
  obtain ⟨q48, hF⟩ := ck_s hG; clear hG
  obtain ⟨v50, H51, z49, hG⟩ := bC_s hF; clear hF
  have jH51 : Mo H45 H51 := ((m_Program_add z49)).mo
  have fH51 : Mo H51 r.2 := by
    have hm := Mo.rf H51
    have hr := Option.some.inj hG; subst hr
    exact hm
  have fH45 : Mo H45 r.2 := jH51.tr fH51
  have fH39 : Mo H39 r.2 := jH45.tr fH45
  have fH32 : Mo H32 r.2 := jH39.tr fH39
  have b_57m := (fH32).len
  have b_57n := (fH32).2
  have b_57p : H32.sh.length ≤ c0 + C := by omega
  have b_57q : H32.sl ≤ s0 + Sl := by omega
  refine hp_callV_v (H1 := H32) (As := [.int 15]) (rest := []) d_Body_readPut_41 (k_Lexer_take z30 (C := H32.sh.length - H25.sh.length) (Sl := H32.sl - H25.sl) (by show H32.sh.length ≤ _; omega) (by show H32.sl ≤ _; omega)) (ab_mkC s_Lexer_take (Nat.le_of_ble_eq_true rfl) (Nat.le_of_ble_eq_true rfl) (show (H25.sh.length - c0) + (H32.sh.length - H25.sh.length) ≤ C from by omega) (show (H25.sl - s0) + (H32.sl - H25.sl) ≤ Sl from by omega)) (k5 116 rfl rfl) i_Lexer_take v_Lexer_take q29 (by decide) rfl rfl (Nat.le_of_ble_eq_true rfl) ?_
  refine ab_widen (cells' := H32.sh.length - c0) (slots' := H32.sl - s0) (by show _ + (H32.sh.length - H25.sh.length) ≤ _; omega) (by show _ + (H32.sl - H25.sl) ≤ _; omega) ?_
  clear b_57l b_57s b_57m b_57n b_49c b_49d b_49p b_49q
  refine ab_aload_n d_Body_readPut_44 rfl rfl rfl ?_
  refine hp_getR (f := 1) d_Body_readPut_45 q_58 (by decide) rfl (by decide) (k1 158 rfl rfl) rfl e35 ?_
  refine ab_bipush (v := 24) d_Body_readPut_48 (by decide) ?_
  refine hp_callV_a (v := .int v38) (H1 := H39) (As := [.int 24]) (rest := []) d_Body_readPut_50 (k_Program_add z37) (ab_mkC s_Program_add (Nat.le_of_ble_eq_true rfl) (Nat.le_of_ble_eq_true rfl) (show (H32.sh.length - c0) + 0 ≤ C from by omega) (show (H32.sl - s0) + 0 ≤ Sl from by omega)) (k5 117 rfl rfl) i_Program_add v_Program_add q36 (by decide) rfl rfl (Nat.le_of_ble_eq_true rfl) ?_
  have s_65 : Sa H32 H39 := (m_Program_add z37)
  refine ab_widen (cells' := H32.sh.length - c0) (slots' := H32.sl - s0) (by show (H32.sh.length - c0) + 0 ≤ _; omega) (by show (H32.sl - s0) + 0 ≤ _; omega) ?_
  refine ab_pop d_Body_readPut_53 rfl ?_
  refine ab_aload_n d_Body_readPut_54 rfl rfl rfl ?_
  refine hp_getR (f := 1) d_Body_readPut_55 (by rw [(s_65).1]; exact q_58) (by decide) rfl (by decide) (k1 158 rfl rfl) rfl e41 ?_
  refine ab_iload_n d_Body_readPut_58 rfl rfl ?_
  rw [(s_65).1] at q42
  refine ab_widen (cells' := H39.sh.length - c0) (slots' := H39.sl - s0) (by rw [(s_65).1]; exact Nat.le_refl _) (by rw [(s_65).2]; exact Nat.le_refl _) ?_
  have b_66e := congrArg List.length (s_65).1
  have b_66f := (s_65).2
  refine hp_callV_a (v := .int v44) (H1 := H45) (As := [.int v13]) (rest := []) d_Body_readPut_59 (k_Program_add z43) (ab_mkC s_Program_add (Nat.le_of_ble_eq_true rfl) (Nat.le_of_ble_eq_true rfl) (show (H39.sh.length - c0) + 0 ≤ C from by omega) (show (H39.sl - s0) + 0 ≤ Sl from by omega)) (k5 117 rfl rfl) i_Program_add v_Program_add (by rw [(s_65).1]; exact q42) (by decide) rfl rfl (Nat.le_of_ble_eq_true rfl) ?_
  have s_67 : Sa H32 H45 := (s_65).tr (m_Program_add z43)
  refine ab_widen (cells' := H32.sh.length - c0) (slots' := H32.sl - s0) (by show (H39.sh.length - c0) + 0 ≤ _; omega) (by show (H39.sl - s0) + 0 ≤ _; omega) ?_
  clear b_66e b_66f
  refine ab_pop d_Body_readPut_62 rfl ?_
  refine ab_aload_n d_Body_readPut_63 rfl rfl rfl ?_
  refine hp_getR (f := 1) d_Body_readPut_64 (by rw [(s_67).1]; exact q_58) (by decide) rfl (by decide) (k1 158 rfl rfl) rfl e47 ?_
  refine ab_iload_n d_Body_readPut_67 rfl rfl ?_
  rw [(s_67).1] at q48
  refine ab_widen (cells' := H45.sh.length - c0) (slots' := H45.sl - s0) (by rw [(s_67).1]; exact Nat.le_refl _) (by rw [(s_67).2]; exact Nat.le_refl _) ?_
  have b_68e := congrArg List.length (s_67).1
  have b_68f := (s_67).2
  refine hp_callV_a (v := .int v50) (H1 := H51) (As := [.int v17]) (rest := []) d_Body_readPut_68 (k_Program_add z49) (ab_mkC s_Program_add (Nat.le_of_ble_eq_true rfl) (Nat.le_of_ble_eq_true rfl) (show (H45.sh.length - c0) + 0 ≤ C from by omega) (show (H45.sl - s0) + 0 ≤ Sl from by omega)) (k5 117 rfl rfl) i_Program_add v_Program_add (by rw [(s_67).1]; exact q48) (by decide) rfl rfl (Nat.le_of_ble_eq_true rfl) ?_
  have s_69 : Sa H32 H51 := (s_67).tr (m_Program_add z49)
  refine ab_widen (cells' := H32.sh.length - c0) (slots' := H32.sl - s0) (by show (H45.sh.length - c0) + 0 ≤ _; omega) (by show (H45.sl - s0) + 0 ≤ _; omega) ?_
  clear b_68e b_68f
  refine ab_pop d_Body_readPut_71 rfl ?_
  exact ab_vret d_Body_readPut_72 rfl (by show _ ≤ C; omega) (by show _ ≤ Sl; omega) (by have hr := Option.some.inj hG; subst hr; exact ⟨rfl, rfl⟩)
