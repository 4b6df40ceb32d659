def F_Body_unary (N : Nat) (o : Orc_BodyE) (p0 : Nat) (H : Hp) : Option ((Ot Int32) × Hp) :=
    ck (H.sh[p0]? = some (6, 0)) <|
    rf (H.P p0 0) fun a2 =>
    ck (H.sh[a2]? = some (1, 0)) <|
    bnd ((H.D a2 2)) fun x5 =>
    if x5 = 2 then
    bT (F_Body_nameValue N p0 H) fun v8 H9 =>
    some (.inl v8, H9)
    else if x5 = 12 then
    bT (F_Body_inParens N o p0 ((-1) : Int32) H) fun v13 H14 =>
    some (.inl v13, H14)
    else if x5 = 19 then
    rf (H.P p0 0) fun a17 =>
    ck (H.sh[a17]? = some (1, 0)) <|
    bnd ((H.D a17 2)) fun x20 =>
    bT (F_Body_signed N o p0 x20 H) fun v22 H23 =>
    some (.inl v22, H23)
    else if x5 = 25 then
    rf (H.P p0 0) fun a26 =>
    ck (H.sh[a26]? = some (1, 0)) <|
    bnd ((H.D a26 2)) fun x29 =>
    bT (F_Body_signed N o p0 x29 H) fun v31 H32 =>
    some (.inl v31, H32)
    else if x5 = 49 then
    bT (F_Body_called N o p0 (2 : Int32) (76 : Int32) (0 : Int32) H) fun v36 H37 =>
    some (.inl v36, H37)
    else if x5 = 51 then
    bT (F_Body_called N o p0 (0 : Int32) (77 : Int32) (2 : Int32) H) fun v41 H42 =>
    some (.inl v41, H42)
    else if x5 = 76 then
    bT (F_Body_called N o p0 (0 : Int32) (39 : Int32) (0 : Int32) H) fun v46 H47 =>
    some (.inl v46, H47)
    else if x5 = 77 then
    bT (F_Body_called N o p0 (0 : Int32) (40 : Int32) (0 : Int32) H) fun v51 H52 =>
    some (.inl v51, H52)
    else if x5 = 78 then
    bT (F_Body_called N o p0 (4 : Int32) (41 : Int32) (3 : Int32) H) fun v56 H57 =>
    some (.inl v56, H57)
    else if x5 = 79 then
    bT (F_Body_called N o p0 (2 : Int32) (75 : Int32) (2 : Int32) H) fun v61 H62 =>
    some (.inl v61, H62)
    else if x5 = 80 then
    bT (F_Body_readHas N o p0 H) fun v66 H67 =>
    some (.inl v66, H67)
    else rf (H.P p0 0) fun a69 =>
    ck (H.sh[a69]? = some (1, 0)) <|
    bnd ((H.D a69 2)) fun x72 =>
    bT (F_Body_plainValue N p0 x72 H) fun v74 H75 =>
    some (.inl v74, H75)
set_option maxRecDepth 20000 in
set_option maxHeartbeats 2000000 in
theorem m_Body_unary {N : Nat} {o : Orc_BodyE} (hmo : mo_BodyE o) {p0 : Nat} {H : Hp} {r : (Ot Int32) × Hp} (hF : F_Body_unary N o p0 H = some r) : Mo H r.2 := by
  unfold F_Body_unary at hF
  have hm := Mo.rf H
  obtain ⟨q77, hG⟩ := ck_s hF; clear hF
  obtain ⟨a78, e79, hF⟩ := rf_s hG; clear hG
  obtain ⟨q80, hG⟩ := ck_s hF; clear hF
  obtain ⟨x81, -, hF⟩ := bnd_g hG; clear hG
  rcases ite_s hF with ⟨q_52, hG⟩ | ⟨q_52, hG⟩
  · clear hF
    refine bT_c hG (fun x86 H85 z83 er => ?_) (fun v84 H85 z83 hF => ?_)
    · subst er; exact hm.tr (m_Body_nameValue z83)
    clear hG
    replace hm : Mo H H85 := hm.tr (m_Body_nameValue z83)
    have hr := Option.some.inj hF; subst hr
    exact hm
  clear hF
  rcases ite_s hG with ⟨q_56, hF⟩ | ⟨q_56, hF⟩
  · clear hG
    refine bT_c hF (fun x91 H90 z88 er => ?_) (fun v89 H90 z88 hG => ?_)
    · subst er; exact hm.tr (m_Body_inParens hmo z88)
    clear hF
    replace hm : Mo H H90 := hm.tr (m_Body_inParens hmo z88)
    have hr := Option.some.inj hG; subst hr
    exact hm
  clear hG
  rcases ite_s hF with ⟨q_60, hG⟩ | ⟨q_60, hG⟩
  · clear hF
    obtain ⟨a93, e94, hF⟩ := rf_s hG; clear hG
    obtain ⟨q95, hG⟩ := ck_s hF; clear hF
    obtain ⟨x96, -, hF⟩ := bnd_g hG; clear hG
    refine bT_c hF (fun x100 H99 z97 er => ?_) (fun v98 H99 z97 hG => ?_)
    · subst er; exact hm.tr (m_Body_signed hmo z97)
    clear hF
    replace hm : Mo H H99 := hm.tr (m_Body_signed hmo z97)
    have hr := Option.some.inj hG; subst hr
    exact hm
  clear hF
  rcases ite_s hG with ⟨q_65, hF⟩ | ⟨q_65, hF⟩
  · clear hG
    obtain ⟨a102, e103, hG⟩ := rf_s hF; clear hF
    obtain ⟨q104, hF⟩ := ck_s hG; clear hG
    obtain ⟨x105, -, hG⟩ := bnd_g hF; clear hF
    refine bT_c hG (fun x109 H108 z106 er => ?_) (fun v107 H108 z106 hF => ?_)
    · subst er; exact hm.tr (m_Body_signed hmo z106)
    clear hG
    replace hm : Mo H H108 := hm.tr (m_Body_signed hmo z106)
    have hr := Option.some.inj hF; subst hr
    exact hm
  clear hG
  rcases ite_s hF with ⟨q_70, hG⟩ | ⟨q_70, hG⟩
  · clear hF
    refine bT_c hG (fun x114 H113 z111 er => ?_) (fun v112 H113 z111 hF => ?_)
    · subst er; exact hm.tr (m_Body_called hmo z111)
    clear hG
    replace hm : Mo H H113 := hm.tr (m_Body_called hmo z111)
    have hr := Option.some.inj hF; subst hr
    exact hm
  clear hF
  rcases ite_s hG with ⟨q_74, hF⟩ | ⟨q_74, hF⟩
  · clear hG
    refine bT_c hF (fun x119 H118 z116 er => ?_) (fun v117 H118 z116 hG => ?_)
    · subst er; exact hm.tr (m_Body_called hmo z116)
    clear hF
    replace hm : Mo H H118 := hm.tr (m_Body_called hmo z116)
    have hr := Option.some.inj hG; subst hr
    exact hm
  clear hG
  rcases ite_s hF with ⟨q_78, hG⟩ | ⟨q_78, hG⟩
  · clear hF
    refine bT_c hG (fun x124 H123 z121 er => ?_) (fun v122 H123 z121 hF => ?_)
    · subst er; exact hm.tr (m_Body_called hmo z121)
    clear hG
    replace hm : Mo H H123 := hm.tr (m_Body_called hmo z121)
    have hr := Option.some.inj hF; subst hr
    exact hm
  clear hF
  rcases ite_s hG with ⟨q_82, hF⟩ | ⟨q_82, hF⟩
  · clear hG
    refine bT_c hF (fun x129 H128 z126 er => ?_) (fun v127 H128 z126 hG => ?_)
    · subst er; exact hm.tr (m_Body_called hmo z126)
    clear hF
    replace hm : Mo H H128 := hm.tr (m_Body_called hmo z126)
    have hr := Option.some.inj hG; subst hr
    exact hm
  clear hG
  rcases ite_s hF with ⟨q_86, hG⟩ | ⟨q_86, hG⟩
  · clear hF
    refine bT_c hG (fun x134 H133 z131 er => ?_) (fun v132 H133 z131 hF => ?_)
    · subst er; exact hm.tr (m_Body_called hmo z131)
    clear hG
    replace hm : Mo H H133 := hm.tr (m_Body_called hmo z131)
    have hr := Option.some.inj hF; subst hr
    exact hm
  clear hF
  rcases ite_s hG with ⟨q_90, hF⟩ | ⟨q_90, hF⟩
  · clear hG
    refine bT_c hF (fun x139 H138 z136 er => ?_) (fun v137 H138 z136 hG => ?_)
    · subst er; exact hm.tr (m_Body_called hmo z136)
    clear hF
    replace hm : Mo H H138 := hm.tr (m_Body_called hmo z136)
    have hr := Option.some.inj hG; subst hr
    exact hm
  clear hG
  rcases ite_s hF with ⟨q_94, hG⟩ | ⟨q_94, hG⟩
  · clear hF
    refine bT_c hG (fun x144 H143 z141 er => ?_) (fun v142 H143 z141 hF => ?_)
    · subst er; exact hm.tr (m_Body_readHas hmo z141)
    clear hG
    replace hm : Mo H H143 := hm.tr (m_Body_readHas hmo z141)
    have hr := Option.some.inj hF; subst hr
    exact hm
  clear hF
  obtain ⟨a145, e146, hF⟩ := rf_s hG; clear hG
  obtain ⟨q147, hG⟩ := ck_s hF; clear hF
  obtain ⟨x148, -, hF⟩ := bnd_g hG; clear hG
  refine bT_c hF (fun x152 H151 z149 er => ?_) (fun v150 H151 z149 hG => ?_)
  · subst er; exact hm.tr (m_Body_plainValue z149)
  clear hF
  replace hm : Mo H H151 := hm.tr (m_Body_plainValue z149)
  have hr := Option.some.inj hG; subst hr
  exact hm
set_option maxRecDepth 20000 in
set_option maxHeartbeats 2000000 in
theorem k_Body_unary {N : Nat} {o : Orc_BodyE} {fr lo : Nat} (ho : ok_BodyE o fr lo) (hmo : mo_BodyE o) {p0 : Nat} {H : Hp} {r : (Ot Int32) × Hp} {C Sl : Nat} (hF : F_Body_unary N o p0 H = some r) (hC : r.2.sh.length ≤ H.sh.length + C) (hS : r.2.sl ≤ H.sl + Sl) : ab_M y_Body_unary { frames := fr + 4, cells := C, slots := Sl, locals := lo + 95 } [.ref p0] (hpw H) (po (oI r.1) r.2) := by
  unfold F_Body_unary at hF
  obtain ⟨c0, e0⟩ : ∃ q, q = H.sh.length := ⟨_, rfl⟩
  obtain ⟨s0, e1⟩ : ∃ q, q = H.sl := ⟨_, rfl⟩
  rw [← e0] at hC
  rw [← e1] at hS
  have hc0 : c0 ≤ H.sh.length := Nat.le_of_eq e0
  have hs0 : s0 ≤ H.sl := Nat.le_of_eq e1
  have hcc : H.sh.length ≤ c0 + C := by omega
  have hss : H.sl ≤ s0 + Sl := by omega
  refine ab_of2 (lv := [some (.ref p0)]) 0 rfl rfl (Nat.le_of_ble_eq_true rfl) ?_
  refine ab_widen (cells' := H.sh.length - c0) (slots' := H.sl - s0) (Nat.zero_le _) (Nat.zero_le _) ?_
  refine ab_aload_n d_Body_unary_0 rfl rfl rfl ?_
  obtain ⟨q1, hG⟩ := ck_s hF; clear hF
  obtain ⟨a2, e3, hF⟩ := rf_s hG; clear hG
  refine hp_getR (f := 0) d_Body_unary_1 q1 (by decide) rfl (by decide) (k1 157 rfl rfl) rfl e3 ?_
  obtain ⟨q4, hG⟩ := ck_s hF; clear hF
  refine hp_getI (f := 2) d_Body_unary_4 q4 (by decide) rfl (by decide) (k1 99 rfl rfl) rfl ?_
  refine ab_topi (fun x5 ex5 => ?_)
  replace hG := bnd_s ex5 hG
  by_cases t6 : x5 = 2
  · rw [if_pos t6] at hG
    refine ab_lookup (off := 174) (tgt := 181) d_Body_unary_7 (by decide) (by rw [t6]; decide) (by decide) ?_
    refine ab_aload_n d_Body_unary_181 rfl rfl rfl ?_
    refine bT_c hG (fun x10 H9 z7 er => ?_) (fun v8 H9 z7 hF => ?_)
    · subst er
      have mz : Mo H H9 := (m_Body_nameValue z7)
      have ml := mz.len
      have m2 := mz.2
      have hC9 : H9.sh.length ≤ c0 + C := hC
      have hS9 : H9.sl ≤ s0 + Sl := hS
      refine hp_callV_t (x := x10) (H1 := H9) (As := []) (rest := []) d_Body_unary_182 (k_Body_nameValue z7 (C := H9.sh.length - H.sh.length) (Sl := H9.sl - H.sl) (by show H9.sh.length ≤ _; omega) (by show H9.sl ≤ _; omega)) (ab_mkC s_Body_nameValue (show 8 + 1 ≤ fr + 4 from by have := ho.1; omega) (show 8 + (9 + 11) + 152 ≤ lo + 95 from by have := ho.2.1; omega) (show (H.sh.length - c0) + (H9.sh.length - H.sh.length) ≤ C from by omega) (show (H.sl - s0) + (H9.sl - H.sl) ≤ Sl from by omega)) (k5 185 rfl rfl) i_Body_nameValue v_Body_nameValue q1 (by decide) rfl rfl (Nat.le_of_ble_eq_true rfl) ?_
      exact ab_U_out rfl (by show _ + (H9.sh.length - H.sh.length) ≤ C; omega) (by show _ + (H9.sl - H.sl) ≤ Sl; omega) ⟨rfl, rfl⟩
    clear hG
    have mz_1 : Mo H H9 := (m_Body_nameValue z7)
    have b_2l := (mz_1).len
    have b_2s := (mz_1).2
    have b_2c : c0 ≤ H9.sh.length := by omega
    have b_2d : s0 ≤ H9.sl := by omega
    have q_3 := (mz_1).get q1
    have q_4 := (mz_1).get q4
    have fH9 : Mo H9 r.2 := by
      have hm := Mo.rf H9
      have hr := Option.some.inj hF; subst hr
      exact hm
    have b_2m := (fH9).len
    have b_2n := (fH9).2
    have b_2p : H9.sh.length ≤ c0 + C := by omega
    have b_2q : H9.sl ≤ s0 + Sl := by omega
    refine hp_callV_a (v := .int v8) (H1 := H9) (As := []) (rest := []) d_Body_unary_182 (k_Body_nameValue z7 (C := H9.sh.length - H.sh.length) (Sl := H9.sl - H.sl) (by show H9.sh.length ≤ _; omega) (by show H9.sl ≤ _; omega)) (ab_mkC s_Body_nameValue (show 8 + 1 ≤ fr + 4 from by have := ho.1; omega) (show 8 + (9 + 11) + 152 ≤ lo + 95 from by have := ho.2.1; omega) (show (H.sh.length - c0) + (H9.sh.length - H.sh.length) ≤ C from by omega) (show (H.sl - s0) + (H9.sl - H.sl) ≤ Sl from by omega)) (k5 185 rfl rfl) i_Body_nameValue v_Body_nameValue q1 (by decide) rfl rfl (Nat.le_of_ble_eq_true rfl) ?_
    refine ab_widen (cells' := H9.sh.length - c0) (slots' := H9.sl - s0) (by show _ + (H9.sh.length - H.sh.length) ≤ _; omega) (by show _ + (H9.sl - H.sl) ≤ _; omega) ?_
    clear b_2l b_2s b_2m b_2n
    exact ab_iret d_Body_unary_185 rfl (by show _ ≤ C; omega) (by show _ ≤ Sl; omega) (by have hr := Option.some.inj hF; subst hr; exact ⟨rfl, rfl⟩)
  rw [if_neg t6] at hG
  have ut6 : ¬ (2 : Int) = (x5).toInt := fun z => t6 (Int32.toInt_inj.mp (z.symm.trans (by decide)))
  by_cases t11 : x5 = 12
  · rw [if_pos t11] at hG
    refine ab_lookup (off := 109) (tgt := 116) d_Body_unary_7 (by decide) (by rw [t11]; decide) (by decide) ?_
    refine ab_aload_n d_Body_unary_116 rfl rfl rfl ?_
    refine ab_iconst (v := (-1)) d_Body_unary_117 (by decide) ?_
    refine bT_c hG (fun x15 H14 z12 er => ?_) (fun v13 H14 z12 hF => ?_)
    · subst er
      have mz : Mo H H14 := (m_Body_inParens hmo z12)
      have ml := mz.len
      have m2 := mz.2
      have hC9 : H14.sh.length ≤ c0 + C := hC
      have hS9 : H14.sl ≤ s0 + Sl := hS
      refine hp_callV_t (x := x15) (H1 := H14) (As := [.int (-1)]) (rest := []) d_Body_unary_118 (k_Body_inParens ho hmo z12 (C := H14.sh.length - H.sh.length) (Sl := H14.sl - H.sl) (by show H14.sh.length ≤ _; omega) (by show H14.sl ≤ _; omega)) (ab_mkC s_Body_inParens (show (fr + 2) + 1 ≤ fr + 4 from by have := ho.1; omega) (show 8 + (3 + 11) + (lo + 50) ≤ lo + 95 from by have := ho.2.1; omega) (show (H.sh.length - c0) + (H14.sh.length - H.sh.length) ≤ C from by omega) (show (H.sl - s0) + (H14.sl - H.sl) ≤ Sl from by omega)) (k5 157 rfl rfl) i_Body_inParens v_Body_inParens q1 (by decide) rfl rfl (Nat.le_of_ble_eq_true rfl) ?_
      exact ab_U_out rfl (by show _ + (H14.sh.length - H.sh.length) ≤ C; omega) (by show _ + (H14.sl - H.sl) ≤ Sl; omega) ⟨rfl, rfl⟩
    clear hG
    have mz_5 : Mo H H14 := (m_Body_inParens hmo z12)
    have b_6l := (mz_5).len
    have b_6s := (mz_5).2
    have b_6c : c0 ≤ H14.sh.length := by omega
    have b_6d : s0 ≤ H14.sl := by omega
    have q_7 := (mz_5).get q1
    have q_8 := (mz_5).get q4
    have fH14 : Mo H14 r.2 := by
      have hm := Mo.rf H14
      have hr := Option.some.inj hF; subst hr
      exact hm
    have b_6m := (fH14).len
    have b_6n := (fH14).2
    have b_6p : H14.sh.length ≤ c0 + C := by omega
    have b_6q : H14.sl ≤ s0 + Sl := by omega
    refine hp_callV_a (v := .int v13) (H1 := H14) (As := [.int (-1)]) (rest := []) d_Body_unary_118 (k_Body_inParens ho hmo z12 (C := H14.sh.length - H.sh.length) (Sl := H14.sl - H.sl) (by show H14.sh.length ≤ _; omega) (by show H14.sl ≤ _; omega)) (ab_mkC s_Body_inParens (show (fr + 2) + 1 ≤ fr + 4 from by have := ho.1; omega) (show 8 + (3 + 11) + (lo + 50) ≤ lo + 95 from by have := ho.2.1; omega) (show (H.sh.length - c0) + (H14.sh.length - H.sh.length) ≤ C from by omega) (show (H.sl - s0) + (H14.sl - H.sl) ≤ Sl from by omega)) (k5 157 rfl rfl) i_Body_inParens v_Body_inParens q1 (by decide) rfl rfl (Nat.le_of_ble_eq_true rfl) ?_
    refine ab_widen (cells' := H14.sh.length - c0) (slots' := H14.sl - s0) (by show _ + (H14.sh.length - H.sh.length) ≤ _; omega) (by show _ + (H14.sl - H.sl) ≤ _; omega) ?_
    clear b_6l b_6s b_6m b_6n
    exact ab_iret d_Body_unary_121 rfl (by show _ ≤ C; omega) (by show _ ≤ Sl; omega) (by have hr := Option.some.inj hF; subst hr; exact ⟨rfl, rfl⟩)
  rw [if_neg t11] at hG
  have ut11 : ¬ (12 : Int) = (x5).toInt := fun z => t11 (Int32.toInt_inj.mp (z.symm.trans (by decide)))
  by_cases t16 : x5 = 19
  · rw [if_pos t16] at hG
    refine ab_lookup (off := 97) (tgt := 104) d_Body_unary_7 (by decide) (by rw [t16]; decide) (by decide) ?_
    refine ab_aload_n d_Body_unary_104 rfl rfl rfl ?_
    refine ab_aload_n d_Body_unary_105 rfl rfl rfl ?_
    obtain ⟨a17, e18, hF⟩ := rf_s hG; clear hG
    refine hp_getR (f := 0) d_Body_unary_106 q1 (by decide) rfl (by decide) (k1 157 rfl rfl) rfl e18 ?_
    obtain ⟨q19, hG⟩ := ck_s hF; clear hF
    refine hp_getI (f := 2) d_Body_unary_109 q19 (by decide) rfl (by decide) (k1 99 rfl rfl) rfl ?_
    refine ab_topi (fun x20 ex20 => ?_)
    replace hG := bnd_s ex20 hG
    refine bT_c hG (fun x24 H23 z21 er => ?_) (fun v22 H23 z21 hF => ?_)
    · subst er
      have mz : Mo H H23 := (m_Body_signed hmo z21)
      have ml := mz.len
      have m2 := mz.2
      have hC9 : H23.sh.length ≤ c0 + C := hC
      have hS9 : H23.sl ≤ s0 + Sl := hS
      refine hp_callV_t (x := x24) (H1 := H23) (As := [.int x20]) (rest := []) d_Body_unary_112 (k_Body_signed ho hmo z21 (C := H23.sh.length - H.sh.length) (Sl := H23.sl - H.sl) (by show H23.sh.length ≤ _; omega) (by show H23.sl ≤ _; omega)) (ab_mkC s_Body_signed (show (fr + 1) + 1 ≤ fr + 4 from by have := ho.1; omega) (show 8 + (6 + 11) + (lo + 22) ≤ lo + 95 from by have := ho.2.1; omega) (show (H.sh.length - c0) + (H23.sh.length - H.sh.length) ≤ C from by omega) (show (H.sl - s0) + (H23.sl - H.sl) ≤ Sl from by omega)) (k5 149 rfl rfl) i_Body_signed v_Body_signed q1 (by decide) rfl rfl (Nat.le_of_ble_eq_true rfl) ?_
      exact ab_U_out rfl (by show _ + (H23.sh.length - H.sh.length) ≤ C; omega) (by show _ + (H23.sl - H.sl) ≤ Sl; omega) ⟨rfl, rfl⟩
    clear hG
    have mz_9 : Mo H H23 := (m_Body_signed hmo z21)
    have b_10l := (mz_9).len
    have b_10s := (mz_9).2
    have b_10c : c0 ≤ H23.sh.length := by omega
    have b_10d : s0 ≤ H23.sl := by omega
    have q_11 := (mz_9).get q1
    have q_12 := (mz_9).get q4
    have q_13 := (mz_9).get q19
    have fH23 : Mo H23 r.2 := by
      have hm := Mo.rf H23
      have hr := Option.some.inj hF; subst hr
      exact hm
    have b_10m := (fH23).len
    have b_10n := (fH23).2
    have b_10p : H23.sh.length ≤ c0 + C := by omega
    have b_10q : H23.sl ≤ s0 + Sl := by omega
    refine hp_callV_a (v := .int v22) (H1 := H23) (As := [.int x20]) (rest := []) d_Body_unary_112 (k_Body_signed ho hmo z21 (C := H23.sh.length - H.sh.length) (Sl := H23.sl - H.sl) (by show H23.sh.length ≤ _; omega) (by show H23.sl ≤ _; omega)) (ab_mkC s_Body_signed (show (fr + 1) + 1 ≤ fr + 4 from by have := ho.1; omega) (show 8 + (6 + 11) + (lo + 22) ≤ lo + 95 from by have := ho.2.1; omega) (show (H.sh.length - c0) + (H23.sh.length - H.sh.length) ≤ C from by omega) (show (H.sl - s0) + (H23.sl - H.sl) ≤ Sl from by omega)) (k5 149 rfl rfl) i_Body_signed v_Body_signed q1 (by decide) rfl rfl (Nat.le_of_ble_eq_true rfl) ?_
    refine ab_widen (cells' := H23.sh.length - c0) (slots' := H23.sl - s0) (by show _ + (H23.sh.length - H.sh.length) ≤ _; omega) (by show _ + (H23.sl - H.sl) ≤ _; omega) ?_
    clear b_10l b_10s b_10m b_10n
    exact ab_iret d_Body_unary_115 rfl (by show _ ≤ C; omega) (by show _ ≤ Sl; omega) (by have hr := Option.some.inj hF; subst hr; exact ⟨rfl, rfl⟩)
  rw [if_neg t16] at hG
  have ut16 : ¬ (19 : Int) = (x5).toInt := fun z => t16 (Int32.toInt_inj.mp (z.symm.trans (by decide)))
  by_cases t25 : x5 = 25
  · rw [if_pos t25] at hG
    refine ab_lookup (off := 97) (tgt := 104) d_Body_unary_7 (by decide) (by rw [t25]; decide) (by decide) ?_
    refine ab_aload_n d_Body_unary_104 rfl rfl rfl ?_
    refine ab_aload_n d_Body_unary_105 rfl rfl rfl ?_
    obtain ⟨a26, e27, hF⟩ := rf_s hG; clear hG
    refine hp_getR (f := 0) d_Body_unary_106 q1 (by decide) rfl (by decide) (k1 157 rfl rfl) rfl e27 ?_
    obtain ⟨q28, hG⟩ := ck_s hF; clear hF
    refine hp_getI (f := 2) d_Body_unary_109 q28 (by decide) rfl (by decide) (k1 99 rfl rfl) rfl ?_
    refine ab_topi (fun x29 ex29 => ?_)
    replace hG := bnd_s ex29 hG
    refine bT_c hG (fun x33 H32 z30 er => ?_) (fun v31 H32 z30 hF => ?_)
    · subst er
      have mz : Mo H H32 := (m_Body_signed hmo z30)
      have ml := mz.len
      have m2 := mz.2
      have hC9 : H32.sh.length ≤ c0 + C := hC
      have hS9 : H32.sl ≤ s0 + Sl := hS
      refine hp_callV_t (x := x33) (H1 := H32) (As := [.int x29]) (rest := []) d_Body_unary_112 (k_Body_signed ho hmo z30 (C := H32.sh.length - H.sh.length) (Sl := H32.sl - H.sl) (by show H32.sh.length ≤ _; omega) (by show H32.sl ≤ _; omega)) (ab_mkC s_Body_signed (show (fr + 1) + 1 ≤ fr + 4 from by have := ho.1; omega) (show 8 + (6 + 11) + (lo + 22) ≤ lo + 95 from by have := ho.2.1; omega) (show (H.sh.length - c0) + (H32.sh.length - H.sh.length) ≤ C from by omega) (show (H.sl - s0) + (H32.sl - H.sl) ≤ Sl from by omega)) (k5 149 rfl rfl) i_Body_signed v_Body_signed q1 (by decide) rfl rfl (Nat.le_of_ble_eq_true rfl) ?_
      exact ab_U_out rfl (by show _ + (H32.sh.length - H.sh.length) ≤ C; omega) (by show _ + (H32.sl - H.sl) ≤ Sl; omega) ⟨rfl, rfl⟩
    clear hG
    have mz_14 : Mo H H32 := (m_Body_signed hmo z30)
    have b_15l := (mz_14).len
    have b_15s := (mz_14).2
    have b_15c : c0 ≤ H32.sh.length := by omega
    have b_15d : s0 ≤ H32.sl := by omega
    have q_16 := (mz_14).get q1
    have q_17 := (mz_14).get q4
    have q_18 := (mz_14).get q28
    have fH32 : Mo H32 r.2 := by
      have hm := Mo.rf H32
      have hr := Option.some.inj hF; subst hr
      exact hm
    have b_15m := (fH32).len
    have b_15n := (fH32).2
    have b_15p : H32.sh.length ≤ c0 + C := by omega
    have b_15q : H32.sl ≤ s0 + Sl := by omega
    refine hp_callV_a (v := .int v31) (H1 := H32) (As := [.int x29]) (rest := []) d_Body_unary_112 (k_Body_signed ho hmo z30 (C := H32.sh.length - H.sh.length) (Sl := H32.sl - H.sl) (by show H32.sh.length ≤ _; omega) (by show H32.sl ≤ _; omega)) (ab_mkC s_Body_signed (show (fr + 1) + 1 ≤ fr + 4 from by have := ho.1; omega) (show 8 + (6 + 11) + (lo + 22) ≤ lo + 95 from by have := ho.2.1; omega) (show (H.sh.length - c0) + (H32.sh.length - H.sh.length) ≤ C from by omega) (show (H.sl - s0) + (H32.sl - H.sl) ≤ Sl from by omega)) (k5 149 rfl rfl) i_Body_signed v_Body_signed q1 (by decide) rfl rfl (Nat.le_of_ble_eq_true rfl) ?_
    refine ab_widen (cells' := H32.sh.length - c0) (slots' := H32.sl - s0) (by show _ + (H32.sh.length - H.sh.length) ≤ _; omega) (by show _ + (H32.sl - H.sl) ≤ _; omega) ?_
    clear b_15l b_15s b_15m b_15n
    exact ab_iret d_Body_unary_115 rfl (by show _ ≤ C; omega) (by show _ ≤ Sl; omega) (by have hr := Option.some.inj hF; subst hr; exact ⟨rfl, rfl⟩)
  rw [if_neg t25] at hG
  have ut25 : ¬ (25 : Int) = (x5).toInt := fun z => t25 (Int32.toInt_inj.mp (z.symm.trans (by decide)))
  by_cases t34 : x5 = 49
  · rw [if_pos t34] at hG
    refine ab_lookup (off := 151) (tgt := 158) d_Body_unary_7 (by decide) (by rw [t34]; decide) (by decide) ?_
    refine ab_aload_n d_Body_unary_158 rfl rfl rfl ?_
    refine ab_iconst (v := 2) d_Body_unary_159 (by decide) ?_
    refine ab_bipush (v := 76) d_Body_unary_160 (by decide) ?_
    refine ab_iconst (v := 0) d_Body_unary_162 (by decide) ?_
    refine bT_c hG (fun x38 H37 z35 er => ?_) (fun v36 H37 z35 hF => ?_)
    · subst er
      have mz : Mo H H37 := (m_Body_called hmo z35)
      have ml := mz.len
      have m2 := mz.2
      have hC9 : H37.sh.length ≤ c0 + C := hC
      have hS9 : H37.sl ≤ s0 + Sl := hS
      refine hp_callV_t (x := x38) (H1 := H37) (As := [.int 2, .int 76, .int 0]) (rest := []) d_Body_unary_163 (k_Body_called ho hmo z35 (C := H37.sh.length - H.sh.length) (Sl := H37.sl - H.sl) (by show H37.sh.length ≤ _; omega) (by show H37.sl ≤ _; omega)) (ab_mkC s_Body_called (show (fr + 3) + 1 ≤ fr + 4 from by have := ho.1; omega) (show 8 + (4 + 11) + (lo + 72) ≤ lo + 95 from by have := ho.2.1; omega) (show (H.sh.length - c0) + (H37.sh.length - H.sh.length) ≤ C from by omega) (show (H.sl - s0) + (H37.sl - H.sl) ≤ Sl from by omega)) (k5 169 rfl rfl) i_Body_called v_Body_called q1 (by decide) rfl rfl (Nat.le_of_ble_eq_true rfl) ?_
      exact ab_U_out rfl (by show _ + (H37.sh.length - H.sh.length) ≤ C; omega) (by show _ + (H37.sl - H.sl) ≤ Sl; omega) ⟨rfl, rfl⟩
    clear hG
    have mz_19 : Mo H H37 := (m_Body_called hmo z35)
    have b_20l := (mz_19).len
    have b_20s := (mz_19).2
    have b_20c : c0 ≤ H37.sh.length := by omega
    have b_20d : s0 ≤ H37.sl := by omega
    have q_21 := (mz_19).get q1
    have q_22 := (mz_19).get q4
    have fH37 : Mo H37 r.2 := by
      have hm := Mo.rf H37
      have hr := Option.some.inj hF; subst hr
      exact hm
    have b_20m := (fH37).len
    have b_20n := (fH37).2
    have b_20p : H37.sh.length ≤ c0 + C := by omega
    have b_20q : H37.sl ≤ s0 + Sl := by omega
    refine hp_callV_a (v := .int v36) (H1 := H37) (As := [.int 2, .int 76, .int 0]) (rest := []) d_Body_unary_163 (k_Body_called ho hmo z35 (C := H37.sh.length - H.sh.length) (Sl := H37.sl - H.sl) (by show H37.sh.length ≤ _; omega) (by show H37.sl ≤ _; omega)) (ab_mkC s_Body_called (show (fr + 3) + 1 ≤ fr + 4 from by have := ho.1; omega) (show 8 + (4 + 11) + (lo + 72) ≤ lo + 95 from by have := ho.2.1; omega) (show (H.sh.length - c0) + (H37.sh.length - H.sh.length) ≤ C from by omega) (show (H.sl - s0) + (H37.sl - H.sl) ≤ Sl from by omega)) (k5 169 rfl rfl) i_Body_called v_Body_called q1 (by decide) rfl rfl (Nat.le_of_ble_eq_true rfl) ?_
    refine ab_widen (cells' := H37.sh.length - c0) (slots' := H37.sl - s0) (by show _ + (H37.sh.length - H.sh.length) ≤ _; omega) (by show _ + (H37.sl - H.sl) ≤ _; omega) ?_
    clear b_20l b_20s b_20m b_20n
    exact ab_iret d_Body_unary_166 rfl (by show _ ≤ C; omega) (by show _ ≤ Sl; omega) (by have hr := Option.some.inj hF; subst hr; exact ⟨rfl, rfl⟩)
  rw [if_neg t34] at hG
  have ut34 : ¬ (49 : Int) = (x5).toInt := fun z => t34 (Int32.toInt_inj.mp (z.symm.trans (by decide)))
  by_cases t39 : x5 = 51
  · rw [if_pos t39] at hG
    refine ab_lookup (off := 160) (tgt := 167) d_Body_unary_7 (by decide) (by rw [t39]; decide) (by decide) ?_
    refine ab_aload_n d_Body_unary_167 rfl rfl rfl ?_
    refine ab_iconst (v := 0) d_Body_unary_168 (by decide) ?_
    refine ab_bipush (v := 77) d_Body_unary_169 (by decide) ?_
    refine ab_iconst (v := 2) d_Body_unary_171 (by decide) ?_
    refine bT_c hG (fun x43 H42 z40 er => ?_) (fun v41 H42 z40 hF => ?_)
    · subst er
      have mz : Mo H H42 := (m_Body_called hmo z40)
      have ml := mz.len
      have m2 := mz.2
      have hC9 : H42.sh.length ≤ c0 + C := hC
      have hS9 : H42.sl ≤ s0 + Sl := hS
      refine hp_callV_t (x := x43) (H1 := H42) (As := [.int 0, .int 77, .int 2]) (rest := []) d_Body_unary_172 (k_Body_called ho hmo z40 (C := H42.sh.length - H.sh.length) (Sl := H42.sl - H.sl) (by show H42.sh.length ≤ _; omega) (by show H42.sl ≤ _; omega)) (ab_mkC s_Body_called (show (fr + 3) + 1 ≤ fr + 4 from by have := ho.1; omega) (show 8 + (4 + 11) + (lo + 72) ≤ lo + 95 from by have := ho.2.1; omega) (show (H.sh.length - c0) + (H42.sh.length - H.sh.length) ≤ C from by omega) (show (H.sl - s0) + (H42.sl - H.sl) ≤ Sl from by omega)) (k5 169 rfl rfl) i_Body_called v_Body_called q1 (by decide) rfl rfl (Nat.le_of_ble_eq_true rfl) ?_
      exact ab_U_out rfl (by show _ + (H42.sh.length - H.sh.length) ≤ C; omega) (by show _ + (H42.sl - H.sl) ≤ Sl; omega) ⟨rfl, rfl⟩
    clear hG
    have mz_23 : Mo H H42 := (m_Body_called hmo z40)
    have b_24l := (mz_23).len
    have b_24s := (mz_23).2
    have b_24c : c0 ≤ H42.sh.length := by omega
    have b_24d : s0 ≤ H42.sl := by omega
    have q_25 := (mz_23).get q1
    have q_26 := (mz_23).get q4
    have fH42 : Mo H42 r.2 := by
      have hm := Mo.rf H42
      have hr := Option.some.inj hF; subst hr
      exact hm
    have b_24m := (fH42).len
    have b_24n := (fH42).2
    have b_24p : H42.sh.length ≤ c0 + C := by omega
    have b_24q : H42.sl ≤ s0 + Sl := by omega
    refine hp_callV_a (v := .int v41) (H1 := H42) (As := [.int 0, .int 77, .int 2]) (rest := []) d_Body_unary_172 (k_Body_called ho hmo z40 (C := H42.sh.length - H.sh.length) (Sl := H42.sl - H.sl) (by show H42.sh.length ≤ _; omega) (by show H42.sl ≤ _; omega)) (ab_mkC s_Body_called (show (fr + 3) + 1 ≤ fr + 4 from by have := ho.1; omega) (show 8 + (4 + 11) + (lo + 72) ≤ lo + 95 from by have := ho.2.1; omega) (show (H.sh.length - c0) + (H42.sh.length - H.sh.length) ≤ C from by omega) (show (H.sl - s0) + (H42.sl - H.sl) ≤ Sl from by omega)) (k5 169 rfl rfl) i_Body_called v_Body_called q1 (by decide) rfl rfl (Nat.le_of_ble_eq_true rfl) ?_
    refine ab_widen (cells' := H42.sh.length - c0) (slots' := H42.sl - s0) (by show _ + (H42.sh.length - H.sh.length) ≤ _; omega) (by show _ + (H42.sl - H.sl) ≤ _; omega) ?_
    clear b_24l b_24s b_24m b_24n
    exact ab_iret d_Body_unary_175 rfl (by show _ ≤ C; omega) (by show _ ≤ Sl; omega) (by have hr := Option.some.inj hF; subst hr; exact ⟨rfl, rfl⟩)
  rw [if_neg t39] at hG
  have ut39 : ¬ (51 : Int) = (x5).toInt := fun z => t39 (Int32.toInt_inj.mp (z.symm.trans (by decide)))
  by_cases t44 : x5 = 76
  · rw [if_pos t44] at hG
    refine ab_lookup (off := 115) (tgt := 122) d_Body_unary_7 (by decide) (by rw [t44]; decide) (by decide) ?_
    refine ab_aload_n d_Body_unary_122 rfl rfl rfl ?_
    refine ab_iconst (v := 0) d_Body_unary_123 (by decide) ?_
    refine ab_bipush (v := 39) d_Body_unary_124 (by decide) ?_
    refine ab_iconst (v := 0) d_Body_unary_126 (by decide) ?_
    refine bT_c hG (fun x48 H47 z45 er => ?_) (fun v46 H47 z45 hF => ?_)
    · subst er
      have mz : Mo H H47 := (m_Body_called hmo z45)
      have ml := mz.len
      have m2 := mz.2
      have hC9 : H47.sh.length ≤ c0 + C := hC
      have hS9 : H47.sl ≤ s0 + Sl := hS
      refine hp_callV_t (x := x48) (H1 := H47) (As := [.int 0, .int 39, .int 0]) (rest := []) d_Body_unary_127 (k_Body_called ho hmo z45 (C := H47.sh.length - H.sh.length) (Sl := H47.sl - H.sl) (by show H47.sh.length ≤ _; omega) (by show H47.sl ≤ _; omega)) (ab_mkC s_Body_called (show (fr + 3) + 1 ≤ fr + 4 from by have := ho.1; omega) (show 8 + (4 + 11) + (lo + 72) ≤ lo + 95 from by have := ho.2.1; omega) (show (H.sh.length - c0) + (H47.sh.length - H.sh.length) ≤ C from by omega) (show (H.sl - s0) + (H47.sl - H.sl) ≤ Sl from by omega)) (k5 169 rfl rfl) i_Body_called v_Body_called q1 (by decide) rfl rfl (Nat.le_of_ble_eq_true rfl) ?_
      exact ab_U_out rfl (by show _ + (H47.sh.length - H.sh.length) ≤ C; omega) (by show _ + (H47.sl - H.sl) ≤ Sl; omega) ⟨rfl, rfl⟩
    clear hG
    have mz_27 : Mo H H47 := (m_Body_called hmo z45)
    have b_28l := (mz_27).len
    have b_28s := (mz_27).2
    have b_28c : c0 ≤ H47.sh.length := by omega
    have b_28d : s0 ≤ H47.sl := by omega
    have q_29 := (mz_27).get q1
    have q_30 := (mz_27).get q4
    have fH47 : Mo H47 r.2 := by
      have hm := Mo.rf H47
      have hr := Option.some.inj hF; subst hr
      exact hm
    have b_28m := (fH47).len
    have b_28n := (fH47).2
    have b_28p : H47.sh.length ≤ c0 + C := by omega
    have b_28q : H47.sl ≤ s0 + Sl := by omega
    refine hp_callV_a (v := .int v46) (H1 := H47) (As := [.int 0, .int 39, .int 0]) (rest := []) d_Body_unary_127 (k_Body_called ho hmo z45 (C := H47.sh.length - H.sh.length) (Sl := H47.sl - H.sl) (by show H47.sh.length ≤ _; omega) (by show H47.sl ≤ _; omega)) (ab_mkC s_Body_called (show (fr + 3) + 1 ≤ fr + 4 from by have := ho.1; omega) (show 8 + (4 + 11) + (lo + 72) ≤ lo + 95 from by have := ho.2.1; omega) (show (H.sh.length - c0) + (H47.sh.length - H.sh.length) ≤ C from by omega) (show (H.sl - s0) + (H47.sl - H.sl) ≤ Sl from by omega)) (k5 169 rfl rfl) i_Body_called v_Body_called q1 (by decide) rfl rfl (Nat.le_of_ble_eq_true rfl) ?_
    refine ab_widen (cells' := H47.sh.length - c0) (slots' := H47.sl - s0) (by show _ + (H47.sh.length - H.sh.length) ≤ _; omega) (by show _ + (H47.sl - H.sl) ≤ _; omega) ?_
    clear b_28l b_28s b_28m b_28n
    exact ab_iret d_Body_unary_130 rfl (by show _ ≤ C; omega) (by show _ ≤ Sl; omega) (by have hr := Option.some.inj hF; subst hr; exact ⟨rfl, rfl⟩)
  rw [if_neg t44] at hG
  have ut44 : ¬ (76 : Int) = (x5).toInt := fun z => t44 (Int32.toInt_inj.mp (z.symm.trans (by decide)))
  by_cases t49 : x5 = 77
  · rw [if_pos t49] at hG
    refine ab_lookup (off := 124) (tgt := 131) d_Body_unary_7 (by decide) (by rw [t49]; decide) (by decide) ?_
    refine ab_aload_n d_Body_unary_131 rfl rfl rfl ?_
    refine ab_iconst (v := 0) d_Body_unary_132 (by decide) ?_
    refine ab_bipush (v := 40) d_Body_unary_133 (by decide) ?_
    refine ab_iconst (v := 0) d_Body_unary_135 (by decide) ?_
    refine bT_c hG (fun x53 H52 z50 er => ?_) (fun v51 H52 z50 hF => ?_)
    · subst er
      have mz : Mo H H52 := (m_Body_called hmo z50)
      have ml := mz.len
      have m2 := mz.2
      have hC9 : H52.sh.length ≤ c0 + C := hC
      have hS9 : H52.sl ≤ s0 + Sl := hS
      refine hp_callV_t (x := x53) (H1 := H52) (As := [.int 0, .int 40, .int 0]) (rest := []) d_Body_unary_136 (k_Body_called ho hmo z50 (C := H52.sh.length - H.sh.length) (Sl := H52.sl - H.sl) (by show H52.sh.length ≤ _; omega) (by show H52.sl ≤ _; omega)) (ab_mkC s_Body_called (show (fr + 3) + 1 ≤ fr + 4 from by have := ho.1; omega) (show 8 + (4 + 11) + (lo + 72) ≤ lo + 95 from by have := ho.2.1; omega) (show (H.sh.length - c0) + (H52.sh.length - H.sh.length) ≤ C from by omega) (show (H.sl - s0) + (H52.sl - H.sl) ≤ Sl from by omega)) (k5 169 rfl rfl) i_Body_called v_Body_called q1 (by decide) rfl rfl (Nat.le_of_ble_eq_true rfl) ?_
      exact ab_U_out rfl (by show _ + (H52.sh.length - H.sh.length) ≤ C; omega) (by show _ + (H52.sl - H.sl) ≤ Sl; omega) ⟨rfl, rfl⟩
    clear hG
    have mz_31 : Mo H H52 := (m_Body_called hmo z50)
    have b_32l := (mz_31).len
    have b_32s := (mz_31).2
    have b_32c : c0 ≤ H52.sh.length := by omega
    have b_32d : s0 ≤ H52.sl := by omega
    have q_33 := (mz_31).get q1
    have q_34 := (mz_31).get q4
    have fH52 : Mo H52 r.2 := by
      have hm := Mo.rf H52
      have hr := Option.some.inj hF; subst hr
      exact hm
    have b_32m := (fH52).len
    have b_32n := (fH52).2
    have b_32p : H52.sh.length ≤ c0 + C := by omega
    have b_32q : H52.sl ≤ s0 + Sl := by omega
    refine hp_callV_a (v := .int v51) (H1 := H52) (As := [.int 0, .int 40, .int 0]) (rest := []) d_Body_unary_136 (k_Body_called ho hmo z50 (C := H52.sh.length - H.sh.length) (Sl := H52.sl - H.sl) (by show H52.sh.length ≤ _; omega) (by show H52.sl ≤ _; omega)) (ab_mkC s_Body_called (show (fr + 3) + 1 ≤ fr + 4 from by have := ho.1; omega) (show 8 + (4 + 11) + (lo + 72) ≤ lo + 95 from by have := ho.2.1; omega) (show (H.sh.length - c0) + (H52.sh.length - H.sh.length) ≤ C from by omega) (show (H.sl - s0) + (H52.sl - H.sl) ≤ Sl from by omega)) (k5 169 rfl rfl) i_Body_called v_Body_called q1 (by decide) rfl rfl (Nat.le_of_ble_eq_true rfl) ?_
    refine ab_widen (cells' := H52.sh.length - c0) (slots' := H52.sl - s0) (by show _ + (H52.sh.length - H.sh.length) ≤ _; omega) (by show _ + (H52.sl - H.sl) ≤ _; omega) ?_
    clear b_32l b_32s b_32m b_32n
    exact ab_iret d_Body_unary_139 rfl (by show _ ≤ C; omega) (by show _ ≤ Sl; omega) (by have hr := Option.some.inj hF; subst hr; exact ⟨rfl, rfl⟩)
  rw [if_neg t49] at hG
  have ut49 : ¬ (77 : Int) = (x5).toInt := fun z => t49 (Int32.toInt_inj.mp (z.symm.trans (by decide)))
  by_cases t54 : x5 = 78
  · rw [if_pos t54] at hG
    refine ab_lookup (off := 133) (tgt := 140) d_Body_unary_7 (by decide) (by rw [t54]; decide) (by decide) ?_
    refine ab_aload_n d_Body_unary_140 rfl rfl rfl ?_
    refine ab_iconst (v := 4) d_Body_unary_141 (by decide) ?_
    refine ab_bipush (v := 41) d_Body_unary_142 (by decide) ?_
    refine ab_iconst (v := 3) d_Body_unary_144 (by decide) ?_
    refine bT_c hG (fun x58 H57 z55 er => ?_) (fun v56 H57 z55 hF => ?_)
    · subst er
      have mz : Mo H H57 := (m_Body_called hmo z55)
      have ml := mz.len
      have m2 := mz.2
      have hC9 : H57.sh.length ≤ c0 + C := hC
      have hS9 : H57.sl ≤ s0 + Sl := hS
      refine hp_callV_t (x := x58) (H1 := H57) (As := [.int 4, .int 41, .int 3]) (rest := []) d_Body_unary_145 (k_Body_called ho hmo z55 (C := H57.sh.length - H.sh.length) (Sl := H57.sl - H.sl) (by show H57.sh.length ≤ _; omega) (by show H57.sl ≤ _; omega)) (ab_mkC s_Body_called (show (fr + 3) + 1 ≤ fr + 4 from by have := ho.1; omega) (show 8 + (4 + 11) + (lo + 72) ≤ lo + 95 from by have := ho.2.1; omega) (show (H.sh.length - c0) + (H57.sh.length - H.sh.length) ≤ C from by omega) (show (H.sl - s0) + (H57.sl - H.sl) ≤ Sl from by omega)) (k5 169 rfl rfl) i_Body_called v_Body_called q1 (by decide) rfl rfl (Nat.le_of_ble_eq_true rfl) ?_
      exact ab_U_out rfl (by show _ + (H57.sh.length - H.sh.length) ≤ C; omega) (by show _ + (H57.sl - H.sl) ≤ Sl; omega) ⟨rfl, rfl⟩
    clear hG
    have mz_35 : Mo H H57 := (m_Body_called hmo z55)
    have b_36l := (mz_35).len
    have b_36s := (mz_35).2
    have b_36c : c0 ≤ H57.sh.length := by omega
    have b_36d : s0 ≤ H57.sl := by omega
    have q_37 := (mz_35).get q1
    have q_38 := (mz_35).get q4
    have fH57 : Mo H57 r.2 := by
      have hm := Mo.rf H57
      have hr := Option.some.inj hF; subst hr
      exact hm
    have b_36m := (fH57).len
    have b_36n := (fH57).2
    have b_36p : H57.sh.length ≤ c0 + C := by omega
    have b_36q : H57.sl ≤ s0 + Sl := by omega
    refine hp_callV_a (v := .int v56) (H1 := H57) (As := [.int 4, .int 41, .int 3]) (rest := []) d_Body_unary_145 (k_Body_called ho hmo z55 (C := H57.sh.length - H.sh.length) (Sl := H57.sl - H.sl) (by show H57.sh.length ≤ _; omega) (by show H57.sl ≤ _; omega)) (ab_mkC s_Body_called (show (fr + 3) + 1 ≤ fr + 4 from by have := ho.1; omega) (show 8 + (4 + 11) + (lo + 72) ≤ lo + 95 from by have := ho.2.1; omega) (show (H.sh.length - c0) + (H57.sh.length - H.sh.length) ≤ C from by omega) (show (H.sl - s0) + (H57.sl - H.sl) ≤ Sl from by omega)) (k5 169 rfl rfl) i_Body_called v_Body_called q1 (by decide) rfl rfl (Nat.le_of_ble_eq_true rfl) ?_
    refine ab_widen (cells' := H57.sh.length - c0) (slots' := H57.sl - s0) (by show _ + (H57.sh.length - H.sh.length) ≤ _; omega) (by show _ + (H57.sl - H.sl) ≤ _; omega) ?_
    clear b_36l b_36s b_36m b_36n
    exact ab_iret d_Body_unary_148 rfl (by show _ ≤ C; omega) (by show _ ≤ Sl; omega) (by have hr := Option.some.inj hF; subst hr; exact ⟨rfl, rfl⟩)
  rw [if_neg t54] at hG
  have ut54 : ¬ (78 : Int) = (x5).toInt := fun z => t54 (Int32.toInt_inj.mp (z.symm.trans (by decide)))
  by_cases t59 : x5 = 79
  · rw [if_pos t59] at hG
    refine ab_lookup (off := 142) (tgt := 149) d_Body_unary_7 (by decide) (by rw [t59]; decide) (by decide) ?_
    refine ab_aload_n d_Body_unary_149 rfl rfl rfl ?_
    refine ab_iconst (v := 2) d_Body_unary_150 (by decide) ?_
    refine ab_bipush (v := 75) d_Body_unary_151 (by decide) ?_
    refine ab_iconst (v := 2) d_Body_unary_153 (by decide) ?_
    refine bT_c hG (fun x63 H62 z60 er => ?_) (fun v61 H62 z60 hF => ?_)
    · subst er
      have mz : Mo H H62 := (m_Body_called hmo z60)
      have ml := mz.len
      have m2 := mz.2
      have hC9 : H62.sh.length ≤ c0 + C := hC
      have hS9 : H62.sl ≤ s0 + Sl := hS
      refine hp_callV_t (x := x63) (H1 := H62) (As := [.int 2, .int 75, .int 2]) (rest := []) d_Body_unary_154 (k_Body_called ho hmo z60 (C := H62.sh.length - H.sh.length) (Sl := H62.sl - H.sl) (by show H62.sh.length ≤ _; omega) (by show H62.sl ≤ _; omega)) (ab_mkC s_Body_called (show (fr + 3) + 1 ≤ fr + 4 from by have := ho.1; omega) (show 8 + (4 + 11) + (lo + 72) ≤ lo + 95 from by have := ho.2.1; omega) (show (H.sh.length - c0) + (H62.sh.length - H.sh.length) ≤ C from by omega) (show (H.sl - s0) + (H62.sl - H.sl) ≤ Sl from by omega)) (k5 169 rfl rfl) i_Body_called v_Body_called q1 (by decide) rfl rfl (Nat.le_of_ble_eq_true rfl) ?_
      exact ab_U_out rfl (by show _ + (H62.sh.length - H.sh.length) ≤ C; omega) (by show _ + (H62.sl - H.sl) ≤ Sl; omega) ⟨rfl, rfl⟩
    clear hG
    have mz_39 : Mo H H62 := (m_Body_called hmo z60)
    have b_40l := (mz_39).len
    have b_40s := (mz_39).2
    have b_40c : c0 ≤ H62.sh.length := by omega
    have b_40d : s0 ≤ H62.sl := by omega
    have q_41 := (mz_39).get q1
    have q_42 := (mz_39).get q4
    have fH62 : Mo H62 r.2 := by
      have hm := Mo.rf H62
      have hr := Option.some.inj hF; subst hr
      exact hm
    have b_40m := (fH62).len
    have b_40n := (fH62).2
    have b_40p : H62.sh.length ≤ c0 + C := by omega
    have b_40q : H62.sl ≤ s0 + Sl := by omega
    refine hp_callV_a (v := .int v61) (H1 := H62) (As := [.int 2, .int 75, .int 2]) (rest := []) d_Body_unary_154 (k_Body_called ho hmo z60 (C := H62.sh.length - H.sh.length) (Sl := H62.sl - H.sl) (by show H62.sh.length ≤ _; omega) (by show H62.sl ≤ _; omega)) (ab_mkC s_Body_called (show (fr + 3) + 1 ≤ fr + 4 from by have := ho.1; omega) (show 8 + (4 + 11) + (lo + 72) ≤ lo + 95 from by have := ho.2.1; omega) (show (H.sh.length - c0) + (H62.sh.length - H.sh.length) ≤ C from by omega) (show (H.sl - s0) + (H62.sl - H.sl) ≤ Sl from by omega)) (k5 169 rfl rfl) i_Body_called v_Body_called q1 (by decide) rfl rfl (Nat.le_of_ble_eq_true rfl) ?_
    refine ab_widen (cells' := H62.sh.length - c0) (slots' := H62.sl - s0) (by show _ + (H62.sh.length - H.sh.length) ≤ _; omega) (by show _ + (H62.sl - H.sl) ≤ _; omega) ?_
    clear b_40l b_40s b_40m b_40n
    exact ab_iret d_Body_unary_157 rfl (by show _ ≤ C; omega) (by show _ ≤ Sl; omega) (by have hr := Option.some.inj hF; subst hr; exact ⟨rfl, rfl⟩)
  rw [if_neg t59] at hG
  have ut59 : ¬ (79 : Int) = (x5).toInt := fun z => t59 (Int32.toInt_inj.mp (z.symm.trans (by decide)))
  by_cases t64 : x5 = 80
  · rw [if_pos t64] at hG
    refine ab_lookup (off := 169) (tgt := 176) d_Body_unary_7 (by decide) (by rw [t64]; decide) (by decide) ?_
    refine ab_aload_n d_Body_unary_176 rfl rfl rfl ?_
    refine bT_c hG (fun x68 H67 z65 er => ?_) (fun v66 H67 z65 hF => ?_)
    · subst er
      have mz : Mo H H67 := (m_Body_readHas hmo z65)
      have ml := mz.len
      have m2 := mz.2
      have hC9 : H67.sh.length ≤ c0 + C := hC
      have hS9 : H67.sl ≤ s0 + Sl := hS
      refine hp_callV_t (x := x68) (H1 := H67) (As := []) (rest := []) d_Body_unary_177 (k_Body_readHas ho hmo z65 (C := H67.sh.length - H.sh.length) (Sl := H67.sl - H.sl) (by show H67.sh.length ≤ _; omega) (by show H67.sl ≤ _; omega)) (ab_mkC s_Body_readHas (show (fr + 2) + 1 ≤ fr + 4 from by have := ho.1; omega) (show 8 + (2 + 11) + (lo + 50) ≤ lo + 95 from by have := ho.2.1; omega) (show (H.sh.length - c0) + (H67.sh.length - H.sh.length) ≤ C from by omega) (show (H.sl - s0) + (H67.sl - H.sl) ≤ Sl from by omega)) (k5 173 rfl rfl) i_Body_readHas v_Body_readHas q1 (by decide) rfl rfl (Nat.le_of_ble_eq_true rfl) ?_
      exact ab_U_out rfl (by show _ + (H67.sh.length - H.sh.length) ≤ C; omega) (by show _ + (H67.sl - H.sl) ≤ Sl; omega) ⟨rfl, rfl⟩
    clear hG
    have mz_43 : Mo H H67 := (m_Body_readHas hmo z65)
    have b_44l := (mz_43).len
    have b_44s := (mz_43).2
    have b_44c : c0 ≤ H67.sh.length := by omega
    have b_44d : s0 ≤ H67.sl := by omega
    have q_45 := (mz_43).get q1
    have q_46 := (mz_43).get q4
    have fH67 : Mo H67 r.2 := by
      have hm := Mo.rf H67
      have hr := Option.some.inj hF; subst hr
      exact hm
    have b_44m := (fH67).len
    have b_44n := (fH67).2
    have b_44p : H67.sh.length ≤ c0 + C := by omega
    have b_44q : H67.sl ≤ s0 + Sl := by omega
    refine hp_callV_a (v := .int v66) (H1 := H67) (As := []) (rest := []) d_Body_unary_177 (k_Body_readHas ho hmo z65 (C := H67.sh.length - H.sh.length) (Sl := H67.sl - H.sl) (by show H67.sh.length ≤ _; omega) (by show H67.sl ≤ _; omega)) (ab_mkC s_Body_readHas (show (fr + 2) + 1 ≤ fr + 4 from by have := ho.1; omega) (show 8 + (2 + 11) + (lo + 50) ≤ lo + 95 from by have := ho.2.1; omega) (show (H.sh.length - c0) + (H67.sh.length - H.sh.length) ≤ C from by omega) (show (H.sl - s0) + (H67.sl - H.sl) ≤ Sl from by omega)) (k5 173 rfl rfl) i_Body_readHas v_Body_readHas q1 (by decide) rfl rfl (Nat.le_of_ble_eq_true rfl) ?_
    refine ab_widen (cells' := H67.sh.length - c0) (slots' := H67.sl - s0) (by show _ + (H67.sh.length - H.sh.length) ≤ _; omega) (by show _ + (H67.sl - H.sl) ≤ _; omega) ?_
    clear b_44l b_44s b_44m b_44n
    exact ab_iret d_Body_unary_180 rfl (by show _ ≤ C; omega) (by show _ ≤ Sl; omega) (by have hr := Option.some.inj hF; subst hr; exact ⟨rfl, rfl⟩)
  rw [if_neg t64] at hG
  have ut64 : ¬ (80 : Int) = (x5).toInt := fun z => t64 (Int32.toInt_inj.mp (z.symm.trans (by decide)))
  refine ab_lookup (off := 179) (tgt := 186) d_Body_unary_7 (by decide) (by simp [Op.lookupswitch.offset, ut6, ut11, ut16, ut25, ut34, ut39, ut44, ut49, ut54, ut59, ut64]) (by decide) ?_
  refine ab_aload_n d_Body_unary_186 rfl rfl rfl ?_
  refine ab_aload_n d_Body_unary_187 rfl rfl rfl ?_
  obtain ⟨a69, e70, hF⟩ := rf_s hG; clear hG
  refine hp_getR (f := 0) d_Body_unary_188 q1 (by decide) rfl (by decide) (k1 157 rfl rfl) rfl e70 ?_
  obtain ⟨q71, hG⟩ := ck_s hF; clear hF
  refine hp_getI (f := 2) d_Body_unary_191 q71 (by decide) rfl (by decide) (k1 99 rfl rfl) rfl ?_
  refine ab_topi (fun x72 ex72 => ?_)
  replace hG := bnd_s ex72 hG
  refine bT_c hG (fun x76 H75 z73 er => ?_) (fun v74 H75 z73 hF => ?_)
  · subst er
    have mz : Mo H H75 := (m_Body_plainValue z73)
    have ml := mz.len
    have m2 := mz.2
    have hC9 : H75.sh.length ≤ c0 + C := hC
    have hS9 : H75.sl ≤ s0 + Sl := hS
    refine hp_callV_t (x := x76) (H1 := H75) (As := [.int x72]) (rest := []) d_Body_unary_194 (k_Body_plainValue z73 (C := H75.sh.length - H.sh.length) (Sl := H75.sl - H.sl) (by show H75.sh.length ≤ _; omega) (by show H75.sl ≤ _; omega)) (ab_mkC s_Body_plainValue (show 8 + 1 ≤ fr + 4 from by have := ho.1; omega) (show 8 + (2 + 11) + 143 ≤ lo + 95 from by have := ho.2.1; omega) (show (H.sh.length - c0) + (H75.sh.length - H.sh.length) ≤ C from by omega) (show (H.sl - s0) + (H75.sl - H.sl) ≤ Sl from by omega)) (k5 209 rfl rfl) i_Body_plainValue v_Body_plainValue q1 (by decide) rfl rfl (Nat.le_of_ble_eq_true rfl) ?_
    exact ab_U_out rfl (by show _ + (H75.sh.length - H.sh.length) ≤ C; omega) (by show _ + (H75.sl - H.sl) ≤ Sl; omega) ⟨rfl, rfl⟩
  clear hG
  have mz_47 : Mo H H75 := (m_Body_plainValue z73)
  have b_48l := (mz_47).len
  have b_48s := (mz_47).2
  have b_48c : c0 ≤ H75.sh.length := by omega
  have b_48d : s0 ≤ H75.sl := by omega
  have q_49 := (mz_47).get q1
  have q_50 := (mz_47).get q4
  have q_51 := (mz_47).get q71
  have fH75 : Mo H75 r.2 := by
    have hm := Mo.rf H75
    have hr := Option.some.inj hF; subst hr
    exact hm
  have b_48m := (fH75).len
  have b_48n := (fH75).2
  have b_48p : H75.sh.length ≤ c0 + C := by omega
  have b_48q : H75.sl ≤ s0 + Sl := by omega
  refine hp_callV_a (v := .int v74) (H1 := H75) (As := [.int x72]) (rest := []) d_Body_unary_194 (k_Body_plainValue z73 (C := H75.sh.length - H.sh.length) (Sl := H75.sl - H.sl) (by show H75.sh.length ≤ _; omega) (by show H75.sl ≤ _; omega)) (ab_mkC s_Body_plainValue (show 8 + 1 ≤ fr + 4 from by have := ho.1; omega) (show 8 + (2 + 11) + 143 ≤ lo + 95 from by have := ho.2.1; omega) (show (H.sh.length - c0) + (H75.sh.length - H.sh.length) ≤ C from by omega) (show (H.sl - s0) + (H75.sl - H.sl) ≤ Sl from by omega)) (k5 209 rfl rfl) i_Body_plainValue v_Body_plainValue q1 (by decide) rfl rfl (Nat.le_of_ble_eq_true rfl) ?_
  refine ab_widen (cells' := H75.sh.length - c0) (slots' := H75.sl - s0) (by show _ + (H75.sh.length - H.sh.length) ≤ _; omega) (by show _ + (H75.sl - H.sl) ≤ _; omega) ?_
  clear b_48l b_48s b_48m b_48n
  exact ab_iret d_Body_unary_197 rfl (by show _ ≤ C; omega) (by show _ ≤ Sl; omega) (by have hr := Option.some.inj hF; subst hr; exact ⟨rfl, rfl⟩)
def B_Body_signsFrom_111 (N : Nat) (o : Orc_BodyE) (p0 : Nat) (p1 : Int32) (kq22 : Int32 → Int32 → Hp → Option ((Ot Int32) × Hp)) (l2 : Int32) (l3 : Int32) (l4 : Int32) (l5 : Int32) (l6 : Int32) (w0 : Int32) (H : Hp) : Option ((Ot Int32) × Hp) :=
    ck (H.sh[p0]? = some (6, 0)) <|
    bT (F_Body_joined N p0 l4 l5 l2 w0 H) fun v45 H46 =>
    rf (H46.P p0 1) fun a48 =>
    ck (H46.sh[a48]? = some (4, 0)) <|
    bC (F_Program_aim N a48 l6 H46) fun v52 H53 =>
    if p1 = (2 : Int32) then
    some (.inl v45, H53)
    else
    kq22 v45 (l3 + 1) H53
set_option maxRecDepth 20000 in
set_option maxHeartbeats 2000000 in
theorem mB_Body_signsFrom_111 {N : Nat} {o : Orc_BodyE} (hmo : mo_BodyE o) {p0 : Nat} {p1 : Int32} {kq22 : Int32 → Int32 → Hp → Option ((Ot Int32) × Hp)} (hm22 : ∀ (l2 : Int32) (l3 : Int32) (H : Hp) (r : (Ot Int32) × Hp), kq22 l2 l3 H = some r → Mo H r.2) {l2 : Int32} {l3 : Int32} {l4 : Int32} {l5 : Int32} {l6 : Int32} {w0 : Int32} {H : Hp} {r : (Ot Int32) × Hp} (hF : B_Body_signsFrom_111 N o p0 p1 kq22 l2 l3 l4 l5 l6 w0 H = some r) : Mo H r.2 := by
  unfold B_Body_signsFrom_111 at hF
  have hm := Mo.rf H
  obtain ⟨q55, hG⟩ := ck_s hF; clear hF
  refine bT_c hG (fun x59 H58 z56 er => ?_) (fun v57 H58 z56 hF => ?_)
  · subst er; exact hm.tr (m_Body_joined z56)
  clear hG
  replace hm : Mo H H58 := hm.tr (m_Body_joined z56)
  obtain ⟨a60, e61, hG⟩ := rf_s hF; clear hF
  obtain ⟨q62, hF⟩ := ck_s hG; clear hG
  obtain ⟨v64, H65, z63, hG⟩ := bC_s hF; clear hF
  replace hm : Mo H H65 := hm.tr ((m_Program_aim z63)).mo
  rcases ite_s hG with ⟨q_22, hF⟩ | ⟨q_22, hF⟩
  · clear hG
    have hr := Option.some.inj hF; subst hr
    exact hm
  · clear hG
    exact hm.tr (hm22 v57 (l3 + 1) H65 r hF)
set_option maxRecDepth 20000 in
set_option maxHeartbeats 2000000 in
theorem kB_Body_signsFrom_111 {N : Nat} {o : Orc_BodyE} {fr lo : Nat} (ho : ok_BodyE o fr lo) (hmo : mo_BodyE o) {p0 : Nat} {p1 : Int32} {kq22 : Int32 → Int32 → Hp → Option ((Ot Int32) × Hp)} {c0 s0 C Sl : Nat} (hm22 : ∀ (l2 : Int32) (l3 : Int32) (H : Hp) (r : (Ot Int32) × Hp), kq22 l2 l3 H = some r → Mo H r.2) (hk22 : ∀ (l2 : Int32) (l3 : Int32) (H : Hp) (r : (Ot Int32) × Hp), kq22 l2 l3 H = some r → c0 ≤ H.sh.length → s0 ≤ H.sl → H.sh.length ≤ c0 + C → H.sl ≤ s0 + Sl → r.2.sh.length ≤ c0 + C → r.2.sl ≤ s0 + Sl → ab_V y_Body_signsFrom { frames := fr + 4, cells := C, slots := Sl, locals := lo + 95 } (po (oI r.1) r.2) C Sl (H.sh.length - c0) (H.sl - s0) 22 [some (.ref p0), some (.int p1), some (.int l2), some (.int l3), none, none, none, none] [] (hpw H)) {l2 : Int32} {l3 : Int32} {l4 : Int32} {l5 : Int32} {l6 : Int32} {w0 : Int32} {H : Hp} {r : (Ot Int32) × Hp} (hF : B_Body_signsFrom_111 N o p0 p1 kq22 l2 l3 l4 l5 l6 w0 H = some r) (hc0 : c0 ≤ H.sh.length) (hs0 : s0 ≤ H.sl) (hcc : H.sh.length ≤ c0 + C) (hss : H.sl ≤ s0 + Sl) (hC : r.2.sh.length ≤ c0 + C) (hS : r.2.sl ≤ s0 + Sl) : ab_V y_Body_signsFrom { frames := fr + 4, cells := C, slots := Sl, locals := lo + 95 } (po (oI r.1) r.2) C Sl (H.sh.length - c0) (H.sl - s0) 111 [some (.ref p0), some (.int p1), some (.int l2), some (.int l3), some (.int l4), some (.int l5), some (.int l6), none] [.int w0] (hpw H) := by
  unfold B_Body_signsFrom_111 at hF
  refine ab_istore (lv' := [some (.ref p0), some (.int p1), some (.int l2), some (.int l3), some (.int l4), some (.int l5), some (.int l6), some (.int w0)]) d_Body_signsFrom_111 (by decide) rfl ?_
  refine ab_aload_n d_Body_signsFrom_113 rfl rfl rfl ?_
  refine ab_iload d_Body_signsFrom_114 rfl ?_
  refine ab_iload d_Body_signsFrom_116 rfl ?_
  refine ab_iload_n d_Body_signsFrom_118 rfl rfl ?_
  refine ab_iload d_Body_signsFrom_119 rfl ?_
  obtain ⟨q43, hG⟩ := ck_s hF; clear hF
  refine bT_c hG (fun x47 H46 z44 er => ?_) (fun v45 H46 z44 hF => ?_)
  · subst er
    have mz : Mo H H46 := (m_Body_joined z44)
    have ml := mz.len
    have m2 := mz.2
    have hC9 : H46.sh.length ≤ c0 + C := hC
    have hS9 : H46.sl ≤ s0 + Sl := hS
    refine hp_callV_t (x := x47) (H1 := H46) (As := [.int l4, .int l5, .int l2, .int w0]) (rest := []) d_Body_signsFrom_121 (k_Body_joined z44 (C := H46.sh.length - H.sh.length) (Sl := H46.sl - H.sl) (by show H46.sh.length ≤ _; omega) (by show H46.sl ≤ _; omega)) (ab_mkC s_Body_joined (show 7 + 1 ≤ fr + 4 from by have := ho.1; omega) (show 8 + (8 + 11) + 122 ≤ lo + 95 from by have := ho.2.1; omega) (show (H.sh.length - c0) + (H46.sh.length - H.sh.length) ≤ C from by omega) (show (H.sl - s0) + (H46.sl - H.sl) ≤ Sl from by omega)) (k5 225 rfl rfl) i_Body_joined v_Body_joined q43 (by decide) rfl rfl (Nat.le_of_ble_eq_true rfl) ?_
    exact ab_U_out rfl (by show _ + (H46.sh.length - H.sh.length) ≤ C; omega) (by show _ + (H46.sl - H.sl) ≤ Sl; omega) ⟨rfl, rfl⟩
  clear hG
  have mz_13 : Mo H H46 := (m_Body_joined z44)
  have b_14l := (mz_13).len
  have b_14s := (mz_13).2
  have b_14c : c0 ≤ H46.sh.length := by omega
  have b_14d : s0 ≤ H46.sl := by omega
  have q_15 := (mz_13).get q43
  obtain ⟨a48, e49, hG⟩ := rf_s hF; clear hF
  obtain ⟨q50, hF⟩ := ck_s hG; clear hG
  obtain ⟨v52, H53, z51, hG⟩ := bC_s hF; clear hF
  have jH53 : Mo H46 H53 := ((m_Program_aim z51)).mo
  have fH53 : Mo H53 r.2 := by
    have hm := Mo.rf H53
    rcases ite_s hG with ⟨q_17, hF⟩ | ⟨q_17, hF⟩
    · clear hG
      have hr := Option.some.inj hF; subst hr
      exact hm
    · clear hG
      exact hm.tr (hm22 v45 (l3 + 1) H53 r hF)
  have fH46 : Mo H46 r.2 := jH53.tr fH53
  have b_14m := (fH46).len
  have b_14n := (fH46).2
  have b_14p : H46.sh.length ≤ c0 + C := by omega
  have b_14q : H46.sl ≤ s0 + Sl := by omega
  refine hp_callV_a (v := .int v45) (H1 := H46) (As := [.int l4, .int l5, .int l2, .int w0]) (rest := []) d_Body_signsFrom_121 (k_Body_joined z44 (C := H46.sh.length - H.sh.length) (Sl := H46.sl - H.sl) (by show H46.sh.length ≤ _; omega) (by show H46.sl ≤ _; omega)) (ab_mkC s_Body_joined (show 7 + 1 ≤ fr + 4 from by have := ho.1; omega) (show 8 + (8 + 11) + 122 ≤ lo + 95 from by have := ho.2.1; omega) (show (H.sh.length - c0) + (H46.sh.length - H.sh.length) ≤ C from by omega) (show (H.sl - s0) + (H46.sl - H.sl) ≤ Sl from by omega)) (k5 225 rfl rfl) i_Body_joined v_Body_joined q43 (by decide) rfl rfl (Nat.le_of_ble_eq_true rfl) ?_
  refine ab_widen (cells' := H46.sh.length - c0) (slots' := H46.sl - s0) (by show _ + (H46.sh.length - H.sh.length) ≤ _; omega) (by show _ + (H46.sl - H.sl) ≤ _; omega) ?_
  clear b_14l b_14s b_14m b_14n
  refine ab_istore_n (lv' := [some (.ref p0), some (.int p1), some (.int v45), some (.int l3), some (.int l4), some (.int l5), some (.int l6), some (.int w0)]) d_Body_signsFrom_124 rfl (by decide) rfl ?_
  refine ab_aload_n d_Body_signsFrom_125 rfl rfl rfl ?_
  refine hp_getR (f := 1) d_Body_signsFrom_126 q_15 (by decide) rfl (by decide) (k1 158 rfl rfl) rfl e49 ?_
  refine ab_iload d_Body_signsFrom_129 rfl ?_
  refine hp_callV_v (H1 := H53) (As := [.int l6]) (rest := []) d_Body_signsFrom_131 (k_Program_aim z51) (ab_mkC s_Program_aim (show 0 + 1 ≤ fr + 4 from by have := ho.1; omega) (show 8 + (2 + 11) + 0 ≤ lo + 95 from by have := ho.2.1; omega) (show (H46.sh.length - c0) + 0 ≤ C from by omega) (show (H46.sl - s0) + 0 ≤ Sl from by omega)) (k5 232 rfl rfl) i_Program_aim v_Program_aim q50 (by decide) rfl rfl (Nat.le_of_ble_eq_true rfl) ?_
  have s_19 : Sa H46 H53 := (m_Program_aim z51)
  refine ab_widen (cells' := H46.sh.length - c0) (slots' := H46.sl - s0) (by show (H46.sh.length - c0) + 0 ≤ _; omega) (by show (H46.sl - s0) + 0 ≤ _; omega) ?_
  refine ab_iload_n d_Body_signsFrom_134 rfl rfl ?_
  refine ab_iconst (v := 2) d_Body_signsFrom_135 (by decide) ?_
  refine ab_icmp_ne (tgt := 142) d_Body_signsFrom_136 (by decide) (fun q54 => ?_) (fun q54 => ?_)
  · rw [if_neg q54] at hG
    refine ab_iinc (v := l3 + 1) (lv' := [some (.ref p0), some (.int p1), some (.int v45), some (.int (l3 + 1)), some (.int l4), some (.int l5), some (.int l6), some (.int w0)]) d_Body_signsFrom_142 rfl rfl (by decide) rfl ?_
    refine ab_goto (tgt := 22) d_Body_signsFrom_145 (by decide) ?_
    refine ab_le (lv' := [some (.ref p0), some (.int p1), some (.int v45), some (.int (l3 + 1)), none, none, none, none]) ⟨rfl, ⟨rfl, ⟨rfl, ⟨rfl, trivial⟩⟩⟩⟩ ?_
    refine ab_widen (cells' := H53.sh.length - c0) (slots' := H53.sl - s0) (by rw [(s_19).1]; exact Nat.le_refl _) (by rw [(s_19).2]; exact Nat.le_refl _) ?_
    exact hk22 v45 (l3 + 1) H53 r hG (by rw [(s_19).1]; exact b_14c) (by rw [(s_19).2]; exact b_14d) (by rw [(s_19).1]; exact b_14p) (by rw [(s_19).2]; exact b_14q) hC hS
  · rw [if_pos q54] at hG
    refine ab_goto (tgt := 148) d_Body_signsFrom_139 (by decide) ?_
    refine ab_iload_n d_Body_signsFrom_148 rfl rfl ?_
    exact ab_iret d_Body_signsFrom_149 rfl (by show _ ≤ C; omega) (by show _ ≤ Sl; omega) (by have hr := Option.some.inj hG; subst hr; exact ⟨rfl, rfl⟩)
def B_Body_signsFrom_90 (N : Nat) (o : Orc_BodyE) (p0 : Nat) (p1 : Int32) (kq22 : Int32 → Int32 → Hp → Option ((Ot Int32) × Hp)) (l2 : Int32) (l3 : Int32) (l4 : Int32) (l5 : Int32) (w0 : Int32) (H : Hp) : Option ((Ot Int32) × Hp) :=
    if (4 : Int32) ≤ p1 then
    ck (H.sh[p0]? = some (6, 0)) <|
    bT (o.2 p0 H) fun v40 H41 =>
    B_Body_signsFrom_111 N o p0 p1 kq22 l2 l3 l4 l5 w0 v40 H41
    else
    ck (H.sh[p0]? = some (6, 0)) <|
    bT (o.1 p0 (p1 + (1 : Int32)) H) fun v45 H46 =>
    B_Body_signsFrom_111 N o p0 p1 kq22 l2 l3 l4 l5 w0 v45 H46
set_option maxRecDepth 20000 in
set_option maxHeartbeats 2000000 in
theorem mB_Body_signsFrom_90 {N : Nat} {o : Orc_BodyE} (hmo : mo_BodyE o) {p0 : Nat} {p1 : Int32} {kq22 : Int32 → Int32 → Hp → Option ((Ot Int32) × Hp)} (hm22 : ∀ (l2 : Int32) (l3 : Int32) (H : Hp) (r : (Ot Int32) × Hp), kq22 l2 l3 H = some r → Mo H r.2) {l2 : Int32} {l3 : Int32} {l4 : Int32} {l5 : Int32} {w0 : Int32} {H : Hp} {r : (Ot Int32) × Hp} (hF : B_Body_signsFrom_90 N o p0 p1 kq22 l2 l3 l4 l5 w0 H = some r) : Mo H r.2 := by
  unfold B_Body_signsFrom_90 at hF
  have hm := Mo.rf H
  rcases ite_s hF with ⟨q_26, hG⟩ | ⟨q_26, hG⟩
  · clear hF
    obtain ⟨q49, hF⟩ := ck_s hG; clear hG
    refine bT_c hF (fun x53 H52 z50 er => ?_) (fun v51 H52 z50 hG => ?_)
    · subst er; exact hm.tr (hmo.2 _ _ _ z50)
    clear hF
    replace hm : Mo H H52 := hm.tr (hmo.2 _ _ _ z50)
    exact hm.tr (mB_Body_signsFrom_111 hmo hm22 hG)
  · clear hF
    obtain ⟨q54, hF⟩ := ck_s hG; clear hG
    refine bT_c hF (fun x58 H57 z55 er => ?_) (fun v56 H57 z55 hG => ?_)
    · subst er; exact hm.tr (hmo.1 _ _ _ _ z55)
    clear hF
    replace hm : Mo H H57 := hm.tr (hmo.1 _ _ _ _ z55)
    exact hm.tr (mB_Body_signsFrom_111 hmo hm22 hG)
set_option maxRecDepth 20000 in
set_option maxHeartbeats 2000000 in
theorem kB_Body_signsFrom_90 {N : Nat} {o : Orc_BodyE} {fr lo : Nat} (ho : ok_BodyE o fr lo) (hmo : mo_BodyE o) {p0 : Nat} {p1 : Int32} {kq22 : Int32 → Int32 → Hp → Option ((Ot Int32) × Hp)} {c0 s0 C Sl : Nat} (hm22 : ∀ (l2 : Int32) (l3 : Int32) (H : Hp) (r : (Ot Int32) × Hp), kq22 l2 l3 H = some r → Mo H r.2) (hk22 : ∀ (l2 : Int32) (l3 : Int32) (H : Hp) (r : (Ot Int32) × Hp), kq22 l2 l3 H = some r → c0 ≤ H.sh.length → s0 ≤ H.sl → H.sh.length ≤ c0 + C → H.sl ≤ s0 + Sl → r.2.sh.length ≤ c0 + C → r.2.sl ≤ s0 + Sl → ab_V y_Body_signsFrom { frames := fr + 4, cells := C, slots := Sl, locals := lo + 95 } (po (oI r.1) r.2) C Sl (H.sh.length - c0) (H.sl - s0) 22 [some (.ref p0), some (.int p1), some (.int l2), some (.int l3), none, none, none, none] [] (hpw H)) {l2 : Int32} {l3 : Int32} {l4 : Int32} {l5 : Int32} {w0 : Int32} {H : Hp} {r : (Ot Int32) × Hp} (hF : B_Body_signsFrom_90 N o p0 p1 kq22 l2 l3 l4 l5 w0 H = some r) (hc0 : c0 ≤ H.sh.length) (hs0 : s0 ≤ H.sl) (hcc : H.sh.length ≤ c0 + C) (hss : H.sl ≤ s0 + Sl) (hC : r.2.sh.length ≤ c0 + C) (hS : r.2.sl ≤ s0 + Sl) : ab_V y_Body_signsFrom { frames := fr + 4, cells := C, slots := Sl, locals := lo + 95 } (po (oI r.1) r.2) C Sl (H.sh.length - c0) (H.sl - s0) 90 [some (.ref p0), some (.int p1), some (.int l2), some (.int l3), some (.int l4), some (.int l5), none, none] [.int w0] (hpw H) := by
  unfold B_Body_signsFrom_90 at hF
  refine ab_istore (lv' := [some (.ref p0), some (.int p1), some (.int l2), some (.int l3), some (.int l4), some (.int l5), some (.int w0), none]) d_Body_signsFrom_90 (by decide) rfl ?_
  refine ab_iload_n d_Body_signsFrom_92 rfl rfl ?_
  refine ab_iconst (v := 4) d_Body_signsFrom_93 (by decide) ?_
  refine ab_icmp_ge (tgt := 107) d_Body_signsFrom_94 (by decide) (fun q37 => ?_) (fun q37 => ?_)
  · rw [if_pos q37] at hF
    refine ab_aload_n d_Body_signsFrom_107 rfl rfl rfl ?_
    obtain ⟨q38, hG⟩ := ck_s hF; clear hF
    refine bT_c hG (fun x42 H41 z39 er => ?_) (fun v40 H41 z39 hF => ?_)
    · subst er
      have mz : Mo H H41 := (hmo.2 _ _ _ z39)
      have ml := mz.len
      have m2 := mz.2
      have hC9 : H41.sh.length ≤ c0 + C := hC
      have hS9 : H41.sl ≤ s0 + Sl := hS
      refine hp_callV_t (x := x42) (H1 := H41) (As := []) (rest := []) d_Body_signsFrom_108 (ho.2.2.2 _ _ _ z39 (H41.sh.length - H.sh.length) (H41.sl - H.sl) (by show H41.sh.length ≤ _; omega) (by show H41.sl ≤ _; omega)) (ab_mkC s_Body_unary (show fr + 1 ≤ fr + 4 from by have := ho.1; omega) (show 8 + (1 + 11) + lo ≤ lo + 95 from by have := ho.2.1; omega) (show (H.sh.length - c0) + (H41.sh.length - H.sh.length) ≤ C from by omega) (show (H.sl - s0) + (H41.sl - H.sl) ≤ Sl from by omega)) (k5 145 rfl rfl) i_Body_unary v_Body_unary q38 (by decide) rfl rfl (Nat.le_of_ble_eq_true rfl) ?_
      exact ab_U_out rfl (by show _ + (H41.sh.length - H.sh.length) ≤ C; omega) (by show _ + (H41.sl - H.sl) ≤ Sl; omega) ⟨rfl, rfl⟩
    clear hG
    have mz_10 : Mo H H41 := (hmo.2 _ _ _ z39)
    have b_11l := (mz_10).len
    have b_11s := (mz_10).2
    have b_11c : c0 ≤ H41.sh.length := by omega
    have b_11d : s0 ≤ H41.sl := by omega
    have q_12 := (mz_10).get q38
    have fH41 : Mo H41 r.2 := by
      have hm := Mo.rf H41
      exact hm.tr (mB_Body_signsFrom_111 hmo hm22 hF)
    have b_11m := (fH41).len
    have b_11n := (fH41).2
    have b_11p : H41.sh.length ≤ c0 + C := by omega
    have b_11q : H41.sl ≤ s0 + Sl := by omega
    refine hp_callV_a (v := .int v40) (H1 := H41) (As := []) (rest := []) d_Body_signsFrom_108 (ho.2.2.2 _ _ _ z39 (H41.sh.length - H.sh.length) (H41.sl - H.sl) (by show H41.sh.length ≤ _; omega) (by show H41.sl ≤ _; omega)) (ab_mkC s_Body_unary (show fr + 1 ≤ fr + 4 from by have := ho.1; omega) (show 8 + (1 + 11) + lo ≤ lo + 95 from by have := ho.2.1; omega) (show (H.sh.length - c0) + (H41.sh.length - H.sh.length) ≤ C from by omega) (show (H.sl - s0) + (H41.sl - H.sl) ≤ Sl from by omega)) (k5 145 rfl rfl) i_Body_unary v_Body_unary q38 (by decide) rfl rfl (Nat.le_of_ble_eq_true rfl) ?_
    refine ab_widen (cells' := H41.sh.length - c0) (slots' := H41.sl - s0) (by show _ + (H41.sh.length - H.sh.length) ≤ _; omega) (by show _ + (H41.sl - H.sl) ≤ _; omega) ?_
    clear b_11l b_11s b_11m b_11n
    exact kB_Body_signsFrom_111 ho hmo hm22 hk22 hF b_11c b_11d b_11p b_11q hC hS
  · rw [if_neg q37] at hF
    refine ab_aload_n d_Body_signsFrom_97 rfl rfl rfl ?_
    refine ab_iload_n d_Body_signsFrom_98 rfl rfl ?_
    refine ab_iconst (v := 1) d_Body_signsFrom_99 (by decide) ?_
    refine ab_iadd d_Body_signsFrom_100 ?_
    obtain ⟨q43, hG⟩ := ck_s hF; clear hF
    refine bT_c hG (fun x47 H46 z44 er => ?_) (fun v45 H46 z44 hF => ?_)
    · subst er
      have mz : Mo H H46 := (hmo.1 _ _ _ _ z44)
      have ml := mz.len
      have m2 := mz.2
      have hC9 : H46.sh.length ≤ c0 + C := hC
      have hS9 : H46.sl ≤ s0 + Sl := hS
      refine hp_callV_t (x := x47) (H1 := H46) (As := [.int (p1 + (1 : Int32))]) (rest := []) d_Body_signsFrom_101 (ho.2.2.1 _ _ _ _ z44 (H46.sh.length - H.sh.length) (H46.sl - H.sl) (by show H46.sh.length ≤ _; omega) (by show H46.sl ≤ _; omega)) (ab_mkC s_Body_signsFrom (show fr + 1 ≤ fr + 4 from by have := ho.1; omega) (show 8 + (8 + 11) + lo ≤ lo + 95 from by have := ho.2.1; omega) (show (H.sh.length - c0) + (H46.sh.length - H.sh.length) ≤ C from by omega) (show (H.sl - s0) + (H46.sl - H.sl) ≤ Sl from by omega)) (k5 141 rfl rfl) i_Body_signsFrom v_Body_signsFrom q43 (by decide) rfl rfl (Nat.le_of_ble_eq_true rfl) ?_
      exact ab_U_out rfl (by show _ + (H46.sh.length - H.sh.length) ≤ C; omega) (by show _ + (H46.sl - H.sl) ≤ Sl; omega) ⟨rfl, rfl⟩
    clear hG
    have mz_23 : Mo H H46 := (hmo.1 _ _ _ _ z44)
    have b_24l := (mz_23).len
    have b_24s := (mz_23).2
    have b_24c : c0 ≤ H46.sh.length := by omega
    have b_24d : s0 ≤ H46.sl := by omega
    have q_25 := (mz_23).get q43
    have fH46 : Mo H46 r.2 := by
      have hm := Mo.rf H46
      exact hm.tr (mB_Body_signsFrom_111 hmo hm22 hF)
    have b_24m := (fH46).len
    have b_24n := (fH46).2
    have b_24p : H46.sh.length ≤ c0 + C := by omega
    have b_24q : H46.sl ≤ s0 + Sl := by omega
    refine hp_callV_a (v := .int v45) (H1 := H46) (As := [.int (p1 + (1 : Int32))]) (rest := []) d_Body_signsFrom_101 (ho.2.2.1 _ _ _ _ z44 (H46.sh.length - H.sh.length) (H46.sl - H.sl) (by show H46.sh.length ≤ _; omega) (by show H46.sl ≤ _; omega)) (ab_mkC s_Body_signsFrom (show fr + 1 ≤ fr + 4 from by have := ho.1; omega) (show 8 + (8 + 11) + lo ≤ lo + 95 from by have := ho.2.1; omega) (show (H.sh.length - c0) + (H46.sh.length - H.sh.length) ≤ C from by omega) (show (H.sl - s0) + (H46.sl - H.sl) ≤ Sl from by omega)) (k5 141 rfl rfl) i_Body_signsFrom v_Body_signsFrom q43 (by decide) rfl rfl (Nat.le_of_ble_eq_true rfl) ?_
    refine ab_widen (cells' := H46.sh.length - c0) (slots' := H46.sl - s0) (by show _ + (H46.sh.length - H.sh.length) ≤ _; omega) (by show _ + (H46.sl - H.sl) ≤ _; omega) ?_
    clear b_24l b_24s b_24m b_24n
    refine ab_goto (tgt := 111) d_Body_signsFrom_104 (by decide) ?_
    exact kB_Body_signsFrom_111 ho hmo hm22 hk22 hF b_24c b_24d b_24p b_24q hC hS
def B_Body_signsFrom_87 (N : Nat) (o : Orc_BodyE) (p0 : Nat) (p1 : Int32) (kq22 : Int32 → Int32 → Hp → Option ((Ot Int32) × Hp)) (l2 : Int32) (l3 : Int32) (l4 : Int32) (l5 : Int32) (w0 : Nat) (w1 : Int32) (H : Hp) : Option ((Ot Int32) × Hp) :=
    ck (H.sh[w0]? = some (6, 0)) <|
    bC (F_Body_jump N w0 w1 H) fun v35 H36 =>
    B_Body_signsFrom_90 N o p0 p1 kq22 l2 l3 l4 l5 v35 H36
set_option maxRecDepth 20000 in
set_option maxHeartbeats 2000000 in
theorem mB_Body_signsFrom_87 {N : Nat} {o : Orc_BodyE} (hmo : mo_BodyE o) {p0 : Nat} {p1 : Int32} {kq22 : Int32 → Int32 → Hp → Option ((Ot Int32) × Hp)} (hm22 : ∀ (l2 : Int32) (l3 : Int32) (H : Hp) (r : (Ot Int32) × Hp), kq22 l2 l3 H = some r → Mo H r.2) {l2 : Int32} {l3 : Int32} {l4 : Int32} {l5 : Int32} {w0 : Nat} {w1 : Int32} {H : Hp} {r : (Ot Int32) × Hp} (hF : B_Body_signsFrom_87 N o p0 p1 kq22 l2 l3 l4 l5 w0 w1 H = some r) : Mo H r.2 := by
  unfold B_Body_signsFrom_87 at hF
  have hm := Mo.rf H
  obtain ⟨q59, hG⟩ := ck_s hF; clear hF
  obtain ⟨v61, H62, z60, hF⟩ := bC_s hG; clear hG
  replace hm : Mo H H62 := hm.tr ((m_Body_jump z60)).mo
  exact hm.tr (mB_Body_signsFrom_90 hmo hm22 hF)
set_option maxRecDepth 20000 in
set_option maxHeartbeats 2000000 in
theorem kB_Body_signsFrom_87 {N : Nat} {o : Orc_BodyE} {fr lo : Nat} (ho : ok_BodyE o fr lo) (hmo : mo_BodyE o) {p0 : Nat} {p1 : Int32} {kq22 : Int32 → Int32 → Hp → Option ((Ot Int32) × Hp)} {c0 s0 C Sl : Nat} (hm22 : ∀ (l2 : Int32) (l3 : Int32) (H : Hp) (r : (Ot Int32) × Hp), kq22 l2 l3 H = some r → Mo H r.2) (hk22 : ∀ (l2 : Int32) (l3 : Int32) (H : Hp) (r : (Ot Int32) × Hp), kq22 l2 l3 H = some r → c0 ≤ H.sh.length → s0 ≤ H.sl → H.sh.length ≤ c0 + C → H.sl ≤ s0 + Sl → r.2.sh.length ≤ c0 + C → r.2.sl ≤ s0 + Sl → ab_V y_Body_signsFrom { frames := fr + 4, cells := C, slots := Sl, locals := lo + 95 } (po (oI r.1) r.2) C Sl (H.sh.length - c0) (H.sl - s0) 22 [some (.ref p0), some (.int p1), some (.int l2), some (.int l3), none, none, none, none] [] (hpw H)) {l2 : Int32} {l3 : Int32} {l4 : Int32} {l5 : Int32} {w0 : Nat} {w1 : Int32} {H : Hp} {r : (Ot Int32) × Hp} (hF : B_Body_signsFrom_87 N o p0 p1 kq22 l2 l3 l4 l5 w0 w1 H = some r) (hc0 : c0 ≤ H.sh.length) (hs0 : s0 ≤ H.sl) (hcc : H.sh.length ≤ c0 + C) (hss : H.sl ≤ s0 + Sl) (hC : r.2.sh.length ≤ c0 + C) (hS : r.2.sl ≤ s0 + Sl) : ab_V y_Body_signsFrom { frames := fr + 4, cells := C, slots := Sl, locals := lo + 95 } (po (oI r.1) r.2) C Sl (H.sh.length - c0) (H.sl - s0) 87 [some (.ref p0), some (.int p1), some (.int l2), some (.int l3), some (.int l4), some (.int l5), none, none] [.int w1, .ref w0] (hpw H) := by
  unfold B_Body_signsFrom_87 at hF
  obtain ⟨q33, hG⟩ := ck_s hF; clear hF
  obtain ⟨v35, H36, z34, hF⟩ := bC_s hG; clear hG
  refine hp_callV_a (v := .int v35) (H1 := H36) (As := [.int w1]) (rest := []) d_Body_signsFrom_87 (k_Body_jump z34) (ab_mkC s_Body_jump (show 1 + 1 ≤ fr + 4 from by have := ho.1; omega) (show 8 + (2 + 11) + 21 ≤ lo + 95 from by have := ho.2.1; omega) (show (H.sh.length - c0) + 0 ≤ C from by omega) (show (H.sl - s0) + 0 ≤ Sl from by omega)) (k5 221 rfl rfl) i_Body_jump v_Body_jump q33 (by decide) rfl rfl (Nat.le_of_ble_eq_true rfl) ?_
  have s_9 : Sa H H36 := (m_Body_jump z34)
  refine ab_widen (cells' := H.sh.length - c0) (slots' := H.sl - s0) (by show (H.sh.length - c0) + 0 ≤ _; omega) (by show (H.sl - s0) + 0 ≤ _; omega) ?_
  refine ab_widen (cells' := H36.sh.length - c0) (slots' := H36.sl - s0) (by rw [(s_9).1]; exact Nat.le_refl _) (by rw [(s_9).2]; exact Nat.le_refl _) ?_
  exact kB_Body_signsFrom_90 ho hmo hm22 hk22 hF (by rw [(s_9).1]; exact hc0) (by rw [(s_9).2]; exact hs0) (by rw [(s_9).1]; exact hcc) (by rw [(s_9).2]; exact hss) hC hS
def B_Body_signsFrom_22 (N : Nat) (o : Orc_BodyE) (p0 : Nat) (p1 : Int32) : Nat → Int32 → Int32 → Hp → Option ((Ot Int32) × Hp)
  | 0, _, _, _ => none
  | n + 1, l2, l3, H =>
    if (6000 : Int32) < l3 then
    some (.inl l2, H)
    else
    ck (H.sh[p0]? = some (6, 0)) <|
    rf (H.P p0 0) fun a9 =>
    ck (H.sh[a9]? = some (1, 0)) <|
    bnd ((H.D a9 2)) fun x12 =>
    bC (F_Body_levelOf N x12 H) fun v14 H15 =>
    if v14 = p1 then
    rf (H15.P p0 0) fun a17 =>
    ck (H15.sh[a17]? = some (1, 0)) <|
    bnd ((H15.D a17 2)) fun x20 =>
    rf (H15.P p0 0) fun a21 =>
    ck (H15.sh[a21]? = some (1, 0)) <|
    bnd ((H15.D a21 3)) fun x24 =>
    rf (H15.P p0 0) fun a25 =>
    ck (H15.sh[a25]? = some (1, 0)) <|
    bC (F_Lexer_advance N a25 H15) fun v29 H30 =>
    if p1 ≤ (1 : Int32) then
    if p1 = (0 : Int32) then
    B_Body_signsFrom_87 N o p0 p1 (fun l2 l3 H => B_Body_signsFrom_22 N o p0 p1 n l2 l3 H) l2 l3 x20 x24 p0 5 H30
    else
    B_Body_signsFrom_87 N o p0 p1 (fun l2 l3 H => B_Body_signsFrom_22 N o p0 p1 n l2 l3 H) l2 l3 x20 x24 p0 4 H30
    else
    B_Body_signsFrom_90 N o p0 p1 (fun l2 l3 H => B_Body_signsFrom_22 N o p0 p1 n l2 l3 H) l2 l3 x20 x24 (-1) H30
    else
    some (.inl l2, H15)
termination_by structural n => n
set_option maxRecDepth 20000 in
set_option maxHeartbeats 2000000 in
theorem mB_Body_signsFrom_22 {N : Nat} {o : Orc_BodyE} (hmo : mo_BodyE o) {p0 : Nat} {p1 : Int32} : ∀ (n : Nat) (l2 : Int32) (l3 : Int32) (H : Hp) (r : (Ot Int32) × Hp), B_Body_signsFrom_22 N o p0 p1 n l2 l3 H = some r → Mo H r.2 := by
  intro n
  induction n with
  | zero => intro l2 l3 H r hF; rw [B_Body_signsFrom_22] at hF; cases hF
  | succ n ih =>
    intro l2 l3 H r hF
    rw [B_Body_signsFrom_22] at hF
    have hm := Mo.rf H
    rcases ite_s hF with ⟨q_31, hG⟩ | ⟨q_31, hG⟩
    · clear hF
      have hr := Option.some.inj hG; subst hr
      exact hm
    · clear hF
      obtain ⟨q64, hF⟩ := ck_s hG; clear hG
      obtain ⟨a65, e66, hG⟩ := rf_s hF; clear hF
      obtain ⟨q67, hF⟩ := ck_s hG; clear hG
      obtain ⟨x68, -, hG⟩ := bnd_g hF; clear hF
      obtain ⟨v70, H71, z69, hF⟩ := bC_s hG; clear hG
      replace hm : Mo H H71 := hm.tr ((m_Body_levelOf z69)).mo
      rcases ite_s hF with ⟨q_32, hG⟩ | ⟨q_32, hG⟩
      · clear hF
        obtain ⟨a73, e74, hF⟩ := rf_s hG; clear hG
        obtain ⟨q75, hG⟩ := ck_s hF; clear hF
        obtain ⟨x76, -, hF⟩ := bnd_g hG; clear hG
        obtain ⟨a77, e78, hG⟩ := rf_s hF; clear hF
        obtain ⟨q79, hF⟩ := ck_s hG; clear hG
        obtain ⟨x80, -, hG⟩ := bnd_g hF; clear hF
        obtain ⟨a81, e82, hF⟩ := rf_s hG; clear hG
        obtain ⟨q83, hG⟩ := ck_s hF; clear hF
        obtain ⟨v85, H86, z84, hF⟩ := bC_s hG; clear hG
        replace hm : Mo H H86 := hm.tr ((m_Lexer_advance z84)).mo
        rcases ite_s hF with ⟨q_33, hG⟩ | ⟨q_33, hG⟩
        · clear hF
          rcases ite_s hG with ⟨q_34, hF⟩ | ⟨q_34, hF⟩
          · clear hG
            exact hm.tr (mB_Body_signsFrom_87 hmo ih hF)
          · clear hG
            exact hm.tr (mB_Body_signsFrom_87 hmo ih hF)
        · clear hF
          exact hm.tr (mB_Body_signsFrom_90 hmo ih hG)
      · clear hF
        have hr := Option.some.inj hG; subst hr
        exact hm
set_option maxRecDepth 20000 in
set_option maxHeartbeats 2000000 in
theorem kB_Body_signsFrom_22 {N : Nat} {o : Orc_BodyE} {fr lo : Nat} (ho : ok_BodyE o fr lo) (hmo : mo_BodyE o) {p0 : Nat} {p1 : Int32} {c0 s0 C Sl : Nat} : ∀ (n : Nat) (l2 : Int32) (l3 : Int32) (H : Hp) (r : (Ot Int32) × Hp), B_Body_signsFrom_22 N o p0 p1 n l2 l3 H = some r → c0 ≤ H.sh.length → s0 ≤ H.sl → H.sh.length ≤ c0 + C → H.sl ≤ s0 + Sl → r.2.sh.length ≤ c0 + C → r.2.sl ≤ s0 + Sl → ab_V y_Body_signsFrom { frames := fr + 4, cells := C, slots := Sl, locals := lo + 95 } (po (oI r.1) r.2) C Sl (H.sh.length - c0) (H.sl - s0) 22 [some (.ref p0), some (.int p1), some (.int l2), some (.int l3), none, none, none, none] [] (hpw H) := by
  intro n
  induction n with
  | zero => intro l2 l3 H r hF; rw [B_Body_signsFrom_22] at hF; cases hF
  | succ n ih =>
    intro l2 l3 H r hF hc0 hs0 hcc hss hC hS
    rw [B_Body_signsFrom_22] at hF
    refine ab_iload_n d_Body_signsFrom_22 rfl rfl ?_
    refine ab_sipush (v := 6000) d_Body_signsFrom_23 (by decide) ?_
    refine ab_icmp_gt (tgt := 148) d_Body_signsFrom_26 (by decide) (fun q7 => ?_) (fun q7 => ?_)
    · rw [if_pos q7] at hF
      refine ab_iload_n d_Body_signsFrom_148 rfl rfl ?_
      exact ab_iret d_Body_signsFrom_149 rfl (by show _ ≤ C; omega) (by show _ ≤ Sl; omega) (by have hr := Option.some.inj hF; subst hr; exact ⟨rfl, rfl⟩)
    · rw [if_neg q7] at hF
      refine ab_aload_n d_Body_signsFrom_29 rfl rfl rfl ?_
      obtain ⟨q8, hG⟩ := ck_s hF; clear hF
      obtain ⟨a9, e10, hF⟩ := rf_s hG; clear hG
      refine hp_getR (f := 0) d_Body_signsFrom_30 q8 (by decide) rfl (by decide) (k1 157 rfl rfl) rfl e10 ?_
      obtain ⟨q11, hG⟩ := ck_s hF; clear hF
      refine hp_getI (f := 2) d_Body_signsFrom_33 q11 (by decide) rfl (by decide) (k1 99 rfl rfl) rfl ?_
      refine ab_topi (fun x12 ex12 => ?_)
      replace hG := bnd_s ex12 hG
      obtain ⟨v14, H15, z13, hF⟩ := bC_s hG; clear hG
      refine hp_callS_a (v := .int v14) (H1 := H15) (As := [.int x12]) (rest := []) d_Body_signsFrom_36 (k_Body_levelOf z13) (ab_mkC s_Body_levelOf (show 0 + 1 ≤ fr + 4 from by have := ho.1; omega) (show 8 + (1 + 11) + 0 ≤ lo + 95 from by have := ho.2.1; omega) (show (H.sh.length - c0) + 0 ≤ C from by omega) (show (H.sl - s0) + 0 ≤ Sl from by omega)) (k5 218 rfl rfl) t_Body_levelOf rfl (Nat.le_of_ble_eq_true rfl) ?_
      have s_5 : Sa H H15 := (m_Body_levelOf z13)
      refine ab_widen (cells' := H.sh.length - c0) (slots' := H.sl - s0) (by show (H.sh.length - c0) + 0 ≤ _; omega) (by show (H.sl - s0) + 0 ≤ _; omega) ?_
      refine ab_iload_n d_Body_signsFrom_39 rfl rfl ?_
      refine ab_icmp_ne (tgt := 148) d_Body_signsFrom_40 (by decide) (fun q16 => ?_) (fun q16 => ?_)
      · rw [if_neg q16] at hF
        refine ab_iload_n d_Body_signsFrom_148 rfl rfl ?_
        exact ab_iret d_Body_signsFrom_149 rfl (by show _ ≤ C; omega) (by show _ ≤ Sl; omega) (by have hr := Option.some.inj hF; subst hr; exact ⟨rfl, rfl⟩)
      · rw [if_pos q16] at hF
        refine ab_aload_n d_Body_signsFrom_43 rfl rfl rfl ?_
        obtain ⟨a17, e18, hG⟩ := rf_s hF; clear hF
        refine hp_getR (f := 0) d_Body_signsFrom_44 (by rw [(s_5).1]; exact q8) (by decide) rfl (by decide) (k1 157 rfl rfl) rfl e18 ?_
        obtain ⟨q19, hF⟩ := ck_s hG; clear hG
        rw [(s_5).1] at q19
        refine hp_getI (f := 2) d_Body_signsFrom_47 (by rw [(s_5).1]; exact q19) (by decide) rfl (by decide) (k1 99 rfl rfl) rfl ?_
        refine ab_topi (fun x20 ex20 => ?_)
        replace hF := bnd_s ex20 hF
        refine ab_istore (lv' := [some (.ref p0), some (.int p1), some (.int l2), some (.int l3), some (.int x20), none, none, none]) d_Body_signsFrom_50 (by decide) rfl ?_
        refine ab_aload_n d_Body_signsFrom_52 rfl rfl rfl ?_
        obtain ⟨a21, e22, hG⟩ := rf_s hF; clear hF
        refine hp_getR (f := 0) d_Body_signsFrom_53 (by rw [(s_5).1]; exact q8) (by decide) rfl (by decide) (k1 157 rfl rfl) rfl e22 ?_
        obtain ⟨q23, hF⟩ := ck_s hG; clear hG
        rw [(s_5).1] at q23
        refine hp_getI (f := 3) d_Body_signsFrom_56 (by rw [(s_5).1]; exact q23) (by decide) rfl (by decide) (k1 103 rfl rfl) rfl ?_
        refine ab_topi (fun x24 ex24 => ?_)
        replace hF := bnd_s ex24 hF
        refine ab_istore (lv' := [some (.ref p0), some (.int p1), some (.int l2), some (.int l3), some (.int x20), some (.int x24), none, none]) d_Body_signsFrom_59 (by decide) rfl ?_
        refine ab_aload_n d_Body_signsFrom_61 rfl rfl rfl ?_
        obtain ⟨a25, e26, hG⟩ := rf_s hF; clear hF
        refine hp_getR (f := 0) d_Body_signsFrom_62 (by rw [(s_5).1]; exact q8) (by decide) rfl (by decide) (k1 157 rfl rfl) rfl e26 ?_
        obtain ⟨q27, hF⟩ := ck_s hG; clear hG
        rw [(s_5).1] at q27
        obtain ⟨v29, H30, z28, hG⟩ := bC_s hF; clear hF
        refine ab_widen (cells' := H15.sh.length - c0) (slots' := H15.sl - s0) (by rw [(s_5).1]; exact Nat.le_refl _) (by rw [(s_5).2]; exact Nat.le_refl _) ?_
        have b_6e := congrArg List.length (s_5).1
        have b_6f := (s_5).2
        refine hp_callV_v (H1 := H30) (As := []) (rest := []) d_Body_signsFrom_65 (k_Lexer_advance z28) (ab_mkC s_Lexer_advance (show 0 + 1 ≤ fr + 4 from by have := ho.1; omega) (show 8 + (1 + 11) + 0 ≤ lo + 95 from by have := ho.2.1; omega) (show (H15.sh.length - c0) + 0 ≤ C from by omega) (show (H15.sl - s0) + 0 ≤ Sl from by omega)) (k5 129 rfl rfl) i_Lexer_advance v_Lexer_advance (by rw [(s_5).1]; exact q27) (by decide) rfl rfl (Nat.le_of_ble_eq_true rfl) ?_
        have s_7 : Sa H H30 := (s_5).tr (m_Lexer_advance z28)
        refine ab_widen (cells' := H.sh.length - c0) (slots' := H.sl - s0) (by show (H15.sh.length - c0) + 0 ≤ _; omega) (by show (H15.sl - s0) + 0 ≤ _; omega) ?_
        clear b_6e b_6f
        refine ab_iload_n d_Body_signsFrom_68 rfl rfl ?_
        refine ab_iconst (v := 1) d_Body_signsFrom_69 (by decide) ?_
        refine ab_icmp_le (tgt := 77) d_Body_signsFrom_70 (by decide) (fun q31 => ?_) (fun q31 => ?_)
        · rw [if_pos q31] at hG
          refine ab_aload_n d_Body_signsFrom_77 rfl rfl rfl ?_
          refine ab_iload_n d_Body_signsFrom_78 rfl rfl ?_
          refine ab_if_ne (tgt := 86) d_Body_signsFrom_79 (by decide) (fun q32 => ?_) (fun q32 => ?_)
          · rw [if_neg q32] at hG
            refine ab_iconst (v := 4) d_Body_signsFrom_86 (by decide) ?_
            refine ab_widen (cells' := H30.sh.length - c0) (slots' := H30.sl - s0) (by rw [(s_7).1]; exact Nat.le_refl _) (by rw [(s_7).2]; exact Nat.le_refl _) ?_
            exact kB_Body_signsFrom_87 ho hmo (mB_Body_signsFrom_22 hmo n) ih hG (by rw [(s_7).1]; exact hc0) (by rw [(s_7).2]; exact hs0) (by rw [(s_7).1]; exact hcc) (by rw [(s_7).2]; exact hss) hC hS
          · rw [if_pos q32] at hG
            refine ab_iconst (v := 5) d_Body_signsFrom_82 (by decide) ?_
            refine ab_goto (tgt := 87) d_Body_signsFrom_83 (by decide) ?_
            refine ab_widen (cells' := H30.sh.length - c0) (slots' := H30.sl - s0) (by rw [(s_7).1]; exact Nat.le_refl _) (by rw [(s_7).2]; exact Nat.le_refl _) ?_
            exact kB_Body_signsFrom_87 ho hmo (mB_Body_signsFrom_22 hmo n) ih hG (by rw [(s_7).1]; exact hc0) (by rw [(s_7).2]; exact hs0) (by rw [(s_7).1]; exact hcc) (by rw [(s_7).2]; exact hss) hC hS
        · rw [if_neg q31] at hG
          refine ab_iconst (v := (-1)) d_Body_signsFrom_73 (by decide) ?_
          refine ab_goto (tgt := 90) d_Body_signsFrom_74 (by decide) ?_
          refine ab_widen (cells' := H30.sh.length - c0) (slots' := H30.sl - s0) (by rw [(s_7).1]; exact Nat.le_refl _) (by rw [(s_7).2]; exact Nat.le_refl _) ?_
          exact kB_Body_signsFrom_90 ho hmo (mB_Body_signsFrom_22 hmo n) ih hG (by rw [(s_7).1]; exact hc0) (by rw [(s_7).2]; exact hs0) (by rw [(s_7).1]; exact hcc) (by rw [(s_7).2]; exact hss) hC hS
def B_Body_signsFrom_19 (N : Nat) (o : Orc_BodyE) (p0 : Nat) (p1 : Int32) (w0 : Int32) (H : Hp) : Option ((Ot Int32) × Hp) :=
    B_Body_signsFrom_22 N o p0 p1 N w0 0 H
set_option maxRecDepth 20000 in
set_option maxHeartbeats 2000000 in
theorem mB_Body_signsFrom_19 {N : Nat} {o : Orc_BodyE} (hmo : mo_BodyE o) {p0 : Nat} {p1 : Int32} {w0 : Int32} {H : Hp} {r : (Ot Int32) × Hp} (hF : B_Body_signsFrom_19 N o p0 p1 w0 H = some r) : Mo H r.2 := by
  unfold B_Body_signsFrom_19 at hF
  have hm := Mo.rf H
  exact hm.tr (mB_Body_signsFrom_22 hmo N w0 0 H r hF)
set_option maxRecDepth 20000 in
set_option maxHeartbeats 2000000 in
theorem kB_Body_signsFrom_19 {N : Nat} {o : Orc_BodyE} {fr lo : Nat} (ho : ok_BodyE o fr lo) (hmo : mo_BodyE o) {p0 : Nat} {p1 : Int32} {c0 s0 C Sl : Nat} {w0 : Int32} {H : Hp} {r : (Ot Int32) × Hp} (hF : B_Body_signsFrom_19 N o p0 p1 w0 H = some r) (hc0 : c0 ≤ H.sh.length) (hs0 : s0 ≤ H.sl) (hcc : H.sh.length ≤ c0 + C) (hss : H.sl ≤ s0 + Sl) (hC : r.2.sh.length ≤ c0 + C) (hS : r.2.sl ≤ s0 + Sl) : ab_V y_Body_signsFrom { frames := fr + 4, cells := C, slots := Sl, locals := lo + 95 } (po (oI r.1) r.2) C Sl (H.sh.length - c0) (H.sl - s0) 19 [some (.ref p0), some (.int p1), none, none, none, none, none, none] [.int w0] (hpw H) := by
  unfold B_Body_signsFrom_19 at hF
  refine ab_istore_n (lv' := [some (.ref p0), some (.int p1), some (.int w0), none, none, none, none, none]) d_Body_signsFrom_19 rfl (by decide) rfl ?_
  refine ab_iconst (v := 0) d_Body_signsFrom_20 (by decide) ?_
  refine ab_istore_n (lv' := [some (.ref p0), some (.int p1), some (.int w0), some (.int 0), none, none, none, none]) d_Body_signsFrom_21 rfl (by decide) rfl ?_
  exact kB_Body_signsFrom_22 ho hmo N w0 0 H r hF hc0 hs0 hcc hss hC hS
def F_Body_signsFrom (N : Nat) (o : Orc_BodyE) (p0 : Nat) (p1 : Int32) (H : Hp) : Option ((Ot Int32) × Hp) :=
    if (4 : Int32) ≤ p1 then
    ck (H.sh[p0]? = some (6, 0)) <|
    bT (o.2 p0 H) fun v4 H5 =>
    B_Body_signsFrom_19 N o p0 p1 v4 H5
    else
    ck (H.sh[p0]? = some (6, 0)) <|
    bT (o.1 p0 (p1 + (1 : Int32)) H) fun v9 H10 =>
    B_Body_signsFrom_19 N o p0 p1 v9 H10
set_option maxRecDepth 20000 in
set_option maxHeartbeats 2000000 in
theorem m_Body_signsFrom {N : Nat} {o : Orc_BodyE} (hmo : mo_BodyE o) {p0 : Nat} {p1 : Int32} {H : Hp} {r : (Ot Int32) × Hp} (hF : F_Body_signsFrom N o p0 p1 H = some r) : Mo H r.2 := by
  unfold F_Body_signsFrom at hF
  have hm := Mo.rf H
  rcases ite_s hF with ⟨q_38, hG⟩ | ⟨q_38, hG⟩
  · clear hF
    obtain ⟨q13, hF⟩ := ck_s hG; clear hG
    refine bT_c hF (fun x17 H16 z14 er => ?_) (fun v15 H16 z14 hG => ?_)
    · subst er; exact hm.tr (hmo.2 _ _ _ z14)
    clear hF
    replace hm : Mo H H16 := hm.tr (hmo.2 _ _ _ z14)
    exact hm.tr (mB_Body_signsFrom_19 hmo hG)
  · clear hF
    obtain ⟨q18, hF⟩ := ck_s hG; clear hG
    refine bT_c hF (fun x22 H21 z19 er => ?_) (fun v20 H21 z19 hG => ?_)
    · subst er; exact hm.tr (hmo.1 _ _ _ _ z19)
    clear hF
    replace hm : Mo H H21 := hm.tr (hmo.1 _ _ _ _ z19)
    exact hm.tr (mB_Body_signsFrom_19 hmo hG)
set_option maxRecDepth 20000 in
set_option maxHeartbeats 2000000 in
theorem k_Body_signsFrom {N : Nat} {o : Orc_BodyE} {fr lo : Nat} (ho : ok_BodyE o fr lo) (hmo : mo_BodyE o) {p0 : Nat} {p1 : Int32} {H : Hp} {r : (Ot Int32) × Hp} {C Sl : Nat} (hF : F_Body_signsFrom N o p0 p1 H = some r) (hC : r.2.sh.length ≤ H.sh.length + C) (hS : r.2.sl ≤ H.sl + Sl) : ab_M y_Body_signsFrom { frames := fr + 4, cells := C, slots := Sl, locals := lo + 95 } [.ref p0, .int p1] (hpw H) (po (oI r.1) r.2) := by
  unfold F_Body_signsFrom at hF
  obtain ⟨c0, e0⟩ : ∃ q, q = H.sh.length := ⟨_, rfl⟩
  obtain ⟨s0, e1⟩ : ∃ q, q = H.sl := ⟨_, rfl⟩
  rw [← e0] at hC
  rw [← e1] at hS
  have hc0 : c0 ≤ H.sh.length := Nat.le_of_eq e0
  have hs0 : s0 ≤ H.sl := Nat.le_of_eq e1
  have hcc : H.sh.length ≤ c0 + C := by omega
  have hss : H.sl ≤ s0 + Sl := by omega
  refine ab_of2 (lv := [some (.ref p0), some (.int p1), none, none, none, none, none, none]) 6 rfl rfl (Nat.le_of_ble_eq_true rfl) ?_
  refine ab_widen (cells' := H.sh.length - c0) (slots' := H.sl - s0) (Nat.zero_le _) (Nat.zero_le _) ?_
  refine ab_iload_n d_Body_signsFrom_0 rfl rfl ?_
  refine ab_iconst (v := 4) d_Body_signsFrom_1 (by decide) ?_
  refine ab_icmp_ge (tgt := 15) d_Body_signsFrom_2 (by decide) (fun q1 => ?_) (fun q1 => ?_)
  · rw [if_pos q1] at hF
    refine ab_aload_n d_Body_signsFrom_15 rfl rfl rfl ?_
    obtain ⟨q2, hG⟩ := ck_s hF; clear hF
    refine bT_c hG (fun x6 H5 z3 er => ?_) (fun v4 H5 z3 hF => ?_)
    · subst er
      have mz : Mo H H5 := (hmo.2 _ _ _ z3)
      have ml := mz.len
      have m2 := mz.2
      have hC9 : H5.sh.length ≤ c0 + C := hC
      have hS9 : H5.sl ≤ s0 + Sl := hS
      refine hp_callV_t (x := x6) (H1 := H5) (As := []) (rest := []) d_Body_signsFrom_16 (ho.2.2.2 _ _ _ z3 (H5.sh.length - H.sh.length) (H5.sl - H.sl) (by show H5.sh.length ≤ _; omega) (by show H5.sl ≤ _; omega)) (ab_mkC s_Body_unary (show fr + 1 ≤ fr + 4 from by have := ho.1; omega) (show 8 + (1 + 11) + lo ≤ lo + 95 from by have := ho.2.1; omega) (show (H.sh.length - c0) + (H5.sh.length - H.sh.length) ≤ C from by omega) (show (H.sl - s0) + (H5.sl - H.sl) ≤ Sl from by omega)) (k5 145 rfl rfl) i_Body_unary v_Body_unary q2 (by decide) rfl rfl (Nat.le_of_ble_eq_true rfl) ?_
      exact ab_U_out rfl (by show _ + (H5.sh.length - H.sh.length) ≤ C; omega) (by show _ + (H5.sl - H.sl) ≤ Sl; omega) ⟨rfl, rfl⟩
    clear hG
    have mz_1 : Mo H H5 := (hmo.2 _ _ _ z3)
    have b_2l := (mz_1).len
    have b_2s := (mz_1).2
    have b_2c : c0 ≤ H5.sh.length := by omega
    have b_2d : s0 ≤ H5.sl := by omega
    have q_3 := (mz_1).get q2
    have fH5 : Mo H5 r.2 := by
      have hm := Mo.rf H5
      exact hm.tr (mB_Body_signsFrom_19 hmo hF)
    have b_2m := (fH5).len
    have b_2n := (fH5).2
    have b_2p : H5.sh.length ≤ c0 + C := by omega
    have b_2q : H5.sl ≤ s0 + Sl := by omega
    refine hp_callV_a (v := .int v4) (H1 := H5) (As := []) (rest := []) d_Body_signsFrom_16 (ho.2.2.2 _ _ _ z3 (H5.sh.length - H.sh.length) (H5.sl - H.sl) (by show H5.sh.length ≤ _; omega) (by show H5.sl ≤ _; omega)) (ab_mkC s_Body_unary (show fr + 1 ≤ fr + 4 from by have := ho.1; omega) (show 8 + (1 + 11) + lo ≤ lo + 95 from by have := ho.2.1; omega) (show (H.sh.length - c0) + (H5.sh.length - H.sh.length) ≤ C from by omega) (show (H.sl - s0) + (H5.sl - H.sl) ≤ Sl from by omega)) (k5 145 rfl rfl) i_Body_unary v_Body_unary q2 (by decide) rfl rfl (Nat.le_of_ble_eq_true rfl) ?_
    refine ab_widen (cells' := H5.sh.length - c0) (slots' := H5.sl - s0) (by show _ + (H5.sh.length - H.sh.length) ≤ _; omega) (by show _ + (H5.sl - H.sl) ≤ _; omega) ?_
    clear b_2l b_2s b_2m b_2n
    exact kB_Body_signsFrom_19 ho hmo hF b_2c b_2d b_2p b_2q hC hS
  · rw [if_neg q1] at hF
    refine ab_aload_n d_Body_signsFrom_5 rfl rfl rfl ?_
    refine ab_iload_n d_Body_signsFrom_6 rfl rfl ?_
    refine ab_iconst (v := 1) d_Body_signsFrom_7 (by decide) ?_
    refine ab_iadd d_Body_signsFrom_8 ?_
    obtain ⟨q7, hG⟩ := ck_s hF; clear hF
    refine bT_c hG (fun x11 H10 z8 er => ?_) (fun v9 H10 z8 hF => ?_)
    · subst er
      have mz : Mo H H10 := (hmo.1 _ _ _ _ z8)
      have ml := mz.len
      have m2 := mz.2
      have hC9 : H10.sh.length ≤ c0 + C := hC
      have hS9 : H10.sl ≤ s0 + Sl := hS
      refine hp_callV_t (x := x11) (H1 := H10) (As := [.int (p1 + (1 : Int32))]) (rest := []) d_Body_signsFrom_9 (ho.2.2.1 _ _ _ _ z8 (H10.sh.length - H.sh.length) (H10.sl - H.sl) (by show H10.sh.length ≤ _; omega) (by show H10.sl ≤ _; omega)) (ab_mkC s_Body_signsFrom (show fr + 1 ≤ fr + 4 from by have := ho.1; omega) (show 8 + (8 + 11) + lo ≤ lo + 95 from by have := ho.2.1; omega) (show (H.sh.length - c0) + (H10.sh.length - H.sh.length) ≤ C from by omega) (show (H.sl - s0) + (H10.sl - H.sl) ≤ Sl from by omega)) (k5 141 rfl rfl) i_Body_signsFrom v_Body_signsFrom q7 (by decide) rfl rfl (Nat.le_of_ble_eq_true rfl) ?_
      exact ab_U_out rfl (by show _ + (H10.sh.length - H.sh.length) ≤ C; omega) (by show _ + (H10.sl - H.sl) ≤ Sl; omega) ⟨rfl, rfl⟩
    clear hG
    have mz_35 : Mo H H10 := (hmo.1 _ _ _ _ z8)
    have b_36l := (mz_35).len
    have b_36s := (mz_35).2
    have b_36c : c0 ≤ H10.sh.length := by omega
    have b_36d : s0 ≤ H10.sl := by omega
    have q_37 := (mz_35).get q7
    have fH10 : Mo H10 r.2 := by
      have hm := Mo.rf H10
      exact hm.tr (mB_Body_signsFrom_19 hmo hF)
    have b_36m := (fH10).len
    have b_36n := (fH10).2
    have b_36p : H10.sh.length ≤ c0 + C := by omega
    have b_36q : H10.sl ≤ s0 + Sl := by omega
    refine hp_callV_a (v := .int v9) (H1 := H10) (As := [.int (p1 + (1 : Int32))]) (rest := []) d_Body_signsFrom_9 (ho.2.2.1 _ _ _ _ z8 (H10.sh.length - H.sh.length) (H10.sl - H.sl) (by show H10.sh.length ≤ _; omega) (by show H10.sl ≤ _; omega)) (ab_mkC s_Body_signsFrom (show fr + 1 ≤ fr + 4 from by have := ho.1; omega) (show 8 + (8 + 11) + lo ≤ lo + 95 from by have := ho.2.1; omega) (show (H.sh.length - c0) + (H10.sh.length - H.sh.length) ≤ C from by omega) (show (H.sl - s0) + (H10.sl - H.sl) ≤ Sl from by omega)) (k5 141 rfl rfl) i_Body_signsFrom v_Body_signsFrom q7 (by decide) rfl rfl (Nat.le_of_ble_eq_true rfl) ?_
    refine ab_widen (cells' := H10.sh.length - c0) (slots' := H10.sl - s0) (by show _ + (H10.sh.length - H.sh.length) ≤ _; omega) (by show _ + (H10.sl - H.sl) ≤ _; omega) ?_
    clear b_36l b_36s b_36m b_36n
    refine ab_goto (tgt := 19) d_Body_signsFrom_12 (by decide) ?_
    exact kB_Body_signsFrom_19 ho hmo hF b_36c b_36d b_36p b_36q hC hS
def X_BodyE (N : Nat) : Nat → Orc_BodyE
  | 0 => (fun _ _ _ => none, fun _ _ => none)
  | d + 1 => (fun a0 a1 H => F_Body_signsFrom N (X_BodyE N d) a0 a1 H, fun a0 H => F_Body_unary N (X_BodyE N d) a0 H)
termination_by structural d => d
theorem moX_BodyE {N : Nat} : ∀ d, mo_BodyE (X_BodyE N d) := by
  intro d
  induction d with
  | zero => exact ⟨(fun _ _ _ _ hz => absurd (show none = some _ from hz) (by simp)), (fun _ _ _ hz => absurd (show none = some _ from hz) (by simp))⟩
  | succ d ih => exact ⟨(fun _ _ _ _ hz => m_Body_signsFrom ih hz), (fun _ _ _ hz => m_Body_unary ih hz)⟩
theorem okX_BodyE {N : Nat} : ∀ d, ok_BodyE (X_BodyE N d) (8 + 4 * d) (152 + 95 * d) := by
  intro d
  induction d with
  | zero => exact ⟨Nat.le_refl _, Nat.le_refl _, (fun _ _ _ _ hz => absurd (show none = some _ from hz) (by simp)), (fun _ _ _ hz => absurd (show none = some _ from hz) (by simp))⟩
  | succ d ih => exact ⟨by omega, by omega, (fun _ _ _ _ hz _ _ hC hS => k_Body_signsFrom ih (moX_BodyE d) hz hC hS), (fun _ _ _ hz _ _ hC hS => k_Body_unary ih (moX_BodyE d) hz hC hS)⟩
def y_Body_tellLocal : ab_Y := (⟨"WorldEngine$Body", "tellLocal", "(Ljava/lang/String;II)V"⟩, prog_2_method_15_code, 4, none, [])
theorem d_Body_tellLocal_0 : decode y_Body_tellLocal.2.1 0 = .ok (.aload_n 0, 1) := by decide +kernel
theorem d_Body_tellLocal_1 : decode y_Body_tellLocal.2.1 1 = .ok (.getfield 17, 3) := by decide +kernel
theorem d_Body_tellLocal_4 : decode y_Body_tellLocal.2.1 4 = .ok (.aload_n 1, 1) := by decide +kernel
theorem d_Body_tellLocal_5 : decode y_Body_tellLocal.2.1 5 = .ok (.iload_n 2, 1) := by decide +kernel
theorem d_Body_tellLocal_6 : decode y_Body_tellLocal.2.1 6 = .ok (.aload_n 0, 1) := by decide +kernel
theorem d_Body_tellLocal_7 : decode y_Body_tellLocal.2.1 7 = .ok (.getfield 30, 3) := by decide +kernel
theorem d_Body_tellLocal_10 : decode y_Body_tellLocal.2.1 10 = .ok (.iload_n 3, 1) := by decide +kernel
theorem d_Body_tellLocal_11 : decode y_Body_tellLocal.2.1 11 = .ok (.invokevirtual 180, 3) := by decide +kernel
theorem d_Body_tellLocal_14 : decode y_Body_tellLocal.2.1 14 = .ok (.aload_n 0, 1) := by decide +kernel
theorem d_Body_tellLocal_15 : decode y_Body_tellLocal.2.1 15 = .ok (.dup, 1) := by decide +kernel
theorem d_Body_tellLocal_16 : decode y_Body_tellLocal.2.1 16 = .ok (.getfield 30, 3) := by decide +kernel
theorem d_Body_tellLocal_19 : decode y_Body_tellLocal.2.1 19 = .ok (.iconst 1, 1) := by decide +kernel
theorem d_Body_tellLocal_20 : decode y_Body_tellLocal.2.1 20 = .ok (.iadd, 1) := by decide +kernel
theorem d_Body_tellLocal_21 : decode y_Body_tellLocal.2.1 21 = .ok (.putfield 30, 3) := by decide +kernel
theorem d_Body_tellLocal_24 : decode y_Body_tellLocal.2.1 24 = .ok (.return_, 1) := by decide +kernel
theorem s_Body_tellLocal : ab_Stat y_Body_tellLocal 3 := ⟨(k5 239 rfl rfl), (k1 8 rfl rfl), ⟨by decide, by decide⟩, by decide +kernel⟩
theorem i_Body_tellLocal : Cond.instanceMethod y_Body_tellLocal.1 ∈ ab_T := (k5 238 rfl rfl)
theorem v_Body_tellLocal : Cond.selects "WorldEngine$Body" y_Body_tellLocal.1 y_Body_tellLocal.1 ∈ ab_T := ab_s (List.mem_of_getElem? (i := 45) rfl) rfl
def F_Body_tellLocal (N : Nat) (p0 : Nat) (p1 : Nat) (p2 : Int32) (p3 : Int32) (H : Hp) : Option (Unit × Hp) :=
    ck (H.sh[p0]? = some (6, 0)) <|
    rf (H.P p0 1) fun a2 =>
    bnd ((H.D p0 3)) fun x4 =>
    ck (H.sh[a2]? = some (4, 0)) <|
    bC (F_Program_tell N a2 p1 p2 x4 p3 H) fun v7 H8 =>
    bnd ((H8.D p0 3)) fun x9 =>
    bnd (H8.sD p0 3 (x9 + (1 : Int32))) fun H10 =>
    some ((), H10)
set_option maxRecDepth 20000 in
set_option maxHeartbeats 2000000 in
theorem m_Body_tellLocal {N : Nat} {p0 : Nat} {p1 : Nat} {p2 : Int32} {p3 : Int32} {H : Hp} {r : Unit × Hp} (hF : F_Body_tellLocal N p0 p1 p2 p3 H = some r) : Sa H r.2 := by
  unfold F_Body_tellLocal at hF
  have hm := Sa.rf H
  obtain ⟨q11, hG⟩ := ck_s hF; clear hF
  obtain ⟨a12, e13, hF⟩ := rf_s hG; clear hG
  obtain ⟨x14, -, hG⟩ := bnd_g hF; clear hF
  obtain ⟨q15, hF⟩ := ck_s hG; clear hG
  obtain ⟨v17, H18, z16, hG⟩ := bC_s hF; clear hF
  replace hm : Sa H H18 := hm.tr (m_Program_tell z16)
  obtain ⟨x19, -, hF⟩ := bnd_g hG; clear hG
  obtain ⟨H20, eH20, hG⟩ := bnd_g hF; clear hF
  replace hm : Sa H H20 := by rw [eH20]; exact hm
  have hr := Option.some.inj hG; subst hr
  exact hm
set_option maxRecDepth 20000 in
set_option maxHeartbeats 2000000 in
theorem k_Body_tellLocal {N : Nat} {p0 : Nat} {p1 : Nat} {p2 : Int32} {p3 : Int32} {H : Hp} {r : Unit × Hp} (hF : F_Body_tellLocal N p0 p1 p2 p3 H = some r) : ab_M y_Body_tellLocal { frames := 2, cells := 0, slots := 0, locals := 48 } [.ref p0, .ref p1, .int p2, .int p3] (hpw H) (po (.returned none) r.2) := by
  unfold F_Body_tellLocal at hF
  refine ab_of2 (lv := [some (.ref p0), some (.ref p1), some (.int p2), some (.int p3)]) 0 rfl rfl (Nat.le_of_ble_eq_true rfl) ?_
  refine ab_aload_n d_Body_tellLocal_0 rfl rfl rfl ?_
  obtain ⟨q1, hG⟩ := ck_s hF; clear hF
  obtain ⟨a2, e3, hF⟩ := rf_s hG; clear hG
  refine hp_getR (f := 1) d_Body_tellLocal_1 q1 (by decide) rfl (by decide) (k1 158 rfl rfl) rfl e3 ?_
  refine ab_aload_n d_Body_tellLocal_4 rfl rfl rfl ?_
  refine ab_iload_n d_Body_tellLocal_5 rfl rfl ?_
  refine ab_aload_n d_Body_tellLocal_6 rfl rfl rfl ?_
  refine hp_getI (f := 3) d_Body_tellLocal_7 q1 (by decide) rfl (by decide) (k1 160 rfl rfl) rfl ?_
  refine ab_topi (fun x4 ex4 => ?_)
  replace hF := bnd_s ex4 hF
  refine ab_iload_n d_Body_tellLocal_10 rfl rfl ?_
  obtain ⟨q5, hG⟩ := ck_s hF; clear hF
  obtain ⟨v7, H8, z6, hF⟩ := bC_s hG; clear hG
  refine hp_callV_v (H1 := H8) (As := [.ref p1, .int p2, .int x4, .int p3]) (rest := []) d_Body_tellLocal_11 (k_Program_tell z6) (ab_mkC s_Program_tell (Nat.le_of_ble_eq_true rfl) (Nat.le_of_ble_eq_true rfl) (Nat.le_refl 0) (Nat.le_refl 0)) (k6 0 rfl rfl) i_Program_tell v_Program_tell q5 (by decide) rfl rfl (Nat.le_of_ble_eq_true rfl) ?_
  have s_1 : Sa H H8 := (m_Program_tell z6)
  refine ab_aload_n d_Body_tellLocal_14 rfl rfl rfl ?_
  refine ab_dup d_Body_tellLocal_15 rfl ?_
  refine hp_getI (f := 3) d_Body_tellLocal_16 (by rw [(s_1).1]; exact q1) (by decide) rfl (by decide) (k1 160 rfl rfl) rfl ?_
  refine ab_topi (fun x9 ex9 => ?_)
  replace hF := bnd_s ex9 hF
  refine ab_iconst (v := 1) d_Body_tellLocal_19 (by decide) ?_
  refine ab_iadd d_Body_tellLocal_20 ?_
  refine hp_putI (v := x9 + (1 : Int32)) (f := 3) d_Body_tellLocal_21 (by rw [(s_1).1]; exact q1) (by decide) rfl (by decide) (k1 160 rfl rfl) rfl rfl (fun _ => rfl) (fun _ => rfl) rfl ?_
  refine hp_gen (fun H10 eH10 => ?_)
  replace hF := bnd_s eH10 hF
  have s_2 : Sa H H10 := by rw [eH10]; exact s_1
  exact ab_vret d_Body_tellLocal_24 rfl (Nat.le_refl _) (Nat.le_refl _) (by have hr := Option.some.inj hF; subst hr; exact ⟨rfl, rfl⟩)
def y_Body_readLet : ab_Y := (⟨"WorldEngine$Body", "readLet", "()V"⟩, prog_2_method_21_code, 3, none, [])
theorem d_Body_readLet_0 : decode y_Body_readLet.2.1 0 = .ok (.aload_n 0, 1) := by decide +kernel
theorem d_Body_readLet_1 : decode y_Body_readLet.2.1 1 = .ok (.getfield 7, 3) := by decide +kernel
theorem d_Body_readLet_4 : decode y_Body_readLet.2.1 4 = .ok (.invokevirtual 93, 3) := by decide +kernel
theorem d_Body_readLet_7 : decode y_Body_readLet.2.1 7 = .ok (.aload_n 0, 1) := by decide +kernel
theorem d_Body_readLet_8 : decode y_Body_readLet.2.1 8 = .ok (.invokevirtual 130, 3) := by decide +kernel
theorem d_Body_readLet_11 : decode y_Body_readLet.2.1 11 = .ok (.astore_n 1, 1) := by decide +kernel
theorem d_Body_readLet_12 : decode y_Body_readLet.2.1 12 = .ok (.aload_n 0, 1) := by decide +kernel
theorem d_Body_readLet_13 : decode y_Body_readLet.2.1 13 = .ok (.getfield 7, 3) := by decide +kernel
theorem d_Body_readLet_16 : decode y_Body_readLet.2.1 16 = .ok (.bipush 17, 2) := by decide +kernel
theorem d_Body_readLet_18 : decode y_Body_readLet.2.1 18 = .ok (.invokevirtual 41, 3) := by decide +kernel
theorem d_Body_readLet_21 : decode y_Body_readLet.2.1 21 = .ok (.aload_n 0, 1) := by decide +kernel
theorem d_Body_readLet_22 : decode y_Body_readLet.2.1 22 = .ok (.iconst (-1), 1) := by decide +kernel
theorem d_Body_readLet_23 : decode y_Body_readLet.2.1 23 = .ok (.invokevirtual 111, 3) := by decide +kernel
theorem d_Body_readLet_26 : decode y_Body_readLet.2.1 26 = .ok (.istore_n 2, 1) := by decide +kernel
theorem d_Body_readLet_27 : decode y_Body_readLet.2.1 27 = .ok (.aload_n 0, 1) := by decide +kernel
theorem d_Body_readLet_28 : decode y_Body_readLet.2.1 28 = .ok (.getfield 17, 3) := by decide +kernel
theorem d_Body_readLet_31 : decode y_Body_readLet.2.1 31 = .ok (.bipush 34, 2) := by decide +kernel
theorem d_Body_readLet_33 : decode y_Body_readLet.2.1 33 = .ok (.invokevirtual 50, 3) := by decide +kernel
theorem d_Body_readLet_36 : decode y_Body_readLet.2.1 36 = .ok (.pop, 1) := by decide +kernel
theorem d_Body_readLet_37 : decode y_Body_readLet.2.1 37 = .ok (.aload_n 0, 1) := by decide +kernel
theorem d_Body_readLet_38 : decode y_Body_readLet.2.1 38 = .ok (.getfield 17, 3) := by decide +kernel
theorem d_Body_readLet_41 : decode y_Body_readLet.2.1 41 = .ok (.aload_n 0, 1) := by decide +kernel
theorem d_Body_readLet_42 : decode y_Body_readLet.2.1 42 = .ok (.getfield 30, 3) := by decide +kernel
theorem d_Body_readLet_45 : decode y_Body_readLet.2.1 45 = .ok (.invokevirtual 50, 3) := by decide +kernel
theorem d_Body_readLet_48 : decode y_Body_readLet.2.1 48 = .ok (.pop, 1) := by decide +kernel
theorem d_Body_readLet_49 : decode y_Body_readLet.2.1 49 = .ok (.aload_n 0, 1) := by decide +kernel
theorem d_Body_readLet_50 : decode y_Body_readLet.2.1 50 = .ok (.aload_n 1, 1) := by decide +kernel
theorem d_Body_readLet_51 : decode y_Body_readLet.2.1 51 = .ok (.iconst 5, 1) := by decide +kernel
theorem d_Body_readLet_52 : decode y_Body_readLet.2.1 52 = .ok (.iload_n 2, 1) := by decide +kernel
theorem d_Body_readLet_53 : decode y_Body_readLet.2.1 53 = .ok (.invokevirtual 144, 3) := by decide +kernel
theorem d_Body_readLet_56 : decode y_Body_readLet.2.1 56 = .ok (.aload_n 0, 1) := by decide +kernel
theorem d_Body_readLet_57 : decode y_Body_readLet.2.1 57 = .ok (.getfield 7, 3) := by decide +kernel
theorem d_Body_readLet_60 : decode y_Body_readLet.2.1 60 = .ok (.bipush 15, 2) := by decide +kernel
theorem d_Body_readLet_62 : decode y_Body_readLet.2.1 62 = .ok (.invokevirtual 41, 3) := by decide +kernel
theorem d_Body_readLet_65 : decode y_Body_readLet.2.1 65 = .ok (.return_, 1) := by decide +kernel
theorem s_Body_readLet : ab_Stat y_Body_readLet 0 := ⟨(k5 128 rfl rfl), (k1 8 rfl rfl), ⟨by decide, by decide⟩, by decide +kernel⟩
theorem i_Body_readLet : Cond.instanceMethod y_Body_readLet.1 ∈ ab_T := (k5 127 rfl rfl)
theorem v_Body_readLet : Cond.selects "WorldEngine$Body" y_Body_readLet.1 y_Body_readLet.1 ∈ ab_T := ab_s (List.mem_of_getElem? (i := 23) rfl) rfl
def F_Body_readLet (N : Nat) (p0 : Nat) (H : Hp) : Option ((Ot Unit) × Hp) :=
    ck (H.sh[p0]? = some (6, 0)) <|
    rf (H.P p0 0) fun a2 =>
    ck (H.sh[a2]? = some (1, 0)) <|
    bC (F_Lexer_advance N a2 H) fun v6 H7 =>
    bT (F_Body_newLocal N p0 H7) fun v9 H10 =>
    on v9 fun a12 =>
    rf (H10.P p0 0) fun a13 =>
    ck (H10.sh[a13]? = some (1, 0)) <|
    bT (F_Lexer_take N a13 (17 : Int32) H10) fun v17 H18 =>
    bT (F_Body_want N (X_BodyE N 140) p0 ((-1) : Int32) H18) fun v21 H22 =>
    rf (H22.P p0 1) fun a24 =>
    ck (H22.sh[a24]? = some (4, 0)) <|
    bC (F_Program_add N a24 (34 : Int32) H22) fun v28 H29 =>
    rf (H29.P p0 1) fun a30 =>
    bnd ((H29.D p0 3)) fun x32 =>
    ck (H29.sh[a30]? = some (4, 0)) <|
    bC (F_Program_add N a30 x32 H29) fun v35 H36 =>
    bC (F_Body_tellLocal N p0 a12 (5 : Int32) v21 H36) fun v38 H39 =>
    rf (H39.P p0 0) fun a40 =>
    ck (H39.sh[a40]? = some (1, 0)) <|
    bT (F_Lexer_take N a40 (15 : Int32) H39) fun v44 H45 =>
    some (.inl (), H45)
set_option maxRecDepth 20000 in
set_option maxHeartbeats 2000000 in
theorem m_Body_readLet {N : Nat} {p0 : Nat} {H : Hp} {r : (Ot Unit) × Hp} (hF : F_Body_readLet N p0 H = some r) : Mo H r.2 := by
  unfold F_Body_readLet at hF
  have hm := Mo.rf H
  obtain ⟨q47, hG⟩ := ck_s hF; clear hF
  obtain ⟨a48, e49, hF⟩ := rf_s hG; clear hG
  obtain ⟨q50, hG⟩ := ck_s hF; clear hF
  obtain ⟨v52, H53, z51, hF⟩ := bC_s hG; clear hG
  replace hm : Mo H H53 := hm.tr ((m_Lexer_advance z51)).mo
  refine bT_c hF (fun x57 H56 z54 er => ?_) (fun v55 H56 z54 hG => ?_)
  · subst er; exact hm.tr (m_Body_newLocal z54)
  clear hF
  replace hm : Mo H H56 := hm.tr (m_Body_newLocal z54)
  obtain ⟨a58, ea58, hF⟩ := on_s hG; clear hG
  subst ea58
  obtain ⟨a59, e60, hG⟩ := rf_s hF; clear hF
  obtain ⟨q61, hF⟩ := ck_s hG; clear hG
  refine bT_c hF (fun x65 H64 z62 er => ?_) (fun v63 H64 z62 hG => ?_)
  · subst er; exact hm.tr (m_Lexer_take z62)
  clear hF
  replace hm : Mo H H64 := hm.tr (m_Lexer_take z62)
  refine bT_c hG (fun x69 H68 z66 er => ?_) (fun v67 H68 z66 hF => ?_)
  · subst er; exact hm.tr (m_Body_want (moX_BodyE 140) z66)
  clear hG
  replace hm : Mo H H68 := hm.tr (m_Body_want (moX_BodyE 140) z66)
  obtain ⟨a70, e71, hG⟩ := rf_s hF; clear hF
  obtain ⟨q72, hF⟩ := ck_s hG; clear hG
  obtain ⟨v74, H75, z73, hG⟩ := bC_s hF; clear hF
  replace hm : Mo H H75 := hm.tr ((m_Program_add z73)).mo
  obtain ⟨a76, e77, hF⟩ := rf_s hG; clear hG
  obtain ⟨x78, -, hG⟩ := bnd_g hF; clear hF
  obtain ⟨q79, hF⟩ := ck_s hG; clear hG
  obtain ⟨v81, H82, z80, hG⟩ := bC_s hF; clear hF
  replace hm : Mo H H82 := hm.tr ((m_Program_add z80)).mo
  obtain ⟨v84, H85, z83, hF⟩ := bC_s hG; clear hG
  replace hm : Mo H H85 := hm.tr ((m_Body_tellLocal z83)).mo
  obtain ⟨a86, e87, hG⟩ := rf_s hF; clear hF
  obtain ⟨q88, hF⟩ := ck_s hG; clear hG
  refine bT_c hF (fun x92 H91 z89 er => ?_) (fun v90 H91 z89 hG => ?_)
  · subst er; exact hm.tr (m_Lexer_take z89)
  clear hF
  replace hm : Mo H H91 := hm.tr (m_Lexer_take z89)
  have hr := Option.some.inj hG; subst hr
  exact hm
set_option maxRecDepth 20000 in
set_option maxHeartbeats 2000000 in
theorem k_Body_readLet {N : Nat} {p0 : Nat} {H : Hp} {r : (Ot Unit) × Hp} {C Sl : Nat} (hF : F_Body_readLet N p0 H = some r) (hC : r.2.sh.length ≤ H.sh.length + C) (hS : r.2.sl ≤ H.sl + Sl) : ab_M y_Body_readLet { frames := 570, cells := C, slots := Sl, locals := 13502 } [.ref p0] (hpw H) (po (oV r.1) r.2) := by
  unfold F_Body_readLet at hF
  obtain ⟨c0, e0⟩ : ∃ q, q = H.sh.length := ⟨_, rfl⟩
  obtain ⟨s0, e1⟩ : ∃ q, q = H.sl := ⟨_, rfl⟩
  rw [← e0] at hC
  rw [← e1] at hS
  have hc0 : c0 ≤ H.sh.length := Nat.le_of_eq e0
  have hs0 : s0 ≤ H.sl := Nat.le_of_eq e1
  have hcc : H.sh.length ≤ c0 + C := by omega
  have hss : H.sl ≤ s0 + Sl := by omega
  refine ab_of2 (lv := [some (.ref p0), none, none]) 2 rfl rfl (Nat.le_of_ble_eq_true rfl) ?_
  refine ab_widen (cells' := H.sh.length - c0) (slots' := H.sl - s0) (Nat.zero_le _) (Nat.zero_le _) ?_
  refine ab_aload_n d_Body_readLet_0 rfl rfl rfl ?_
  obtain ⟨q1, hG⟩ := ck_s hF; clear hF
  obtain ⟨a2, e3, hF⟩ := rf_s hG; clear hG
  refine hp_getR (f := 0) d_Body_readLet_1 q1 (by decide) rfl (by decide) (k1 157 rfl rfl) rfl e3 ?_
  obtain ⟨q4, hG⟩ := ck_s hF; clear hF
  obtain ⟨v6, H7, z5, hF⟩ := bC_s hG; clear hG
  refine hp_callV_v (H1 := H7) (As := []) (rest := []) d_Body_readLet_4 (k_Lexer_advance z5) (ab_mkC s_Lexer_advance (Nat.le_of_ble_eq_true rfl) (Nat.le_of_ble_eq_true rfl) (show (H.sh.length - c0) + 0 ≤ C from by omega) (show (H.sl - s0) + 0 ≤ Sl from by omega)) (k5 129 rfl rfl) i_Lexer_advance v_Lexer_advance q4 (by decide) rfl rfl (Nat.le_of_ble_eq_true rfl) ?_
  have s_2 : Sa H H7 := (m_Lexer_advance z5)
  refine ab_widen (cells' := H.sh.length - c0) (slots' := H.sl - s0) (by show (H.sh.length - c0) + 0 ≤ _; omega) (by show (H.sl - s0) + 0 ≤ _; omega) ?_
  refine ab_aload_n d_Body_readLet_7 rfl rfl rfl ?_
  refine bT_c hF (fun x11 H10 z8 er => ?_) (fun v9 H10 z8 hG => ?_)
  · subst er
    refine ab_widen (cells' := H7.sh.length - c0) (slots' := H7.sl - s0) (by rw [(s_2).1]; exact Nat.le_refl _) (by rw [(s_2).2]; exact Nat.le_refl _) ?_
    have mz : Mo H7 H10 := (m_Body_newLocal z8)
    have ml := mz.len
    have m2 := mz.2
    have be := congrArg List.length (s_2).1
    have bfx := (s_2).2
    have hC9 : H10.sh.length ≤ c0 + C := hC
    have hS9 : H10.sl ≤ s0 + Sl := hS
    refine hp_callV_t (x := x11) (H1 := H10) (As := []) (rest := []) d_Body_readLet_8 (k_Body_newLocal z8 (C := H10.sh.length - H7.sh.length) (Sl := H10.sl - H7.sl) (by show H10.sh.length ≤ _; omega) (by show H10.sl ≤ _; omega)) (ab_mkC s_Body_newLocal (Nat.le_of_ble_eq_true rfl) (Nat.le_of_ble_eq_true rfl) (show (H7.sh.length - c0) + (H10.sh.length - H7.sh.length) ≤ C from by omega) (show (H7.sl - s0) + (H10.sl - H7.sl) ≤ Sl from by omega)) (k5 130 rfl rfl) i_Body_newLocal v_Body_newLocal (by rw [(s_2).1]; exact q1) (by decide) rfl rfl (Nat.le_of_ble_eq_true rfl) ?_
    exact ab_U_out rfl (by show _ + (H10.sh.length - H7.sh.length) ≤ C; omega) (by show _ + (H10.sl - H7.sl) ≤ Sl; omega) ⟨rfl, rfl⟩
  clear hF
  refine ab_widen (cells' := H7.sh.length - c0) (slots' := H7.sl - s0) (by rw [(s_2).1]; exact Nat.le_refl _) (by rw [(s_2).2]; exact Nat.le_refl _) ?_
  have mz_3 : Mo H7 H10 := (m_Body_newLocal z8)
  have b_4l := (mz_3).len
  have b_4s := (mz_3).2
  have b_4e := congrArg List.length (s_2).1
  have b_4f := (s_2).2
  have b_4c : c0 ≤ H10.sh.length := by omega
  have b_4d : s0 ≤ H10.sl := by omega
  have q_5 := (mz_3).get (by rw [(s_2).1]; exact q1)
  have q_6 := (mz_3).get (by rw [(s_2).1]; exact q4)
  have mf_7 : Mo H10 r.2 := by
    have hm := Mo.rf H10
    obtain ⟨a12, ea12, hF⟩ := on_s hG; clear hG
    subst ea12
    obtain ⟨a13, e14, hG⟩ := rf_s hF; clear hF
    obtain ⟨q15, hF⟩ := ck_s hG; clear hG
    refine bT_c hF (fun x19 H18 z16 er => ?_) (fun v17 H18 z16 hG => ?_)
    · subst er; exact hm.tr (m_Lexer_take z16)
    clear hF
    replace hm : Mo H10 H18 := hm.tr (m_Lexer_take z16)
    refine bT_c hG (fun x23 H22 z20 er => ?_) (fun v21 H22 z20 hF => ?_)
    · subst er; exact hm.tr (m_Body_want (moX_BodyE 140) z20)
    clear hG
    replace hm : Mo H10 H22 := hm.tr (m_Body_want (moX_BodyE 140) z20)
    obtain ⟨a24, e25, hG⟩ := rf_s hF; clear hF
    obtain ⟨q26, hF⟩ := ck_s hG; clear hG
    obtain ⟨v28, H29, z27, hG⟩ := bC_s hF; clear hF
    replace hm : Mo H10 H29 := hm.tr ((m_Program_add z27)).mo
    obtain ⟨a30, e31, hF⟩ := rf_s hG; clear hG
    obtain ⟨x32, -, hG⟩ := bnd_g hF; clear hF
    obtain ⟨q33, hF⟩ := ck_s hG; clear hG
    obtain ⟨v35, H36, z34, hG⟩ := bC_s hF; clear hF
    replace hm : Mo H10 H36 := hm.tr ((m_Program_add z34)).mo
    obtain ⟨v38, H39, z37, hF⟩ := bC_s hG; clear hG
    replace hm : Mo H10 H39 := hm.tr ((m_Body_tellLocal z37)).mo
    obtain ⟨a40, e41, hG⟩ := rf_s hF; clear hF
    obtain ⟨q42, hF⟩ := ck_s hG; clear hG
    refine bT_c hF (fun x46 H45 z43 er => ?_) (fun v44 H45 z43 hG => ?_)
    · subst er; exact hm.tr (m_Lexer_take z43)
    clear hF
    replace hm : Mo H10 H45 := hm.tr (m_Lexer_take z43)
    have hr := Option.some.inj hG; subst hr
    exact hm
  have b_4m := (mf_7).len
  have b_4n := (mf_7).2
  have b_4p : H10.sh.length ≤ c0 + C := by omega
  have b_4q : H10.sl ≤ s0 + Sl := by omega
  refine hp_callV_a (v := ab_rf v9) (H1 := H10) (As := []) (rest := []) d_Body_readLet_8 (k_Body_newLocal z8 (C := H10.sh.length - H7.sh.length) (Sl := H10.sl - H7.sl) (by show H10.sh.length ≤ _; omega) (by show H10.sl ≤ _; omega)) (ab_mkC s_Body_newLocal (Nat.le_of_ble_eq_true rfl) (Nat.le_of_ble_eq_true rfl) (show (H7.sh.length - c0) + (H10.sh.length - H7.sh.length) ≤ C from by omega) (show (H7.sl - s0) + (H10.sl - H7.sl) ≤ Sl from by omega)) (k5 130 rfl rfl) i_Body_newLocal v_Body_newLocal (by rw [(s_2).1]; exact q1) (by decide) rfl rfl (Nat.le_of_ble_eq_true rfl) ?_
  refine ab_widen (cells' := H10.sh.length - c0) (slots' := H10.sl - s0) (by show _ + (H10.sh.length - H7.sh.length) ≤ _; omega) (by show _ + (H10.sl - H7.sl) ≤ _; omega) ?_
  clear b_4l b_4s b_4m b_4n b_4e b_4f
  obtain ⟨a12, ea12, hF⟩ := on_s hG; clear hG
  subst ea12
  refine ab_astore_n (lv' := [some (.ref p0), some (.ref a12), none]) d_Body_readLet_11 rfl (by decide) rfl rfl ?_
  refine ab_aload_n d_Body_readLet_12 rfl rfl rfl ?_
  obtain ⟨a13, e14, hG⟩ := rf_s hF; clear hF
  refine hp_getR (f := 0) d_Body_readLet_13 q_5 (by decide) rfl (by decide) (k1 157 rfl rfl) rfl e14 ?_
  refine ab_bipush (v := 17) d_Body_readLet_16 (by decide) ?_
  obtain ⟨q15, hF⟩ := ck_s hG; clear hG
  refine bT_c hF (fun x19 H18 z16 er => ?_) (fun v17 H18 z16 hG => ?_)
  · subst er
    have mz : Mo H10 H18 := (m_Lexer_take z16)
    have ml := mz.len
    have m2 := mz.2
    have hC9 : H18.sh.length ≤ c0 + C := hC
    have hS9 : H18.sl ≤ s0 + Sl := hS
    refine hp_callV_t (x := x19) (H1 := H18) (As := [.int 17]) (rest := []) d_Body_readLet_18 (k_Lexer_take z16 (C := H18.sh.length - H10.sh.length) (Sl := H18.sl - H10.sl) (by show H18.sh.length ≤ _; omega) (by show H18.sl ≤ _; omega)) (ab_mkC s_Lexer_take (Nat.le_of_ble_eq_true rfl) (Nat.le_of_ble_eq_true rfl) (show (H10.sh.length - c0) + (H18.sh.length - H10.sh.length) ≤ C from by omega) (show (H10.sl - s0) + (H18.sl - H10.sl) ≤ Sl from by omega)) (k5 116 rfl rfl) i_Lexer_take v_Lexer_take q15 (by decide) rfl rfl (Nat.le_of_ble_eq_true rfl) ?_
    exact ab_U_out rfl (by show _ + (H18.sh.length - H10.sh.length) ≤ C; omega) (by show _ + (H18.sl - H10.sl) ≤ Sl; omega) ⟨rfl, rfl⟩
  clear hF
  have mz_23 : Mo H10 H18 := (m_Lexer_take z16)
  have b_24l := (mz_23).len
  have b_24s := (mz_23).2
  have b_24c : c0 ≤ H18.sh.length := by omega
  have b_24d : s0 ≤ H18.sl := by omega
  have q_25 := (mz_23).get q_5
  have q_26 := (mz_23).get q_6
  have q_27 := (mz_23).get q15
  have fH18 : Mo H18 r.2 := by
    have hm := Mo.rf H18
    refine bT_c hG (fun x23 H22 z20 er => ?_) (fun v21 H22 z20 hF => ?_)
    · subst er; exact hm.tr (m_Body_want (moX_BodyE 140) z20)
    clear hG
    replace hm : Mo H18 H22 := hm.tr (m_Body_want (moX_BodyE 140) z20)
    obtain ⟨a24, e25, hG⟩ := rf_s hF; clear hF
    obtain ⟨q26, hF⟩ := ck_s hG; clear hG
    obtain ⟨v28, H29, z27, hG⟩ := bC_s hF; clear hF
    replace hm : Mo H18 H29 := hm.tr ((m_Program_add z27)).mo
    obtain ⟨a30, e31, hF⟩ := rf_s hG; clear hG
    obtain ⟨x32, -, hG⟩ := bnd_g hF; clear hF
    obtain ⟨q33, hF⟩ := ck_s hG; clear hG
    obtain ⟨v35, H36, z34, hG⟩ := bC_s hF; clear hF
    replace hm : Mo H18 H36 := hm.tr ((m_Program_add z34)).mo
    obtain ⟨v38, H39, z37, hF⟩ := bC_s hG; clear hG
    replace hm : Mo H18 H39 := hm.tr ((m_Body_tellLocal z37)).mo
    obtain ⟨a40, e41, hG⟩ := rf_s hF; clear hF
    obtain ⟨q42, hF⟩ := ck_s hG; clear hG
    refine bT_c hF (fun x46 H45 z43 er => ?_) (fun v44 H45 z43 hG => ?_)
    · subst er; exact hm.tr (m_Lexer_take z43)
    clear hF
    replace hm : Mo H18 H45 := hm.tr (m_Lexer_take z43)
    have hr := Option.some.inj hG; subst hr
    exact hm
  have b_24m := (fH18).len
  have b_24n := (fH18).2
  have b_24p : H18.sh.length ≤ c0 + C := by omega
  have b_24q : H18.sl ≤ s0 + Sl := by omega
  refine hp_callV_v (H1 := H18) (As := [.int 17]) (rest := []) d_Body_readLet_18 (k_Lexer_take z16 (C := H18.sh.length - H10.sh.length) (Sl := H18.sl - H10.sl) (by show H18.sh.length ≤ _; omega) (by show H18.sl ≤ _; omega)) (ab_mkC s_Lexer_take (Nat.le_of_ble_eq_true rfl) (Nat.le_of_ble_eq_true rfl) (show (H10.sh.length - c0) + (H18.sh.length - H10.sh.length) ≤ C from by omega) (show (H10.sl - s0) + (H18.sl - H10.sl) ≤ Sl from by omega)) (k5 116 rfl rfl) i_Lexer_take v_Lexer_take q15 (by decide) rfl rfl (Nat.le_of_ble_eq_true rfl) ?_
  refine ab_widen (cells' := H18.sh.length - c0) (slots' := H18.sl - s0) (by show _ + (H18.sh.length - H10.sh.length) ≤ _; omega) (by show _ + (H18.sl - H10.sl) ≤ _; omega) ?_
  clear b_24l b_24s b_24m b_24n b_4c b_4d b_4p b_4q
  refine ab_aload_n d_Body_readLet_21 rfl rfl rfl ?_
  refine ab_iconst (v := (-1)) d_Body_readLet_22 (by decide) ?_
  refine bT_c hG (fun x23 H22 z20 er => ?_) (fun v21 H22 z20 hF => ?_)
  · subst er
    have mz : Mo H18 H22 := (m_Body_want (moX_BodyE 140) z20)
    have ml := mz.len
    have m2 := mz.2
    have hC9 : H22.sh.length ≤ c0 + C := hC
    have hS9 : H22.sl ≤ s0 + Sl := hS
    refine hp_callV_t (x := x23) (H1 := H22) (As := [.int (-1)]) (rest := []) d_Body_readLet_23 (k_Body_want (okX_BodyE 140) (moX_BodyE 140) z20 (C := H22.sh.length - H18.sh.length) (Sl := H22.sl - H18.sl) (by show H22.sh.length ≤ _; omega) (by show H22.sl ≤ _; omega)) (ab_mkC s_Body_want (Nat.le_of_ble_eq_true rfl) (Nat.le_of_ble_eq_true rfl) (show (H18.sh.length - c0) + (H22.sh.length - H18.sh.length) ≤ C from by omega) (show (H18.sl - s0) + (H22.sl - H18.sl) ≤ Sl from by omega)) (k5 137 rfl rfl) i_Body_want v_Body_want q_25 (by decide) rfl rfl (Nat.le_of_ble_eq_true rfl) ?_
    exact ab_U_out rfl (by show _ + (H22.sh.length - H18.sh.length) ≤ C; omega) (by show _ + (H22.sl - H18.sl) ≤ Sl; omega) ⟨rfl, rfl⟩
  clear hG
  have mz_39 : Mo H18 H22 := (m_Body_want (moX_BodyE 140) z20)
  have b_40l := (mz_39).len
  have b_40s := (mz_39).2
  have b_40c : c0 ≤ H22.sh.length := by omega
  have b_40d : s0 ≤ H22.sl := by omega
  have q_41 := (mz_39).get q_25
  have q_42 := (mz_39).get q_26
  have q_43 := (mz_39).get q_27
  obtain ⟨a24, e25, hG⟩ := rf_s hF; clear hF
  obtain ⟨q26, hF⟩ := ck_s hG; clear hG
  obtain ⟨v28, H29, z27, hG⟩ := bC_s hF; clear hF
  have jH29 : Mo H22 H29 := ((m_Program_add z27)).mo
  obtain ⟨a30, e31, hF⟩ := rf_s hG; clear hG
  obtain ⟨x32, ex32, hG⟩ := bnd_g hF; clear hF
  obtain ⟨q33, hF⟩ := ck_s hG; clear hG
  obtain ⟨v35, H36, z34, hG⟩ := bC_s hF; clear hF
  have jH36 : Mo H29 H36 := ((m_Program_add z34)).mo
  obtain ⟨v38, H39, z37, hF⟩ := bC_s hG; clear hG
  have jH39 : Mo H36 H39 := ((m_Body_tellLocal z37)).mo
  obtain ⟨a40, e41, hG⟩ := rf_s hF; clear hF
  have fH39 : Mo H39 r.2 := by
    have hm := Mo.rf H39
    obtain ⟨q42, hF⟩ := ck_s hG; clear hG
    refine bT_c hF (fun x46 H45 z43 er => ?_) (fun v44 H45 z43 hG => ?_)
    · subst er; exact hm.tr (m_Lexer_take z43)
    clear hF
    replace hm : Mo H39 H45 := hm.tr (m_Lexer_take z43)
    have hr := Option.some.inj hG; subst hr
    exact hm
  have fH36 : Mo H36 r.2 := jH39.tr fH39
  have fH29 : Mo H29 r.2 := jH36.tr fH36
  have fH22 : Mo H22 r.2 := jH29.tr fH29
  have b_40m := (fH22).len
  have b_40n := (fH22).2
  have b_40p : H22.sh.length ≤ c0 + C := by omega
  have b_40q : H22.sl ≤ s0 + Sl := by omega
  refine hp_callV_a (v := .int v21) (H1 := H22) (As := [.int (-1)]) (rest := []) d_Body_readLet_23 (k_Body_want (okX_BodyE 140) (moX_BodyE 140) z20 (C := H22.sh.length - H18.sh.length) (Sl := H22.sl - H18.sl) (by show H22.sh.length ≤ _; omega) (by show H22.sl ≤ _; omega)) (ab_mkC s_Body_want (Nat.le_of_ble_eq_true rfl) (Nat.le_of_ble_eq_true rfl) (show (H18.sh.length - c0) + (H22.sh.length - H18.sh.length) ≤ C from by omega) (show (H18.sl - s0) + (H22.sl - H18.sl) ≤ Sl from by omega)) (k5 137 rfl rfl) i_Body_want v_Body_want q_25 (by decide) rfl rfl (Nat.le_of_ble_eq_true rfl) ?_
  refine ab_widen (cells' := H22.sh.length - c0) (slots' := H22.sl - s0) (by show _ + (H22.sh.length - H18.sh.length) ≤ _; omega) (by show _ + (H22.sl - H18.sl) ≤ _; omega) ?_
  clear b_40l b_40s b_40m b_40n b_24c b_24d b_24p b_24q
  refine ab_istore_n (lv' := [some (.ref p0), some (.ref a12), some (.int v21)]) d_Body_readLet_26 rfl (by decide) rfl ?_
  refine ab_aload_n d_Body_readLet_27 rfl rfl rfl ?_
  refine hp_getR (f := 1) d_Body_readLet_28 q_41 (by decide) rfl (by decide) (k1 158 rfl rfl) rfl e25 ?_
  refine ab_bipush (v := 34) d_Body_readLet_31 (by decide) ?_
  refine hp_callV_a (v := .int v28) (H1 := H29) (As := [.int 34]) (rest := []) d_Body_readLet_33 (k_Program_add z27) (ab_mkC s_Program_add (Nat.le_of_ble_eq_true rfl) (Nat.le_of_ble_eq_true rfl) (show (H22.sh.length - c0) + 0 ≤ C from by omega) (show (H22.sl - s0) + 0 ≤ Sl from by omega)) (k5 117 rfl rfl) i_Program_add v_Program_add q26 (by decide) rfl rfl (Nat.le_of_ble_eq_true rfl) ?_
  have s_55 : Sa H22 H29 := (m_Program_add z27)
  refine ab_widen (cells' := H22.sh.length - c0) (slots' := H22.sl - s0) (by show (H22.sh.length - c0) + 0 ≤ _; omega) (by show (H22.sl - s0) + 0 ≤ _; omega) ?_
  refine ab_pop d_Body_readLet_36 rfl ?_
  refine ab_aload_n d_Body_readLet_37 rfl rfl rfl ?_
  refine hp_getR (f := 1) d_Body_readLet_38 (by rw [(s_55).1]; exact q_41) (by decide) rfl (by decide) (k1 158 rfl rfl) rfl e31 ?_
  refine ab_aload_n d_Body_readLet_41 rfl rfl rfl ?_
  refine hp_getI (f := 3) d_Body_readLet_42 (by rw [(s_55).1]; exact q_41) (by decide) rfl (by decide) (k1 160 rfl rfl) rfl ?_
  refine ab_topxi ex32 ?_
  rw [(s_55).1] at q33
  refine ab_widen (cells' := H29.sh.length - c0) (slots' := H29.sl - s0) (by rw [(s_55).1]; exact Nat.le_refl _) (by rw [(s_55).2]; exact Nat.le_refl _) ?_
  have b_56e := congrArg List.length (s_55).1
  have b_56f := (s_55).2
  refine hp_callV_a (v := .int v35) (H1 := H36) (As := [.int x32]) (rest := []) d_Body_readLet_45 (k_Program_add z34) (ab_mkC s_Program_add (Nat.le_of_ble_eq_true rfl) (Nat.le_of_ble_eq_true rfl) (show (H29.sh.length - c0) + 0 ≤ C from by omega) (show (H29.sl - s0) + 0 ≤ Sl from by omega)) (k5 117 rfl rfl) i_Program_add v_Program_add (by rw [(s_55).1]; exact q33) (by decide) rfl rfl (Nat.le_of_ble_eq_true rfl) ?_
  have s_57 : Sa H22 H36 := (s_55).tr (m_Program_add z34)
  refine ab_widen (cells' := H22.sh.length - c0) (slots' := H22.sl - s0) (by show (H29.sh.length - c0) + 0 ≤ _; omega) (by show (H29.sl - s0) + 0 ≤ _; omega) ?_
  clear b_56e b_56f
  refine ab_pop d_Body_readLet_48 rfl ?_
  refine ab_aload_n d_Body_readLet_49 rfl rfl rfl ?_
  refine ab_aload_n d_Body_readLet_50 rfl rfl rfl ?_
  refine ab_iconst (v := 5) d_Body_readLet_51 (by decide) ?_
  refine ab_iload_n d_Body_readLet_52 rfl rfl ?_
  refine ab_widen (cells' := H36.sh.length - c0) (slots' := H36.sl - s0) (by rw [(s_57).1]; exact Nat.le_refl _) (by rw [(s_57).2]; exact Nat.le_refl _) ?_
  have b_58e := congrArg List.length (s_57).1
  have b_58f := (s_57).2
  refine hp_callV_v (H1 := H39) (As := [.ref a12, .int 5, .int v21]) (rest := []) d_Body_readLet_53 (k_Body_tellLocal z37) (ab_mkC s_Body_tellLocal (Nat.le_of_ble_eq_true rfl) (Nat.le_of_ble_eq_true rfl) (show (H36.sh.length - c0) + 0 ≤ C from by omega) (show (H36.sl - s0) + 0 ≤ Sl from by omega)) (k5 236 rfl rfl) i_Body_tellLocal v_Body_tellLocal (by rw [(s_57).1]; exact q_41) (by decide) rfl rfl (Nat.le_of_ble_eq_true rfl) ?_
  have s_59 : Sa H22 H39 := (s_57).tr (m_Body_tellLocal z37)
  refine ab_widen (cells' := H22.sh.length - c0) (slots' := H22.sl - s0) (by show (H36.sh.length - c0) + 0 ≤ _; omega) (by show (H36.sl - s0) + 0 ≤ _; omega) ?_
  clear b_58e b_58f
  refine ab_aload_n d_Body_readLet_56 rfl rfl rfl ?_
  refine hp_getR (f := 0) d_Body_readLet_57 (by rw [(s_59).1]; exact q_41) (by decide) rfl (by decide) (k1 157 rfl rfl) rfl e41 ?_
  refine ab_bipush (v := 15) d_Body_readLet_60 (by decide) ?_
  obtain ⟨q42, hF⟩ := ck_s hG; clear hG
  rw [(s_59).1] at q42
  refine bT_c hF (fun x46 H45 z43 er => ?_) (fun v44 H45 z43 hG => ?_)
  · subst er
    refine ab_widen (cells' := H39.sh.length - c0) (slots' := H39.sl - s0) (by rw [(s_59).1]; exact Nat.le_refl _) (by rw [(s_59).2]; exact Nat.le_refl _) ?_
    have mz : Mo H39 H45 := (m_Lexer_take z43)
    have ml := mz.len
    have m2 := mz.2
    have be := congrArg List.length (s_59).1
    have bfx := (s_59).2
    have hC9 : H45.sh.length ≤ c0 + C := hC
    have hS9 : H45.sl ≤ s0 + Sl := hS
    refine hp_callV_t (x := x46) (H1 := H45) (As := [.int 15]) (rest := []) d_Body_readLet_62 (k_Lexer_take z43 (C := H45.sh.length - H39.sh.length) (Sl := H45.sl - H39.sl) (by show H45.sh.length ≤ _; omega) (by show H45.sl ≤ _; omega)) (ab_mkC s_Lexer_take (Nat.le_of_ble_eq_true rfl) (Nat.le_of_ble_eq_true rfl) (show (H39.sh.length - c0) + (H45.sh.length - H39.sh.length) ≤ C from by omega) (show (H39.sl - s0) + (H45.sl - H39.sl) ≤ Sl from by omega)) (k5 116 rfl rfl) i_Lexer_take v_Lexer_take (by rw [(s_59).1]; exact q42) (by decide) rfl rfl (Nat.le_of_ble_eq_true rfl) ?_
    exact ab_U_out rfl (by show _ + (H45.sh.length - H39.sh.length) ≤ C; omega) (by show _ + (H45.sl - H39.sl) ≤ Sl; omega) ⟨rfl, rfl⟩
  clear hF
  refine ab_widen (cells' := H39.sh.length - c0) (slots' := H39.sl - s0) (by rw [(s_59).1]; exact Nat.le_refl _) (by rw [(s_59).2]; exact Nat.le_refl _) ?_
  have mz_60 : Mo H39 H45 := (m_Lexer_take z43)
  have b_61l := (mz_60).len
  have b_61s := (mz_60).2
  have b_61e := congrArg List.length (s_59).1
  have b_61f := (s_59).2
  have b_61c : c0 ≤ H45.sh.length := by omega
  have b_61d : s0 ≤ H45.sl := by omega
  have q_62 := (mz_60).get (by rw [(s_59).1]; exact q_41)
  have q_63 := (mz_60).get (by rw [(s_59).1]; exact q_42)
  have q_64 := (mz_60).get (by rw [(s_59).1]; exact q_43)
  have q_65 := (mz_60).get (by rw [(s_59).1]; exact q26)
  have q_66 := (mz_60).get (by rw [(s_59).1]; exact q33)
  have q_67 := (mz_60).get (by rw [(s_59).1]; exact q42)
  have fH45 : Mo H45 r.2 := by
    have hm := Mo.rf H45
    have hr := Option.some.inj hG; subst hr
    exact hm
  have b_61m := (fH45).len
  have b_61n := (fH45).2
  have b_61p : H45.sh.length ≤ c0 + C := by omega
  have b_61q : H45.sl ≤ s0 + Sl := by omega
  refine hp_callV_v (H1 := H45) (As := [.int 15]) (rest := []) d_Body_readLet_62 (k_Lexer_take z43 (C := H45.sh.length - H39.sh.length) (Sl := H45.sl - H39.sl) (by show H45.sh.length ≤ _; omega) (by show H45.sl ≤ _; omega)) (ab_mkC s_Lexer_take (Nat.le_of_ble_eq_true rfl) (Nat.le_of_ble_eq_true rfl) (show (H39.sh.length - c0) + (H45.sh.length - H39.sh.length) ≤ C from by omega) (show (H39.sl - s0) + (H45.sl - H39.sl) ≤ Sl from by omega)) (k5 116 rfl rfl) i_Lexer_take v_Lexer_take (by rw [(s_59).1]; exact q42) (by decide) rfl rfl (Nat.le_of_ble_eq_true rfl) ?_
  refine ab_widen (cells' := H45.sh.length - c0) (slots' := H45.sl - s0) (by show _ + (H45.sh.length - H39.sh.length) ≤ _; omega) (by show _ + (H45.sl - H39.sl) ≤ _; omega) ?_
  clear b_61l b_61s b_61m b_61n b_61e b_61f b_40c b_40d b_40p b_40q
  exact ab_vret d_Body_readLet_65 rfl (by show _ ≤ C; omega) (by show _ ≤ Sl; omega) (by have hr := Option.some.inj hG; subst hr; exact ⟨rfl, rfl⟩)
