def B_Body_block_54 (N : Nat) (o : Orc_BodyS) (p0 : Nat) (l1 : Int32) (H : Hp) : Option ((Ot Unit) × Hp) :=
    ck (H.sh[p0]? = some (6, 0)) <|
    rf (H.P p0 0) fun a12 =>
    ck (H.sh[a12]? = some (1, 0)) <|
    bT (F_Lexer_take N a12 (11 : Int32) H) fun v16 H17 =>
    rf (H17.P p0 1) fun a19 =>
    bnd ((H17.D p0 3)) fun x21 =>
    ck (H17.sh[a19]? = some (4, 0)) <|
    bC (F_Program_forget N a19 (x21 - l1) H17) fun v24 H25 =>
    bnd (H25.sD p0 3 l1) fun H26 =>
    some (.inl (), H26)
set_option maxRecDepth 20000 in
set_option maxHeartbeats 2000000 in
theorem mB_Body_block_54 {N : Nat} {o : Orc_BodyS} (hmo : mo_BodyS o) {p0 : Nat} {l1 : Int32} {H : Hp} {r : (Ot Unit) × Hp} (hF : B_Body_block_54 N o p0 l1 H = some r) : Mo H r.2 := by
  unfold B_Body_block_54 at hF
  have hm := Mo.rf H
  obtain ⟨q27, hG⟩ := ck_s hF; clear hF
  obtain ⟨a28, e29, hF⟩ := rf_s hG; clear hG
  obtain ⟨q30, hG⟩ := ck_s hF; clear hF
  refine bT_c hG (fun x34 H33 z31 er => ?_) (fun v32 H33 z31 hF => ?_)
  · subst er; exact hm.tr (m_Lexer_take z31)
  clear hG
  replace hm : Mo H H33 := hm.tr (m_Lexer_take z31)
  obtain ⟨a35, e36, hG⟩ := rf_s hF; clear hF
  obtain ⟨x37, -, hF⟩ := bnd_g hG; clear hG
  obtain ⟨q38, hG⟩ := ck_s hF; clear hF
  obtain ⟨v40, H41, z39, hF⟩ := bC_s hG; clear hG
  replace hm : Mo H H41 := hm.tr ((m_Program_forget z39)).mo
  obtain ⟨H42, eH42, hG⟩ := bnd_g hF; clear hF
  replace hm : Mo H H42 := by rw [eH42]; exact hm
  have hr := Option.some.inj hG; subst hr
  exact hm
set_option maxRecDepth 20000 in
set_option maxHeartbeats 2000000 in
theorem kB_Body_block_54 {N : Nat} {o : Orc_BodyS} {fr lo : Nat} (ho : ok_BodyS o fr lo) (hmo : mo_BodyS o) {p0 : Nat} {c0 s0 C Sl : Nat} {l1 : Int32} {H : Hp} {r : (Ot Unit) × Hp} (hF : B_Body_block_54 N o p0 l1 H = some r) (hc0 : c0 ≤ H.sh.length) (hs0 : s0 ≤ H.sl) (hcc : H.sh.length ≤ c0 + C) (hss : H.sl ≤ s0 + Sl) (hC : r.2.sh.length ≤ c0 + C) (hS : r.2.sl ≤ s0 + Sl) : ab_V y_Body_block { frames := fr + 5, cells := C, slots := Sl, locals := lo + 110 } (po (oV r.1) r.2) C Sl (H.sh.length - c0) (H.sl - s0) 54 [some (.ref p0), some (.int l1), none] [] (hpw H) := by
  unfold B_Body_block_54 at hF
  refine ab_aload_n d_Body_block_54 rfl rfl rfl ?_
  obtain ⟨q11, hG⟩ := ck_s hF; clear hF
  obtain ⟨a12, e13, hF⟩ := rf_s hG; clear hG
  refine hp_getR (f := 0) d_Body_block_55 q11 (by decide) rfl (by decide) (k1 157 rfl rfl) rfl e13 ?_
  refine ab_bipush (v := 11) d_Body_block_58 (by decide) ?_
  obtain ⟨q14, hG⟩ := ck_s hF; clear hF
  refine bT_c hG (fun x18 H17 z15 er => ?_) (fun v16 H17 z15 hF => ?_)
  · subst er
    have mz : Mo H H17 := (m_Lexer_take z15)
    have ml := mz.len
    have m2 := mz.2
    have hC9 : H17.sh.length ≤ c0 + C := hC
    have hS9 : H17.sl ≤ s0 + Sl := hS
    refine hp_callV_t (x := x18) (H1 := H17) (As := [.int 11]) (rest := []) d_Body_block_60 (k_Lexer_take z15 (C := H17.sh.length - H.sh.length) (Sl := H17.sl - H.sl) (by show H17.sh.length ≤ _; omega) (by show H17.sl ≤ _; omega)) (ab_mkC s_Lexer_take (show 7 + 1 ≤ fr + 5 from by have := ho.1; omega) (show 8 + (2 + 11) + 122 ≤ lo + 110 from by have := ho.2.1; omega) (show (H.sh.length - c0) + (H17.sh.length - H.sh.length) ≤ C from by omega) (show (H.sl - s0) + (H17.sl - H.sl) ≤ Sl from by omega)) (k5 116 rfl rfl) i_Lexer_take v_Lexer_take q14 (by decide) rfl rfl (Nat.le_of_ble_eq_true rfl) ?_
    exact ab_U_out rfl (by show _ + (H17.sh.length - H.sh.length) ≤ C; omega) (by show _ + (H17.sl - H.sl) ≤ Sl; omega) ⟨rfl, rfl⟩
  clear hG
  have mz_5 : Mo H H17 := (m_Lexer_take z15)
  have b_6l := (mz_5).len
  have b_6s := (mz_5).2
  have b_6c : c0 ≤ H17.sh.length := by omega
  have b_6d : s0 ≤ H17.sl := by omega
  have q_7 := (mz_5).get q11
  have q_8 := (mz_5).get q14
  obtain ⟨a19, e20, hG⟩ := rf_s hF; clear hF
  obtain ⟨x21, ex21, hF⟩ := bnd_g hG; clear hG
  obtain ⟨q22, hG⟩ := ck_s hF; clear hF
  obtain ⟨v24, H25, z23, hF⟩ := bC_s hG; clear hG
  have jH25 : Mo H17 H25 := ((m_Program_forget z23)).mo
  obtain ⟨H26, eH26, hG⟩ := bnd_g hF; clear hF
  have jH26 : Mo H25 H26 := by rw [eH26]; exact Mo.rf _
  have fH26 : Mo H26 r.2 := by
    have hm := Mo.rf H26
    have hr := Option.some.inj hG; subst hr
    exact hm
  have fH25 : Mo H25 r.2 := jH26.tr fH26
  have fH17 : Mo H17 r.2 := jH25.tr fH25
  have b_6m := (fH17).len
  have b_6n := (fH17).2
  have b_6p : H17.sh.length ≤ c0 + C := by omega
  have b_6q : H17.sl ≤ s0 + Sl := by omega
  refine hp_callV_v (H1 := H17) (As := [.int 11]) (rest := []) d_Body_block_60 (k_Lexer_take z15 (C := H17.sh.length - H.sh.length) (Sl := H17.sl - H.sl) (by show H17.sh.length ≤ _; omega) (by show H17.sl ≤ _; omega)) (ab_mkC s_Lexer_take (show 7 + 1 ≤ fr + 5 from by have := ho.1; omega) (show 8 + (2 + 11) + 122 ≤ lo + 110 from by have := ho.2.1; omega) (show (H.sh.length - c0) + (H17.sh.length - H.sh.length) ≤ C from by omega) (show (H.sl - s0) + (H17.sl - H.sl) ≤ Sl from by omega)) (k5 116 rfl rfl) i_Lexer_take v_Lexer_take q14 (by decide) rfl rfl (Nat.le_of_ble_eq_true rfl) ?_
  refine ab_widen (cells' := H17.sh.length - c0) (slots' := H17.sl - s0) (by show _ + (H17.sh.length - H.sh.length) ≤ _; omega) (by show _ + (H17.sl - H.sl) ≤ _; omega) ?_
  clear b_6l b_6s b_6m b_6n
  refine ab_aload_n d_Body_block_63 rfl rfl rfl ?_
  refine hp_getR (f := 1) d_Body_block_64 q_7 (by decide) rfl (by decide) (k1 158 rfl rfl) rfl e20 ?_
  refine ab_aload_n d_Body_block_67 rfl rfl rfl ?_
  refine hp_getI (f := 3) d_Body_block_68 q_7 (by decide) rfl (by decide) (k1 160 rfl rfl) rfl ?_
  refine ab_topxi ex21 ?_
  refine ab_iload_n d_Body_block_71 rfl rfl ?_
  refine ab_isub d_Body_block_72 ?_
  refine hp_callV_v (H1 := H25) (As := [.int (x21 - l1)]) (rest := []) d_Body_block_73 (k_Program_forget z23) (ab_mkC s_Program_forget (show 1 + 1 ≤ fr + 5 from by have := ho.1; omega) (show 8 + (2 + 11) + 21 ≤ lo + 110 from by have := ho.2.1; omega) (show (H17.sh.length - c0) + 0 ≤ C from by omega) (show (H17.sl - s0) + 0 ≤ Sl from by omega)) (k6 35 rfl rfl) i_Program_forget v_Program_forget q22 (by decide) rfl rfl (Nat.le_of_ble_eq_true rfl) ?_
  have s_12 : Sa H17 H25 := (m_Program_forget z23)
  refine ab_widen (cells' := H17.sh.length - c0) (slots' := H17.sl - s0) (by show (H17.sh.length - c0) + 0 ≤ _; omega) (by show (H17.sl - s0) + 0 ≤ _; omega) ?_
  refine ab_aload_n d_Body_block_76 rfl rfl rfl ?_
  refine ab_iload_n d_Body_block_77 rfl rfl ?_
  refine hp_putI (v := l1) (f := 3) d_Body_block_78 (by rw [(s_12).1]; exact q_7) (by decide) rfl (by decide) (k1 160 rfl rfl) rfl rfl (fun _ => rfl) (fun _ => rfl) rfl ?_
  refine hp_genx eH26 ?_
  have s_13 : Sa H17 H26 := by rw [eH26]; exact s_12
  exact ab_vret d_Body_block_81 rfl (by show _ ≤ C; omega) (by show _ ≤ Sl; omega) (by have hr := Option.some.inj hG; subst hr; exact ⟨rfl, rfl⟩)
def B_Body_block_16 (N : Nat) (o : Orc_BodyS) (p0 : Nat) : Nat → Int32 → Int32 → Hp → Option ((Ot Unit) × Hp)
  | 0, _, _, _ => none
  | n + 1, l1, l2, H =>
    if (6000 : Int32) < l2 then
    B_Body_block_54 N o p0 l1 H
    else
    ck (H.sh[p0]? = some (6, 0)) <|
    rf (H.P p0 0) fun a44 =>
    ck (H.sh[a44]? = some (1, 0)) <|
    bnd ((H.D a44 2)) fun x47 =>
    if x47 = (11 : Int32) then
    B_Body_block_54 N o p0 l1 H
    else
    rf (H.P p0 1) fun a49 =>
    ck (H.sh[a49]? = some (4, 0)) <|
    bC (F_Program_add N a49 (1 : Int32) H) fun v53 H54 =>
    bT (F_Body_readStatement N o p0 H54) fun v56 H57 =>
    B_Body_block_16 N o p0 n l1 (l2 + 1) H57
termination_by structural n => n
set_option maxRecDepth 20000 in
set_option maxHeartbeats 2000000 in
theorem mB_Body_block_16 {N : Nat} {o : Orc_BodyS} (hmo : mo_BodyS o) {p0 : Nat} : ∀ (n : Nat) (l1 : Int32) (l2 : Int32) (H : Hp) (r : (Ot Unit) × Hp), B_Body_block_16 N o p0 n l1 l2 H = some r → Mo H r.2 := by
  intro n
  induction n with
  | zero => intro l1 l2 H r hF; rw [B_Body_block_16] at hF; cases hF
  | succ n ih =>
    intro l1 l2 H r hF
    rw [B_Body_block_16] at hF
    have hm := Mo.rf H
    rcases ite_s hF with ⟨q_25, hG⟩ | ⟨q_25, hG⟩
    · clear hF
      exact hm.tr (mB_Body_block_54 hmo hG)
    · clear hF
      obtain ⟨q60, hF⟩ := ck_s hG; clear hG
      obtain ⟨a61, e62, hG⟩ := rf_s hF; clear hF
      obtain ⟨q63, hF⟩ := ck_s hG; clear hG
      obtain ⟨x64, -, hG⟩ := bnd_g hF; clear hF
      rcases ite_s hG with ⟨q_26, hF⟩ | ⟨q_26, hF⟩
      · clear hG
        exact hm.tr (mB_Body_block_54 hmo hF)
      · clear hG
        obtain ⟨a66, e67, hG⟩ := rf_s hF; clear hF
        obtain ⟨q68, hF⟩ := ck_s hG; clear hG
        obtain ⟨v70, H71, z69, hG⟩ := bC_s hF; clear hF
        replace hm : Mo H H71 := hm.tr ((m_Program_add z69)).mo
        refine bT_c hG (fun x75 H74 z72 er => ?_) (fun v73 H74 z72 hF => ?_)
        · subst er; exact hm.tr (m_Body_readStatement hmo z72)
        clear hG
        replace hm : Mo H H74 := hm.tr (m_Body_readStatement hmo z72)
        exact hm.tr (ih l1 (l2 + 1) H74 r hF)
set_option maxRecDepth 20000 in
set_option maxHeartbeats 2000000 in
theorem kB_Body_block_16 {N : Nat} {o : Orc_BodyS} {fr lo : Nat} (ho : ok_BodyS o fr lo) (hmo : mo_BodyS o) {p0 : Nat} {c0 s0 C Sl : Nat} : ∀ (n : Nat) (l1 : Int32) (l2 : Int32) (H : Hp) (r : (Ot Unit) × Hp), B_Body_block_16 N o p0 n l1 l2 H = some r → c0 ≤ H.sh.length → s0 ≤ H.sl → H.sh.length ≤ c0 + C → H.sl ≤ s0 + Sl → r.2.sh.length ≤ c0 + C → r.2.sl ≤ s0 + Sl → ab_V y_Body_block { frames := fr + 5, cells := C, slots := Sl, locals := lo + 110 } (po (oV r.1) r.2) C Sl (H.sh.length - c0) (H.sl - s0) 16 [some (.ref p0), some (.int l1), some (.int l2)] [] (hpw H) := by
  intro n
  induction n with
  | zero => intro l1 l2 H r hF; rw [B_Body_block_16] at hF; cases hF
  | succ n ih =>
    intro l1 l2 H r hF hc0 hs0 hcc hss hC hS
    rw [B_Body_block_16] at hF
    refine ab_iload_n d_Body_block_16 rfl rfl ?_
    refine ab_sipush (v := 6000) d_Body_block_17 (by decide) ?_
    refine ab_icmp_gt (tgt := 54) d_Body_block_20 (by decide) (fun q10 => ?_) (fun q10 => ?_)
    · rw [if_pos q10] at hF
      refine ab_le (lv' := [some (.ref p0), some (.int l1), none]) ⟨rfl, ⟨rfl, trivial⟩⟩ ?_
      exact kB_Body_block_54 ho hmo hF hc0 hs0 hcc hss hC hS
    · rw [if_neg q10] at hF
      refine ab_aload_n d_Body_block_23 rfl rfl rfl ?_
      obtain ⟨q43, hG⟩ := ck_s hF; clear hF
      obtain ⟨a44, e45, hF⟩ := rf_s hG; clear hG
      refine hp_getR (f := 0) d_Body_block_24 q43 (by decide) rfl (by decide) (k1 157 rfl rfl) rfl e45 ?_
      obtain ⟨q46, hG⟩ := ck_s hF; clear hF
      refine hp_getI (f := 2) d_Body_block_27 q46 (by decide) rfl (by decide) (k1 99 rfl rfl) rfl ?_
      refine ab_topi (fun x47 ex47 => ?_)
      replace hG := bnd_s ex47 hG
      refine ab_bipush (v := 11) d_Body_block_30 (by decide) ?_
      refine ab_icmp_eq (tgt := 54) d_Body_block_32 (by decide) (fun q48 => ?_) (fun q48 => ?_)
      · rw [if_pos q48] at hG
        refine ab_le (lv' := [some (.ref p0), some (.int l1), none]) ⟨rfl, ⟨rfl, trivial⟩⟩ ?_
        exact kB_Body_block_54 ho hmo hG hc0 hs0 hcc hss hC hS
      · rw [if_neg q48] at hG
        refine ab_aload_n d_Body_block_35 rfl rfl rfl ?_
        obtain ⟨a49, e50, hF⟩ := rf_s hG; clear hG
        refine hp_getR (f := 1) d_Body_block_36 q43 (by decide) rfl (by decide) (k1 158 rfl rfl) rfl e50 ?_
        refine ab_iconst (v := 1) d_Body_block_39 (by decide) ?_
        obtain ⟨q51, hG⟩ := ck_s hF; clear hF
        obtain ⟨v53, H54, z52, hF⟩ := bC_s hG; clear hG
        refine hp_callV_a (v := .int v53) (H1 := H54) (As := [.int 1]) (rest := []) d_Body_block_40 (k_Program_add z52) (ab_mkC s_Program_add (show 0 + 1 ≤ fr + 5 from by have := ho.1; omega) (show 8 + (2 + 11) + 0 ≤ lo + 110 from by have := ho.2.1; omega) (show (H.sh.length - c0) + 0 ≤ C from by omega) (show (H.sl - s0) + 0 ≤ Sl from by omega)) (k5 117 rfl rfl) i_Program_add v_Program_add q51 (by decide) rfl rfl (Nat.le_of_ble_eq_true rfl) ?_
        have s_19 : Sa H H54 := (m_Program_add z52)
        refine ab_widen (cells' := H.sh.length - c0) (slots' := H.sl - s0) (by show (H.sh.length - c0) + 0 ≤ _; omega) (by show (H.sl - s0) + 0 ≤ _; omega) ?_
        refine ab_pop d_Body_block_43 rfl ?_
        refine ab_aload_n d_Body_block_44 rfl rfl rfl ?_
        refine bT_c hF (fun x58 H57 z55 er => ?_) (fun v56 H57 z55 hG => ?_)
        · subst er
          refine ab_widen (cells' := H54.sh.length - c0) (slots' := H54.sl - s0) (by rw [(s_19).1]; exact Nat.le_refl _) (by rw [(s_19).2]; exact Nat.le_refl _) ?_
          have mz : Mo H54 H57 := (m_Body_readStatement hmo z55)
          have ml := mz.len
          have m2 := mz.2
          have be := congrArg List.length (s_19).1
          have bfx := (s_19).2
          have hC9 : H57.sh.length ≤ c0 + C := hC
          have hS9 : H57.sl ≤ s0 + Sl := hS
          refine hp_callV_t (x := x58) (H1 := H57) (As := []) (rest := []) d_Body_block_45 (k_Body_readStatement ho hmo z55 (C := H57.sh.length - H54.sh.length) (Sl := H57.sl - H54.sl) (by show H57.sh.length ≤ _; omega) (by show H57.sl ≤ _; omega)) (ab_mkC s_Body_readStatement (show (fr + 4) + 1 ≤ fr + 5 from by have := ho.1; omega) (show 8 + (1 + 11) + (lo + 90) ≤ lo + 110 from by have := ho.2.1; omega) (show (H54.sh.length - c0) + (H57.sh.length - H54.sh.length) ≤ C from by omega) (show (H54.sl - s0) + (H57.sl - H54.sl) ≤ Sl from by omega)) (k5 121 rfl rfl) i_Body_readStatement v_Body_readStatement (by rw [(s_19).1]; exact q43) (by decide) rfl rfl (Nat.le_of_ble_eq_true rfl) ?_
          exact ab_U_out rfl (by show _ + (H57.sh.length - H54.sh.length) ≤ C; omega) (by show _ + (H57.sl - H54.sl) ≤ Sl; omega) ⟨rfl, rfl⟩
        clear hF
        refine ab_widen (cells' := H54.sh.length - c0) (slots' := H54.sl - s0) (by rw [(s_19).1]; exact Nat.le_refl _) (by rw [(s_19).2]; exact Nat.le_refl _) ?_
        have mz_20 : Mo H54 H57 := (m_Body_readStatement hmo z55)
        have b_21l := (mz_20).len
        have b_21s := (mz_20).2
        have b_21e := congrArg List.length (s_19).1
        have b_21f := (s_19).2
        have b_21c : c0 ≤ H57.sh.length := by omega
        have b_21d : s0 ≤ H57.sl := by omega
        have q_22 := (mz_20).get (by rw [(s_19).1]; exact q43)
        have q_23 := (mz_20).get (by rw [(s_19).1]; exact q46)
        have q_24 := (mz_20).get (by rw [(s_19).1]; exact q51)
        have fH57 : Mo H57 r.2 := by
          have hm := Mo.rf H57
          exact hm.tr (mB_Body_block_16 hmo n l1 (l2 + 1) H57 r hG)
        have b_21m := (fH57).len
        have b_21n := (fH57).2
        have b_21p : H57.sh.length ≤ c0 + C := by omega
        have b_21q : H57.sl ≤ s0 + Sl := by omega
        refine hp_callV_v (H1 := H57) (As := []) (rest := []) d_Body_block_45 (k_Body_readStatement ho hmo z55 (C := H57.sh.length - H54.sh.length) (Sl := H57.sl - H54.sl) (by show H57.sh.length ≤ _; omega) (by show H57.sl ≤ _; omega)) (ab_mkC s_Body_readStatement (show (fr + 4) + 1 ≤ fr + 5 from by have := ho.1; omega) (show 8 + (1 + 11) + (lo + 90) ≤ lo + 110 from by have := ho.2.1; omega) (show (H54.sh.length - c0) + (H57.sh.length - H54.sh.length) ≤ C from by omega) (show (H54.sl - s0) + (H57.sl - H54.sl) ≤ Sl from by omega)) (k5 121 rfl rfl) i_Body_readStatement v_Body_readStatement (by rw [(s_19).1]; exact q43) (by decide) rfl rfl (Nat.le_of_ble_eq_true rfl) ?_
        refine ab_widen (cells' := H57.sh.length - c0) (slots' := H57.sl - s0) (by show _ + (H57.sh.length - H54.sh.length) ≤ _; omega) (by show _ + (H57.sl - H54.sl) ≤ _; omega) ?_
        clear b_21l b_21s b_21m b_21n b_21e b_21f
        refine ab_iinc (v := l2 + 1) (lv' := [some (.ref p0), some (.int l1), some (.int (l2 + 1))]) d_Body_block_48 rfl rfl (by decide) rfl ?_
        refine ab_goto (tgt := 16) d_Body_block_51 (by decide) ?_
        exact ih l1 (l2 + 1) H57 r hG b_21c b_21d b_21p b_21q hC hS
def F_Body_block (N : Nat) (o : Orc_BodyS) (p0 : Nat) (H : Hp) : Option ((Ot Unit) × Hp) :=
    ck (H.sh[p0]? = some (6, 0)) <|
    bnd ((H.D p0 3)) fun x2 =>
    rf (H.P p0 0) fun a3 =>
    ck (H.sh[a3]? = some (1, 0)) <|
    bT (F_Lexer_take N a3 (10 : Int32) H) fun v7 H8 =>
    B_Body_block_16 N o p0 N x2 0 H8
set_option maxRecDepth 20000 in
set_option maxHeartbeats 2000000 in
theorem m_Body_block {N : Nat} {o : Orc_BodyS} (hmo : mo_BodyS o) {p0 : Nat} {H : Hp} {r : (Ot Unit) × Hp} (hF : F_Body_block N o p0 H = some r) : Mo H r.2 := by
  unfold F_Body_block at hF
  have hm := Mo.rf H
  obtain ⟨q10, hG⟩ := ck_s hF; clear hF
  obtain ⟨x11, -, hF⟩ := bnd_g hG; clear hG
  obtain ⟨a12, e13, hG⟩ := rf_s hF; clear hF
  obtain ⟨q14, hF⟩ := ck_s hG; clear hG
  refine bT_c hF (fun x18 H17 z15 er => ?_) (fun v16 H17 z15 hG => ?_)
  · subst er; exact hm.tr (m_Lexer_take z15)
  clear hF
  replace hm : Mo H H17 := hm.tr (m_Lexer_take z15)
  exact hm.tr (mB_Body_block_16 hmo N x11 0 H17 r hG)
set_option maxRecDepth 20000 in
set_option maxHeartbeats 2000000 in
theorem k_Body_block {N : Nat} {o : Orc_BodyS} {fr lo : Nat} (ho : ok_BodyS o fr lo) (hmo : mo_BodyS o) {p0 : Nat} {H : Hp} {r : (Ot Unit) × Hp} {C Sl : Nat} (hF : F_Body_block N o p0 H = some r) (hC : r.2.sh.length ≤ H.sh.length + C) (hS : r.2.sl ≤ H.sl + Sl) : ab_M y_Body_block { frames := fr + 5, cells := C, slots := Sl, locals := lo + 110 } [.ref p0] (hpw H) (po (oV r.1) r.2) := by
  unfold F_Body_block at hF
  obtain ⟨c0, e0⟩ : ∃ q, q = H.sh.length := ⟨_, rfl⟩
  obtain ⟨s0, e1⟩ : ∃ q, q = H.sl := ⟨_, rfl⟩
  rw [← e0] at hC
  rw [← e1] at hS
  have hc0 : c0 ≤ H.sh.length := Nat.le_of_eq e0
  have hs0 : s0 ≤ H.sl := Nat.le_of_eq e1
  have hcc : H.sh.length ≤ c0 + C := by omega
  have hss : H.sl ≤ s0 + Sl := by omega
  refine ab_of2 (lv := [some (.ref p0), none, none]) 2 rfl rfl (Nat.le_of_ble_eq_true rfl) ?_
  refine ab_widen (cells' := H.sh.length - c0) (slots' := H.sl - s0) (Nat.zero_le _) (Nat.zero_le _) ?_
  refine ab_aload_n d_Body_block_0 rfl rfl rfl ?_
  obtain ⟨q1, hG⟩ := ck_s hF; clear hF
  refine hp_getI (f := 3) d_Body_block_1 q1 (by decide) rfl (by decide) (k1 160 rfl rfl) rfl ?_
  refine ab_topi (fun x2 ex2 => ?_)
  replace hG := bnd_s ex2 hG
  refine ab_istore_n (lv' := [some (.ref p0), some (.int x2), none]) d_Body_block_4 rfl (by decide) rfl ?_
  refine ab_aload_n d_Body_block_5 rfl rfl rfl ?_
  obtain ⟨a3, e4, hF⟩ := rf_s hG; clear hG
  refine hp_getR (f := 0) d_Body_block_6 q1 (by decide) rfl (by decide) (k1 157 rfl rfl) rfl e4 ?_
  refine ab_bipush (v := 10) d_Body_block_9 (by decide) ?_
  obtain ⟨q5, hG⟩ := ck_s hF; clear hF
  refine bT_c hG (fun x9 H8 z6 er => ?_) (fun v7 H8 z6 hF => ?_)
  · subst er
    have mz : Mo H H8 := (m_Lexer_take z6)
    have ml := mz.len
    have m2 := mz.2
    have hC9 : H8.sh.length ≤ c0 + C := hC
    have hS9 : H8.sl ≤ s0 + Sl := hS
    refine hp_callV_t (x := x9) (H1 := H8) (As := [.int 10]) (rest := []) d_Body_block_11 (k_Lexer_take z6 (C := H8.sh.length - H.sh.length) (Sl := H8.sl - H.sl) (by show H8.sh.length ≤ _; omega) (by show H8.sl ≤ _; omega)) (ab_mkC s_Lexer_take (show 7 + 1 ≤ fr + 5 from by have := ho.1; omega) (show 8 + (2 + 11) + 122 ≤ lo + 110 from by have := ho.2.1; omega) (show (H.sh.length - c0) + (H8.sh.length - H.sh.length) ≤ C from by omega) (show (H.sl - s0) + (H8.sl - H.sl) ≤ Sl from by omega)) (k5 116 rfl rfl) i_Lexer_take v_Lexer_take q5 (by decide) rfl rfl (Nat.le_of_ble_eq_true rfl) ?_
    exact ab_U_out rfl (by show _ + (H8.sh.length - H.sh.length) ≤ C; omega) (by show _ + (H8.sl - H.sl) ≤ Sl; omega) ⟨rfl, rfl⟩
  clear hG
  have mz_1 : Mo H H8 := (m_Lexer_take z6)
  have b_2l := (mz_1).len
  have b_2s := (mz_1).2
  have b_2c : c0 ≤ H8.sh.length := by omega
  have b_2d : s0 ≤ H8.sl := by omega
  have q_3 := (mz_1).get q1
  have q_4 := (mz_1).get q5
  have fH8 : Mo H8 r.2 := by
    have hm := Mo.rf H8
    exact hm.tr (mB_Body_block_16 hmo N x2 0 H8 r hF)
  have b_2m := (fH8).len
  have b_2n := (fH8).2
  have b_2p : H8.sh.length ≤ c0 + C := by omega
  have b_2q : H8.sl ≤ s0 + Sl := by omega
  refine hp_callV_v (H1 := H8) (As := [.int 10]) (rest := []) d_Body_block_11 (k_Lexer_take z6 (C := H8.sh.length - H.sh.length) (Sl := H8.sl - H.sl) (by show H8.sh.length ≤ _; omega) (by show H8.sl ≤ _; omega)) (ab_mkC s_Lexer_take (show 7 + 1 ≤ fr + 5 from by have := ho.1; omega) (show 8 + (2 + 11) + 122 ≤ lo + 110 from by have := ho.2.1; omega) (show (H.sh.length - c0) + (H8.sh.length - H.sh.length) ≤ C from by omega) (show (H.sl - s0) + (H8.sl - H.sl) ≤ Sl from by omega)) (k5 116 rfl rfl) i_Lexer_take v_Lexer_take q5 (by decide) rfl rfl (Nat.le_of_ble_eq_true rfl) ?_
  refine ab_widen (cells' := H8.sh.length - c0) (slots' := H8.sl - s0) (by show _ + (H8.sh.length - H.sh.length) ≤ _; omega) (by show _ + (H8.sl - H.sl) ≤ _; omega) ?_
  clear b_2l b_2s b_2m b_2n
  refine ab_iconst (v := 0) d_Body_block_14 (by decide) ?_
  refine ab_istore_n (lv' := [some (.ref p0), some (.int x2), some (.int 0)]) d_Body_block_15 rfl (by decide) rfl ?_
  exact kB_Body_block_16 ho hmo N x2 0 H8 r hF b_2c b_2d b_2p b_2q hC hS
def X_BodyS (N : Nat) : Nat → Orc_BodyS
  | 0 => (fun _ _ => none)
  | d + 1 => (fun a0 H => F_Body_block N (X_BodyS N d) a0 H)
termination_by structural d => d
theorem moX_BodyS {N : Nat} : ∀ d, mo_BodyS (X_BodyS N d) := by
  intro d
  induction d with
  | zero => exact (fun _ _ _ hz => absurd (show none = some _ from hz) (by simp))
  | succ d ih => exact (fun _ _ _ hz => m_Body_block ih hz)
theorem okX_BodyS {N : Nat} : ∀ d, ok_BodyS (X_BodyS N d) (571 + 5 * d) (13524 + 110 * d) := by
  intro d
  induction d with
  | zero => exact ⟨Nat.le_refl _, Nat.le_refl _, (fun _ _ _ hz => absurd (show none = some _ from hz) (by simp))⟩
  | succ d ih => exact ⟨by omega, by omega, (fun _ _ _ hz _ _ hC hS => k_Body_block ih (moX_BodyS d) hz hC hS)⟩
def y_Reader_readAll : ab_Y := (⟨"WorldEngine$Reader", "readAll", "(LWorldEngine$Program;)Z"⟩, prog_7_method_2_code, 4, (some FieldType.boolean), [(21, 152, 155, 72)])
theorem d_Reader_readAll_0 : decode y_Reader_readAll.2.1 0 = .ok (.aload_n 0, 1) := by decide +kernel
theorem d_Reader_readAll_1 : decode y_Reader_readAll.2.1 1 = .ok (.aload_n 1, 1) := by decide +kernel
theorem d_Reader_readAll_2 : decode y_Reader_readAll.2.1 2 = .ok (.putfield 22, 3) := by decide +kernel
theorem d_Reader_readAll_5 : decode y_Reader_readAll.2.1 5 = .ok (.aload_n 0, 1) := by decide +kernel
theorem d_Reader_readAll_6 : decode y_Reader_readAll.2.1 6 = .ok (.getfield 22, 3) := by decide +kernel
theorem d_Reader_readAll_9 : decode y_Reader_readAll.2.1 9 = .ok (.invokevirtual 26, 3) := by decide +kernel
theorem d_Reader_readAll_12 : decode y_Reader_readAll.2.1 12 = .ok (.aload_n 0, 1) := by decide +kernel
theorem d_Reader_readAll_13 : decode y_Reader_readAll.2.1 13 = .ok (.getfield 7, 3) := by decide +kernel
theorem d_Reader_readAll_16 : decode y_Reader_readAll.2.1 16 = .ok (.invokevirtual 31, 3) := by decide +kernel
theorem d_Reader_readAll_19 : decode y_Reader_readAll.2.1 19 = .ok (.iconst 1, 1) := by decide +kernel
theorem d_Reader_readAll_20 : decode y_Reader_readAll.2.1 20 = .ok (.istore_n 2, 1) := by decide +kernel
theorem d_Reader_readAll_21 : decode y_Reader_readAll.2.1 21 = .ok (.iconst 0, 1) := by decide +kernel
theorem d_Reader_readAll_22 : decode y_Reader_readAll.2.1 22 = .ok (.istore_n 3, 1) := by decide +kernel
theorem d_Reader_readAll_23 : decode y_Reader_readAll.2.1 23 = .ok (.iload_n 3, 1) := by decide +kernel
theorem d_Reader_readAll_24 : decode y_Reader_readAll.2.1 24 = .ok (.sipush 6000, 3) := by decide +kernel
theorem d_Reader_readAll_27 : decode y_Reader_readAll.2.1 27 = .ok (.if_icmp .gt 125, 3) := by decide +kernel
theorem d_Reader_readAll_30 : decode y_Reader_readAll.2.1 30 = .ok (.aload_n 0, 1) := by decide +kernel
theorem d_Reader_readAll_31 : decode y_Reader_readAll.2.1 31 = .ok (.getfield 7, 3) := by decide +kernel
theorem d_Reader_readAll_34 : decode y_Reader_readAll.2.1 34 = .ok (.getfield 36, 3) := by decide +kernel
theorem d_Reader_readAll_37 : decode y_Reader_readAll.2.1 37 = .ok (.ifCond .eq 115, 3) := by decide +kernel
theorem d_Reader_readAll_40 : decode y_Reader_readAll.2.1 40 = .ok (.aload_n 0, 1) := by decide +kernel
theorem d_Reader_readAll_41 : decode y_Reader_readAll.2.1 41 = .ok (.getfield 7, 3) := by decide +kernel
theorem d_Reader_readAll_44 : decode y_Reader_readAll.2.1 44 = .ok (.getfield 36, 3) := by decide +kernel
theorem d_Reader_readAll_47 : decode y_Reader_readAll.2.1 47 = .ok (.tableswitch 84 40 43 #[29, 36, 43, 50], 29) := by decide +kernel
theorem d_Reader_readAll_76 : decode y_Reader_readAll.2.1 76 = .ok (.aload_n 0, 1) := by decide +kernel
theorem d_Reader_readAll_77 : decode y_Reader_readAll.2.1 77 = .ok (.invokevirtual 40, 3) := by decide +kernel
theorem d_Reader_readAll_80 : decode y_Reader_readAll.2.1 80 = .ok (.goto 66, 3) := by decide +kernel
theorem d_Reader_readAll_83 : decode y_Reader_readAll.2.1 83 = .ok (.aload_n 0, 1) := by decide +kernel
theorem d_Reader_readAll_84 : decode y_Reader_readAll.2.1 84 = .ok (.invokevirtual 43, 3) := by decide +kernel
theorem d_Reader_readAll_87 : decode y_Reader_readAll.2.1 87 = .ok (.goto 59, 3) := by decide +kernel
theorem d_Reader_readAll_90 : decode y_Reader_readAll.2.1 90 = .ok (.aload_n 0, 1) := by decide +kernel
theorem d_Reader_readAll_91 : decode y_Reader_readAll.2.1 91 = .ok (.invokevirtual 46, 3) := by decide +kernel
theorem d_Reader_readAll_94 : decode y_Reader_readAll.2.1 94 = .ok (.goto 52, 3) := by decide +kernel
theorem d_Reader_readAll_97 : decode y_Reader_readAll.2.1 97 = .ok (.aload_n 0, 1) := by decide +kernel
theorem d_Reader_readAll_98 : decode y_Reader_readAll.2.1 98 = .ok (.invokevirtual 49, 3) := by decide +kernel
theorem d_Reader_readAll_101 : decode y_Reader_readAll.2.1 101 = .ok (.aload_n 0, 1) := by decide +kernel
theorem d_Reader_readAll_102 : decode y_Reader_readAll.2.1 102 = .ok (.getfield 18, 3) := by decide +kernel
theorem d_Reader_readAll_105 : decode y_Reader_readAll.2.1 105 = .ok (.aload_n 0, 1) := by decide +kernel
theorem d_Reader_readAll_106 : decode y_Reader_readAll.2.1 106 = .ok (.getfield 22, 3) := by decide +kernel
theorem d_Reader_readAll_109 : decode y_Reader_readAll.2.1 109 = .ok (.invokevirtual 52, 3) := by decide +kernel
theorem d_Reader_readAll_112 : decode y_Reader_readAll.2.1 112 = .ok (.aload_n 0, 1) := by decide +kernel
theorem d_Reader_readAll_113 : decode y_Reader_readAll.2.1 113 = .ok (.getfield 18, 3) := by decide +kernel
theorem d_Reader_readAll_116 : decode y_Reader_readAll.2.1 116 = .ok (.invokevirtual 56, 3) := by decide +kernel
theorem d_Reader_readAll_119 : decode y_Reader_readAll.2.1 119 = .ok (.aload_n 0, 1) := by decide +kernel
theorem d_Reader_readAll_120 : decode y_Reader_readAll.2.1 120 = .ok (.getfield 22, 3) := by decide +kernel
theorem d_Reader_readAll_123 : decode y_Reader_readAll.2.1 123 = .ok (.iconst 0, 1) := by decide +kernel
theorem d_Reader_readAll_124 : decode y_Reader_readAll.2.1 124 = .ok (.invokevirtual 61, 3) := by decide +kernel
theorem d_Reader_readAll_127 : decode y_Reader_readAll.2.1 127 = .ok (.pop, 1) := by decide +kernel
theorem d_Reader_readAll_128 : decode y_Reader_readAll.2.1 128 = .ok (.goto 18, 3) := by decide +kernel
theorem d_Reader_readAll_131 : decode y_Reader_readAll.2.1 131 = .ok (.aload_n 0, 1) := by decide +kernel
theorem d_Reader_readAll_132 : decode y_Reader_readAll.2.1 132 = .ok (.getfield 7, 3) := by decide +kernel
theorem d_Reader_readAll_135 : decode y_Reader_readAll.2.1 135 = .ok (.iconst 1, 1) := by decide +kernel
theorem d_Reader_readAll_136 : decode y_Reader_readAll.2.1 136 = .ok (.aload_n 0, 1) := by decide +kernel
theorem d_Reader_readAll_137 : decode y_Reader_readAll.2.1 137 = .ok (.getfield 7, 3) := by decide +kernel
theorem d_Reader_readAll_140 : decode y_Reader_readAll.2.1 140 = .ok (.getfield 65, 3) := by decide +kernel
theorem d_Reader_readAll_143 : decode y_Reader_readAll.2.1 143 = .ok (.invokevirtual 68, 3) := by decide +kernel
theorem d_Reader_readAll_146 : decode y_Reader_readAll.2.1 146 = .ok (.iinc 3 1, 3) := by decide +kernel
theorem d_Reader_readAll_149 : decode y_Reader_readAll.2.1 149 = .ok (.goto (-126), 3) := by decide +kernel
theorem d_Reader_readAll_152 : decode y_Reader_readAll.2.1 152 = .ok (.goto 6, 3) := by decide +kernel
theorem d_Reader_readAll_155 : decode y_Reader_readAll.2.1 155 = .ok (.astore_n 3, 1) := by decide +kernel
theorem d_Reader_readAll_156 : decode y_Reader_readAll.2.1 156 = .ok (.iconst 0, 1) := by decide +kernel
theorem d_Reader_readAll_157 : decode y_Reader_readAll.2.1 157 = .ok (.istore_n 2, 1) := by decide +kernel
theorem d_Reader_readAll_158 : decode y_Reader_readAll.2.1 158 = .ok (.aload_n 0, 1) := by decide +kernel
theorem d_Reader_readAll_159 : decode y_Reader_readAll.2.1 159 = .ok (.getfield 7, 3) := by decide +kernel
theorem d_Reader_readAll_162 : decode y_Reader_readAll.2.1 162 = .ok (.iconst 0, 1) := by decide +kernel
theorem d_Reader_readAll_163 : decode y_Reader_readAll.2.1 163 = .ok (.putfield 74, 3) := by decide +kernel
theorem d_Reader_readAll_166 : decode y_Reader_readAll.2.1 166 = .ok (.iload_n 2, 1) := by decide +kernel
theorem d_Reader_readAll_167 : decode y_Reader_readAll.2.1 167 = .ok (.ireturn, 1) := by decide +kernel
theorem s_Reader_readAll : ab_Stat y_Reader_readAll 1 := ⟨(k3 208 rfl rfl), (k1 7 rfl rfl), ⟨by decide, by decide⟩, by decide +kernel⟩
theorem i_Reader_readAll : Cond.instanceMethod y_Reader_readAll.1 ∈ ab_T := (k3 206 rfl rfl)
theorem v_Reader_readAll : Cond.selects "WorldEngine$Reader" y_Reader_readAll.1 y_Reader_readAll.1 ∈ ab_T := (k3 207 rfl rfl)
def B_Reader_readAll_152 (N : Nat) (p0 : Nat) (p1 : Nat) (l2 : Int32) (H : Hp) : Option (Int32 × Hp) :=
    ck (H.sh[p0]? = some (5, 0)) <|
    rf (H.P p0 0) fun a17 =>
    ck (H.sh[a17]? = some (1, 0)) <|
    bnd (H.sD a17 1 (0 : Int32)) fun H20 =>
    ck (l2 &&& 1 = l2) <|
    some (l2, H20)
set_option maxRecDepth 20000 in
set_option maxHeartbeats 2000000 in
theorem mB_Reader_readAll_152 {N : Nat} {p0 : Nat} {p1 : Nat} {l2 : Int32} {H : Hp} {r : Int32 × Hp} (hF : B_Reader_readAll_152 N p0 p1 l2 H = some r) : Mo H r.2 := by
  unfold B_Reader_readAll_152 at hF
  have hm := Mo.rf H
  obtain ⟨q22, hG⟩ := ck_s hF; clear hF
  obtain ⟨a23, e24, hF⟩ := rf_s hG; clear hG
  obtain ⟨q25, hG⟩ := ck_s hF; clear hF
  obtain ⟨H26, eH26, hF⟩ := bnd_g hG; clear hG
  replace hm : Mo H H26 := by rw [eH26]; exact hm
  obtain ⟨q27, hG⟩ := ck_s hF; clear hF
  have hr := Option.some.inj hG; subst hr
  exact hm
set_option maxRecDepth 20000 in
set_option maxHeartbeats 2000000 in
theorem kB_Reader_readAll_152 {N : Nat} {p0 : Nat} {p1 : Nat} {c0 s0 C Sl : Nat} {l2 : Int32} {H : Hp} {r : Int32 × Hp} (hF : B_Reader_readAll_152 N p0 p1 l2 H = some r) (hc0 : c0 ≤ H.sh.length) (hs0 : s0 ≤ H.sl) (hcc : H.sh.length ≤ c0 + C) (hss : H.sl ≤ s0 + Sl) (hC : r.2.sh.length ≤ c0 + C) (hS : r.2.sl ≤ s0 + Sl) : ab_V y_Reader_readAll { frames := 692, cells := C, slots := Sl, locals := 16186 } (po (.returned (some (.int r.1))) r.2) C Sl (H.sh.length - c0) (H.sl - s0) 152 [some (.ref p0), some (.ref p1), some (.int l2), none] [] (hpw H) := by
  unfold B_Reader_readAll_152 at hF
  refine ab_goto (tgt := 158) d_Reader_readAll_152 (by decide) ?_
  refine ab_aload_n d_Reader_readAll_158 rfl rfl rfl ?_
  obtain ⟨q16, hG⟩ := ck_s hF; clear hF
  obtain ⟨a17, e18, hF⟩ := rf_s hG; clear hG
  refine hp_getR (f := 0) d_Reader_readAll_159 q16 (by decide) rfl (by decide) (k1 179 rfl rfl) rfl e18 ?_
  refine ab_iconst (v := 0) d_Reader_readAll_162 (by decide) ?_
  obtain ⟨q19, hG⟩ := ck_s hF; clear hF
  refine hp_putI (v := 0) (f := 1) d_Reader_readAll_163 q19 (by decide) rfl (by decide) (k1 96 rfl rfl) rfl rfl (fun _ => rfl) (fun _ => rfl) rfl ?_
  refine hp_gen (fun H20 eH20 => ?_)
  replace hG := bnd_s eH20 hG
  have s_6 : Sa H H20 := by rw [eH20]; exact Sa.rf _
  refine ab_iload_n d_Reader_readAll_166 rfl rfl ?_
  obtain ⟨q21, hF⟩ := ck_s hG; clear hG
  exact ab_zret d_Reader_readAll_167 rfl (congrArg Value.int q21) (by show _ ≤ C; omega) (by show _ ≤ Sl; omega) (by have hr := Option.some.inj hF; subst hr; exact ⟨rfl, rfl⟩)
def B_Reader_readAll_155 (N : Nat) (p0 : Nat) (p1 : Nat) (w0 : Nat) (H : Hp) : Option (Int32 × Hp) :=
    ck (H.sh[p0]? = some (5, 0)) <|
    rf (H.P p0 0) fun a45 =>
    ck (H.sh[a45]? = some (1, 0)) <|
    bnd (H.sD a45 1 (0 : Int32)) fun H48 =>
    some (0, H48)
set_option maxRecDepth 20000 in
set_option maxHeartbeats 2000000 in
theorem mB_Reader_readAll_155 {N : Nat} {p0 : Nat} {p1 : Nat} {w0 : Nat} {H : Hp} {r : Int32 × Hp} (hF : B_Reader_readAll_155 N p0 p1 w0 H = some r) : Mo H r.2 := by
  unfold B_Reader_readAll_155 at hF
  have hm := Mo.rf H
  obtain ⟨q49, hG⟩ := ck_s hF; clear hF
  obtain ⟨a50, e51, hF⟩ := rf_s hG; clear hG
  obtain ⟨q52, hG⟩ := ck_s hF; clear hF
  obtain ⟨H53, eH53, hF⟩ := bnd_g hG; clear hG
  replace hm : Mo H H53 := by rw [eH53]; exact hm
  have hr := Option.some.inj hF; subst hr
  exact hm
set_option maxRecDepth 20000 in
set_option maxHeartbeats 2000000 in
theorem kB_Reader_readAll_155 {N : Nat} {p0 : Nat} {p1 : Nat} {c0 s0 C Sl : Nat} {w0 : Nat} {H : Hp} {r : Int32 × Hp} (hF : B_Reader_readAll_155 N p0 p1 w0 H = some r) (hc0 : c0 ≤ H.sh.length) (hs0 : s0 ≤ H.sl) (hcc : H.sh.length ≤ c0 + C) (hss : H.sl ≤ s0 + Sl) (hC : r.2.sh.length ≤ c0 + C) (hS : r.2.sl ≤ s0 + Sl) : ab_V y_Reader_readAll { frames := 692, cells := C, slots := Sl, locals := 16186 } (po (.returned (some (.int r.1))) r.2) C Sl (H.sh.length - c0) (H.sl - s0) 155 [some (.ref p0), some (.ref p1), none, none] [.ref w0] (hpw H) := by
  unfold B_Reader_readAll_155 at hF
  refine ab_astore_n (lv' := [some (.ref p0), some (.ref p1), none, some (.ref w0)]) d_Reader_readAll_155 rfl (by decide) rfl rfl ?_
  refine ab_iconst (v := 0) d_Reader_readAll_156 (by decide) ?_
  refine ab_istore_n (lv' := [some (.ref p0), some (.ref p1), some (.int 0), some (.ref w0)]) d_Reader_readAll_157 rfl (by decide) rfl ?_
  refine ab_aload_n d_Reader_readAll_158 rfl rfl rfl ?_
  obtain ⟨q44, hG⟩ := ck_s hF; clear hF
  obtain ⟨a45, e46, hF⟩ := rf_s hG; clear hG
  refine hp_getR (f := 0) d_Reader_readAll_159 q44 (by decide) rfl (by decide) (k1 179 rfl rfl) rfl e46 ?_
  refine ab_iconst (v := 0) d_Reader_readAll_162 (by decide) ?_
  obtain ⟨q47, hG⟩ := ck_s hF; clear hF
  refine hp_putI (v := 0) (f := 1) d_Reader_readAll_163 q47 (by decide) rfl (by decide) (k1 96 rfl rfl) rfl rfl (fun _ => rfl) (fun _ => rfl) rfl ?_
  refine hp_gen (fun H48 eH48 => ?_)
  replace hG := bnd_s eH48 hG
  have s_9 : Sa H H48 := by rw [eH48]; exact Sa.rf _
  refine ab_iload_n d_Reader_readAll_166 rfl rfl ?_
  exact ab_zret d_Reader_readAll_167 rfl rfl (by show _ ≤ C; omega) (by show _ ≤ Sl; omega) (by have hr := Option.some.inj hG; subst hr; exact ⟨rfl, rfl⟩)
def B_Reader_readAll_146 (N : Nat) (p0 : Nat) (p1 : Nat) (kq23 : Int32 → Int32 → Hp → Option (Int32 × Hp)) (l2 : Int32) (l3 : Int32) (H : Hp) : Option (Int32 × Hp) :=
    kq23 l2 (l3 + 1) H
set_option maxRecDepth 20000 in
set_option maxHeartbeats 2000000 in
theorem mB_Reader_readAll_146 {N : Nat} {p0 : Nat} {p1 : Nat} {kq23 : Int32 → Int32 → Hp → Option (Int32 × Hp)} (hm23 : ∀ (l2 : Int32) (l3 : Int32) (H : Hp) (r : Int32 × Hp), kq23 l2 l3 H = some r → Mo H r.2) {l2 : Int32} {l3 : Int32} {H : Hp} {r : Int32 × Hp} (hF : B_Reader_readAll_146 N p0 p1 kq23 l2 l3 H = some r) : Mo H r.2 := by
  unfold B_Reader_readAll_146 at hF
  have hm := Mo.rf H
  exact hm.tr (hm23 l2 (l3 + 1) H r hF)
set_option maxRecDepth 20000 in
set_option maxHeartbeats 2000000 in
theorem kB_Reader_readAll_146 {N : Nat} {p0 : Nat} {p1 : Nat} {kq23 : Int32 → Int32 → Hp → Option (Int32 × Hp)} {c0 s0 C Sl : Nat} (hm23 : ∀ (l2 : Int32) (l3 : Int32) (H : Hp) (r : Int32 × Hp), kq23 l2 l3 H = some r → Mo H r.2) (hk23 : ∀ (l2 : Int32) (l3 : Int32) (H : Hp) (r : Int32 × Hp), kq23 l2 l3 H = some r → c0 ≤ H.sh.length → s0 ≤ H.sl → H.sh.length ≤ c0 + C → H.sl ≤ s0 + Sl → r.2.sh.length ≤ c0 + C → r.2.sl ≤ s0 + Sl → ab_V y_Reader_readAll { frames := 692, cells := C, slots := Sl, locals := 16186 } (po (.returned (some (.int r.1))) r.2) C Sl (H.sh.length - c0) (H.sl - s0) 23 [some (.ref p0), some (.ref p1), some (.int l2), some (.int l3)] [] (hpw H)) {l2 : Int32} {l3 : Int32} {H : Hp} {r : Int32 × Hp} (hF : B_Reader_readAll_146 N p0 p1 kq23 l2 l3 H = some r) (hc0 : c0 ≤ H.sh.length) (hs0 : s0 ≤ H.sl) (hcc : H.sh.length ≤ c0 + C) (hss : H.sl ≤ s0 + Sl) (hC : r.2.sh.length ≤ c0 + C) (hS : r.2.sl ≤ s0 + Sl) : ab_V y_Reader_readAll { frames := 692, cells := C, slots := Sl, locals := 16186 } (po (.returned (some (.int r.1))) r.2) C Sl (H.sh.length - c0) (H.sl - s0) 146 [some (.ref p0), some (.ref p1), some (.int l2), some (.int l3)] [] (hpw H) := by
  unfold B_Reader_readAll_146 at hF
  refine ab_iinc (v := l3 + 1) (lv' := [some (.ref p0), some (.ref p1), some (.int l2), some (.int (l3 + 1))]) d_Reader_readAll_146 rfl rfl (by decide) rfl ?_
  refine ab_goto (tgt := 23) d_Reader_readAll_149 (by decide) ?_
  exact hk23 l2 (l3 + 1) H r hF hc0 hs0 hcc hss hC hS
def B_Reader_readAll_23 (N : Nat) (p0 : Nat) (p1 : Nat) : Nat → Int32 → Int32 → Hp → Option (Int32 × Hp)
  | 0, _, _, _ => none
  | n + 1, l2, l3, H =>
    if (6000 : Int32) < l3 then
    B_Reader_readAll_152 N p0 p1 l2 H
    else
    ck (H.sh[p0]? = some (5, 0)) <|
    rf (H.P p0 0) fun a29 =>
    ck (H.sh[a29]? = some (1, 0)) <|
    bnd ((H.D a29 2)) fun x32 =>
    if x32 = (0 : Int32) then
    B_Reader_readAll_152 N p0 p1 l2 H
    else
    rf (H.P p0 0) fun a34 =>
    ck (H.sh[a34]? = some (1, 0)) <|
    bnd ((H.D a34 2)) fun x37 =>
    if x37 = 40 then
    bH (F_Reader_readComponent N p0 H) (fun v40 H41 =>
    B_Reader_readAll_146 N p0 p1 (fun l2 l3 H => B_Reader_readAll_23 N p0 p1 n l2 l3 H) l2 l3 H41)
    (fun x42 H41 =>
    ck (H41.sh[x42]? = some (17, 0)) <|
    B_Reader_readAll_155 N p0 p1 x42 H41)
    else if x37 = 41 then
    bH (F_Reader_readEvent N p0 H) (fun v46 H47 =>
    B_Reader_readAll_146 N p0 p1 (fun l2 l3 H => B_Reader_readAll_23 N p0 p1 n l2 l3 H) l2 l3 H47)
    (fun x48 H47 =>
    ck (H47.sh[x48]? = some (17, 0)) <|
    B_Reader_readAll_155 N p0 p1 x48 H47)
    else if x37 = 42 then
    bH (F_Reader_readPrefab N p0 H) (fun v52 H53 =>
    B_Reader_readAll_146 N p0 p1 (fun l2 l3 H => B_Reader_readAll_23 N p0 p1 n l2 l3 H) l2 l3 H53)
    (fun x54 H53 =>
    ck (H53.sh[x54]? = some (17, 0)) <|
    B_Reader_readAll_155 N p0 p1 x54 H53)
    else if x37 = 43 then
    bH (F_Reader_readHead N p0 H) (fun v58 H59 =>
    rf (H59.P p0 1) fun a62 =>
    rf (H59.P p0 2) fun a64 =>
    ck (H59.sh[a62]? = some (6, 0)) <|
    bC (F_Body_open N a62 a64 H59) fun v68 H69 =>
    rf (H69.P p0 1) fun a70 =>
    ck (H69.sh[a70]? = some (6, 0)) <|
    bH ((X_BodyS N 24) a70 H69) (fun v74 H75 =>
    rf (H75.P p0 2) fun a78 =>
    ck (H75.sh[a78]? = some (4, 0)) <|
    bC (F_Program_add N a78 (0 : Int32) H75) fun v82 H83 =>
    B_Reader_readAll_146 N p0 p1 (fun l2 l3 H => B_Reader_readAll_23 N p0 p1 n l2 l3 H) l2 l3 H83)
    (fun x76 H75 =>
    ck (H75.sh[x76]? = some (17, 0)) <|
    B_Reader_readAll_155 N p0 p1 x76 H75))
    (fun x60 H59 =>
    ck (H59.sh[x60]? = some (17, 0)) <|
    B_Reader_readAll_155 N p0 p1 x60 H59)
    else rf (H.P p0 0) fun a84 =>
    rf (H.P p0 0) fun a86 =>
    ck (H.sh[a86]? = some (1, 0)) <|
    bnd ((H.D a86 3)) fun x89 =>
    ck (H.sh[a84]? = some (1, 0)) <|
    bH (F_Lexer_refuse N a84 (1 : Int32) x89 H) (fun v92 H93 =>
    B_Reader_readAll_146 N p0 p1 (fun l2 l3 H => B_Reader_readAll_23 N p0 p1 n l2 l3 H) l2 l3 H93)
    (fun x94 H93 =>
    ck (H93.sh[x94]? = some (17, 0)) <|
    B_Reader_readAll_155 N p0 p1 x94 H93)
termination_by structural n => n
set_option maxRecDepth 20000 in
set_option maxHeartbeats 2000000 in
theorem mB_Reader_readAll_23 {N : Nat} {p0 : Nat} {p1 : Nat} : ∀ (n : Nat) (l2 : Int32) (l3 : Int32) (H : Hp) (r : Int32 × Hp), B_Reader_readAll_23 N p0 p1 n l2 l3 H = some r → Mo H r.2 := by
  intro n
  induction n with
  | zero => intro l2 l3 H r hF; rw [B_Reader_readAll_23] at hF; cases hF
  | succ n ih =>
    intro l2 l3 H r hF
    rw [B_Reader_readAll_23] at hF
    have hm := Mo.rf H
    rcases ite_s hF with ⟨q_62, hG⟩ | ⟨q_62, hG⟩
    · clear hF
      exact hm.tr (mB_Reader_readAll_152 hG)
    · clear hF
      obtain ⟨q97, hF⟩ := ck_s hG; clear hG
      obtain ⟨a98, e99, hG⟩ := rf_s hF; clear hF
      obtain ⟨q100, hF⟩ := ck_s hG; clear hG
      obtain ⟨x101, -, hG⟩ := bnd_g hF; clear hF
      rcases ite_s hG with ⟨q_63, hF⟩ | ⟨q_63, hF⟩
      · clear hG
        exact hm.tr (mB_Reader_readAll_152 hF)
      · clear hG
        obtain ⟨a103, e104, hG⟩ := rf_s hF; clear hF
        obtain ⟨q105, hF⟩ := ck_s hG; clear hG
        obtain ⟨x106, -, hG⟩ := bnd_g hF; clear hF
        rcases ite_s hG with ⟨q_64, hF⟩ | ⟨q_64, hF⟩
        · clear hG
          refine bH_c hF (fun x111 H110 z108 hG => ?_) (fun v109 H110 z108 hG => ?_)
          · clear hF
            replace hm : Mo H H110 := hm.tr (m_Reader_readComponent z108)
            obtain ⟨q112, hF⟩ := ck_s hG; clear hG
            exact hm.tr (mB_Reader_readAll_155 hF)
          clear hF
          replace hm : Mo H H110 := hm.tr (m_Reader_readComponent z108)
          exact hm.tr (mB_Reader_readAll_146 ih hG)
        clear hG
        rcases ite_s hF with ⟨q_69, hG⟩ | ⟨q_69, hG⟩
        · clear hF
          refine bH_c hG (fun x117 H116 z114 hF => ?_) (fun v115 H116 z114 hF => ?_)
          · clear hG
            replace hm : Mo H H116 := hm.tr (m_Reader_readEvent z114)
            obtain ⟨q118, hG⟩ := ck_s hF; clear hF
            exact hm.tr (mB_Reader_readAll_155 hG)
          clear hG
          replace hm : Mo H H116 := hm.tr (m_Reader_readEvent z114)
          exact hm.tr (mB_Reader_readAll_146 ih hF)
        clear hF
        rcases ite_s hG with ⟨q_74, hF⟩ | ⟨q_74, hF⟩
        · clear hG
          refine bH_c hF (fun x123 H122 z120 hG => ?_) (fun v121 H122 z120 hG => ?_)
          · clear hF
            replace hm : Mo H H122 := hm.tr (m_Reader_readPrefab z120)
            obtain ⟨q124, hF⟩ := ck_s hG; clear hG
            exact hm.tr (mB_Reader_readAll_155 hF)
          clear hF
          replace hm : Mo H H122 := hm.tr (m_Reader_readPrefab z120)
          exact hm.tr (mB_Reader_readAll_146 ih hG)
        clear hG
        rcases ite_s hF with ⟨q_79, hG⟩ | ⟨q_79, hG⟩
        · clear hF
          refine bH_c hG (fun x129 H128 z126 hF => ?_) (fun v127 H128 z126 hF => ?_)
          · clear hG
            replace hm : Mo H H128 := hm.tr (m_Reader_readHead z126)
            obtain ⟨q130, hG⟩ := ck_s hF; clear hF
            exact hm.tr (mB_Reader_readAll_155 hG)
          clear hG
          replace hm : Mo H H128 := hm.tr (m_Reader_readHead z126)
          obtain ⟨a131, e132, hG⟩ := rf_s hF; clear hF
          obtain ⟨a133, e134, hF⟩ := rf_s hG; clear hG
          obtain ⟨q135, hG⟩ := ck_s hF; clear hF
          obtain ⟨v137, H138, z136, hF⟩ := bC_s hG; clear hG
          replace hm : Mo H H138 := hm.tr ((m_Body_open z136)).mo
          obtain ⟨a139, e140, hG⟩ := rf_s hF; clear hF
          obtain ⟨q141, hF⟩ := ck_s hG; clear hG
          refine bH_c hF (fun x145 H144 z142 hG => ?_) (fun v143 H144 z142 hG => ?_)
          · clear hF
            replace hm : Mo H H144 := hm.tr ((moX_BodyS 24) _ _ _ z142)
            obtain ⟨q146, hF⟩ := ck_s hG; clear hG
            exact hm.tr (mB_Reader_readAll_155 hF)
          clear hF
          replace hm : Mo H H144 := hm.tr ((moX_BodyS 24) _ _ _ z142)
          obtain ⟨a147, e148, hF⟩ := rf_s hG; clear hG
          obtain ⟨q149, hG⟩ := ck_s hF; clear hF
          obtain ⟨v151, H152, z150, hF⟩ := bC_s hG; clear hG
          replace hm : Mo H H152 := hm.tr ((m_Program_add z150)).mo
          exact hm.tr (mB_Reader_readAll_146 ih hF)
        clear hF
        obtain ⟨a153, e154, hF⟩ := rf_s hG; clear hG
        obtain ⟨a155, e156, hG⟩ := rf_s hF; clear hF
        obtain ⟨q157, hF⟩ := ck_s hG; clear hG
        obtain ⟨x158, -, hG⟩ := bnd_g hF; clear hF
        obtain ⟨q159, hF⟩ := ck_s hG; clear hG
        refine bH_c hF (fun x163 H162 z160 hG => ?_) (fun v161 H162 z160 hG => ?_)
        · clear hF
          replace hm : Mo H H162 := hm.tr (m_Lexer_refuse z160)
          obtain ⟨q164, hF⟩ := ck_s hG; clear hG
          exact hm.tr (mB_Reader_readAll_155 hF)
        clear hF
        replace hm : Mo H H162 := hm.tr (m_Lexer_refuse z160)
        exact hm.tr (mB_Reader_readAll_146 ih hG)
set_option maxRecDepth 20000 in
set_option maxHeartbeats 2000000 in
theorem kB_Reader_readAll_23 {N : Nat} {p0 : Nat} {p1 : Nat} {c0 s0 C Sl : Nat} : ∀ (n : Nat) (l2 : Int32) (l3 : Int32) (H : Hp) (r : Int32 × Hp), B_Reader_readAll_23 N p0 p1 n l2 l3 H = some r → c0 ≤ H.sh.length → s0 ≤ H.sl → H.sh.length ≤ c0 + C → H.sl ≤ s0 + Sl → r.2.sh.length ≤ c0 + C → r.2.sl ≤ s0 + Sl → ab_V y_Reader_readAll { frames := 692, cells := C, slots := Sl, locals := 16186 } (po (.returned (some (.int r.1))) r.2) C Sl (H.sh.length - c0) (H.sl - s0) 23 [some (.ref p0), some (.ref p1), some (.int l2), some (.int l3)] [] (hpw H) := by
  intro n
  induction n with
  | zero => intro l2 l3 H r hF; rw [B_Reader_readAll_23] at hF; cases hF
  | succ n ih =>
    intro l2 l3 H r hF hc0 hs0 hcc hss hC hS
    rw [B_Reader_readAll_23] at hF
    refine ab_iload_n d_Reader_readAll_23 rfl rfl ?_
    refine ab_sipush (v := 6000) d_Reader_readAll_24 (by decide) ?_
    refine ab_icmp_gt (tgt := 152) d_Reader_readAll_27 (by decide) (fun q15 => ?_) (fun q15 => ?_)
    · rw [if_pos q15] at hF
      refine ab_le (lv' := [some (.ref p0), some (.ref p1), some (.int l2), none]) ⟨rfl, ⟨rfl, ⟨rfl, trivial⟩⟩⟩ ?_
      exact kB_Reader_readAll_152 hF hc0 hs0 hcc hss hC hS
    · rw [if_neg q15] at hF
      refine ab_aload_n d_Reader_readAll_30 rfl rfl rfl ?_
      obtain ⟨q28, hG⟩ := ck_s hF; clear hF
      obtain ⟨a29, e30, hF⟩ := rf_s hG; clear hG
      refine hp_getR (f := 0) d_Reader_readAll_31 q28 (by decide) rfl (by decide) (k1 179 rfl rfl) rfl e30 ?_
      obtain ⟨q31, hG⟩ := ck_s hF; clear hF
      refine hp_getI (f := 2) d_Reader_readAll_34 q31 (by decide) rfl (by decide) (k1 98 rfl rfl) rfl ?_
      refine ab_topi (fun x32 ex32 => ?_)
      replace hG := bnd_s ex32 hG
      refine ab_if_eq (tgt := 152) d_Reader_readAll_37 (by decide) (fun q33 => ?_) (fun q33 => ?_)
      · rw [if_pos q33] at hG
        refine ab_le (lv' := [some (.ref p0), some (.ref p1), some (.int l2), none]) ⟨rfl, ⟨rfl, ⟨rfl, trivial⟩⟩⟩ ?_
        exact kB_Reader_readAll_152 hG hc0 hs0 hcc hss hC hS
      · rw [if_neg q33] at hG
        refine ab_aload_n d_Reader_readAll_40 rfl rfl rfl ?_
        obtain ⟨a34, e35, hF⟩ := rf_s hG; clear hG
        refine hp_getR (f := 0) d_Reader_readAll_41 q28 (by decide) rfl (by decide) (k1 179 rfl rfl) rfl e35 ?_
        obtain ⟨q36, hG⟩ := ck_s hF; clear hF
        refine hp_getI (f := 2) d_Reader_readAll_44 q36 (by decide) rfl (by decide) (k1 98 rfl rfl) rfl ?_
        refine ab_topi (fun x37 ex37 => ?_)
        replace hG := bnd_s ex37 hG
        by_cases t38 : x37 = 40
        · rw [if_pos t38] at hG
          refine ab_tableIn (off := 29) (tgt := 76) d_Reader_readAll_47 (by rw [t38]; decide) (by rw [t38]; decide) (by rw [t38]; decide) (by decide) ?_
          refine ab_aload_n d_Reader_readAll_76 rfl rfl rfl ?_
          refine bH_c hG (fun x42 H41 z39 hF => ?_) (fun v40 H41 z39 hF => ?_)
          · clear hG
            have mz : Mo H H41 := (m_Reader_readComponent z39)
            have b_8l := (mz).len
            have b_8s := (mz).2
            have b_8c : c0 ≤ H41.sh.length := by omega
            have b_8d : s0 ≤ H41.sl := by omega
            obtain ⟨q43, hG⟩ := ck_s hF; clear hF
            have fH41 : Mo H41 r.2 := by
              have hm := Mo.rf H41
              exact hm.tr (mB_Reader_readAll_155 hG)
            have b_8m := (fH41).len
            have b_8n := (fH41).2
            have b_8p : H41.sh.length ≤ c0 + C := by omega
            have b_8q : H41.sl ≤ s0 + Sl := by omega
            refine hp_callV_t (x := x42) (H1 := H41) (As := []) (rest := []) d_Reader_readAll_77 (k_Reader_readComponent z39 (C := H41.sh.length - H.sh.length) (Sl := H41.sl - H.sl) (by show H41.sh.length ≤ _; omega) (by show H41.sl ≤ _; omega)) (ab_mkC s_Reader_readComponent (Nat.le_of_ble_eq_true rfl) (Nat.le_of_ble_eq_true rfl) (show (H.sh.length - c0) + (H41.sh.length - H.sh.length) ≤ C from by omega) (show (H.sl - s0) + (H41.sl - H.sl) ≤ Sl from by omega)) (k4 89 rfl rfl) i_Reader_readComponent v_Reader_readComponent q28 (by decide) rfl rfl (Nat.le_of_ble_eq_true rfl) ?_
            refine ab_U_catch rfl rfl (by decide) (k3 209 rfl rfl) (hp_ob q43 (by decide)) rfl ?_
            refine ab_widen (cells' := H41.sh.length - c0) (slots' := H41.sl - s0) (by show _ + (H41.sh.length - H.sh.length) ≤ _; omega) (by show _ + (H41.sl - H.sl) ≤ _; omega) ?_
            refine ab_le (lv' := [some (.ref p0), some (.ref p1), none, none]) ⟨rfl, ⟨rfl, trivial⟩⟩ ?_
            exact kB_Reader_readAll_155 hG b_8c b_8d b_8p b_8q hC hS
          clear hG
          have mz_11 : Mo H H41 := (m_Reader_readComponent z39)
          have b_12l := (mz_11).len
          have b_12s := (mz_11).2
          have b_12c : c0 ≤ H41.sh.length := by omega
          have b_12d : s0 ≤ H41.sl := by omega
          have q_13 := (mz_11).get q28
          have q_14 := (mz_11).get q31
          have q_15 := (mz_11).get q36
          have fH41 : Mo H41 r.2 := by
            have hm := Mo.rf H41
            exact hm.tr (mB_Reader_readAll_146 (mB_Reader_readAll_23 n) hF)
          have b_12m := (fH41).len
          have b_12n := (fH41).2
          have b_12p : H41.sh.length ≤ c0 + C := by omega
          have b_12q : H41.sl ≤ s0 + Sl := by omega
          refine hp_callV_v (H1 := H41) (As := []) (rest := []) d_Reader_readAll_77 (k_Reader_readComponent z39 (C := H41.sh.length - H.sh.length) (Sl := H41.sl - H.sl) (by show H41.sh.length ≤ _; omega) (by show H41.sl ≤ _; omega)) (ab_mkC s_Reader_readComponent (Nat.le_of_ble_eq_true rfl) (Nat.le_of_ble_eq_true rfl) (show (H.sh.length - c0) + (H41.sh.length - H.sh.length) ≤ C from by omega) (show (H.sl - s0) + (H41.sl - H.sl) ≤ Sl from by omega)) (k4 89 rfl rfl) i_Reader_readComponent v_Reader_readComponent q28 (by decide) rfl rfl (Nat.le_of_ble_eq_true rfl) ?_
          refine ab_widen (cells' := H41.sh.length - c0) (slots' := H41.sl - s0) (by show _ + (H41.sh.length - H.sh.length) ≤ _; omega) (by show _ + (H41.sl - H.sl) ≤ _; omega) ?_
          clear b_12l b_12s b_12m b_12n
          refine ab_goto (tgt := 146) d_Reader_readAll_80 (by decide) ?_
          exact kB_Reader_readAll_146 (mB_Reader_readAll_23 n) ih hF b_12c b_12d b_12p b_12q hC hS
        rw [if_neg t38] at hG
        have ut38 : ¬ (40 : Int) = (x37).toInt := fun z => t38 (Int32.toInt_inj.mp (z.symm.trans (by decide)))
        by_cases t44 : x37 = 41
        · rw [if_pos t44] at hG
          refine ab_tableIn (off := 36) (tgt := 83) d_Reader_readAll_47 (by rw [t44]; decide) (by rw [t44]; decide) (by rw [t44]; decide) (by decide) ?_
          refine ab_aload_n d_Reader_readAll_83 rfl rfl rfl ?_
          refine bH_c hG (fun x48 H47 z45 hF => ?_) (fun v46 H47 z45 hF => ?_)
          · clear hG
            have mz : Mo H H47 := (m_Reader_readEvent z45)
            have b_16l := (mz).len
            have b_16s := (mz).2
            have b_16c : c0 ≤ H47.sh.length := by omega
            have b_16d : s0 ≤ H47.sl := by omega
            obtain ⟨q49, hG⟩ := ck_s hF; clear hF
            have fH47 : Mo H47 r.2 := by
              have hm := Mo.rf H47
              exact hm.tr (mB_Reader_readAll_155 hG)
            have b_16m := (fH47).len
            have b_16n := (fH47).2
            have b_16p : H47.sh.length ≤ c0 + C := by omega
            have b_16q : H47.sl ≤ s0 + Sl := by omega
            refine hp_callV_t (x := x48) (H1 := H47) (As := []) (rest := []) d_Reader_readAll_84 (k_Reader_readEvent z45 (C := H47.sh.length - H.sh.length) (Sl := H47.sl - H.sl) (by show H47.sh.length ≤ _; omega) (by show H47.sl ≤ _; omega)) (ab_mkC s_Reader_readEvent (Nat.le_of_ble_eq_true rfl) (Nat.le_of_ble_eq_true rfl) (show (H.sh.length - c0) + (H47.sh.length - H.sh.length) ≤ C from by omega) (show (H.sl - s0) + (H47.sl - H.sl) ≤ Sl from by omega)) (k5 51 rfl rfl) i_Reader_readEvent v_Reader_readEvent q28 (by decide) rfl rfl (Nat.le_of_ble_eq_true rfl) ?_
            refine ab_U_catch rfl rfl (by decide) (k3 209 rfl rfl) (hp_ob q49 (by decide)) rfl ?_
            refine ab_widen (cells' := H47.sh.length - c0) (slots' := H47.sl - s0) (by show _ + (H47.sh.length - H.sh.length) ≤ _; omega) (by show _ + (H47.sl - H.sl) ≤ _; omega) ?_
            refine ab_le (lv' := [some (.ref p0), some (.ref p1), none, none]) ⟨rfl, ⟨rfl, trivial⟩⟩ ?_
            exact kB_Reader_readAll_155 hG b_16c b_16d b_16p b_16q hC hS
          clear hG
          have mz_17 : Mo H H47 := (m_Reader_readEvent z45)
          have b_18l := (mz_17).len
          have b_18s := (mz_17).2
          have b_18c : c0 ≤ H47.sh.length := by omega
          have b_18d : s0 ≤ H47.sl := by omega
          have q_19 := (mz_17).get q28
          have q_20 := (mz_17).get q31
          have q_21 := (mz_17).get q36
          have fH47 : Mo H47 r.2 := by
            have hm := Mo.rf H47
            exact hm.tr (mB_Reader_readAll_146 (mB_Reader_readAll_23 n) hF)
          have b_18m := (fH47).len
          have b_18n := (fH47).2
          have b_18p : H47.sh.length ≤ c0 + C := by omega
          have b_18q : H47.sl ≤ s0 + Sl := by omega
          refine hp_callV_v (H1 := H47) (As := []) (rest := []) d_Reader_readAll_84 (k_Reader_readEvent z45 (C := H47.sh.length - H.sh.length) (Sl := H47.sl - H.sl) (by show H47.sh.length ≤ _; omega) (by show H47.sl ≤ _; omega)) (ab_mkC s_Reader_readEvent (Nat.le_of_ble_eq_true rfl) (Nat.le_of_ble_eq_true rfl) (show (H.sh.length - c0) + (H47.sh.length - H.sh.length) ≤ C from by omega) (show (H.sl - s0) + (H47.sl - H.sl) ≤ Sl from by omega)) (k5 51 rfl rfl) i_Reader_readEvent v_Reader_readEvent q28 (by decide) rfl rfl (Nat.le_of_ble_eq_true rfl) ?_
          refine ab_widen (cells' := H47.sh.length - c0) (slots' := H47.sl - s0) (by show _ + (H47.sh.length - H.sh.length) ≤ _; omega) (by show _ + (H47.sl - H.sl) ≤ _; omega) ?_
          clear b_18l b_18s b_18m b_18n
          refine ab_goto (tgt := 146) d_Reader_readAll_87 (by decide) ?_
          exact kB_Reader_readAll_146 (mB_Reader_readAll_23 n) ih hF b_18c b_18d b_18p b_18q hC hS
        rw [if_neg t44] at hG
        have ut44 : ¬ (41 : Int) = (x37).toInt := fun z => t44 (Int32.toInt_inj.mp (z.symm.trans (by decide)))
        by_cases t50 : x37 = 42
        · rw [if_pos t50] at hG
          refine ab_tableIn (off := 43) (tgt := 90) d_Reader_readAll_47 (by rw [t50]; decide) (by rw [t50]; decide) (by rw [t50]; decide) (by decide) ?_
          refine ab_aload_n d_Reader_readAll_90 rfl rfl rfl ?_
          refine bH_c hG (fun x54 H53 z51 hF => ?_) (fun v52 H53 z51 hF => ?_)
          · clear hG
            have mz : Mo H H53 := (m_Reader_readPrefab z51)
            have b_22l := (mz).len
            have b_22s := (mz).2
            have b_22c : c0 ≤ H53.sh.length := by omega
            have b_22d : s0 ≤ H53.sl := by omega
            obtain ⟨q55, hG⟩ := ck_s hF; clear hF
            have fH53 : Mo H53 r.2 := by
              have hm := Mo.rf H53
              exact hm.tr (mB_Reader_readAll_155 hG)
            have b_22m := (fH53).len
            have b_22n := (fH53).2
            have b_22p : H53.sh.length ≤ c0 + C := by omega
            have b_22q : H53.sl ≤ s0 + Sl := by omega
            refine hp_callV_t (x := x54) (H1 := H53) (As := []) (rest := []) d_Reader_readAll_91 (k_Reader_readPrefab z51 (C := H53.sh.length - H.sh.length) (Sl := H53.sl - H.sl) (by show H53.sh.length ≤ _; omega) (by show H53.sl ≤ _; omega)) (ab_mkC s_Reader_readPrefab (Nat.le_of_ble_eq_true rfl) (Nat.le_of_ble_eq_true rfl) (show (H.sh.length - c0) + (H53.sh.length - H.sh.length) ≤ C from by omega) (show (H.sl - s0) + (H53.sl - H.sl) ≤ Sl from by omega)) (k5 55 rfl rfl) i_Reader_readPrefab v_Reader_readPrefab q28 (by decide) rfl rfl (Nat.le_of_ble_eq_true rfl) ?_
            refine ab_U_catch rfl rfl (by decide) (k3 209 rfl rfl) (hp_ob q55 (by decide)) rfl ?_
            refine ab_widen (cells' := H53.sh.length - c0) (slots' := H53.sl - s0) (by show _ + (H53.sh.length - H.sh.length) ≤ _; omega) (by show _ + (H53.sl - H.sl) ≤ _; omega) ?_
            refine ab_le (lv' := [some (.ref p0), some (.ref p1), none, none]) ⟨rfl, ⟨rfl, trivial⟩⟩ ?_
            exact kB_Reader_readAll_155 hG b_22c b_22d b_22p b_22q hC hS
          clear hG
          have mz_23 : Mo H H53 := (m_Reader_readPrefab z51)
          have b_24l := (mz_23).len
          have b_24s := (mz_23).2
          have b_24c : c0 ≤ H53.sh.length := by omega
          have b_24d : s0 ≤ H53.sl := by omega
          have q_25 := (mz_23).get q28
          have q_26 := (mz_23).get q31
          have q_27 := (mz_23).get q36
          have fH53 : Mo H53 r.2 := by
            have hm := Mo.rf H53
            exact hm.tr (mB_Reader_readAll_146 (mB_Reader_readAll_23 n) hF)
          have b_24m := (fH53).len
          have b_24n := (fH53).2
          have b_24p : H53.sh.length ≤ c0 + C := by omega
          have b_24q : H53.sl ≤ s0 + Sl := by omega
          refine hp_callV_v (H1 := H53) (As := []) (rest := []) d_Reader_readAll_91 (k_Reader_readPrefab z51 (C := H53.sh.length - H.sh.length) (Sl := H53.sl - H.sl) (by show H53.sh.length ≤ _; omega) (by show H53.sl ≤ _; omega)) (ab_mkC s_Reader_readPrefab (Nat.le_of_ble_eq_true rfl) (Nat.le_of_ble_eq_true rfl) (show (H.sh.length - c0) + (H53.sh.length - H.sh.length) ≤ C from by omega) (show (H.sl - s0) + (H53.sl - H.sl) ≤ Sl from by omega)) (k5 55 rfl rfl) i_Reader_readPrefab v_Reader_readPrefab q28 (by decide) rfl rfl (Nat.le_of_ble_eq_true rfl) ?_
          refine ab_widen (cells' := H53.sh.length - c0) (slots' := H53.sl - s0) (by show _ + (H53.sh.length - H.sh.length) ≤ _; omega) (by show _ + (H53.sl - H.sl) ≤ _; omega) ?_
          clear b_24l b_24s b_24m b_24n
          refine ab_goto (tgt := 146) d_Reader_readAll_94 (by decide) ?_
          exact kB_Reader_readAll_146 (mB_Reader_readAll_23 n) ih hF b_24c b_24d b_24p b_24q hC hS
        rw [if_neg t50] at hG
        have ut50 : ¬ (42 : Int) = (x37).toInt := fun z => t50 (Int32.toInt_inj.mp (z.symm.trans (by decide)))
        by_cases t56 : x37 = 43
        · rw [if_pos t56] at hG
          refine ab_tableIn (off := 50) (tgt := 97) d_Reader_readAll_47 (by rw [t56]; decide) (by rw [t56]; decide) (by rw [t56]; decide) (by decide) ?_
          refine ab_aload_n d_Reader_readAll_97 rfl rfl rfl ?_
          refine bH_c hG (fun x60 H59 z57 hF => ?_) (fun v58 H59 z57 hF => ?_)
          · clear hG
            have mz : Mo H H59 := (m_Reader_readHead z57)
            have b_28l := (mz).len
            have b_28s := (mz).2
            have b_28c : c0 ≤ H59.sh.length := by omega
            have b_28d : s0 ≤ H59.sl := by omega
            obtain ⟨q61, hG⟩ := ck_s hF; clear hF
            have fH59 : Mo H59 r.2 := by
              have hm := Mo.rf H59
              exact hm.tr (mB_Reader_readAll_155 hG)
            have b_28m := (fH59).len
            have b_28n := (fH59).2
            have b_28p : H59.sh.length ≤ c0 + C := by omega
            have b_28q : H59.sl ≤ s0 + Sl := by omega
            refine hp_callV_t (x := x60) (H1 := H59) (As := []) (rest := []) d_Reader_readAll_98 (k_Reader_readHead z57 (C := H59.sh.length - H.sh.length) (Sl := H59.sl - H.sl) (by show H59.sh.length ≤ _; omega) (by show H59.sl ≤ _; omega)) (ab_mkC s_Reader_readHead (Nat.le_of_ble_eq_true rfl) (Nat.le_of_ble_eq_true rfl) (show (H.sh.length - c0) + (H59.sh.length - H.sh.length) ≤ C from by omega) (show (H.sl - s0) + (H59.sl - H.sl) ≤ Sl from by omega)) (k5 91 rfl rfl) i_Reader_readHead v_Reader_readHead q28 (by decide) rfl rfl (Nat.le_of_ble_eq_true rfl) ?_
            refine ab_U_catch rfl rfl (by decide) (k3 209 rfl rfl) (hp_ob q61 (by decide)) rfl ?_
            refine ab_widen (cells' := H59.sh.length - c0) (slots' := H59.sl - s0) (by show _ + (H59.sh.length - H.sh.length) ≤ _; omega) (by show _ + (H59.sl - H.sl) ≤ _; omega) ?_
            refine ab_le (lv' := [some (.ref p0), some (.ref p1), none, none]) ⟨rfl, ⟨rfl, trivial⟩⟩ ?_
            exact kB_Reader_readAll_155 hG b_28c b_28d b_28p b_28q hC hS
          clear hG
          have mz_29 : Mo H H59 := (m_Reader_readHead z57)
          have b_30l := (mz_29).len
          have b_30s := (mz_29).2
          have b_30c : c0 ≤ H59.sh.length := by omega
          have b_30d : s0 ≤ H59.sl := by omega
          have q_31 := (mz_29).get q28
          have q_32 := (mz_29).get q31
          have q_33 := (mz_29).get q36
          obtain ⟨a62, e63, hG⟩ := rf_s hF; clear hF
          obtain ⟨a64, e65, hF⟩ := rf_s hG; clear hG
          obtain ⟨q66, hG⟩ := ck_s hF; clear hF
          obtain ⟨v68, H69, z67, hF⟩ := bC_s hG; clear hG
          have jH69 : Mo H59 H69 := ((m_Body_open z67)).mo
          obtain ⟨a70, e71, hG⟩ := rf_s hF; clear hF
          have fH69 : Mo H69 r.2 := by
            have hm := Mo.rf H69
            obtain ⟨q72, hF⟩ := ck_s hG; clear hG
            refine bH_c hF (fun x76 H75 z73 hG => ?_) (fun v74 H75 z73 hG => ?_)
            · clear hF
              replace hm : Mo H69 H75 := hm.tr ((moX_BodyS 24) _ _ _ z73)
              obtain ⟨q77, hF⟩ := ck_s hG; clear hG
              exact hm.tr (mB_Reader_readAll_155 hF)
            clear hF
            replace hm : Mo H69 H75 := hm.tr ((moX_BodyS 24) _ _ _ z73)
            obtain ⟨a78, e79, hF⟩ := rf_s hG; clear hG
            obtain ⟨q80, hG⟩ := ck_s hF; clear hF
            obtain ⟨v82, H83, z81, hF⟩ := bC_s hG; clear hG
            replace hm : Mo H69 H83 := hm.tr ((m_Program_add z81)).mo
            exact hm.tr (mB_Reader_readAll_146 (mB_Reader_readAll_23 n) hF)
          have fH59 : Mo H59 r.2 := jH69.tr fH69
          have b_30m := (fH59).len
          have b_30n := (fH59).2
          have b_30p : H59.sh.length ≤ c0 + C := by omega
          have b_30q : H59.sl ≤ s0 + Sl := by omega
          refine hp_callV_v (H1 := H59) (As := []) (rest := []) d_Reader_readAll_98 (k_Reader_readHead z57 (C := H59.sh.length - H.sh.length) (Sl := H59.sl - H.sl) (by show H59.sh.length ≤ _; omega) (by show H59.sl ≤ _; omega)) (ab_mkC s_Reader_readHead (Nat.le_of_ble_eq_true rfl) (Nat.le_of_ble_eq_true rfl) (show (H.sh.length - c0) + (H59.sh.length - H.sh.length) ≤ C from by omega) (show (H.sl - s0) + (H59.sl - H.sl) ≤ Sl from by omega)) (k5 91 rfl rfl) i_Reader_readHead v_Reader_readHead q28 (by decide) rfl rfl (Nat.le_of_ble_eq_true rfl) ?_
          refine ab_widen (cells' := H59.sh.length - c0) (slots' := H59.sl - s0) (by show _ + (H59.sh.length - H.sh.length) ≤ _; omega) (by show _ + (H59.sl - H.sl) ≤ _; omega) ?_
          clear b_30l b_30s b_30m b_30n
          refine ab_aload_n d_Reader_readAll_101 rfl rfl rfl ?_
          refine hp_getR (f := 1) d_Reader_readAll_102 q_31 (by decide) rfl (by decide) (k1 180 rfl rfl) rfl e63 ?_
          refine ab_aload_n d_Reader_readAll_105 rfl rfl rfl ?_
          refine hp_getR (f := 2) d_Reader_readAll_106 q_31 (by decide) rfl (by decide) (k1 181 rfl rfl) rfl e65 ?_
          refine hp_callV_v (H1 := H69) (As := [.ref a64]) (rest := []) d_Reader_readAll_109 (k_Body_open z67) (ab_mkC s_Body_open (Nat.le_of_ble_eq_true rfl) (Nat.le_of_ble_eq_true rfl) (show (H59.sh.length - c0) + 0 ≤ C from by omega) (show (H59.sl - s0) + 0 ≤ Sl from by omega)) (k5 108 rfl rfl) i_Body_open v_Body_open q66 (by decide) rfl rfl (Nat.le_of_ble_eq_true rfl) ?_
          have s_42 : Sa H59 H69 := (m_Body_open z67)
          refine ab_widen (cells' := H59.sh.length - c0) (slots' := H59.sl - s0) (by show (H59.sh.length - c0) + 0 ≤ _; omega) (by show (H59.sl - s0) + 0 ≤ _; omega) ?_
          refine ab_aload_n d_Reader_readAll_112 rfl rfl rfl ?_
          refine hp_getR (f := 1) d_Reader_readAll_113 (by rw [(s_42).1]; exact q_31) (by decide) rfl (by decide) (k1 180 rfl rfl) rfl e71 ?_
          obtain ⟨q72, hF⟩ := ck_s hG; clear hG
          rw [(s_42).1] at q72
          refine bH_c hF (fun x76 H75 z73 hG => ?_) (fun v74 H75 z73 hG => ?_)
          · clear hF
            refine ab_widen (cells' := H69.sh.length - c0) (slots' := H69.sl - s0) (by rw [(s_42).1]; exact Nat.le_refl _) (by rw [(s_42).2]; exact Nat.le_refl _) ?_
            have mz : Mo H69 H75 := ((moX_BodyS 24) _ _ _ z73)
            have b_43l := (mz).len
            have b_43s := (mz).2
            have b_43e := congrArg List.length (s_42).1
            have b_43f := (s_42).2
            have b_43c : c0 ≤ H75.sh.length := by omega
            have b_43d : s0 ≤ H75.sl := by omega
            obtain ⟨q77, hF⟩ := ck_s hG; clear hG
            have fH75 : Mo H75 r.2 := by
              have hm := Mo.rf H75
              exact hm.tr (mB_Reader_readAll_155 hF)
            have b_43m := (fH75).len
            have b_43n := (fH75).2
            have b_43p : H75.sh.length ≤ c0 + C := by omega
            have b_43q : H75.sl ≤ s0 + Sl := by omega
            refine hp_callV_t (x := x76) (H1 := H75) (As := []) (rest := []) d_Reader_readAll_116 ((okX_BodyS 24).2.2 _ _ _ z73 (H75.sh.length - H69.sh.length) (H75.sl - H69.sl) (by show H75.sh.length ≤ _; omega) (by show H75.sl ≤ _; omega)) (ab_mkC s_Body_block (Nat.le_of_ble_eq_true rfl) (Nat.le_of_ble_eq_true rfl) (show (H69.sh.length - c0) + (H75.sh.length - H69.sh.length) ≤ C from by omega) (show (H69.sl - s0) + (H75.sl - H69.sl) ≤ Sl from by omega)) (k5 112 rfl rfl) i_Body_block v_Body_block (by rw [(s_42).1]; exact q72) (by decide) rfl rfl (Nat.le_of_ble_eq_true rfl) ?_
            refine ab_U_catch rfl rfl (by decide) (k3 209 rfl rfl) (hp_ob q77 (by decide)) rfl ?_
            refine ab_widen (cells' := H75.sh.length - c0) (slots' := H75.sl - s0) (by show _ + (H75.sh.length - H69.sh.length) ≤ _; omega) (by show _ + (H75.sl - H69.sl) ≤ _; omega) ?_
            refine ab_le (lv' := [some (.ref p0), some (.ref p1), none, none]) ⟨rfl, ⟨rfl, trivial⟩⟩ ?_
            exact kB_Reader_readAll_155 hF b_43c b_43d b_43p b_43q hC hS
          clear hF
          refine ab_widen (cells' := H69.sh.length - c0) (slots' := H69.sl - s0) (by rw [(s_42).1]; exact Nat.le_refl _) (by rw [(s_42).2]; exact Nat.le_refl _) ?_
          have mz_44 : Mo H69 H75 := ((moX_BodyS 24) _ _ _ z73)
          have b_45l := (mz_44).len
          have b_45s := (mz_44).2
          have b_45e := congrArg List.length (s_42).1
          have b_45f := (s_42).2
          have b_45c : c0 ≤ H75.sh.length := by omega
          have b_45d : s0 ≤ H75.sl := by omega
          have q_46 := (mz_44).get (by rw [(s_42).1]; exact q_31)
          have q_47 := (mz_44).get (by rw [(s_42).1]; exact q_32)
          have q_48 := (mz_44).get (by rw [(s_42).1]; exact q_33)
          have q_49 := (mz_44).get (by rw [(s_42).1]; exact q66)
          have q_50 := (mz_44).get (by rw [(s_42).1]; exact q72)
          obtain ⟨a78, e79, hF⟩ := rf_s hG; clear hG
          obtain ⟨q80, hG⟩ := ck_s hF; clear hF
          obtain ⟨v82, H83, z81, hF⟩ := bC_s hG; clear hG
          have jH83 : Mo H75 H83 := ((m_Program_add z81)).mo
          have fH83 : Mo H83 r.2 := by
            have hm := Mo.rf H83
            exact hm.tr (mB_Reader_readAll_146 (mB_Reader_readAll_23 n) hF)
          have fH75 : Mo H75 r.2 := jH83.tr fH83
          have b_45m := (fH75).len
          have b_45n := (fH75).2
          have b_45p : H75.sh.length ≤ c0 + C := by omega
          have b_45q : H75.sl ≤ s0 + Sl := by omega
          refine hp_callV_v (H1 := H75) (As := []) (rest := []) d_Reader_readAll_116 ((okX_BodyS 24).2.2 _ _ _ z73 (H75.sh.length - H69.sh.length) (H75.sl - H69.sl) (by show H75.sh.length ≤ _; omega) (by show H75.sl ≤ _; omega)) (ab_mkC s_Body_block (Nat.le_of_ble_eq_true rfl) (Nat.le_of_ble_eq_true rfl) (show (H69.sh.length - c0) + (H75.sh.length - H69.sh.length) ≤ C from by omega) (show (H69.sl - s0) + (H75.sl - H69.sl) ≤ Sl from by omega)) (k5 112 rfl rfl) i_Body_block v_Body_block (by rw [(s_42).1]; exact q72) (by decide) rfl rfl (Nat.le_of_ble_eq_true rfl) ?_
          refine ab_widen (cells' := H75.sh.length - c0) (slots' := H75.sl - s0) (by show _ + (H75.sh.length - H69.sh.length) ≤ _; omega) (by show _ + (H75.sl - H69.sl) ≤ _; omega) ?_
          clear b_45l b_45s b_45m b_45n b_45e b_45f b_30c b_30d b_30p b_30q
          refine ab_aload_n d_Reader_readAll_119 rfl rfl rfl ?_
          refine hp_getR (f := 2) d_Reader_readAll_120 q_46 (by decide) rfl (by decide) (k1 181 rfl rfl) rfl e79 ?_
          refine ab_iconst (v := 0) d_Reader_readAll_123 (by decide) ?_
          refine hp_callV_a (v := .int v82) (H1 := H83) (As := [.int 0]) (rest := []) d_Reader_readAll_124 (k_Program_add z81) (ab_mkC s_Program_add (Nat.le_of_ble_eq_true rfl) (Nat.le_of_ble_eq_true rfl) (show (H75.sh.length - c0) + 0 ≤ C from by omega) (show (H75.sl - s0) + 0 ≤ Sl from by omega)) (k6 68 rfl rfl) i_Program_add v_Program_add q80 (by decide) rfl rfl (Nat.le_of_ble_eq_true rfl) ?_
          have s_53 : Sa H75 H83 := (m_Program_add z81)
          refine ab_widen (cells' := H75.sh.length - c0) (slots' := H75.sl - s0) (by show (H75.sh.length - c0) + 0 ≤ _; omega) (by show (H75.sl - s0) + 0 ≤ _; omega) ?_
          refine ab_pop d_Reader_readAll_127 rfl ?_
          refine ab_goto (tgt := 146) d_Reader_readAll_128 (by decide) ?_
          refine ab_widen (cells' := H83.sh.length - c0) (slots' := H83.sl - s0) (by rw [(s_53).1]; exact Nat.le_refl _) (by rw [(s_53).2]; exact Nat.le_refl _) ?_
          exact kB_Reader_readAll_146 (mB_Reader_readAll_23 n) ih hF (by rw [(s_53).1]; exact b_45c) (by rw [(s_53).2]; exact b_45d) (by rw [(s_53).1]; exact b_45p) (by rw [(s_53).2]; exact b_45q) hC hS
        rw [if_neg t56] at hG
        have ut56 : ¬ (43 : Int) = (x37).toInt := fun z => t56 (Int32.toInt_inj.mp (z.symm.trans (by decide)))
        refine ab_tableOut (tgt := 131) d_Reader_readAll_47 (by omega) (by decide) ?_
        refine ab_aload_n d_Reader_readAll_131 rfl rfl rfl ?_
        obtain ⟨a84, e85, hF⟩ := rf_s hG; clear hG
        refine hp_getR (f := 0) d_Reader_readAll_132 q28 (by decide) rfl (by decide) (k1 179 rfl rfl) rfl e85 ?_
        refine ab_iconst (v := 1) d_Reader_readAll_135 (by decide) ?_
        refine ab_aload_n d_Reader_readAll_136 rfl rfl rfl ?_
        obtain ⟨a86, e87, hG⟩ := rf_s hF; clear hF
        refine hp_getR (f := 0) d_Reader_readAll_137 q28 (by decide) rfl (by decide) (k1 179 rfl rfl) rfl e87 ?_
        obtain ⟨q88, hF⟩ := ck_s hG; clear hG
        refine hp_getI (f := 3) d_Reader_readAll_140 q88 (by decide) rfl (by decide) (k1 101 rfl rfl) rfl ?_
        refine ab_topi (fun x89 ex89 => ?_)
        replace hF := bnd_s ex89 hF
        obtain ⟨q90, hG⟩ := ck_s hF; clear hF
        refine bH_c hG (fun x94 H93 z91 hF => ?_) (fun v92 H93 z91 hF => ?_)
        · clear hG
          have mz : Mo H H93 := (m_Lexer_refuse z91)
          have b_54l := (mz).len
          have b_54s := (mz).2
          have b_54c : c0 ≤ H93.sh.length := by omega
          have b_54d : s0 ≤ H93.sl := by omega
          obtain ⟨q95, hG⟩ := ck_s hF; clear hF
          have fH93 : Mo H93 r.2 := by
            have hm := Mo.rf H93
            exact hm.tr (mB_Reader_readAll_155 hG)
          have b_54m := (fH93).len
          have b_54n := (fH93).2
          have b_54p : H93.sh.length ≤ c0 + C := by omega
          have b_54q : H93.sl ≤ s0 + Sl := by omega
          refine hp_callV_t (x := x94) (H1 := H93) (As := [.int 1, .int x89]) (rest := []) d_Reader_readAll_143 (k_Lexer_refuse z91 (C := H93.sh.length - H.sh.length) (Sl := H93.sl - H.sl) (by show H93.sh.length ≤ _; omega) (by show H93.sl ≤ _; omega)) (ab_mkC s_Lexer_refuse (Nat.le_of_ble_eq_true rfl) (Nat.le_of_ble_eq_true rfl) (show (H.sh.length - c0) + (H93.sh.length - H.sh.length) ≤ C from by omega) (show (H.sl - s0) + (H93.sl - H.sl) ≤ Sl from by omega)) (k4 97 rfl rfl) i_Lexer_refuse v_Lexer_refuse q90 (by decide) rfl rfl (Nat.le_of_ble_eq_true rfl) ?_
          refine ab_U_catch rfl rfl (by decide) (k3 209 rfl rfl) (hp_ob q95 (by decide)) rfl ?_
          refine ab_widen (cells' := H93.sh.length - c0) (slots' := H93.sl - s0) (by show _ + (H93.sh.length - H.sh.length) ≤ _; omega) (by show _ + (H93.sl - H.sl) ≤ _; omega) ?_
          refine ab_le (lv' := [some (.ref p0), some (.ref p1), none, none]) ⟨rfl, ⟨rfl, trivial⟩⟩ ?_
          exact kB_Reader_readAll_155 hG b_54c b_54d b_54p b_54q hC hS
        clear hG
        have mz_55 : Mo H H93 := (m_Lexer_refuse z91)
        have b_56l := (mz_55).len
        have b_56s := (mz_55).2
        have b_56c : c0 ≤ H93.sh.length := by omega
        have b_56d : s0 ≤ H93.sl := by omega
        have q_57 := (mz_55).get q28
        have q_58 := (mz_55).get q31
        have q_59 := (mz_55).get q36
        have q_60 := (mz_55).get q88
        have q_61 := (mz_55).get q90
        have fH93 : Mo H93 r.2 := by
          have hm := Mo.rf H93
          exact hm.tr (mB_Reader_readAll_146 (mB_Reader_readAll_23 n) hF)
        have b_56m := (fH93).len
        have b_56n := (fH93).2
        have b_56p : H93.sh.length ≤ c0 + C := by omega
        have b_56q : H93.sl ≤ s0 + Sl := by omega
        refine hp_callV_v (H1 := H93) (As := [.int 1, .int x89]) (rest := []) d_Reader_readAll_143 (k_Lexer_refuse z91 (C := H93.sh.length - H.sh.length) (Sl := H93.sl - H.sl) (by show H93.sh.length ≤ _; omega) (by show H93.sl ≤ _; omega)) (ab_mkC s_Lexer_refuse (Nat.le_of_ble_eq_true rfl) (Nat.le_of_ble_eq_true rfl) (show (H.sh.length - c0) + (H93.sh.length - H.sh.length) ≤ C from by omega) (show (H.sl - s0) + (H93.sl - H.sl) ≤ Sl from by omega)) (k4 97 rfl rfl) i_Lexer_refuse v_Lexer_refuse q90 (by decide) rfl rfl (Nat.le_of_ble_eq_true rfl) ?_
        refine ab_widen (cells' := H93.sh.length - c0) (slots' := H93.sl - s0) (by show _ + (H93.sh.length - H.sh.length) ≤ _; omega) (by show _ + (H93.sl - H.sl) ≤ _; omega) ?_
        clear b_56l b_56s b_56m b_56n
        exact kB_Reader_readAll_146 (mB_Reader_readAll_23 n) ih hF b_56c b_56d b_56p b_56q hC hS
def F_Reader_readAll (N : Nat) (p0 : Nat) (p1 : Nat) (H : Hp) : Option (Int32 × Hp) :=
    ck (H.sh[p0]? = some (5, 0)) <|
    bnd (H.sP p0 2 (.ref p1)) fun H2 =>
    rf (H2.P p0 2) fun a3 =>
    ck (H2.sh[a3]? = some (4, 0)) <|
    bC (F_Program_clear N a3 H2) fun v7 H8 =>
    rf (H8.P p0 0) fun a9 =>
    ck (H8.sh[a9]? = some (1, 0)) <|
    bC (F_Lexer_begin N a9 H8) fun v13 H14 =>
    B_Reader_readAll_23 N p0 p1 N 1 0 H14
set_option maxRecDepth 20000 in
set_option maxHeartbeats 2000000 in
theorem m_Reader_readAll {N : Nat} {p0 : Nat} {p1 : Nat} {H : Hp} {r : Int32 × Hp} (hF : F_Reader_readAll N p0 p1 H = some r) : Mo H r.2 := by
  unfold F_Reader_readAll at hF
  have hm := Mo.rf H
  obtain ⟨q165, hG⟩ := ck_s hF; clear hF
  obtain ⟨H166, eH166, hF⟩ := bnd_g hG; clear hG
  replace hm : Mo H H166 := by rw [eH166]; exact hm
  obtain ⟨a167, e168, hG⟩ := rf_s hF; clear hF
  obtain ⟨q169, hF⟩ := ck_s hG; clear hG
  obtain ⟨v171, H172, z170, hG⟩ := bC_s hF; clear hF
  replace hm : Mo H H172 := hm.tr ((m_Program_clear z170)).mo
  obtain ⟨a173, e174, hF⟩ := rf_s hG; clear hG
  obtain ⟨q175, hG⟩ := ck_s hF; clear hF
  obtain ⟨v177, H178, z176, hF⟩ := bC_s hG; clear hG
  replace hm : Mo H H178 := hm.tr ((m_Lexer_begin z176)).mo
  exact hm.tr (mB_Reader_readAll_23 N 1 0 H178 r hF)
set_option maxRecDepth 20000 in
set_option maxHeartbeats 2000000 in
theorem k_Reader_readAll {N : Nat} {p0 : Nat} {p1 : Nat} {H : Hp} {r : Int32 × Hp} {C Sl : Nat} (hF : F_Reader_readAll N p0 p1 H = some r) (hC : r.2.sh.length ≤ H.sh.length + C) (hS : r.2.sl ≤ H.sl + Sl) : ab_M y_Reader_readAll { frames := 692, cells := C, slots := Sl, locals := 16186 } [.ref p0, .ref p1] (hpw H) (po (.returned (some (.int r.1))) r.2) := by
  unfold F_Reader_readAll at hF
  obtain ⟨c0, e0⟩ : ∃ q, q = H.sh.length := ⟨_, rfl⟩
  obtain ⟨s0, e1⟩ : ∃ q, q = H.sl := ⟨_, rfl⟩
  rw [← e0] at hC
  rw [← e1] at hS
  have hc0 : c0 ≤ H.sh.length := Nat.le_of_eq e0
  have hs0 : s0 ≤ H.sl := Nat.le_of_eq e1
  have hcc : H.sh.length ≤ c0 + C := by omega
  have hss : H.sl ≤ s0 + Sl := by omega
  refine ab_of2 (lv := [some (.ref p0), some (.ref p1), none, none]) 2 rfl rfl (Nat.le_of_ble_eq_true rfl) ?_
  refine ab_widen (cells' := H.sh.length - c0) (slots' := H.sl - s0) (Nat.zero_le _) (Nat.zero_le _) ?_
  refine ab_aload_n d_Reader_readAll_0 rfl rfl rfl ?_
  refine ab_aload_n d_Reader_readAll_1 rfl rfl rfl ?_
  obtain ⟨q1, hG⟩ := ck_s hF; clear hF
  refine hp_putP (v := .ref p1) (f := 2) d_Reader_readAll_2 q1 (by decide) rfl (by decide) (k1 181 rfl rfl) rfl rfl (fun _ => rfl) (fun _ => rfl) rfl ?_
  refine hp_gen (fun H2 eH2 => ?_)
  replace hG := bnd_s eH2 hG
  have s_1 : Sa H H2 := by rw [eH2]; exact Sa.rf _
  refine ab_aload_n d_Reader_readAll_5 rfl rfl rfl ?_
  obtain ⟨a3, e4, hF⟩ := rf_s hG; clear hG
  refine hp_getR (f := 2) d_Reader_readAll_6 (by rw [(s_1).1]; exact q1) (by decide) rfl (by decide) (k1 181 rfl rfl) rfl e4 ?_
  obtain ⟨q5, hG⟩ := ck_s hF; clear hF
  rw [(s_1).1] at q5
  obtain ⟨v7, H8, z6, hF⟩ := bC_s hG; clear hG
  refine ab_widen (cells' := H2.sh.length - c0) (slots' := H2.sl - s0) (by rw [(s_1).1]; exact Nat.le_refl _) (by rw [(s_1).2]; exact Nat.le_refl _) ?_
  have b_2e := congrArg List.length (s_1).1
  have b_2f := (s_1).2
  refine hp_callV_v (H1 := H8) (As := []) (rest := []) d_Reader_readAll_9 (k_Program_clear z6) (ab_mkC s_Program_clear (Nat.le_of_ble_eq_true rfl) (Nat.le_of_ble_eq_true rfl) (show (H2.sh.length - c0) + 0 ≤ C from by omega) (show (H2.sl - s0) + 0 ≤ Sl from by omega)) (k3 210 rfl rfl) i_Program_clear v_Program_clear (by rw [(s_1).1]; exact q5) (by decide) rfl rfl (Nat.le_of_ble_eq_true rfl) ?_
  have s_3 : Sa H H8 := (s_1).tr (m_Program_clear z6)
  refine ab_widen (cells' := H.sh.length - c0) (slots' := H.sl - s0) (by show (H2.sh.length - c0) + 0 ≤ _; omega) (by show (H2.sl - s0) + 0 ≤ _; omega) ?_
  clear b_2e b_2f
  refine ab_aload_n d_Reader_readAll_12 rfl rfl rfl ?_
  obtain ⟨a9, e10, hG⟩ := rf_s hF; clear hF
  refine hp_getR (f := 0) d_Reader_readAll_13 (by rw [(s_3).1]; exact q1) (by decide) rfl (by decide) (k1 179 rfl rfl) rfl e10 ?_
  obtain ⟨q11, hF⟩ := ck_s hG; clear hG
  rw [(s_3).1] at q11
  obtain ⟨v13, H14, z12, hG⟩ := bC_s hF; clear hF
  refine ab_widen (cells' := H8.sh.length - c0) (slots' := H8.sl - s0) (by rw [(s_3).1]; exact Nat.le_refl _) (by rw [(s_3).2]; exact Nat.le_refl _) ?_
  have b_4e := congrArg List.length (s_3).1
  have b_4f := (s_3).2
  refine hp_callV_v (H1 := H14) (As := []) (rest := []) d_Reader_readAll_16 (k_Lexer_begin z12) (ab_mkC s_Lexer_begin (Nat.le_of_ble_eq_true rfl) (Nat.le_of_ble_eq_true rfl) (show (H8.sh.length - c0) + 0 ≤ C from by omega) (show (H8.sl - s0) + 0 ≤ Sl from by omega)) (k3 218 rfl rfl) i_Lexer_begin v_Lexer_begin (by rw [(s_3).1]; exact q11) (by decide) rfl rfl (Nat.le_of_ble_eq_true rfl) ?_
  have s_5 : Sa H H14 := (s_3).tr (m_Lexer_begin z12)
  refine ab_widen (cells' := H.sh.length - c0) (slots' := H.sl - s0) (by show (H8.sh.length - c0) + 0 ≤ _; omega) (by show (H8.sl - s0) + 0 ≤ _; omega) ?_
  clear b_4e b_4f
  refine ab_iconst (v := 1) d_Reader_readAll_19 (by decide) ?_
  refine ab_istore_n (lv' := [some (.ref p0), some (.ref p1), some (.int 1), none]) d_Reader_readAll_20 rfl (by decide) rfl ?_
  refine ab_iconst (v := 0) d_Reader_readAll_21 (by decide) ?_
  refine ab_istore_n (lv' := [some (.ref p0), some (.ref p1), some (.int 1), some (.int 0)]) d_Reader_readAll_22 rfl (by decide) rfl ?_
  refine ab_widen (cells' := H14.sh.length - c0) (slots' := H14.sl - s0) (by rw [(s_5).1]; exact Nat.le_refl _) (by rw [(s_5).2]; exact Nat.le_refl _) ?_
  exact kB_Reader_readAll_23 N 1 0 H14 r hG (by rw [(s_5).1]; exact hc0) (by rw [(s_5).2]; exact hs0) (by rw [(s_5).1]; exact hcc) (by rw [(s_5).2]; exact hss) hC hS
def y_W_exchangePrograms : ab_Y := (⟨"WorldEngine", "exchangePrograms", "()V"⟩, prog_1_method_7_code, 2, none, [])
theorem d_W_exchangePrograms_0 : decode y_W_exchangePrograms.2.1 0 = .ok (.aload_n 0, 1) := by decide +kernel
theorem d_W_exchangePrograms_1 : decode y_W_exchangePrograms.2.1 1 = .ok (.getfield 46, 3) := by decide +kernel
theorem d_W_exchangePrograms_4 : decode y_W_exchangePrograms.2.1 4 = .ok (.astore_n 1, 1) := by decide +kernel
theorem d_W_exchangePrograms_5 : decode y_W_exchangePrograms.2.1 5 = .ok (.aload_n 0, 1) := by decide +kernel
theorem d_W_exchangePrograms_6 : decode y_W_exchangePrograms.2.1 6 = .ok (.aload_n 0, 1) := by decide +kernel
theorem d_W_exchangePrograms_7 : decode y_W_exchangePrograms.2.1 7 = .ok (.getfield 42, 3) := by decide +kernel
theorem d_W_exchangePrograms_10 : decode y_W_exchangePrograms.2.1 10 = .ok (.putfield 46, 3) := by decide +kernel
theorem d_W_exchangePrograms_13 : decode y_W_exchangePrograms.2.1 13 = .ok (.aload_n 0, 1) := by decide +kernel
theorem d_W_exchangePrograms_14 : decode y_W_exchangePrograms.2.1 14 = .ok (.aload_n 1, 1) := by decide +kernel
theorem d_W_exchangePrograms_15 : decode y_W_exchangePrograms.2.1 15 = .ok (.putfield 42, 3) := by decide +kernel
theorem d_W_exchangePrograms_18 : decode y_W_exchangePrograms.2.1 18 = .ok (.aload_n 0, 1) := by decide +kernel
theorem d_W_exchangePrograms_19 : decode y_W_exchangePrograms.2.1 19 = .ok (.iconst 1, 1) := by decide +kernel
theorem d_W_exchangePrograms_20 : decode y_W_exchangePrograms.2.1 20 = .ok (.putfield 49, 3) := by decide +kernel
theorem d_W_exchangePrograms_23 : decode y_W_exchangePrograms.2.1 23 = .ok (.return_, 1) := by decide +kernel
theorem s_W_exchangePrograms : ab_Stat y_W_exchangePrograms 0 := ⟨(k6 72 rfl rfl), (k1 1 rfl rfl), ⟨by decide, by decide⟩, by decide +kernel⟩
theorem i_W_exchangePrograms : Cond.instanceMethod y_W_exchangePrograms.1 ∈ ab_T := (k6 71 rfl rfl)
theorem v_W_exchangePrograms : Cond.selects "WorldEngine" y_W_exchangePrograms.1 y_W_exchangePrograms.1 ∈ ab_T := ab_s (List.mem_of_getElem? (i := 61) rfl) rfl
def F_W_exchangePrograms (N : Nat) (p0 : Nat) (H : Hp) : Option (Unit × Hp) :=
    ck (H.sh[p0]? = some (0, 0)) <|
    rf (H.P p0 5) fun a2 =>
    rf (H.P p0 4) fun a4 =>
    bnd (H.sP p0 5 (.ref a4)) fun H6 =>
    bnd (H6.sP p0 4 (.ref a2)) fun H7 =>
    bnd (H7.sD p0 6 (1 : Int32)) fun H8 =>
    some ((), H8)
set_option maxRecDepth 20000 in
set_option maxHeartbeats 2000000 in
theorem m_W_exchangePrograms {N : Nat} {p0 : Nat} {H : Hp} {r : Unit × Hp} (hF : F_W_exchangePrograms N p0 H = some r) : Sa H r.2 := by
  unfold F_W_exchangePrograms at hF
  have hm := Sa.rf H
  obtain ⟨q9, hG⟩ := ck_s hF; clear hF
  obtain ⟨a10, e11, hF⟩ := rf_s hG; clear hG
  obtain ⟨a12, e13, hG⟩ := rf_s hF; clear hF
  obtain ⟨H14, eH14, hF⟩ := bnd_g hG; clear hG
  replace hm : Sa H H14 := by rw [eH14]; exact hm
  obtain ⟨H15, eH15, hG⟩ := bnd_g hF; clear hF
  replace hm : Sa H H15 := by rw [eH15]; exact hm
  obtain ⟨H16, eH16, hF⟩ := bnd_g hG; clear hG
  replace hm : Sa H H16 := by rw [eH16]; exact hm
  have hr := Option.some.inj hF; subst hr
  exact hm
set_option maxRecDepth 20000 in
set_option maxHeartbeats 2000000 in
theorem k_W_exchangePrograms {N : Nat} {p0 : Nat} {H : Hp} {r : Unit × Hp} (hF : F_W_exchangePrograms N p0 H = some r) : ab_M y_W_exchangePrograms { frames := 0, cells := 0, slots := 0, locals := 0 } [.ref p0] (hpw H) (po (.returned none) r.2) := by
  unfold F_W_exchangePrograms at hF
  refine ab_of2 (lv := [some (.ref p0), none]) 1 rfl rfl (Nat.le_of_ble_eq_true rfl) ?_
  refine ab_aload_n d_W_exchangePrograms_0 rfl rfl rfl ?_
  obtain ⟨q1, hG⟩ := ck_s hF; clear hF
  obtain ⟨a2, e3, hF⟩ := rf_s hG; clear hG
  refine hp_getR (f := 5) d_W_exchangePrograms_1 q1 (by decide) rfl (by decide) (k3 162 rfl rfl) rfl e3 ?_
  refine ab_astore_n (lv' := [some (.ref p0), some (.ref a2)]) d_W_exchangePrograms_4 rfl (by decide) rfl rfl ?_
  refine ab_aload_n d_W_exchangePrograms_5 rfl rfl rfl ?_
  refine ab_aload_n d_W_exchangePrograms_6 rfl rfl rfl ?_
  obtain ⟨a4, e5, hG⟩ := rf_s hF; clear hF
  refine hp_getR (f := 4) d_W_exchangePrograms_7 q1 (by decide) rfl (by decide) (k3 161 rfl rfl) rfl e5 ?_
  refine hp_putP (v := .ref a4) (f := 5) d_W_exchangePrograms_10 q1 (by decide) rfl (by decide) (k3 162 rfl rfl) rfl rfl (fun _ => rfl) (fun _ => rfl) rfl ?_
  refine hp_gen (fun H6 eH6 => ?_)
  replace hG := bnd_s eH6 hG
  have s_1 : Sa H H6 := by rw [eH6]; exact Sa.rf _
  refine ab_aload_n d_W_exchangePrograms_13 rfl rfl rfl ?_
  refine ab_aload_n d_W_exchangePrograms_14 rfl rfl rfl ?_
  refine hp_putP (v := .ref a2) (f := 4) d_W_exchangePrograms_15 (by rw [(s_1).1]; exact q1) (by decide) rfl (by decide) (k3 161 rfl rfl) rfl rfl (fun _ => rfl) (fun _ => rfl) rfl ?_
  refine hp_gen (fun H7 eH7 => ?_)
  replace hG := bnd_s eH7 hG
  have s_2 : Sa H H7 := by rw [eH7]; exact s_1
  refine ab_aload_n d_W_exchangePrograms_18 rfl rfl rfl ?_
  refine ab_iconst (v := 1) d_W_exchangePrograms_19 (by decide) ?_
  refine hp_putI (v := 1) (f := 6) (ty := .boolean) d_W_exchangePrograms_20 (by rw [(s_2).1]; exact q1) (by decide) rfl (by decide) (k3 163 rfl rfl) rfl rfl (fun _ => rfl) (fun _ => rfl) rfl ?_
  refine hp_gen (fun H8 eH8 => ?_)
  replace hG := bnd_s eH8 hG
  have s_3 : Sa H H8 := by rw [eH8]; exact s_2
  exact ab_vret d_W_exchangePrograms_23 rfl (Nat.le_refl _) (Nat.le_refl _) (by have hr := Option.some.inj hG; subst hr; exact ⟨rfl, rfl⟩)
def y_World_clear : ab_Y := (⟨"WorldEngine$World", "clear", "(II)V"⟩, prog_12_method_2_code, 3, none, [])
theorem d_World_clear_0 : decode y_World_clear.2.1 0 = .ok (.aload_n 0, 1) := by decide +kernel
theorem d_World_clear_1 : decode y_World_clear.2.1 1 = .ok (.iconst 0, 1) := by decide +kernel
theorem d_World_clear_2 : decode y_World_clear.2.1 2 = .ok (.putfield 33, 3) := by decide +kernel
theorem d_World_clear_5 : decode y_World_clear.2.1 5 = .ok (.aload_n 0, 1) := by decide +kernel
theorem d_World_clear_6 : decode y_World_clear.2.1 6 = .ok (.iload_n 1, 1) := by decide +kernel
theorem d_World_clear_7 : decode y_World_clear.2.1 7 = .ok (.putfield 37, 3) := by decide +kernel
theorem d_World_clear_10 : decode y_World_clear.2.1 10 = .ok (.aload_n 0, 1) := by decide +kernel
theorem d_World_clear_11 : decode y_World_clear.2.1 11 = .ok (.iconst 0, 1) := by decide +kernel
theorem d_World_clear_12 : decode y_World_clear.2.1 12 = .ok (.putfield 40, 3) := by decide +kernel
theorem d_World_clear_15 : decode y_World_clear.2.1 15 = .ok (.aload_n 0, 1) := by decide +kernel
theorem d_World_clear_16 : decode y_World_clear.2.1 16 = .ok (.iconst 0, 1) := by decide +kernel
theorem d_World_clear_17 : decode y_World_clear.2.1 17 = .ok (.putfield 43, 3) := by decide +kernel
theorem d_World_clear_20 : decode y_World_clear.2.1 20 = .ok (.aload_n 0, 1) := by decide +kernel
theorem d_World_clear_21 : decode y_World_clear.2.1 21 = .ok (.iconst 0, 1) := by decide +kernel
theorem d_World_clear_22 : decode y_World_clear.2.1 22 = .ok (.putfield 46, 3) := by decide +kernel
theorem d_World_clear_25 : decode y_World_clear.2.1 25 = .ok (.aload_n 0, 1) := by decide +kernel
theorem d_World_clear_26 : decode y_World_clear.2.1 26 = .ok (.getfield 9, 3) := by decide +kernel
theorem d_World_clear_29 : decode y_World_clear.2.1 29 = .ok (.iconst 0, 1) := by decide +kernel
theorem d_World_clear_30 : decode y_World_clear.2.1 30 = .ok (.invokestatic 16, 3) := by decide +kernel
theorem d_World_clear_33 : decode y_World_clear.2.1 33 = .ok (.aload_n 0, 1) := by decide +kernel
theorem d_World_clear_34 : decode y_World_clear.2.1 34 = .ok (.getfield 13, 3) := by decide +kernel
theorem d_World_clear_37 : decode y_World_clear.2.1 37 = .ok (.iconst (-1), 1) := by decide +kernel
theorem d_World_clear_38 : decode y_World_clear.2.1 38 = .ok (.invokestatic 16, 3) := by decide +kernel
theorem d_World_clear_41 : decode y_World_clear.2.1 41 = .ok (.aload_n 0, 1) := by decide +kernel
theorem d_World_clear_42 : decode y_World_clear.2.1 42 = .ok (.iconst 0, 1) := by decide +kernel
theorem d_World_clear_43 : decode y_World_clear.2.1 43 = .ok (.putfield 49, 3) := by decide +kernel
theorem d_World_clear_46 : decode y_World_clear.2.1 46 = .ok (.aload_n 0, 1) := by decide +kernel
theorem d_World_clear_47 : decode y_World_clear.2.1 47 = .ok (.iload_n 2, 1) := by decide +kernel
theorem d_World_clear_48 : decode y_World_clear.2.1 48 = .ok (.putfield 52, 3) := by decide +kernel
theorem d_World_clear_51 : decode y_World_clear.2.1 51 = .ok (.aload_n 0, 1) := by decide +kernel
theorem d_World_clear_52 : decode y_World_clear.2.1 52 = .ok (.iconst 0, 1) := by decide +kernel
theorem d_World_clear_53 : decode y_World_clear.2.1 53 = .ok (.putfield 55, 3) := by decide +kernel
theorem d_World_clear_56 : decode y_World_clear.2.1 56 = .ok (.aload_n 0, 1) := by decide +kernel
theorem d_World_clear_57 : decode y_World_clear.2.1 57 = .ok (.iconst 0, 1) := by decide +kernel
theorem d_World_clear_58 : decode y_World_clear.2.1 58 = .ok (.putfield 58, 3) := by decide +kernel
theorem d_World_clear_61 : decode y_World_clear.2.1 61 = .ok (.return_, 1) := by decide +kernel
theorem s_World_clear : ab_Stat y_World_clear 2 := ⟨(k6 81 rfl rfl), (k1 10 rfl rfl), ⟨by decide, by decide⟩, by decide +kernel⟩
theorem i_World_clear : Cond.instanceMethod y_World_clear.1 ∈ ab_T := (k6 79 rfl rfl)
theorem v_World_clear : Cond.selects "WorldEngine$World" y_World_clear.1 y_World_clear.1 ∈ ab_T := (k6 80 rfl rfl)
def F_World_clear (N : Nat) (p0 : Nat) (p1 : Int32) (p2 : Int32) (H : Hp) : Option (Unit × Hp) :=
    ck (H.sh[p0]? = some (7, 0)) <|
    bnd (H.sD p0 0 (0 : Int32)) fun H2 =>
    bnd (H2.sD p0 1 p1) fun H3 =>
    bnd (H3.sD p0 2 (0 : Int32)) fun H4 =>
    bnd (H4.sD p0 3 (0 : Int32)) fun H5 =>
    bnd (H5.sD p0 6 (0 : Int32)) fun H6 =>
    rf (H6.P p0 7) fun a7 =>
    bC (F_Arr_fill N a7 (0 : Int32) H6) fun v10 H11 =>
    rf (H11.P p0 8) fun a12 =>
    bC (F_Arr_fill N a12 ((-1) : Int32) H11) fun v15 H16 =>
    bnd (H16.sD p0 9 (0 : Int32)) fun H17 =>
    bnd (H17.sD p0 10 p2) fun H18 =>
    bnd (H18.sD p0 13 (0 : Int32)) fun H19 =>
    bnd (H19.sD p0 15 (0 : Int32)) fun H20 =>
    some ((), H20)
set_option maxRecDepth 20000 in
set_option maxHeartbeats 2000000 in
theorem m_World_clear {N : Nat} {p0 : Nat} {p1 : Int32} {p2 : Int32} {H : Hp} {r : Unit × Hp} (hF : F_World_clear N p0 p1 p2 H = some r) : Sa H r.2 := by
  unfold F_World_clear at hF
  have hm := Sa.rf H
  obtain ⟨q21, hG⟩ := ck_s hF; clear hF
  obtain ⟨H22, eH22, hF⟩ := bnd_g hG; clear hG
  replace hm : Sa H H22 := by rw [eH22]; exact hm
  obtain ⟨H23, eH23, hG⟩ := bnd_g hF; clear hF
  replace hm : Sa H H23 := by rw [eH23]; exact hm
  obtain ⟨H24, eH24, hF⟩ := bnd_g hG; clear hG
  replace hm : Sa H H24 := by rw [eH24]; exact hm
  obtain ⟨H25, eH25, hG⟩ := bnd_g hF; clear hF
  replace hm : Sa H H25 := by rw [eH25]; exact hm
  obtain ⟨H26, eH26, hF⟩ := bnd_g hG; clear hG
  replace hm : Sa H H26 := by rw [eH26]; exact hm
  obtain ⟨a27, e28, hG⟩ := rf_s hF; clear hF
  obtain ⟨v30, H31, z29, hF⟩ := bC_s hG; clear hG
  replace hm : Sa H H31 := hm.tr (m_Arr_fill z29)
  obtain ⟨a32, e33, hG⟩ := rf_s hF; clear hF
  obtain ⟨v35, H36, z34, hF⟩ := bC_s hG; clear hG
  replace hm : Sa H H36 := hm.tr (m_Arr_fill z34)
  obtain ⟨H37, eH37, hG⟩ := bnd_g hF; clear hF
  replace hm : Sa H H37 := by rw [eH37]; exact hm
  obtain ⟨H38, eH38, hF⟩ := bnd_g hG; clear hG
  replace hm : Sa H H38 := by rw [eH38]; exact hm
  obtain ⟨H39, eH39, hG⟩ := bnd_g hF; clear hF
  replace hm : Sa H H39 := by rw [eH39]; exact hm
  obtain ⟨H40, eH40, hF⟩ := bnd_g hG; clear hG
  replace hm : Sa H H40 := by rw [eH40]; exact hm
  have hr := Option.some.inj hF; subst hr
  exact hm
set_option maxRecDepth 20000 in
set_option maxHeartbeats 2000000 in
theorem k_World_clear {N : Nat} {p0 : Nat} {p1 : Int32} {p2 : Int32} {H : Hp} {r : Unit × Hp} (hF : F_World_clear N p0 p1 p2 H = some r) : ab_M y_World_clear { frames := 1, cells := 0, slots := 0, locals := 23 } [.ref p0, .int p1, .int p2] (hpw H) (po (.returned none) r.2) := by
  unfold F_World_clear at hF
  refine ab_of2 (lv := [some (.ref p0), some (.int p1), some (.int p2)]) 0 rfl rfl (Nat.le_of_ble_eq_true rfl) ?_
  refine ab_aload_n d_World_clear_0 rfl rfl rfl ?_
  refine ab_iconst (v := 0) d_World_clear_1 (by decide) ?_
  obtain ⟨q1, hG⟩ := ck_s hF; clear hF
  refine hp_putI (v := 0) (f := 0) d_World_clear_2 q1 (by decide) rfl (by decide) (k1 204 rfl rfl) rfl rfl (fun _ => rfl) (fun _ => rfl) rfl ?_
  refine hp_gen (fun H2 eH2 => ?_)
  replace hG := bnd_s eH2 hG
  have s_1 : Sa H H2 := by rw [eH2]; exact Sa.rf _
  refine ab_aload_n d_World_clear_5 rfl rfl rfl ?_
  refine ab_iload_n d_World_clear_6 rfl rfl ?_
  refine hp_putI (v := p1) (f := 1) d_World_clear_7 (by rw [(s_1).1]; exact q1) (by decide) rfl (by decide) (k1 210 rfl rfl) rfl rfl (fun _ => rfl) (fun _ => rfl) rfl ?_
  refine hp_gen (fun H3 eH3 => ?_)
  replace hG := bnd_s eH3 hG
  have s_2 : Sa H H3 := by rw [eH3]; exact s_1
  refine ab_aload_n d_World_clear_10 rfl rfl rfl ?_
  refine ab_iconst (v := 0) d_World_clear_11 (by decide) ?_
  refine hp_putI (v := 0) (f := 2) d_World_clear_12 (by rw [(s_2).1]; exact q1) (by decide) rfl (by decide) (k1 213 rfl rfl) rfl rfl (fun _ => rfl) (fun _ => rfl) rfl ?_
  refine hp_gen (fun H4 eH4 => ?_)
  replace hG := bnd_s eH4 hG
  have s_3 : Sa H H4 := by rw [eH4]; exact s_2
  refine ab_aload_n d_World_clear_15 rfl rfl rfl ?_
  refine ab_iconst (v := 0) d_World_clear_16 (by decide) ?_
  refine hp_putI (v := 0) (f := 3) d_World_clear_17 (by rw [(s_3).1]; exact q1) (by decide) rfl (by decide) (k1 216 rfl rfl) rfl rfl (fun _ => rfl) (fun _ => rfl) rfl ?_
  refine hp_gen (fun H5 eH5 => ?_)
  replace hG := bnd_s eH5 hG
  have s_4 : Sa H H5 := by rw [eH5]; exact s_3
  refine ab_aload_n d_World_clear_20 rfl rfl rfl ?_
  refine ab_iconst (v := 0) d_World_clear_21 (by decide) ?_
  refine hp_putI (v := 0) (f := 6) d_World_clear_22 (by rw [(s_4).1]; exact q1) (by decide) rfl (by decide) (k1 224 rfl rfl) rfl rfl (fun _ => rfl) (fun _ => rfl) rfl ?_
  refine hp_gen (fun H6 eH6 => ?_)
  replace hG := bnd_s eH6 hG
  have s_5 : Sa H H6 := by rw [eH6]; exact s_4
  refine ab_aload_n d_World_clear_25 rfl rfl rfl ?_
  obtain ⟨a7, e8, hF⟩ := rf_s hG; clear hG
  refine hp_getR (f := 7) d_World_clear_26 (by rw [(s_5).1]; exact q1) (by decide) rfl (by decide) (k1 227 rfl rfl) rfl e8 ?_
  refine ab_iconst (v := 0) d_World_clear_29 (by decide) ?_
  obtain ⟨v10, H11, z9, hG⟩ := bC_s hF; clear hF
  refine hp_callS_v (H1 := H11) (As := [.ref a7, .int 0]) (rest := []) d_World_clear_30 (k_Arr_fill z9) (ab_mkC s_Arr_fill (Nat.le_of_ble_eq_true rfl) (Nat.le_of_ble_eq_true rfl) (Nat.le_refl 0) (Nat.le_refl 0)) (k1 201 rfl rfl) t_Arr_fill rfl (Nat.le_of_ble_eq_true rfl) ?_
  have s_6 : Sa H H11 := (s_5).tr (m_Arr_fill z9)
  refine ab_aload_n d_World_clear_33 rfl rfl rfl ?_
  obtain ⟨a12, e13, hF⟩ := rf_s hG; clear hG
  refine hp_getR (f := 8) d_World_clear_34 (by rw [(s_6).1]; exact q1) (by decide) rfl (by decide) (k1 229 rfl rfl) rfl e13 ?_
  refine ab_iconst (v := (-1)) d_World_clear_37 (by decide) ?_
  obtain ⟨v15, H16, z14, hG⟩ := bC_s hF; clear hF
  refine hp_callS_v (H1 := H16) (As := [.ref a12, .int (-1)]) (rest := []) d_World_clear_38 (k_Arr_fill z14) (ab_mkC s_Arr_fill (Nat.le_of_ble_eq_true rfl) (Nat.le_of_ble_eq_true rfl) (Nat.le_refl 0) (Nat.le_refl 0)) (k1 201 rfl rfl) t_Arr_fill rfl (Nat.le_of_ble_eq_true rfl) ?_
  have s_7 : Sa H H16 := (s_6).tr (m_Arr_fill z14)
  refine ab_aload_n d_World_clear_41 rfl rfl rfl ?_
  refine ab_iconst (v := 0) d_World_clear_42 (by decide) ?_
  refine hp_putI (v := 0) (f := 9) d_World_clear_43 (by rw [(s_7).1]; exact q1) (by decide) rfl (by decide) (k1 231 rfl rfl) rfl rfl (fun _ => rfl) (fun _ => rfl) rfl ?_
  refine hp_gen (fun H17 eH17 => ?_)
  replace hG := bnd_s eH17 hG
  have s_8 : Sa H H17 := by rw [eH17]; exact s_7
  refine ab_aload_n d_World_clear_46 rfl rfl rfl ?_
  refine ab_iload_n d_World_clear_47 rfl rfl ?_
  refine hp_putI (v := p2) (f := 10) d_World_clear_48 (by rw [(s_8).1]; exact q1) (by decide) rfl (by decide) (k1 234 rfl rfl) rfl rfl (fun _ => rfl) (fun _ => rfl) rfl ?_
  refine hp_gen (fun H18 eH18 => ?_)
  replace hG := bnd_s eH18 hG
  have s_9 : Sa H H18 := by rw [eH18]; exact s_8
  refine ab_aload_n d_World_clear_51 rfl rfl rfl ?_
  refine ab_iconst (v := 0) d_World_clear_52 (by decide) ?_
  refine hp_putI (v := 0) (f := 13) d_World_clear_53 (by rw [(s_9).1]; exact q1) (by decide) rfl (by decide) (k2 3 rfl rfl) rfl rfl (fun _ => rfl) (fun _ => rfl) rfl ?_
  refine hp_gen (fun H19 eH19 => ?_)
  replace hG := bnd_s eH19 hG
  have s_10 : Sa H H19 := by rw [eH19]; exact s_9
  refine ab_aload_n d_World_clear_56 rfl rfl rfl ?_
  refine ab_iconst (v := 0) d_World_clear_57 (by decide) ?_
  refine hp_putI (v := 0) (f := 15) d_World_clear_58 (by rw [(s_10).1]; exact q1) (by decide) rfl (by decide) (k2 12 rfl rfl) rfl rfl (fun _ => rfl) (fun _ => rfl) rfl ?_
  refine hp_gen (fun H20 eH20 => ?_)
  replace hG := bnd_s eH20 hG
  have s_11 : Sa H H20 := by rw [eH20]; exact s_10
  exact ab_vret d_World_clear_61 rfl (Nat.le_refl _) (Nat.le_refl _) (by have hr := Option.some.inj hG; subst hr; exact ⟨rfl, rfl⟩)
def y_Play_forgetInputs : ab_Y := (⟨"WorldEngine$Play", "forgetInputs", "()V"⟩, prog_5_method_5_code, 2, none, [])
theorem d_Play_forgetInputs_0 : decode y_Play_forgetInputs.2.1 0 = .ok (.aload_n 0, 1) := by decide +kernel
theorem d_Play_forgetInputs_1 : decode y_Play_forgetInputs.2.1 1 = .ok (.aload_n 0, 1) := by decide +kernel
theorem d_Play_forgetInputs_2 : decode y_Play_forgetInputs.2.1 2 = .ok (.getfield 10, 3) := by decide +kernel
theorem d_Play_forgetInputs_5 : decode y_Play_forgetInputs.2.1 5 = .ok (.getfield 54, 3) := by decide +kernel
theorem d_Play_forgetInputs_8 : decode y_Play_forgetInputs.2.1 8 = .ok (.putfield 57, 3) := by decide +kernel
theorem d_Play_forgetInputs_11 : decode y_Play_forgetInputs.2.1 11 = .ok (.iconst 0, 1) := by decide +kernel
theorem d_Play_forgetInputs_12 : decode y_Play_forgetInputs.2.1 12 = .ok (.istore_n 1, 1) := by decide +kernel
theorem d_Play_forgetInputs_13 : decode y_Play_forgetInputs.2.1 13 = .ok (.iload_n 1, 1) := by decide +kernel
theorem d_Play_forgetInputs_14 : decode y_Play_forgetInputs.2.1 14 = .ok (.aload_n 0, 1) := by decide +kernel
theorem d_Play_forgetInputs_15 : decode y_Play_forgetInputs.2.1 15 = .ok (.getfield 35, 3) := by decide +kernel
theorem d_Play_forgetInputs_18 : decode y_Play_forgetInputs.2.1 18 = .ok (.arraylength, 1) := by decide +kernel
theorem d_Play_forgetInputs_19 : decode y_Play_forgetInputs.2.1 19 = .ok (.if_icmp .ge 16, 3) := by decide +kernel
theorem d_Play_forgetInputs_22 : decode y_Play_forgetInputs.2.1 22 = .ok (.aload_n 0, 1) := by decide +kernel
theorem d_Play_forgetInputs_23 : decode y_Play_forgetInputs.2.1 23 = .ok (.getfield 35, 3) := by decide +kernel
theorem d_Play_forgetInputs_26 : decode y_Play_forgetInputs.2.1 26 = .ok (.iload_n 1, 1) := by decide +kernel
theorem d_Play_forgetInputs_27 : decode y_Play_forgetInputs.2.1 27 = .ok (.iconst 0, 1) := by decide +kernel
theorem d_Play_forgetInputs_28 : decode y_Play_forgetInputs.2.1 28 = .ok (.bastore, 1) := by decide +kernel
theorem d_Play_forgetInputs_29 : decode y_Play_forgetInputs.2.1 29 = .ok (.iinc 1 1, 3) := by decide +kernel
theorem d_Play_forgetInputs_32 : decode y_Play_forgetInputs.2.1 32 = .ok (.goto (-19), 3) := by decide +kernel
theorem d_Play_forgetInputs_35 : decode y_Play_forgetInputs.2.1 35 = .ok (.aload_n 0, 1) := by decide +kernel
theorem d_Play_forgetInputs_36 : decode y_Play_forgetInputs.2.1 36 = .ok (.getfield 42, 3) := by decide +kernel
theorem d_Play_forgetInputs_39 : decode y_Play_forgetInputs.2.1 39 = .ok (.iconst 0, 1) := by decide +kernel
theorem d_Play_forgetInputs_40 : decode y_Play_forgetInputs.2.1 40 = .ok (.invokestatic 73, 3) := by decide +kernel
theorem d_Play_forgetInputs_43 : decode y_Play_forgetInputs.2.1 43 = .ok (.return_, 1) := by decide +kernel
theorem s_Play_forgetInputs : ab_Stat y_Play_forgetInputs 0 := ⟨(k6 85 rfl rfl), (k1 9 rfl rfl), ⟨by decide, by decide⟩, by decide +kernel⟩
theorem i_Play_forgetInputs : Cond.instanceMethod y_Play_forgetInputs.1 ∈ ab_T := (k6 84 rfl rfl)
theorem v_Play_forgetInputs : Cond.selects "WorldEngine$Play" y_Play_forgetInputs.1 y_Play_forgetInputs.1 ∈ ab_T := ab_s (List.mem_of_getElem? (i := 62) rfl) rfl
def B_Play_forgetInputs_13 (N : Nat) (p0 : Nat) : Nat → Int32 → Hp → Option (Unit × Hp)
  | 0, _, _ => none
  | n + 1, l1, H =>
    ck (H.sh[p0]? = some (10, 0)) <|
    rf (H.P p0 8) fun a8 =>
    ar H 102 a8 fun n10 =>
    if (Int32.ofNat n10) ≤ l1 then
    rf (H.P p0 10) fun a13 =>
    bC (F_Arr_fill N a13 (0 : Int32) H) fun v16 H17 =>
    some ((), H17)
    else
    rf (H.P p0 8) fun a18 =>
    ar H 102 a18 fun n20 =>
    ck (inb l1 n20) <|
    bnd (H.sD a18 (l1).toNatClampNeg (vp_nar .boolean (0 : Int32))) fun H23 =>
    B_Play_forgetInputs_13 N p0 n (l1 + 1) H23
termination_by structural n => n
set_option maxRecDepth 20000 in
set_option maxHeartbeats 2000000 in
theorem mB_Play_forgetInputs_13 {N : Nat} {p0 : Nat} : ∀ (n : Nat) (l1 : Int32) (H : Hp) (r : Unit × Hp), B_Play_forgetInputs_13 N p0 n l1 H = some r → Sa H r.2 := by
  intro n
  induction n with
  | zero => intro l1 H r hF; rw [B_Play_forgetInputs_13] at hF; cases hF
  | succ n ih =>
    intro l1 H r hF
    rw [B_Play_forgetInputs_13] at hF
    have hm := Sa.rf H
    obtain ⟨q24, hG⟩ := ck_s hF; clear hF
    obtain ⟨a25, e26, hF⟩ := rf_s hG; clear hG
    obtain ⟨n27, q28, hG⟩ := ar_s hF; clear hF
    rcases ite_s hG with ⟨q_4, hF⟩ | ⟨q_4, hF⟩
    · clear hG
      obtain ⟨a30, e31, hG⟩ := rf_s hF; clear hF
      obtain ⟨v33, H34, z32, hF⟩ := bC_s hG; clear hG
      replace hm : Sa H H34 := hm.tr (m_Arr_fill z32)
      have hr := Option.some.inj hF; subst hr
      exact hm
    · clear hG
      obtain ⟨a35, e36, hG⟩ := rf_s hF; clear hF
      obtain ⟨n37, q38, hF⟩ := ar_s hG; clear hG
      obtain ⟨q39, hG⟩ := ck_s hF; clear hF
      obtain ⟨H40, eH40, hF⟩ := bnd_g hG; clear hG
      replace hm : Sa H H40 := by rw [eH40]; exact hm
      exact hm.tr (ih (l1 + 1) H40 r hF)
set_option maxRecDepth 20000 in
set_option maxHeartbeats 2000000 in
theorem kB_Play_forgetInputs_13 {N : Nat} {p0 : Nat} : ∀ (n : Nat) (l1 : Int32) (H : Hp) (r : Unit × Hp), B_Play_forgetInputs_13 N p0 n l1 H = some r → ab_V y_Play_forgetInputs { frames := 1, cells := 0, slots := 0, locals := 23 } (po (.returned none) r.2) 0 0 0 0 13 [some (.ref p0), some (.int l1)] [] (hpw H) := by
  intro n
  induction n with
  | zero => intro l1 H r hF; rw [B_Play_forgetInputs_13] at hF; cases hF
  | succ n ih =>
    intro l1 H r hF
    rw [B_Play_forgetInputs_13] at hF
    refine ab_iload_n d_Play_forgetInputs_13 rfl rfl ?_
    refine ab_aload_n d_Play_forgetInputs_14 rfl rfl rfl ?_
    obtain ⟨q7, hG⟩ := ck_s hF; clear hF
    obtain ⟨a8, e9, hF⟩ := rf_s hG; clear hG
    refine hp_getR (f := 8) d_Play_forgetInputs_15 q7 (by decide) rfl (by decide) (k2 144 rfl rfl) rfl e9 ?_
    obtain ⟨n10, q11, hG⟩ := ar_s hF; clear hF
    refine hp_alen (q := 102) d_Play_forgetInputs_18 q11 (Or.inl ⟨by decide, by decide, rfl⟩) tZ ?_
    refine ab_icmp_ge (tgt := 35) d_Play_forgetInputs_19 (by decide) (fun q12 => ?_) (fun q12 => ?_)
    · rw [if_pos q12] at hG
      refine ab_aload_n d_Play_forgetInputs_35 rfl rfl rfl ?_
      obtain ⟨a13, e14, hF⟩ := rf_s hG; clear hG
      refine hp_getR (f := 10) d_Play_forgetInputs_36 q7 (by decide) rfl (by decide) (k2 146 rfl rfl) rfl e14 ?_
      refine ab_iconst (v := 0) d_Play_forgetInputs_39 (by decide) ?_
      obtain ⟨v16, H17, z15, hG⟩ := bC_s hF; clear hF
      refine hp_callS_v (H1 := H17) (As := [.ref a13, .int 0]) (rest := []) d_Play_forgetInputs_40 (k_Arr_fill z15) (ab_mkC s_Arr_fill (Nat.le_of_ble_eq_true rfl) (Nat.le_of_ble_eq_true rfl) (Nat.le_refl 0) (Nat.le_refl 0)) (k6 86 rfl rfl) t_Arr_fill rfl (Nat.le_of_ble_eq_true rfl) ?_
      have s_2 : Sa H H17 := (m_Arr_fill z15)
      exact ab_vret d_Play_forgetInputs_43 rfl (Nat.le_refl _) (Nat.le_refl _) (by have hr := Option.some.inj hG; subst hr; exact ⟨rfl, rfl⟩)
    · rw [if_neg q12] at hG
      refine ab_aload_n d_Play_forgetInputs_22 rfl rfl rfl ?_
      obtain ⟨a18, e19, hF⟩ := rf_s hG; clear hG
      refine hp_getR (f := 8) d_Play_forgetInputs_23 q7 (by decide) rfl (by decide) (k2 144 rfl rfl) rfl e19 ?_
      refine ab_iload_n d_Play_forgetInputs_26 rfl rfl ?_
      refine ab_iconst (v := 0) d_Play_forgetInputs_27 (by decide) ?_
      obtain ⟨n20, q21, hG⟩ := ar_s hF; clear hF
      obtain ⟨q22, hF⟩ := ck_s hG; clear hG
      refine hp_zast d_Play_forgetInputs_28 tZ q21 q22 ?_
      refine hp_gen (fun H23 eH23 => ?_)
      replace hF := bnd_s eH23 hF
      have s_3 : Sa H H23 := by rw [eH23]; exact Sa.rf _
      refine ab_iinc (v := l1 + 1) (lv' := [some (.ref p0), some (.int (l1 + 1))]) d_Play_forgetInputs_29 rfl rfl (by decide) rfl ?_
      refine ab_goto (tgt := 13) d_Play_forgetInputs_32 (by decide) ?_
      exact ih (l1 + 1) H23 r hF
def F_Play_forgetInputs (N : Nat) (p0 : Nat) (H : Hp) : Option (Unit × Hp) :=
    ck (H.sh[p0]? = some (10, 0)) <|
    rf (H.P p0 0) fun a2 =>
    ck (H.sh[a2]? = some (7, 0)) <|
    bnd ((H.D a2 0)) fun x5 =>
    bnd (H.sD p0 1 x5) fun H6 =>
    B_Play_forgetInputs_13 N p0 N 0 H6
set_option maxRecDepth 20000 in
set_option maxHeartbeats 2000000 in
theorem m_Play_forgetInputs {N : Nat} {p0 : Nat} {H : Hp} {r : Unit × Hp} (hF : F_Play_forgetInputs N p0 H = some r) : Sa H r.2 := by
  unfold F_Play_forgetInputs at hF
  have hm := Sa.rf H
  obtain ⟨q41, hG⟩ := ck_s hF; clear hF
  obtain ⟨a42, e43, hF⟩ := rf_s hG; clear hG
  obtain ⟨q44, hG⟩ := ck_s hF; clear hF
  obtain ⟨x45, -, hF⟩ := bnd_g hG; clear hG
  obtain ⟨H46, eH46, hG⟩ := bnd_g hF; clear hF
  replace hm : Sa H H46 := by rw [eH46]; exact hm
  exact hm.tr (mB_Play_forgetInputs_13 N 0 H46 r hG)
set_option maxRecDepth 20000 in
set_option maxHeartbeats 2000000 in
theorem k_Play_forgetInputs {N : Nat} {p0 : Nat} {H : Hp} {r : Unit × Hp} (hF : F_Play_forgetInputs N p0 H = some r) : ab_M y_Play_forgetInputs { frames := 1, cells := 0, slots := 0, locals := 23 } [.ref p0] (hpw H) (po (.returned none) r.2) := by
  unfold F_Play_forgetInputs at hF
  refine ab_of2 (lv := [some (.ref p0), none]) 1 rfl rfl (Nat.le_of_ble_eq_true rfl) ?_
  refine ab_aload_n d_Play_forgetInputs_0 rfl rfl rfl ?_
  refine ab_aload_n d_Play_forgetInputs_1 rfl rfl rfl ?_
  obtain ⟨q1, hG⟩ := ck_s hF; clear hF
  obtain ⟨a2, e3, hF⟩ := rf_s hG; clear hG
  refine hp_getR (f := 0) d_Play_forgetInputs_2 q1 (by decide) rfl (by decide) (k2 130 rfl rfl) rfl e3 ?_
  obtain ⟨q4, hG⟩ := ck_s hF; clear hF
  refine hp_getI (f := 0) d_Play_forgetInputs_5 q4 (by decide) rfl (by decide) (k1 205 rfl rfl) rfl ?_
  refine ab_topi (fun x5 ex5 => ?_)
  replace hG := bnd_s ex5 hG
  refine hp_putI (v := x5) (f := 1) d_Play_forgetInputs_8 q1 (by decide) rfl (by decide) (k2 132 rfl rfl) rfl rfl (fun _ => rfl) (fun _ => rfl) rfl ?_
  refine hp_gen (fun H6 eH6 => ?_)
  replace hG := bnd_s eH6 hG
  have s_1 : Sa H H6 := by rw [eH6]; exact Sa.rf _
  refine ab_iconst (v := 0) d_Play_forgetInputs_11 (by decide) ?_
  refine ab_istore_n (lv' := [some (.ref p0), some (.int 0)]) d_Play_forgetInputs_12 rfl (by decide) rfl ?_
  exact kB_Play_forgetInputs_13 N 0 H6 r hG
def y_Play_begin : ab_Y := (⟨"WorldEngine$Play", "begin", "(II)V"⟩, prog_5_method_4_code, 3, none, [])
theorem d_Play_begin_0 : decode y_Play_begin.2.1 0 = .ok (.aload_n 0, 1) := by decide +kernel
theorem d_Play_begin_1 : decode y_Play_begin.2.1 1 = .ok (.getfield 10, 3) := by decide +kernel
theorem d_Play_begin_4 : decode y_Play_begin.2.1 4 = .ok (.iload_n 1, 1) := by decide +kernel
theorem d_Play_begin_5 : decode y_Play_begin.2.1 5 = .ok (.iload_n 2, 1) := by decide +kernel
theorem d_Play_begin_6 : decode y_Play_begin.2.1 6 = .ok (.invokevirtual 60, 3) := by decide +kernel
theorem d_Play_begin_9 : decode y_Play_begin.2.1 9 = .ok (.aload_n 0, 1) := by decide +kernel
theorem d_Play_begin_10 : decode y_Play_begin.2.1 10 = .ok (.iconst 0, 1) := by decide +kernel
theorem d_Play_begin_11 : decode y_Play_begin.2.1 11 = .ok (.putfield 64, 3) := by decide +kernel
theorem d_Play_begin_14 : decode y_Play_begin.2.1 14 = .ok (.aload_n 0, 1) := by decide +kernel
theorem d_Play_begin_15 : decode y_Play_begin.2.1 15 = .ok (.iconst 0, 1) := by decide +kernel
theorem d_Play_begin_16 : decode y_Play_begin.2.1 16 = .ok (.putfield 67, 3) := by decide +kernel
theorem d_Play_begin_19 : decode y_Play_begin.2.1 19 = .ok (.aload_n 0, 1) := by decide +kernel
theorem d_Play_begin_20 : decode y_Play_begin.2.1 20 = .ok (.invokevirtual 70, 3) := by decide +kernel
theorem d_Play_begin_23 : decode y_Play_begin.2.1 23 = .ok (.return_, 1) := by decide +kernel
theorem s_Play_begin : ab_Stat y_Play_begin 2 := ⟨(k6 77 rfl rfl), (k1 9 rfl rfl), ⟨by decide, by decide⟩, by decide +kernel⟩
theorem i_Play_begin : Cond.instanceMethod y_Play_begin.1 ∈ ab_T := (k6 75 rfl rfl)
theorem v_Play_begin : Cond.selects "WorldEngine$Play" y_Play_begin.1 y_Play_begin.1 ∈ ab_T := (k6 76 rfl rfl)
def F_Play_begin (N : Nat) (p0 : Nat) (p1 : Int32) (p2 : Int32) (H : Hp) : Option (Unit × Hp) :=
    ck (H.sh[p0]? = some (10, 0)) <|
    rf (H.P p0 0) fun a2 =>
    ck (H.sh[a2]? = some (7, 0)) <|
    bC (F_World_clear N a2 p1 p2 H) fun v6 H7 =>
    bnd (H7.sD p0 5 (0 : Int32)) fun H8 =>
    bnd (H8.sD p0 3 (0 : Int32)) fun H9 =>
    bC (F_Play_forgetInputs N p0 H9) fun v11 H12 =>
    some ((), H12)
set_option maxRecDepth 20000 in
set_option maxHeartbeats 2000000 in
theorem m_Play_begin {N : Nat} {p0 : Nat} {p1 : Int32} {p2 : Int32} {H : Hp} {r : Unit × Hp} (hF : F_Play_begin N p0 p1 p2 H = some r) : Sa H r.2 := by
  unfold F_Play_begin at hF
  have hm := Sa.rf H
  obtain ⟨q13, hG⟩ := ck_s hF; clear hF
  obtain ⟨a14, e15, hF⟩ := rf_s hG; clear hG
  obtain ⟨q16, hG⟩ := ck_s hF; clear hF
  obtain ⟨v18, H19, z17, hF⟩ := bC_s hG; clear hG
  replace hm : Sa H H19 := hm.tr (m_World_clear z17)
  obtain ⟨H20, eH20, hG⟩ := bnd_g hF; clear hF
  replace hm : Sa H H20 := by rw [eH20]; exact hm
  obtain ⟨H21, eH21, hF⟩ := bnd_g hG; clear hG
  replace hm : Sa H H21 := by rw [eH21]; exact hm
  obtain ⟨v23, H24, z22, hG⟩ := bC_s hF; clear hF
  replace hm : Sa H H24 := hm.tr (m_Play_forgetInputs z22)
  have hr := Option.some.inj hG; subst hr
  exact hm
set_option maxRecDepth 20000 in
set_option maxHeartbeats 2000000 in
theorem k_Play_begin {N : Nat} {p0 : Nat} {p1 : Int32} {p2 : Int32} {H : Hp} {r : Unit × Hp} (hF : F_Play_begin N p0 p1 p2 H = some r) : ab_M y_Play_begin { frames := 2, cells := 0, slots := 0, locals := 45 } [.ref p0, .int p1, .int p2] (hpw H) (po (.returned none) r.2) := by
  unfold F_Play_begin at hF
  refine ab_of2 (lv := [some (.ref p0), some (.int p1), some (.int p2)]) 0 rfl rfl (Nat.le_of_ble_eq_true rfl) ?_
  refine ab_aload_n d_Play_begin_0 rfl rfl rfl ?_
  obtain ⟨q1, hG⟩ := ck_s hF; clear hF
  obtain ⟨a2, e3, hF⟩ := rf_s hG; clear hG
  refine hp_getR (f := 0) d_Play_begin_1 q1 (by decide) rfl (by decide) (k2 130 rfl rfl) rfl e3 ?_
  refine ab_iload_n d_Play_begin_4 rfl rfl ?_
  refine ab_iload_n d_Play_begin_5 rfl rfl ?_
  obtain ⟨q4, hG⟩ := ck_s hF; clear hF
  obtain ⟨v6, H7, z5, hF⟩ := bC_s hG; clear hG
  refine hp_callV_v (H1 := H7) (As := [.int p1, .int p2]) (rest := []) d_Play_begin_6 (k_World_clear z5) (ab_mkC s_World_clear (Nat.le_of_ble_eq_true rfl) (Nat.le_of_ble_eq_true rfl) (Nat.le_refl 0) (Nat.le_refl 0)) (k6 78 rfl rfl) i_World_clear v_World_clear q4 (by decide) rfl rfl (Nat.le_of_ble_eq_true rfl) ?_
  have s_1 : Sa H H7 := (m_World_clear z5)
  refine ab_aload_n d_Play_begin_9 rfl rfl rfl ?_
  refine ab_iconst (v := 0) d_Play_begin_10 (by decide) ?_
  refine hp_putI (v := 0) (f := 5) d_Play_begin_11 (by rw [(s_1).1]; exact q1) (by decide) rfl (by decide) (k2 140 rfl rfl) rfl rfl (fun _ => rfl) (fun _ => rfl) rfl ?_
  refine hp_gen (fun H8 eH8 => ?_)
  replace hF := bnd_s eH8 hF
  have s_2 : Sa H H8 := by rw [eH8]; exact s_1
  refine ab_aload_n d_Play_begin_14 rfl rfl rfl ?_
  refine ab_iconst (v := 0) d_Play_begin_15 (by decide) ?_
  refine hp_putI (v := 0) (f := 3) d_Play_begin_16 (by rw [(s_2).1]; exact q1) (by decide) rfl (by decide) (k2 136 rfl rfl) rfl rfl (fun _ => rfl) (fun _ => rfl) rfl ?_
  refine hp_gen (fun H9 eH9 => ?_)
  replace hF := bnd_s eH9 hF
  have s_3 : Sa H H9 := by rw [eH9]; exact s_2
  refine ab_aload_n d_Play_begin_19 rfl rfl rfl ?_
  obtain ⟨v11, H12, z10, hG⟩ := bC_s hF; clear hF
  refine hp_callV_v (H1 := H12) (As := []) (rest := []) d_Play_begin_20 (k_Play_forgetInputs z10) (ab_mkC s_Play_forgetInputs (Nat.le_of_ble_eq_true rfl) (Nat.le_of_ble_eq_true rfl) (Nat.le_refl 0) (Nat.le_refl 0)) (k6 82 rfl rfl) i_Play_forgetInputs v_Play_forgetInputs (by rw [(s_3).1]; exact q1) (by decide) rfl rfl (Nat.le_of_ble_eq_true rfl) ?_
  have s_4 : Sa H H12 := (s_3).tr (m_Play_forgetInputs z10)
  exact ab_vret d_Play_begin_23 rfl (Nat.le_refl _) (Nat.le_refl _) (by have hr := Option.some.inj hG; subst hr; exact ⟨rfl, rfl⟩)
def y_W_text : ab_Y := (⟨"WorldEngine", "text", "(I)I"⟩, prog_1_method_4_code, 2, (some FieldType.int), [])
theorem d_W_text_0 : decode y_W_text.2.1 0 = .ok (.aload_n 0, 1) := by decide +kernel
theorem d_W_text_1 : decode y_W_text.2.1 1 = .ok (.getfield 21, 3) := by decide +kernel
theorem d_W_text_4 : decode y_W_text.2.1 4 = .ok (.aload_n 0, 1) := by decide +kernel
theorem d_W_text_5 : decode y_W_text.2.1 5 = .ok (.getfield 46, 3) := by decide +kernel
theorem d_W_text_8 : decode y_W_text.2.1 8 = .ok (.invokevirtual 80, 3) := by decide +kernel
theorem d_W_text_11 : decode y_W_text.2.1 11 = .ok (.ifCond .ne 12, 3) := by decide +kernel
theorem d_W_text_14 : decode y_W_text.2.1 14 = .ok (.aload_n 0, 1) := by decide +kernel
theorem d_W_text_15 : decode y_W_text.2.1 15 = .ok (.getfield 10, 3) := by decide +kernel
theorem d_W_text_18 : decode y_W_text.2.1 18 = .ok (.getfield 84, 3) := by decide +kernel
theorem d_W_text_21 : decode y_W_text.2.1 21 = .ok (.ineg, 1) := by decide +kernel
theorem d_W_text_22 : decode y_W_text.2.1 22 = .ok (.ireturn, 1) := by decide +kernel
theorem d_W_text_23 : decode y_W_text.2.1 23 = .ok (.aload_n 0, 1) := by decide +kernel
theorem d_W_text_24 : decode y_W_text.2.1 24 = .ok (.invokevirtual 87, 3) := by decide +kernel
theorem d_W_text_27 : decode y_W_text.2.1 27 = .ok (.aload_n 0, 1) := by decide +kernel
theorem d_W_text_28 : decode y_W_text.2.1 28 = .ok (.getfield 28, 3) := by decide +kernel
theorem d_W_text_31 : decode y_W_text.2.1 31 = .ok (.iload_n 1, 1) := by decide +kernel
theorem d_W_text_32 : decode y_W_text.2.1 32 = .ok (.aload_n 0, 1) := by decide +kernel
theorem d_W_text_33 : decode y_W_text.2.1 33 = .ok (.getfield 42, 3) := by decide +kernel
theorem d_W_text_36 : decode y_W_text.2.1 36 = .ok (.getfield 90, 3) := by decide +kernel
theorem d_W_text_39 : decode y_W_text.2.1 39 = .ok (.invokevirtual 94, 3) := by decide +kernel
theorem d_W_text_42 : decode y_W_text.2.1 42 = .ok (.invokevirtual 100, 3) := by decide +kernel
theorem d_W_text_45 : decode y_W_text.2.1 45 = .ok (.aload_n 0, 1) := by decide +kernel
theorem d_W_text_46 : decode y_W_text.2.1 46 = .ok (.getfield 42, 3) := by decide +kernel
theorem d_W_text_49 : decode y_W_text.2.1 49 = .ok (.getfield 104, 3) := by decide +kernel
theorem d_W_text_52 : decode y_W_text.2.1 52 = .ok (.ireturn, 1) := by decide +kernel
theorem s_W_text : ab_Stat y_W_text 1 := ⟨(k3 204 rfl rfl), (k1 1 rfl rfl), ⟨by decide, by decide⟩, by decide +kernel⟩
theorem i_W_text : Cond.instanceMethod y_W_text.1 ∈ ab_T := (k3 202 rfl rfl)
theorem v_W_text : Cond.selects "WorldEngine" y_W_text.1 y_W_text.1 ∈ ab_T := (k3 203 rfl rfl)
def F_W_text (N : Nat) (p0 : Nat) (p1 : Int32) (H : Hp) : Option (Int32 × Hp) :=
    ck (H.sh[p0]? = some (0, 0)) <|
    rf (H.P p0 1) fun a2 =>
    rf (H.P p0 5) fun a4 =>
    ck (H.sh[a2]? = some (5, 0)) <|
    bC (F_Reader_readAll N a2 a4 H) fun v8 H9 =>
    if v8 = (0 : Int32) then
    rf (H9.P p0 0) fun a33 =>
    ck (H9.sh[a33]? = some (1, 0)) <|
    bnd ((H9.D a33 4)) fun x36 =>
    some (-x36, H9)
    else
    bC (F_W_exchangePrograms N p0 H9) fun v12 H13 =>
    rf (H13.P p0 2) fun a14 =>
    rf (H13.P p0 4) fun a16 =>
    ck (H13.sh[a16]? = some (4, 0)) <|
    rf (H13.P a16 2) fun a19 =>
    ck (H13.sh[a19]? = some (3, 0)) <|
    bC (F_Shapes_total N a19 H13) fun v23 H24 =>
    ck (H24.sh[a14]? = some (10, 0)) <|
    bC (F_Play_begin N a14 p1 v23 H24) fun v27 H28 =>
    rf (H28.P p0 4) fun a29 =>
    ck (H28.sh[a29]? = some (4, 0)) <|
    bnd ((H28.D a29 7)) fun x32 =>
    some (x32, H28)
set_option maxRecDepth 20000 in
set_option maxHeartbeats 2000000 in
theorem m_W_text {N : Nat} {p0 : Nat} {p1 : Int32} {H : Hp} {r : Int32 × Hp} (hF : F_W_text N p0 p1 H = some r) : Mo H r.2 := by
  unfold F_W_text at hF
  have hm := Mo.rf H
  obtain ⟨q37, hG⟩ := ck_s hF; clear hF
  obtain ⟨a38, e39, hF⟩ := rf_s hG; clear hG
  obtain ⟨a40, e41, hG⟩ := rf_s hF; clear hF
  obtain ⟨q42, hF⟩ := ck_s hG; clear hG
  obtain ⟨v44, H45, z43, hG⟩ := bC_s hF; clear hF
  replace hm : Mo H H45 := hm.tr (m_Reader_readAll z43)
  rcases ite_s hG with ⟨q_15, hF⟩ | ⟨q_15, hF⟩
  · clear hG
    obtain ⟨a47, e48, hG⟩ := rf_s hF; clear hF
    obtain ⟨q49, hF⟩ := ck_s hG; clear hG
    obtain ⟨x50, -, hG⟩ := bnd_g hF; clear hF
    have hr := Option.some.inj hG; subst hr
    exact hm
  · clear hG
    obtain ⟨v52, H53, z51, hG⟩ := bC_s hF; clear hF
    replace hm : Mo H H53 := hm.tr ((m_W_exchangePrograms z51)).mo
    obtain ⟨a54, e55, hF⟩ := rf_s hG; clear hG
    obtain ⟨a56, e57, hG⟩ := rf_s hF; clear hF
    obtain ⟨q58, hF⟩ := ck_s hG; clear hG
    obtain ⟨a59, e60, hG⟩ := rf_s hF; clear hF
    obtain ⟨q61, hF⟩ := ck_s hG; clear hG
    obtain ⟨v63, H64, z62, hG⟩ := bC_s hF; clear hF
    replace hm : Mo H H64 := hm.tr ((m_Shapes_total z62)).mo
    obtain ⟨q65, hF⟩ := ck_s hG; clear hG
    obtain ⟨v67, H68, z66, hG⟩ := bC_s hF; clear hF
    replace hm : Mo H H68 := hm.tr ((m_Play_begin z66)).mo
    obtain ⟨a69, e70, hF⟩ := rf_s hG; clear hG
    obtain ⟨q71, hG⟩ := ck_s hF; clear hF
    obtain ⟨x72, -, hF⟩ := bnd_g hG; clear hG
    have hr := Option.some.inj hF; subst hr
    exact hm
set_option maxRecDepth 20000 in
set_option maxHeartbeats 2000000 in
theorem k_W_text {N : Nat} {p0 : Nat} {p1 : Int32} {H : Hp} {r : Int32 × Hp} {C Sl : Nat} (hF : F_W_text N p0 p1 H = some r) (hC : r.2.sh.length ≤ H.sh.length + C) (hS : r.2.sl ≤ H.sl + Sl) : ab_M y_W_text { frames := 693, cells := C, slots := Sl, locals := 16209 } [.ref p0, .int p1] (hpw H) (po (.returned (some (.int r.1))) r.2) := by
  unfold F_W_text at hF
  obtain ⟨c0, e0⟩ : ∃ q, q = H.sh.length := ⟨_, rfl⟩
  obtain ⟨s0, e1⟩ : ∃ q, q = H.sl := ⟨_, rfl⟩
  rw [← e0] at hC
  rw [← e1] at hS
  have hc0 : c0 ≤ H.sh.length := Nat.le_of_eq e0
  have hs0 : s0 ≤ H.sl := Nat.le_of_eq e1
  have hcc : H.sh.length ≤ c0 + C := by omega
  have hss : H.sl ≤ s0 + Sl := by omega
  refine ab_of2 (lv := [some (.ref p0), some (.int p1)]) 0 rfl rfl (Nat.le_of_ble_eq_true rfl) ?_
  refine ab_widen (cells' := H.sh.length - c0) (slots' := H.sl - s0) (Nat.zero_le _) (Nat.zero_le _) ?_
  refine ab_aload_n d_W_text_0 rfl rfl rfl ?_
  obtain ⟨q1, hG⟩ := ck_s hF; clear hF
  obtain ⟨a2, e3, hF⟩ := rf_s hG; clear hG
  refine hp_getR (f := 1) d_W_text_1 q1 (by decide) rfl (by decide) (k3 158 rfl rfl) rfl e3 ?_
  refine ab_aload_n d_W_text_4 rfl rfl rfl ?_
  obtain ⟨a4, e5, hG⟩ := rf_s hF; clear hF
  refine hp_getR (f := 5) d_W_text_5 q1 (by decide) rfl (by decide) (k3 162 rfl rfl) rfl e5 ?_
  obtain ⟨q6, hF⟩ := ck_s hG; clear hG
  obtain ⟨v8, H9, z7, hG⟩ := bC_s hF; clear hF
  have mz_1 : Mo H H9 := (m_Reader_readAll z7)
  have b_2l := (mz_1).len
  have b_2s := (mz_1).2
  have b_2c : c0 ≤ H9.sh.length := by omega
  have b_2d : s0 ≤ H9.sl := by omega
  have q_3 := (mz_1).get q1
  have q_4 := (mz_1).get q6
  have fH9 : Mo H9 r.2 := by
    have hm := Mo.rf H9
    rcases ite_s hG with ⟨q_5, hF⟩ | ⟨q_5, hF⟩
    · clear hG
      obtain ⟨a11, e12, hG⟩ := rf_s hF; clear hF
      obtain ⟨q13, hF⟩ := ck_s hG; clear hG
      obtain ⟨x14, -, hG⟩ := bnd_g hF; clear hF
      have hr := Option.some.inj hG; subst hr
      exact hm
    · clear hG
      obtain ⟨v16, H17, z15, hG⟩ := bC_s hF; clear hF
      replace hm : Mo H9 H17 := hm.tr ((m_W_exchangePrograms z15)).mo
      obtain ⟨a18, e19, hF⟩ := rf_s hG; clear hG
      obtain ⟨a20, e21, hG⟩ := rf_s hF; clear hF
      obtain ⟨q22, hF⟩ := ck_s hG; clear hG
      obtain ⟨a23, e24, hG⟩ := rf_s hF; clear hF
      obtain ⟨q25, hF⟩ := ck_s hG; clear hG
      obtain ⟨v27, H28, z26, hG⟩ := bC_s hF; clear hF
      replace hm : Mo H9 H28 := hm.tr ((m_Shapes_total z26)).mo
      obtain ⟨q29, hF⟩ := ck_s hG; clear hG
      obtain ⟨v31, H32, z30, hG⟩ := bC_s hF; clear hF
      replace hm : Mo H9 H32 := hm.tr ((m_Play_begin z30)).mo
      obtain ⟨a33, e34, hF⟩ := rf_s hG; clear hG
      obtain ⟨q35, hG⟩ := ck_s hF; clear hF
      obtain ⟨x36, -, hF⟩ := bnd_g hG; clear hG
      have hr := Option.some.inj hF; subst hr
      exact hm
  have b_2m := (fH9).len
  have b_2n := (fH9).2
  have b_2p : H9.sh.length ≤ c0 + C := by omega
  have b_2q : H9.sl ≤ s0 + Sl := by omega
  refine hp_callV_a (v := .int v8) (H1 := H9) (As := [.ref a4]) (rest := []) d_W_text_8 (k_Reader_readAll z7 (C := H9.sh.length - H.sh.length) (Sl := H9.sl - H.sl) (by show H9.sh.length ≤ _; omega) (by show H9.sl ≤ _; omega)) (ab_mkC s_Reader_readAll (Nat.le_of_ble_eq_true rfl) (Nat.le_of_ble_eq_true rfl) (show (H.sh.length - c0) + (H9.sh.length - H.sh.length) ≤ C from by omega) (show (H.sl - s0) + (H9.sl - H.sl) ≤ Sl from by omega)) (k3 205 rfl rfl) i_Reader_readAll v_Reader_readAll q6 (by decide) rfl rfl (Nat.le_of_ble_eq_true rfl) ?_
  refine ab_widen (cells' := H9.sh.length - c0) (slots' := H9.sl - s0) (by show _ + (H9.sh.length - H.sh.length) ≤ _; omega) (by show _ + (H9.sl - H.sl) ≤ _; omega) ?_
  clear b_2l b_2s b_2m b_2n
  refine ab_if_ne (tgt := 23) d_W_text_11 (by decide) (fun q10 => ?_) (fun q10 => ?_)
  · rw [if_neg q10] at hG
    refine ab_aload_n d_W_text_23 rfl rfl rfl ?_
    obtain ⟨v12, H13, z11, hF⟩ := bC_s hG; clear hG
    refine hp_callV_v (H1 := H13) (As := []) (rest := []) d_W_text_24 (k_W_exchangePrograms z11) (ab_mkC s_W_exchangePrograms (Nat.le_of_ble_eq_true rfl) (Nat.le_of_ble_eq_true rfl) (show (H9.sh.length - c0) + 0 ≤ C from by omega) (show (H9.sl - s0) + 0 ≤ Sl from by omega)) (k6 69 rfl rfl) i_W_exchangePrograms v_W_exchangePrograms q_3 (by decide) rfl rfl (Nat.le_of_ble_eq_true rfl) ?_
    have s_7 : Sa H9 H13 := (m_W_exchangePrograms z11)
    refine ab_widen (cells' := H9.sh.length - c0) (slots' := H9.sl - s0) (by show (H9.sh.length - c0) + 0 ≤ _; omega) (by show (H9.sl - s0) + 0 ≤ _; omega) ?_
    refine ab_aload_n d_W_text_27 rfl rfl rfl ?_
    obtain ⟨a14, e15, hG⟩ := rf_s hF; clear hF
    refine hp_getR (f := 2) d_W_text_28 (by rw [(s_7).1]; exact q_3) (by decide) rfl (by decide) (k3 159 rfl rfl) rfl e15 ?_
    refine ab_iload_n d_W_text_31 rfl rfl ?_
    refine ab_aload_n d_W_text_32 rfl rfl rfl ?_
    obtain ⟨a16, e17, hF⟩ := rf_s hG; clear hG
    refine hp_getR (f := 4) d_W_text_33 (by rw [(s_7).1]; exact q_3) (by decide) rfl (by decide) (k3 161 rfl rfl) rfl e17 ?_
    obtain ⟨q18, hG⟩ := ck_s hF; clear hF
    rw [(s_7).1] at q18
    obtain ⟨a19, e20, hF⟩ := rf_s hG; clear hG
    refine hp_getR (f := 2) d_W_text_36 (by rw [(s_7).1]; exact q18) (by decide) rfl (by decide) (k3 57 rfl rfl) rfl e20 ?_
    obtain ⟨q21, hG⟩ := ck_s hF; clear hF
    rw [(s_7).1] at q21
    obtain ⟨v23, H24, z22, hF⟩ := bC_s hG; clear hG
    refine ab_widen (cells' := H13.sh.length - c0) (slots' := H13.sl - s0) (by rw [(s_7).1]; exact Nat.le_refl _) (by rw [(s_7).2]; exact Nat.le_refl _) ?_
    have b_8e := congrArg List.length (s_7).1
    have b_8f := (s_7).2
    refine hp_callV_a (v := .int v23) (H1 := H24) (As := []) (rest := [.int p1, .ref a14]) d_W_text_39 (k_Shapes_total z22) (ab_mkC s_Shapes_total (Nat.le_of_ble_eq_true rfl) (Nat.le_of_ble_eq_true rfl) (show (H13.sh.length - c0) + 0 ≤ C from by omega) (show (H13.sl - s0) + 0 ≤ Sl from by omega)) (k6 73 rfl rfl) i_Shapes_total v_Shapes_total (by rw [(s_7).1]; exact q21) (by decide) rfl rfl (Nat.le_of_ble_eq_true rfl) ?_
    have s_9 : Sa H9 H24 := (s_7).tr (m_Shapes_total z22)
    refine ab_widen (cells' := H9.sh.length - c0) (slots' := H9.sl - s0) (by show (H13.sh.length - c0) + 0 ≤ _; omega) (by show (H13.sl - s0) + 0 ≤ _; omega) ?_
    clear b_8e b_8f
    obtain ⟨q25, hG⟩ := ck_s hF; clear hF
    rw [(s_9).1] at q25
    obtain ⟨v27, H28, z26, hF⟩ := bC_s hG; clear hG
    refine ab_widen (cells' := H24.sh.length - c0) (slots' := H24.sl - s0) (by rw [(s_9).1]; exact Nat.le_refl _) (by rw [(s_9).2]; exact Nat.le_refl _) ?_
    have b_10e := congrArg List.length (s_9).1
    have b_10f := (s_9).2
    refine hp_callV_v (H1 := H28) (As := [.int p1, .int v23]) (rest := []) d_W_text_42 (k_Play_begin z26) (ab_mkC s_Play_begin (Nat.le_of_ble_eq_true rfl) (Nat.le_of_ble_eq_true rfl) (show (H24.sh.length - c0) + 0 ≤ C from by omega) (show (H24.sl - s0) + 0 ≤ Sl from by omega)) (k6 74 rfl rfl) i_Play_begin v_Play_begin (by rw [(s_9).1]; exact q25) (by decide) rfl rfl (Nat.le_of_ble_eq_true rfl) ?_
    have s_11 : Sa H9 H28 := (s_9).tr (m_Play_begin z26)
    refine ab_widen (cells' := H9.sh.length - c0) (slots' := H9.sl - s0) (by show (H24.sh.length - c0) + 0 ≤ _; omega) (by show (H24.sl - s0) + 0 ≤ _; omega) ?_
    clear b_10e b_10f
    refine ab_aload_n d_W_text_45 rfl rfl rfl ?_
    obtain ⟨a29, e30, hG⟩ := rf_s hF; clear hF
    refine hp_getR (f := 4) d_W_text_46 (by rw [(s_11).1]; exact q_3) (by decide) rfl (by decide) (k3 161 rfl rfl) rfl e30 ?_
    obtain ⟨q31, hF⟩ := ck_s hG; clear hG
    rw [(s_11).1] at q31
    refine hp_getI (f := 7) d_W_text_49 (by rw [(s_11).1]; exact q31) (by decide) rfl (by decide) (k3 82 rfl rfl) rfl ?_
    refine ab_topi (fun x32 ex32 => ?_)
    replace hF := bnd_s ex32 hF
    exact ab_iret d_W_text_52 rfl (by show _ ≤ C; omega) (by show _ ≤ Sl; omega) (by have hr := Option.some.inj hF; subst hr; exact ⟨rfl, rfl⟩)
  · rw [if_pos q10] at hG
    refine ab_aload_n d_W_text_14 rfl rfl rfl ?_
    obtain ⟨a33, e34, hF⟩ := rf_s hG; clear hG
    refine hp_getR (f := 0) d_W_text_15 q_3 (by decide) rfl (by decide) (k3 157 rfl rfl) rfl e34 ?_
    obtain ⟨q35, hG⟩ := ck_s hF; clear hF
    refine hp_getI (f := 4) d_W_text_18 q35 (by decide) rfl (by decide) (k1 105 rfl rfl) rfl ?_
    refine ab_topi (fun x36 ex36 => ?_)
    replace hG := bnd_s ex36 hG
    refine ab_ineg d_W_text_21 ?_
    exact ab_iret d_W_text_22 rfl (by show _ ≤ C; omega) (by show _ ≤ Sl; omega) (by have hr := Option.some.inj hG; subst hr; exact ⟨rfl, rfl⟩)
