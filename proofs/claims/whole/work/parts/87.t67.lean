def y_MRunner_chooses : ab_Y := (⟨"WorldEngineModel$Runner", "chooses", "()V"⟩, prog_15_method_11_code, 2, none, [])
theorem d_MRunner_chooses_0 : decode y_MRunner_chooses.2.1 0 = .ok (.aload_n 0, 1) := by decide +kernel
theorem d_MRunner_chooses_1 : decode y_MRunner_chooses.2.1 1 = .ok (.invokevirtual 137, 3) := by decide +kernel
theorem d_MRunner_chooses_4 : decode y_MRunner_chooses.2.1 4 = .ok (.ifCond .eq 7, 3) := by decide +kernel
theorem d_MRunner_chooses_7 : decode y_MRunner_chooses.2.1 7 = .ok (.iconst 1, 1) := by decide +kernel
theorem d_MRunner_chooses_8 : decode y_MRunner_chooses.2.1 8 = .ok (.goto 4, 3) := by decide +kernel
theorem d_MRunner_chooses_11 : decode y_MRunner_chooses.2.1 11 = .ok (.iconst 0, 1) := by decide +kernel
theorem d_MRunner_chooses_12 : decode y_MRunner_chooses.2.1 12 = .ok (.istore_n 1, 1) := by decide +kernel
theorem d_MRunner_chooses_13 : decode y_MRunner_chooses.2.1 13 = .ok (.aload_n 0, 1) := by decide +kernel
theorem d_MRunner_chooses_14 : decode y_MRunner_chooses.2.1 14 = .ok (.getfield 96, 3) := by decide +kernel
theorem d_MRunner_chooses_17 : decode y_MRunner_chooses.2.1 17 = .ok (.ifCond .le 4, 3) := by decide +kernel
theorem d_MRunner_chooses_20 : decode y_MRunner_chooses.2.1 20 = .ok (.return_, 1) := by decide +kernel
theorem d_MRunner_chooses_21 : decode y_MRunner_chooses.2.1 21 = .ok (.iload_n 1, 1) := by decide +kernel
theorem d_MRunner_chooses_22 : decode y_MRunner_chooses.2.1 22 = .ok (.ifCond .eq 10, 3) := by decide +kernel
theorem d_MRunner_chooses_25 : decode y_MRunner_chooses.2.1 25 = .ok (.aload_n 0, 1) := by decide +kernel
theorem d_MRunner_chooses_26 : decode y_MRunner_chooses.2.1 26 = .ok (.invokevirtual 111, 3) := by decide +kernel
theorem d_MRunner_chooses_29 : decode y_MRunner_chooses.2.1 29 = .ok (.goto 7, 3) := by decide +kernel
theorem d_MRunner_chooses_32 : decode y_MRunner_chooses.2.1 32 = .ok (.aload_n 0, 1) := by decide +kernel
theorem d_MRunner_chooses_33 : decode y_MRunner_chooses.2.1 33 = .ok (.invokevirtual 171, 3) := by decide +kernel
theorem d_MRunner_chooses_36 : decode y_MRunner_chooses.2.1 36 = .ok (.aload_n 0, 1) := by decide +kernel
theorem d_MRunner_chooses_37 : decode y_MRunner_chooses.2.1 37 = .ok (.getfield 96, 3) := by decide +kernel
theorem d_MRunner_chooses_40 : decode y_MRunner_chooses.2.1 40 = .ok (.ifCond .gt 21, 3) := by decide +kernel
theorem d_MRunner_chooses_43 : decode y_MRunner_chooses.2.1 43 = .ok (.aload_n 0, 1) := by decide +kernel
theorem d_MRunner_chooses_44 : decode y_MRunner_chooses.2.1 44 = .ok (.getfield 25, 3) := by decide +kernel
theorem d_MRunner_chooses_47 : decode y_MRunner_chooses.2.1 47 = .ok (.getfield 131, 3) := by decide +kernel
theorem d_MRunner_chooses_50 : decode y_MRunner_chooses.2.1 50 = .ok (.aload_n 0, 1) := by decide +kernel
theorem d_MRunner_chooses_51 : decode y_MRunner_chooses.2.1 51 = .ok (.getfield 108, 3) := by decide +kernel
theorem d_MRunner_chooses_54 : decode y_MRunner_chooses.2.1 54 = .ok (.iaload, 1) := by decide +kernel
theorem d_MRunner_chooses_55 : decode y_MRunner_chooses.2.1 55 = .ok (.sipush 216, 3) := by decide +kernel
theorem d_MRunner_chooses_58 : decode y_MRunner_chooses.2.1 58 = .ok (.if_icmp .eq 4, 3) := by decide +kernel
theorem d_MRunner_chooses_61 : decode y_MRunner_chooses.2.1 61 = .ok (.return_, 1) := by decide +kernel
theorem d_MRunner_chooses_62 : decode y_MRunner_chooses.2.1 62 = .ok (.aload_n 0, 1) := by decide +kernel
theorem d_MRunner_chooses_63 : decode y_MRunner_chooses.2.1 63 = .ok (.dup, 1) := by decide +kernel
theorem d_MRunner_chooses_64 : decode y_MRunner_chooses.2.1 64 = .ok (.getfield 108, 3) := by decide +kernel
theorem d_MRunner_chooses_67 : decode y_MRunner_chooses.2.1 67 = .ok (.iconst 1, 1) := by decide +kernel
theorem d_MRunner_chooses_68 : decode y_MRunner_chooses.2.1 68 = .ok (.iadd, 1) := by decide +kernel
theorem d_MRunner_chooses_69 : decode y_MRunner_chooses.2.1 69 = .ok (.putfield 108, 3) := by decide +kernel
theorem d_MRunner_chooses_72 : decode y_MRunner_chooses.2.1 72 = .ok (.iload_n 1, 1) := by decide +kernel
theorem d_MRunner_chooses_73 : decode y_MRunner_chooses.2.1 73 = .ok (.ifCond .eq 10, 3) := by decide +kernel
theorem d_MRunner_chooses_76 : decode y_MRunner_chooses.2.1 76 = .ok (.aload_n 0, 1) := by decide +kernel
theorem d_MRunner_chooses_77 : decode y_MRunner_chooses.2.1 77 = .ok (.invokevirtual 171, 3) := by decide +kernel
theorem d_MRunner_chooses_80 : decode y_MRunner_chooses.2.1 80 = .ok (.goto 7, 3) := by decide +kernel
theorem d_MRunner_chooses_83 : decode y_MRunner_chooses.2.1 83 = .ok (.aload_n 0, 1) := by decide +kernel
theorem d_MRunner_chooses_84 : decode y_MRunner_chooses.2.1 84 = .ok (.invokevirtual 111, 3) := by decide +kernel
theorem d_MRunner_chooses_87 : decode y_MRunner_chooses.2.1 87 = .ok (.return_, 1) := by decide +kernel
theorem s_MRunner_chooses : ab_Stat y_MRunner_chooses 0 := ⟨(k12 91 rfl rfl), (k1 22 rfl rfl), ⟨by decide, by decide⟩, by decide +kernel⟩
theorem i_MRunner_chooses : Cond.instanceMethod y_MRunner_chooses.1 ∈ ab_T := (k12 90 rfl rfl)
theorem v_MRunner_chooses : Cond.selects "WorldEngineModel$Runner" y_MRunner_chooses.1 y_MRunner_chooses.1 ∈ ab_T := ab_s (List.mem_of_getElem? (i := 194) rfl) rfl
def B_MRunner_chooses_36 (N : Nat) (o : Orc_RunS) (p0 : Nat) (l1 : Int32) (H : Hp) : Option (Unit × Hp) :=
    ck (H.sh[p0]? = some (15, 0)) <|
    bnd ((H.D p0 10)) fun x14 =>
    if (0 : Int32) < x14 then
    some ((), H)
    else
    rf (H.P p0 0) fun a16 =>
    ck (H.sh[a16]? = some (14, 0)) <|
    rf (H.P a16 3) fun a19 =>
    bnd ((H.D p0 11)) fun x21 =>
    ar H 100 a19 fun n22 =>
    ck (inb x21 n22) <|
    bnd ((H.D a19 (x21).toNatClampNeg)) fun x25 =>
    if x25 = (216 : Int32) then
    bnd ((H.D p0 11)) fun x27 =>
    bnd (H.sD p0 11 (x27 + (1 : Int32))) fun H28 =>
    if l1 = (0 : Int32) then
    bC (o p0 H28) fun v31 H32 =>
    some ((), H32)
    else
    bC (F_MRunner_skips N p0 H28) fun v34 H35 =>
    some ((), H35)
    else
    some ((), H)
set_option maxRecDepth 20000 in
set_option maxHeartbeats 2000000 in
theorem mB_MRunner_chooses_36 {N : Nat} {o : Orc_RunS} (hmo : mo_RunS o) {p0 : Nat} {l1 : Int32} {H : Hp} {r : Unit × Hp} (hF : B_MRunner_chooses_36 N o p0 l1 H = some r) : Sa H r.2 := by
  unfold B_MRunner_chooses_36 at hF
  have hm := Sa.rf H
  obtain ⟨q36, hG⟩ := ck_s hF; clear hF
  obtain ⟨x37, -, hF⟩ := bnd_g hG; clear hG
  rcases ite_s hF with ⟨q_6, hG⟩ | ⟨q_6, hG⟩
  · clear hF
    have hr := Option.some.inj hG; subst hr
    exact hm
  · clear hF
    obtain ⟨a39, e40, hF⟩ := rf_s hG; clear hG
    obtain ⟨q41, hG⟩ := ck_s hF; clear hF
    obtain ⟨a42, e43, hF⟩ := rf_s hG; clear hG
    obtain ⟨x44, -, hG⟩ := bnd_g hF; clear hF
    obtain ⟨n45, q46, hF⟩ := ar_s hG; clear hG
    obtain ⟨q47, hG⟩ := ck_s hF; clear hF
    obtain ⟨x48, -, hF⟩ := bnd_g hG; clear hG
    rcases ite_s hF with ⟨q_7, hG⟩ | ⟨q_7, hG⟩
    · clear hF
      obtain ⟨x50, -, hF⟩ := bnd_g hG; clear hG
      obtain ⟨H51, eH51, hG⟩ := bnd_g hF; clear hF
      replace hm : Sa H H51 := by rw [eH51]; exact hm
      rcases ite_s hG with ⟨q_9, hF⟩ | ⟨q_9, hF⟩
      · clear hG
        obtain ⟨v54, H55, z53, hG⟩ := bC_s hF; clear hF
        replace hm : Sa H H55 := hm.tr (hmo _ _ _ z53)
        have hr := Option.some.inj hG; subst hr
        exact hm
      · clear hG
        obtain ⟨v57, H58, z56, hG⟩ := bC_s hF; clear hF
        replace hm : Sa H H58 := hm.tr (m_MRunner_skips z56)
        have hr := Option.some.inj hG; subst hr
        exact hm
    · clear hF
      have hr := Option.some.inj hG; subst hr
      exact hm
set_option maxRecDepth 20000 in
set_option maxHeartbeats 2000000 in
theorem kB_MRunner_chooses_36 {N : Nat} {o : Orc_RunS} {fr lo : Nat} (ho : ok_RunS o fr lo) (hmo : mo_RunS o) {p0 : Nat} {l1 : Int32} {H : Hp} {r : Unit × Hp} (hF : B_MRunner_chooses_36 N o p0 l1 H = some r) : ab_V y_MRunner_chooses { frames := fr + 1, cells := 0, slots := 0, locals := lo + 22 } (po (.returned none) r.2) 0 0 0 0 36 [some (.ref p0), some (.int l1)] [] (hpw H) := by
  unfold B_MRunner_chooses_36 at hF
  refine ab_aload_n d_MRunner_chooses_36 rfl rfl rfl ?_
  obtain ⟨q13, hG⟩ := ck_s hF; clear hF
  refine hp_getI (f := 10) d_MRunner_chooses_37 q13 (by decide) rfl (by decide) (k9 193 rfl rfl) rfl ?_
  refine ab_topi (fun x14 ex14 => ?_)
  replace hG := bnd_s ex14 hG
  refine ab_if_gt (tgt := 61) d_MRunner_chooses_40 (by decide) (fun q15 => ?_) (fun q15 => ?_)
  · rw [if_pos q15] at hG
    exact ab_vret d_MRunner_chooses_61 rfl (Nat.le_refl _) (Nat.le_refl _) (by have hr := Option.some.inj hG; subst hr; exact ⟨rfl, rfl⟩)
  · rw [if_neg q15] at hG
    refine ab_aload_n d_MRunner_chooses_43 rfl rfl rfl ?_
    obtain ⟨a16, e17, hF⟩ := rf_s hG; clear hG
    refine hp_getR (f := 0) d_MRunner_chooses_44 q13 (by decide) rfl (by decide) (k9 183 rfl rfl) rfl e17 ?_
    obtain ⟨q18, hG⟩ := ck_s hF; clear hF
    obtain ⟨a19, e20, hF⟩ := rf_s hG; clear hG
    refine hp_getRN (f := 3) d_MRunner_chooses_47 q18 (by decide) rfl (by decide) (k8 163 rfl rfl) rfl e20 ?_
    refine ab_aload_n d_MRunner_chooses_50 rfl rfl rfl ?_
    refine hp_getI (f := 11) d_MRunner_chooses_51 q13 (by decide) rfl (by decide) (k9 194 rfl rfl) rfl ?_
    refine ab_topi (fun x21 ex21 => ?_)
    replace hF := bnd_s ex21 hF
    obtain ⟨n22, q23, hG⟩ := ar_s hF; clear hF
    obtain ⟨q24, hF⟩ := ck_s hG; clear hG
    refine hp_iald d_MRunner_chooses_54 tI q23 q24 ?_
    refine ab_topi (fun x25 ex25 => ?_)
    replace hF := bnd_s ex25 hF
    refine ab_sipush (v := 216) d_MRunner_chooses_55 (by decide) ?_
    refine ab_icmp_eq (tgt := 62) d_MRunner_chooses_58 (by decide) (fun q26 => ?_) (fun q26 => ?_)
    · rw [if_pos q26] at hF
      refine ab_aload_n d_MRunner_chooses_62 rfl rfl rfl ?_
      refine ab_dup d_MRunner_chooses_63 rfl ?_
      refine hp_getI (f := 11) d_MRunner_chooses_64 q13 (by decide) rfl (by decide) (k9 194 rfl rfl) rfl ?_
      refine ab_topi (fun x27 ex27 => ?_)
      replace hF := bnd_s ex27 hF
      refine ab_iconst (v := 1) d_MRunner_chooses_67 (by decide) ?_
      refine ab_iadd d_MRunner_chooses_68 ?_
      refine hp_putI (v := x27 + (1 : Int32)) (f := 11) d_MRunner_chooses_69 q13 (by decide) rfl (by decide) (k9 194 rfl rfl) rfl rfl (fun _ => rfl) (fun _ => rfl) rfl ?_
      refine hp_gen (fun H28 eH28 => ?_)
      replace hF := bnd_s eH28 hF
      have s_3 : Sa H H28 := by rw [eH28]; exact Sa.rf _
      refine ab_iload_n d_MRunner_chooses_72 rfl rfl ?_
      refine ab_if_eq (tgt := 83) d_MRunner_chooses_73 (by decide) (fun q29 => ?_) (fun q29 => ?_)
      · rw [if_pos q29] at hF
        refine ab_aload_n d_MRunner_chooses_83 rfl rfl rfl ?_
        obtain ⟨v31, H32, z30, hG⟩ := bC_s hF; clear hF
        refine hp_callV_v (H1 := H32) (As := []) (rest := []) d_MRunner_chooses_84 (ho.2.2 _ _ _ z30) (ab_mkC s_MRunner_block (show fr + 1 ≤ fr + 1 from by have := ho.1; omega) (show 8 + (2 + 11) + lo ≤ lo + 22 from by have := ho.2.1; omega) (Nat.le_refl 0) (Nat.le_refl 0)) (k11 230 rfl rfl) i_MRunner_block v_MRunner_block (by rw [(s_3).1]; exact q13) (by decide) rfl rfl (Nat.le_of_ble_eq_true rfl) ?_
        have s_4 : Sa H H32 := (s_3).tr (hmo _ _ _ z30)
        exact ab_vret d_MRunner_chooses_87 rfl (Nat.le_refl _) (Nat.le_refl _) (by have hr := Option.some.inj hG; subst hr; exact ⟨rfl, rfl⟩)
      · rw [if_neg q29] at hF
        refine ab_aload_n d_MRunner_chooses_76 rfl rfl rfl ?_
        obtain ⟨v34, H35, z33, hG⟩ := bC_s hF; clear hF
        refine hp_callV_v (H1 := H35) (As := []) (rest := []) d_MRunner_chooses_77 (k_MRunner_skips z33) (ab_mkC s_MRunner_skips (show 0 + 1 ≤ fr + 1 from by have := ho.1; omega) (show 8 + (1 + 11) + 0 ≤ lo + 22 from by have := ho.2.1; omega) (Nat.le_refl 0) (Nat.le_refl 0)) (k12 92 rfl rfl) i_MRunner_skips v_MRunner_skips (by rw [(s_3).1]; exact q13) (by decide) rfl rfl (Nat.le_of_ble_eq_true rfl) ?_
        have s_5 : Sa H H35 := (s_3).tr (m_MRunner_skips z33)
        refine ab_goto (tgt := 87) d_MRunner_chooses_80 (by decide) ?_
        exact ab_vret d_MRunner_chooses_87 rfl (Nat.le_refl _) (Nat.le_refl _) (by have hr := Option.some.inj hG; subst hr; exact ⟨rfl, rfl⟩)
    · rw [if_neg q26] at hF
      exact ab_vret d_MRunner_chooses_61 rfl (Nat.le_refl _) (Nat.le_refl _) (by have hr := Option.some.inj hF; subst hr; exact ⟨rfl, rfl⟩)
def B_MRunner_chooses_12 (N : Nat) (o : Orc_RunS) (p0 : Nat) (w0 : Int32) (H : Hp) : Option (Unit × Hp) :=
    ck (H.sh[p0]? = some (15, 0)) <|
    bnd ((H.D p0 10)) fun x7 =>
    if x7 ≤ (0 : Int32) then
    if w0 = (0 : Int32) then
    bC (F_MRunner_skips N p0 H) fun v11 H12 =>
    B_MRunner_chooses_36 N o p0 w0 H12
    else
    bC (o p0 H) fun v60 H61 =>
    B_MRunner_chooses_36 N o p0 w0 H61
    else
    some ((), H)
set_option maxRecDepth 20000 in
set_option maxHeartbeats 2000000 in
theorem mB_MRunner_chooses_12 {N : Nat} {o : Orc_RunS} (hmo : mo_RunS o) {p0 : Nat} {w0 : Int32} {H : Hp} {r : Unit × Hp} (hF : B_MRunner_chooses_12 N o p0 w0 H = some r) : Sa H r.2 := by
  unfold B_MRunner_chooses_12 at hF
  have hm := Sa.rf H
  obtain ⟨q62, hG⟩ := ck_s hF; clear hF
  obtain ⟨x63, -, hF⟩ := bnd_g hG; clear hG
  rcases ite_s hF with ⟨q_13, hG⟩ | ⟨q_13, hG⟩
  · clear hF
    rcases ite_s hG with ⟨q_14, hF⟩ | ⟨q_14, hF⟩
    · clear hG
      obtain ⟨v67, H68, z66, hG⟩ := bC_s hF; clear hF
      replace hm : Sa H H68 := hm.tr (m_MRunner_skips z66)
      exact hm.tr (mB_MRunner_chooses_36 hmo hG)
    · clear hG
      obtain ⟨v70, H71, z69, hG⟩ := bC_s hF; clear hF
      replace hm : Sa H H71 := hm.tr (hmo _ _ _ z69)
      exact hm.tr (mB_MRunner_chooses_36 hmo hG)
  · clear hF
    have hr := Option.some.inj hG; subst hr
    exact hm
set_option maxRecDepth 20000 in
set_option maxHeartbeats 2000000 in
theorem kB_MRunner_chooses_12 {N : Nat} {o : Orc_RunS} {fr lo : Nat} (ho : ok_RunS o fr lo) (hmo : mo_RunS o) {p0 : Nat} {w0 : Int32} {H : Hp} {r : Unit × Hp} (hF : B_MRunner_chooses_12 N o p0 w0 H = some r) : ab_V y_MRunner_chooses { frames := fr + 1, cells := 0, slots := 0, locals := lo + 22 } (po (.returned none) r.2) 0 0 0 0 12 [some (.ref p0), none] [.int w0] (hpw H) := by
  unfold B_MRunner_chooses_12 at hF
  refine ab_istore_n (lv' := [some (.ref p0), some (.int w0)]) d_MRunner_chooses_12 rfl (by decide) rfl ?_
  refine ab_aload_n d_MRunner_chooses_13 rfl rfl rfl ?_
  obtain ⟨q6, hG⟩ := ck_s hF; clear hF
  refine hp_getI (f := 10) d_MRunner_chooses_14 q6 (by decide) rfl (by decide) (k9 193 rfl rfl) rfl ?_
  refine ab_topi (fun x7 ex7 => ?_)
  replace hG := bnd_s ex7 hG
  refine ab_if_le (tgt := 21) d_MRunner_chooses_17 (by decide) (fun q8 => ?_) (fun q8 => ?_)
  · rw [if_pos q8] at hG
    refine ab_iload_n d_MRunner_chooses_21 rfl rfl ?_
    refine ab_if_eq (tgt := 32) d_MRunner_chooses_22 (by decide) (fun q9 => ?_) (fun q9 => ?_)
    · rw [if_pos q9] at hG
      refine ab_aload_n d_MRunner_chooses_32 rfl rfl rfl ?_
      obtain ⟨v11, H12, z10, hF⟩ := bC_s hG; clear hG
      refine hp_callV_v (H1 := H12) (As := []) (rest := []) d_MRunner_chooses_33 (k_MRunner_skips z10) (ab_mkC s_MRunner_skips (show 0 + 1 ≤ fr + 1 from by have := ho.1; omega) (show 8 + (1 + 11) + 0 ≤ lo + 22 from by have := ho.2.1; omega) (Nat.le_refl 0) (Nat.le_refl 0)) (k12 92 rfl rfl) i_MRunner_skips v_MRunner_skips q6 (by decide) rfl rfl (Nat.le_of_ble_eq_true rfl) ?_
      have s_2 : Sa H H12 := (m_MRunner_skips z10)
      exact kB_MRunner_chooses_36 ho hmo hF
    · rw [if_neg q9] at hG
      refine ab_aload_n d_MRunner_chooses_25 rfl rfl rfl ?_
      obtain ⟨v60, H61, z59, hF⟩ := bC_s hG; clear hG
      refine hp_callV_v (H1 := H61) (As := []) (rest := []) d_MRunner_chooses_26 (ho.2.2 _ _ _ z59) (ab_mkC s_MRunner_block (show fr + 1 ≤ fr + 1 from by have := ho.1; omega) (show 8 + (2 + 11) + lo ≤ lo + 22 from by have := ho.2.1; omega) (Nat.le_refl 0) (Nat.le_refl 0)) (k11 230 rfl rfl) i_MRunner_block v_MRunner_block q6 (by decide) rfl rfl (Nat.le_of_ble_eq_true rfl) ?_
      have s_12 : Sa H H61 := (hmo _ _ _ z59)
      refine ab_goto (tgt := 36) d_MRunner_chooses_29 (by decide) ?_
      exact kB_MRunner_chooses_36 ho hmo hF
  · rw [if_neg q8] at hG
    exact ab_vret d_MRunner_chooses_20 rfl (Nat.le_refl _) (Nat.le_refl _) (by have hr := Option.some.inj hG; subst hr; exact ⟨rfl, rfl⟩)
def F_MRunner_chooses (N : Nat) (o : Orc_RunS) (p0 : Nat) (H : Hp) : Option (Unit × Hp) :=
    ck (H.sh[p0]? = some (15, 0)) <|
    bC ((X_RunE N 50).1 p0 H) fun v3 H4 =>
    if v3 = (0 : Int32) then
    B_MRunner_chooses_12 N o p0 0 H4
    else
    B_MRunner_chooses_12 N o p0 1 H4
set_option maxRecDepth 20000 in
set_option maxHeartbeats 2000000 in
theorem m_MRunner_chooses {N : Nat} {o : Orc_RunS} (hmo : mo_RunS o) {p0 : Nat} {H : Hp} {r : Unit × Hp} (hF : F_MRunner_chooses N o p0 H = some r) : Sa H r.2 := by
  unfold F_MRunner_chooses at hF
  have hm := Sa.rf H
  obtain ⟨q72, hG⟩ := ck_s hF; clear hF
  obtain ⟨v74, H75, z73, hF⟩ := bC_s hG; clear hG
  replace hm : Sa H H75 := hm.tr ((moX_RunE 50).1 _ _ _ z73)
  rcases ite_s hF with ⟨q_18, hG⟩ | ⟨q_18, hG⟩
  · clear hF
    exact hm.tr (mB_MRunner_chooses_12 hmo hG)
  · clear hF
    exact hm.tr (mB_MRunner_chooses_12 hmo hG)
set_option maxRecDepth 20000 in
set_option maxHeartbeats 2000000 in
theorem k_MRunner_chooses {N : Nat} {o : Orc_RunS} {fr lo : Nat} (ho : ok_RunS o fr lo) (hmo : mo_RunS o) {p0 : Nat} {H : Hp} {r : Unit × Hp} (hF : F_MRunner_chooses N o p0 H = some r) : ab_M y_MRunner_chooses { frames := fr + 1, cells := 0, slots := 0, locals := lo + 22 } [.ref p0] (hpw H) (po (.returned none) r.2) := by
  unfold F_MRunner_chooses at hF
  refine ab_of2 (lv := [some (.ref p0), none]) 1 rfl rfl (Nat.le_of_ble_eq_true rfl) ?_
  refine ab_aload_n d_MRunner_chooses_0 rfl rfl rfl ?_
  obtain ⟨q1, hG⟩ := ck_s hF; clear hF
  obtain ⟨v3, H4, z2, hF⟩ := bC_s hG; clear hG
  refine hp_callV_a (v := .int v3) (H1 := H4) (As := []) (rest := []) d_MRunner_chooses_1 ((okX_RunE 50).2.2.1 _ _ _ z2) (ab_mkC s_MRunner_value (show (3 + 5 * 50) + 1 ≤ fr + 1 from by have := ho.1; omega) (show 8 + (3 + 11) + (65 + 123 * 50) ≤ lo + 22 from by have := ho.2.1; omega) (Nat.le_refl 0) (Nat.le_refl 0)) (k12 10 rfl rfl) i_MRunner_value v_MRunner_value q1 (by decide) rfl rfl (Nat.le_of_ble_eq_true rfl) ?_
  have s_1 : Sa H H4 := ((moX_RunE 50).1 _ _ _ z2)
  refine ab_if_eq (tgt := 11) d_MRunner_chooses_4 (by decide) (fun q5 => ?_) (fun q5 => ?_)
  · rw [if_pos q5] at hF
    refine ab_iconst (v := 0) d_MRunner_chooses_11 (by decide) ?_
    exact kB_MRunner_chooses_12 ho hmo hF
  · rw [if_neg q5] at hF
    refine ab_iconst (v := 1) d_MRunner_chooses_7 (by decide) ?_
    refine ab_goto (tgt := 12) d_MRunner_chooses_8 (by decide) ?_
    exact kB_MRunner_chooses_12 ho hmo hF
def y_MRunner_statement : ab_Y := (⟨"WorldEngineModel$Runner", "statement", "()V"⟩, prog_15_method_8_code, 3, none, [])
theorem d_MRunner_statement_0 : decode y_MRunner_statement.2.1 0 = .ok (.aload_n 0, 1) := by decide +kernel
theorem d_MRunner_statement_1 : decode y_MRunner_statement.2.1 1 = .ok (.invokevirtual 128, 3) := by decide +kernel
theorem d_MRunner_statement_4 : decode y_MRunner_statement.2.1 4 = .ok (.aload_n 0, 1) := by decide +kernel
theorem d_MRunner_statement_5 : decode y_MRunner_statement.2.1 5 = .ok (.getfield 96, 3) := by decide +kernel
theorem d_MRunner_statement_8 : decode y_MRunner_statement.2.1 8 = .ok (.ifCond .le 4, 3) := by decide +kernel
theorem d_MRunner_statement_11 : decode y_MRunner_statement.2.1 11 = .ok (.return_, 1) := by decide +kernel
theorem d_MRunner_statement_12 : decode y_MRunner_statement.2.1 12 = .ok (.aload_n 0, 1) := by decide +kernel
theorem d_MRunner_statement_13 : decode y_MRunner_statement.2.1 13 = .ok (.getfield 108, 3) := by decide +kernel
theorem d_MRunner_statement_16 : decode y_MRunner_statement.2.1 16 = .ok (.istore_n 1, 1) := by decide +kernel
theorem d_MRunner_statement_17 : decode y_MRunner_statement.2.1 17 = .ok (.aload_n 0, 1) := by decide +kernel
theorem d_MRunner_statement_18 : decode y_MRunner_statement.2.1 18 = .ok (.getfield 25, 3) := by decide +kernel
theorem d_MRunner_statement_21 : decode y_MRunner_statement.2.1 21 = .ok (.getfield 131, 3) := by decide +kernel
theorem d_MRunner_statement_24 : decode y_MRunner_statement.2.1 24 = .ok (.iload_n 1, 1) := by decide +kernel
theorem d_MRunner_statement_25 : decode y_MRunner_statement.2.1 25 = .ok (.iaload, 1) := by decide +kernel
theorem d_MRunner_statement_26 : decode y_MRunner_statement.2.1 26 = .ok (.istore_n 2, 1) := by decide +kernel
theorem d_MRunner_statement_27 : decode y_MRunner_statement.2.1 27 = .ok (.aload_n 0, 1) := by decide +kernel
theorem d_MRunner_statement_28 : decode y_MRunner_statement.2.1 28 = .ok (.dup, 1) := by decide +kernel
theorem d_MRunner_statement_29 : decode y_MRunner_statement.2.1 29 = .ok (.getfield 108, 3) := by decide +kernel
theorem d_MRunner_statement_32 : decode y_MRunner_statement.2.1 32 = .ok (.iconst 1, 1) := by decide +kernel
theorem d_MRunner_statement_33 : decode y_MRunner_statement.2.1 33 = .ok (.iadd, 1) := by decide +kernel
theorem d_MRunner_statement_34 : decode y_MRunner_statement.2.1 34 = .ok (.putfield 108, 3) := by decide +kernel
theorem d_MRunner_statement_37 : decode y_MRunner_statement.2.1 37 = .ok (.iload_n 2, 1) := by decide +kernel
theorem d_MRunner_statement_38 : decode y_MRunner_statement.2.1 38 = .ok (.lookupswitch 183 #[(1, 82), (214, 90), (215, 133), (217, 140), (218, 147), (221, 154), (222, 161), (227, 168), (230, 175)], 82) := by decide +kernel
theorem d_MRunner_statement_120 : decode y_MRunner_statement.2.1 120 = .ok (.aload_n 0, 1) := by decide +kernel
theorem d_MRunner_statement_121 : decode y_MRunner_statement.2.1 121 = .ok (.iload_n 1, 1) := by decide +kernel
theorem d_MRunner_statement_122 : decode y_MRunner_statement.2.1 122 = .ok (.invokevirtual 134, 3) := by decide +kernel
theorem d_MRunner_statement_125 : decode y_MRunner_statement.2.1 125 = .ok (.goto 101, 3) := by decide +kernel
theorem d_MRunner_statement_128 : decode y_MRunner_statement.2.1 128 = .ok (.aload_n 0, 1) := by decide +kernel
theorem d_MRunner_statement_129 : decode y_MRunner_statement.2.1 129 = .ok (.dup, 1) := by decide +kernel
theorem d_MRunner_statement_130 : decode y_MRunner_statement.2.1 130 = .ok (.getfield 108, 3) := by decide +kernel
theorem d_MRunner_statement_133 : decode y_MRunner_statement.2.1 133 = .ok (.iconst 2, 1) := by decide +kernel
theorem d_MRunner_statement_134 : decode y_MRunner_statement.2.1 134 = .ok (.iadd, 1) := by decide +kernel
theorem d_MRunner_statement_135 : decode y_MRunner_statement.2.1 135 = .ok (.putfield 108, 3) := by decide +kernel
theorem d_MRunner_statement_138 : decode y_MRunner_statement.2.1 138 = .ok (.aload_n 0, 1) := by decide +kernel
theorem d_MRunner_statement_139 : decode y_MRunner_statement.2.1 139 = .ok (.getfield 19, 3) := by decide +kernel
theorem d_MRunner_statement_142 : decode y_MRunner_statement.2.1 142 = .ok (.aload_n 0, 1) := by decide +kernel
theorem d_MRunner_statement_143 : decode y_MRunner_statement.2.1 143 = .ok (.getfield 25, 3) := by decide +kernel
theorem d_MRunner_statement_146 : decode y_MRunner_statement.2.1 146 = .ok (.getfield 122, 3) := by decide +kernel
theorem d_MRunner_statement_149 : decode y_MRunner_statement.2.1 149 = .ok (.iload_n 1, 1) := by decide +kernel
theorem d_MRunner_statement_150 : decode y_MRunner_statement.2.1 150 = .ok (.iconst 1, 1) := by decide +kernel
theorem d_MRunner_statement_151 : decode y_MRunner_statement.2.1 151 = .ok (.iadd, 1) := by decide +kernel
theorem d_MRunner_statement_152 : decode y_MRunner_statement.2.1 152 = .ok (.iaload, 1) := by decide +kernel
theorem d_MRunner_statement_153 : decode y_MRunner_statement.2.1 153 = .ok (.aload_n 0, 1) := by decide +kernel
theorem d_MRunner_statement_154 : decode y_MRunner_statement.2.1 154 = .ok (.invokevirtual 137, 3) := by decide +kernel
theorem d_MRunner_statement_157 : decode y_MRunner_statement.2.1 157 = .ok (.iastore, 1) := by decide +kernel
theorem d_MRunner_statement_158 : decode y_MRunner_statement.2.1 158 = .ok (.aload_n 0, 1) := by decide +kernel
theorem d_MRunner_statement_159 : decode y_MRunner_statement.2.1 159 = .ok (.dup, 1) := by decide +kernel
theorem d_MRunner_statement_160 : decode y_MRunner_statement.2.1 160 = .ok (.getfield 108, 3) := by decide +kernel
theorem d_MRunner_statement_163 : decode y_MRunner_statement.2.1 163 = .ok (.iconst 1, 1) := by decide +kernel
theorem d_MRunner_statement_164 : decode y_MRunner_statement.2.1 164 = .ok (.iadd, 1) := by decide +kernel
theorem d_MRunner_statement_165 : decode y_MRunner_statement.2.1 165 = .ok (.putfield 108, 3) := by decide +kernel
theorem d_MRunner_statement_168 : decode y_MRunner_statement.2.1 168 = .ok (.goto 58, 3) := by decide +kernel
theorem d_MRunner_statement_171 : decode y_MRunner_statement.2.1 171 = .ok (.aload_n 0, 1) := by decide +kernel
theorem d_MRunner_statement_172 : decode y_MRunner_statement.2.1 172 = .ok (.invokevirtual 140, 3) := by decide +kernel
theorem d_MRunner_statement_175 : decode y_MRunner_statement.2.1 175 = .ok (.goto 51, 3) := by decide +kernel
theorem d_MRunner_statement_178 : decode y_MRunner_statement.2.1 178 = .ok (.aload_n 0, 1) := by decide +kernel
theorem d_MRunner_statement_179 : decode y_MRunner_statement.2.1 179 = .ok (.invokevirtual 143, 3) := by decide +kernel
theorem d_MRunner_statement_182 : decode y_MRunner_statement.2.1 182 = .ok (.goto 44, 3) := by decide +kernel
theorem d_MRunner_statement_185 : decode y_MRunner_statement.2.1 185 = .ok (.aload_n 0, 1) := by decide +kernel
theorem d_MRunner_statement_186 : decode y_MRunner_statement.2.1 186 = .ok (.invokevirtual 146, 3) := by decide +kernel
theorem d_MRunner_statement_189 : decode y_MRunner_statement.2.1 189 = .ok (.goto 37, 3) := by decide +kernel
theorem d_MRunner_statement_192 : decode y_MRunner_statement.2.1 192 = .ok (.aload_n 0, 1) := by decide +kernel
theorem d_MRunner_statement_193 : decode y_MRunner_statement.2.1 193 = .ok (.invokevirtual 149, 3) := by decide +kernel
theorem d_MRunner_statement_196 : decode y_MRunner_statement.2.1 196 = .ok (.goto 30, 3) := by decide +kernel
theorem d_MRunner_statement_199 : decode y_MRunner_statement.2.1 199 = .ok (.aload_n 0, 1) := by decide +kernel
theorem d_MRunner_statement_200 : decode y_MRunner_statement.2.1 200 = .ok (.invokevirtual 152, 3) := by decide +kernel
theorem d_MRunner_statement_203 : decode y_MRunner_statement.2.1 203 = .ok (.goto 23, 3) := by decide +kernel
theorem d_MRunner_statement_206 : decode y_MRunner_statement.2.1 206 = .ok (.aload_n 0, 1) := by decide +kernel
theorem d_MRunner_statement_207 : decode y_MRunner_statement.2.1 207 = .ok (.invokevirtual 155, 3) := by decide +kernel
theorem d_MRunner_statement_210 : decode y_MRunner_statement.2.1 210 = .ok (.goto 16, 3) := by decide +kernel
theorem d_MRunner_statement_213 : decode y_MRunner_statement.2.1 213 = .ok (.aload_n 0, 1) := by decide +kernel
theorem d_MRunner_statement_214 : decode y_MRunner_statement.2.1 214 = .ok (.iconst 4, 1) := by decide +kernel
theorem d_MRunner_statement_215 : decode y_MRunner_statement.2.1 215 = .ok (.invokevirtual 118, 3) := by decide +kernel
theorem d_MRunner_statement_218 : decode y_MRunner_statement.2.1 218 = .ok (.goto 8, 3) := by decide +kernel
theorem d_MRunner_statement_221 : decode y_MRunner_statement.2.1 221 = .ok (.aload_n 0, 1) := by decide +kernel
theorem d_MRunner_statement_222 : decode y_MRunner_statement.2.1 222 = .ok (.iload_n 2, 1) := by decide +kernel
theorem d_MRunner_statement_223 : decode y_MRunner_statement.2.1 223 = .ok (.invokevirtual 158, 3) := by decide +kernel
theorem d_MRunner_statement_226 : decode y_MRunner_statement.2.1 226 = .ok (.return_, 1) := by decide +kernel
theorem s_MRunner_statement : ab_Stat y_MRunner_statement 0 := ⟨(k11 237 rfl rfl), (k1 22 rfl rfl), ⟨by decide, by decide⟩, by decide +kernel⟩
theorem i_MRunner_statement : Cond.instanceMethod y_MRunner_statement.1 ∈ ab_T := (k11 236 rfl rfl)
theorem v_MRunner_statement : Cond.selects "WorldEngineModel$Runner" y_MRunner_statement.1 y_MRunner_statement.1 ∈ ab_T := ab_s (List.mem_of_getElem? (i := 177) rfl) rfl
def F_MRunner_statement (N : Nat) (o : Orc_RunS) (p0 : Nat) (H : Hp) : Option (Unit × Hp) :=
    ck (H.sh[p0]? = some (15, 0)) <|
    bC (F_MRunner_counts N p0 H) fun v3 H4 =>
    bnd ((H4.D p0 10)) fun x5 =>
    if x5 ≤ (0 : Int32) then
    bnd ((H4.D p0 11)) fun x7 =>
    rf (H4.P p0 0) fun a8 =>
    ck (H4.sh[a8]? = some (14, 0)) <|
    rf (H4.P a8 3) fun a11 =>
    ar H4 100 a11 fun n13 =>
    ck (inb x7 n13) <|
    bnd ((H4.D a11 (x7).toNatClampNeg)) fun x16 =>
    bnd ((H4.D p0 11)) fun x17 =>
    bnd (H4.sD p0 11 (x17 + (1 : Int32))) fun H18 =>
    if x16 = 1 then
    bC (F_MRunner_assigns N p0 x7 H18) fun v21 H22 =>
    some ((), H22)
    else if x16 = 214 then
    bnd ((H18.D p0 11)) fun x24 =>
    bnd (H18.sD p0 11 (x24 + (2 : Int32))) fun H25 =>
    rf (H25.P p0 14) fun a26 =>
    rf (H25.P p0 0) fun a28 =>
    ck (H25.sh[a28]? = some (14, 0)) <|
    rf (H25.P a28 8) fun a31 =>
    ar H25 100 a31 fun n33 =>
    ck (inb (x7 + (1 : Int32)) n33) <|
    bnd ((H25.D a31 ((x7 + (1 : Int32))).toNatClampNeg)) fun x36 =>
    bC ((X_RunE N 50).1 p0 H25) fun v38 H39 =>
    ar H39 100 a26 fun n40 =>
    ck (inb x36 n40) <|
    bnd (H39.sD a26 (x36).toNatClampNeg v38) fun H43 =>
    bnd ((H43.D p0 11)) fun x44 =>
    bnd (H43.sD p0 11 (x44 + (1 : Int32))) fun H45 =>
    some ((), H45)
    else if x16 = 215 then
    bC (F_MRunner_chooses N o p0 H18) fun v48 H49 =>
    some ((), H49)
    else if x16 = 217 then
    bC (F_MRunner_repeats N o p0 H18) fun v52 H53 =>
    some ((), H53)
    else if x16 = 218 then
    bC (F_MRunner_goes N o p0 H18) fun v56 H57 =>
    some ((), H57)
    else if x16 = 221 then
    bC (F_MRunner_hears N o p0 H18) fun v60 H61 =>
    some ((), H61)
    else if x16 = 222 then
    bC (F_MRunner_spawns N p0 H18) fun v64 H65 =>
    some ((), H65)
    else if x16 = 227 then
    bC (F_MRunner_emits N p0 H18) fun v68 H69 =>
    some ((), H69)
    else if x16 = 230 then
    bC (F_MRunner_fails N p0 (4 : Int32) H18) fun v72 H73 =>
    some ((), H73)
    else bC (F_MRunner_commands N p0 x16 H18) fun v75 H76 =>
    some ((), H76)
    else
    some ((), H4)
set_option maxRecDepth 20000 in
set_option maxHeartbeats 2000000 in
theorem m_MRunner_statement {N : Nat} {o : Orc_RunS} (hmo : mo_RunS o) {p0 : Nat} {H : Hp} {r : Unit × Hp} (hF : F_MRunner_statement N o p0 H = some r) : Sa H r.2 := by
  unfold F_MRunner_statement at hF
  have hm := Sa.rf H
  obtain ⟨q77, hG⟩ := ck_s hF; clear hF
  obtain ⟨v79, H80, z78, hF⟩ := bC_s hG; clear hG
  replace hm : Sa H H80 := hm.tr (m_MRunner_counts z78)
  obtain ⟨x81, -, hG⟩ := bnd_g hF; clear hF
  rcases ite_s hG with ⟨q_17, hF⟩ | ⟨q_17, hF⟩
  · clear hG
    obtain ⟨x83, -, hG⟩ := bnd_g hF; clear hF
    obtain ⟨a84, e85, hF⟩ := rf_s hG; clear hG
    obtain ⟨q86, hG⟩ := ck_s hF; clear hF
    obtain ⟨a87, e88, hF⟩ := rf_s hG; clear hG
    obtain ⟨n89, q90, hG⟩ := ar_s hF; clear hF
    obtain ⟨q91, hF⟩ := ck_s hG; clear hG
    obtain ⟨x92, -, hG⟩ := bnd_g hF; clear hF
    obtain ⟨x93, -, hF⟩ := bnd_g hG; clear hG
    obtain ⟨H94, eH94, hG⟩ := bnd_g hF; clear hF
    replace hm : Sa H H94 := by rw [eH94]; exact hm
    rcases ite_s hG with ⟨q_19, hF⟩ | ⟨q_19, hF⟩
    · clear hG
      obtain ⟨v97, H98, z96, hG⟩ := bC_s hF; clear hF
      replace hm : Sa H H98 := hm.tr (m_MRunner_assigns z96)
      have hr := Option.some.inj hG; subst hr
      exact hm
    clear hG
    rcases ite_s hF with ⟨q_21, hG⟩ | ⟨q_21, hG⟩
    · clear hF
      obtain ⟨x100, -, hF⟩ := bnd_g hG; clear hG
      obtain ⟨H101, eH101, hG⟩ := bnd_g hF; clear hF
      replace hm : Sa H H101 := by rw [eH101]; exact hm
      obtain ⟨a102, e103, hF⟩ := rf_s hG; clear hG
      obtain ⟨a104, e105, hG⟩ := rf_s hF; clear hF
      obtain ⟨q106, hF⟩ := ck_s hG; clear hG
      obtain ⟨a107, e108, hG⟩ := rf_s hF; clear hF
      obtain ⟨n109, q110, hF⟩ := ar_s hG; clear hG
      obtain ⟨q111, hG⟩ := ck_s hF; clear hF
      obtain ⟨x112, -, hF⟩ := bnd_g hG; clear hG
      obtain ⟨v114, H115, z113, hG⟩ := bC_s hF; clear hF
      replace hm : Sa H H115 := hm.tr ((moX_RunE 50).1 _ _ _ z113)
      obtain ⟨n116, q117, hF⟩ := ar_s hG; clear hG
      obtain ⟨q118, hG⟩ := ck_s hF; clear hF
      obtain ⟨H119, eH119, hF⟩ := bnd_g hG; clear hG
      replace hm : Sa H H119 := by rw [eH119]; exact hm
      obtain ⟨x120, -, hG⟩ := bnd_g hF; clear hF
      obtain ⟨H121, eH121, hF⟩ := bnd_g hG; clear hG
      replace hm : Sa H H121 := by rw [eH121]; exact hm
      have hr := Option.some.inj hF; subst hr
      exact hm
    clear hF
    rcases ite_s hG with ⟨q_26, hF⟩ | ⟨q_26, hF⟩
    · clear hG
      obtain ⟨v124, H125, z123, hG⟩ := bC_s hF; clear hF
      replace hm : Sa H H125 := hm.tr (m_MRunner_chooses hmo z123)
      have hr := Option.some.inj hG; subst hr
      exact hm
    clear hG
    rcases ite_s hF with ⟨q_28, hG⟩ | ⟨q_28, hG⟩
    · clear hF
      obtain ⟨v128, H129, z127, hF⟩ := bC_s hG; clear hG
      replace hm : Sa H H129 := hm.tr (m_MRunner_repeats hmo z127)
      have hr := Option.some.inj hF; subst hr
      exact hm
    clear hF
    rcases ite_s hG with ⟨q_30, hF⟩ | ⟨q_30, hF⟩
    · clear hG
      obtain ⟨v132, H133, z131, hG⟩ := bC_s hF; clear hF
      replace hm : Sa H H133 := hm.tr (m_MRunner_goes hmo z131)
      have hr := Option.some.inj hG; subst hr
      exact hm
    clear hG
    rcases ite_s hF with ⟨q_32, hG⟩ | ⟨q_32, hG⟩
    · clear hF
      obtain ⟨v136, H137, z135, hF⟩ := bC_s hG; clear hG
      replace hm : Sa H H137 := hm.tr (m_MRunner_hears hmo z135)
      have hr := Option.some.inj hF; subst hr
      exact hm
    clear hF
    rcases ite_s hG with ⟨q_34, hF⟩ | ⟨q_34, hF⟩
    · clear hG
      obtain ⟨v140, H141, z139, hG⟩ := bC_s hF; clear hF
      replace hm : Sa H H141 := hm.tr (m_MRunner_spawns z139)
      have hr := Option.some.inj hG; subst hr
      exact hm
    clear hG
    rcases ite_s hF with ⟨q_36, hG⟩ | ⟨q_36, hG⟩
    · clear hF
      obtain ⟨v144, H145, z143, hF⟩ := bC_s hG; clear hG
      replace hm : Sa H H145 := hm.tr (m_MRunner_emits z143)
      have hr := Option.some.inj hF; subst hr
      exact hm
    clear hF
    rcases ite_s hG with ⟨q_38, hF⟩ | ⟨q_38, hF⟩
    · clear hG
      obtain ⟨v148, H149, z147, hG⟩ := bC_s hF; clear hF
      replace hm : Sa H H149 := hm.tr (m_MRunner_fails z147)
      have hr := Option.some.inj hG; subst hr
      exact hm
    clear hG
    obtain ⟨v151, H152, z150, hG⟩ := bC_s hF; clear hF
    replace hm : Sa H H152 := hm.tr (m_MRunner_commands z150)
    have hr := Option.some.inj hG; subst hr
    exact hm
  · clear hG
    have hr := Option.some.inj hF; subst hr
    exact hm
set_option maxRecDepth 20000 in
set_option maxHeartbeats 2000000 in
theorem k_MRunner_statement {N : Nat} {o : Orc_RunS} {fr lo : Nat} (ho : ok_RunS o fr lo) (hmo : mo_RunS o) {p0 : Nat} {H : Hp} {r : Unit × Hp} (hF : F_MRunner_statement N o p0 H = some r) : ab_M y_MRunner_statement { frames := fr + 2, cells := 0, slots := 0, locals := lo + 53 } [.ref p0] (hpw H) (po (.returned none) r.2) := by
  unfold F_MRunner_statement at hF
  refine ab_of2 (lv := [some (.ref p0), none, none]) 2 rfl rfl (Nat.le_of_ble_eq_true rfl) ?_
  refine ab_aload_n d_MRunner_statement_0 rfl rfl rfl ?_
  obtain ⟨q1, hG⟩ := ck_s hF; clear hF
  obtain ⟨v3, H4, z2, hF⟩ := bC_s hG; clear hG
  refine hp_callV_v (H1 := H4) (As := []) (rest := []) d_MRunner_statement_1 (k_MRunner_counts z2) (ab_mkC s_MRunner_counts (show 1 + 1 ≤ fr + 2 from by have := ho.1; omega) (show 8 + (1 + 11) + 21 ≤ lo + 53 from by have := ho.2.1; omega) (Nat.le_refl 0) (Nat.le_refl 0)) (k11 238 rfl rfl) i_MRunner_counts v_MRunner_counts q1 (by decide) rfl rfl (Nat.le_of_ble_eq_true rfl) ?_
  have s_1 : Sa H H4 := (m_MRunner_counts z2)
  refine ab_aload_n d_MRunner_statement_4 rfl rfl rfl ?_
  refine hp_getI (f := 10) d_MRunner_statement_5 (by rw [(s_1).1]; exact q1) (by decide) rfl (by decide) (k9 193 rfl rfl) rfl ?_
  refine ab_topi (fun x5 ex5 => ?_)
  replace hF := bnd_s ex5 hF
  refine ab_if_le (tgt := 12) d_MRunner_statement_8 (by decide) (fun q6 => ?_) (fun q6 => ?_)
  · rw [if_pos q6] at hF
    refine ab_aload_n d_MRunner_statement_12 rfl rfl rfl ?_
    refine hp_getI (f := 11) d_MRunner_statement_13 (by rw [(s_1).1]; exact q1) (by decide) rfl (by decide) (k9 194 rfl rfl) rfl ?_
    refine ab_topi (fun x7 ex7 => ?_)
    replace hF := bnd_s ex7 hF
    refine ab_istore_n (lv' := [some (.ref p0), some (.int x7), none]) d_MRunner_statement_16 rfl (by decide) rfl ?_
    refine ab_aload_n d_MRunner_statement_17 rfl rfl rfl ?_
    obtain ⟨a8, e9, hG⟩ := rf_s hF; clear hF
    refine hp_getR (f := 0) d_MRunner_statement_18 (by rw [(s_1).1]; exact q1) (by decide) rfl (by decide) (k9 183 rfl rfl) rfl e9 ?_
    obtain ⟨q10, hF⟩ := ck_s hG; clear hG
    rw [(s_1).1] at q10
    obtain ⟨a11, e12, hG⟩ := rf_s hF; clear hF
    refine hp_getRN (f := 3) d_MRunner_statement_21 (by rw [(s_1).1]; exact q10) (by decide) rfl (by decide) (k8 163 rfl rfl) rfl e12 ?_
    refine ab_iload_n d_MRunner_statement_24 rfl rfl ?_
    obtain ⟨n13, q14, hF⟩ := ar_s hG; clear hG
    rw [(s_1).1] at q14
    obtain ⟨q15, hG⟩ := ck_s hF; clear hF
    refine hp_iald d_MRunner_statement_25 tI (by rw [(s_1).1]; exact q14) q15 ?_
    refine ab_topi (fun x16 ex16 => ?_)
    replace hG := bnd_s ex16 hG
    refine ab_istore_n (lv' := [some (.ref p0), some (.int x7), some (.int x16)]) d_MRunner_statement_26 rfl (by decide) rfl ?_
    refine ab_aload_n d_MRunner_statement_27 rfl rfl rfl ?_
    refine ab_dup d_MRunner_statement_28 rfl ?_
    refine hp_getI (f := 11) d_MRunner_statement_29 (by rw [(s_1).1]; exact q1) (by decide) rfl (by decide) (k9 194 rfl rfl) rfl ?_
    refine ab_topi (fun x17 ex17 => ?_)
    replace hG := bnd_s ex17 hG
    refine ab_iconst (v := 1) d_MRunner_statement_32 (by decide) ?_
    refine ab_iadd d_MRunner_statement_33 ?_
    refine hp_putI (v := x17 + (1 : Int32)) (f := 11) d_MRunner_statement_34 (by rw [(s_1).1]; exact q1) (by decide) rfl (by decide) (k9 194 rfl rfl) rfl rfl (fun _ => rfl) (fun _ => rfl) rfl ?_
    refine hp_gen (fun H18 eH18 => ?_)
    replace hG := bnd_s eH18 hG
    have s_2 : Sa H H18 := by rw [eH18]; exact s_1
    refine ab_iload_n d_MRunner_statement_37 rfl rfl ?_
    by_cases t19 : x16 = 1
    · rw [if_pos t19] at hG
      refine ab_lookup (off := 82) (tgt := 120) d_MRunner_statement_38 (by decide) (by rw [t19]; decide) (by decide) ?_
      refine ab_aload_n d_MRunner_statement_120 rfl rfl rfl ?_
      refine ab_iload_n d_MRunner_statement_121 rfl rfl ?_
      obtain ⟨v21, H22, z20, hF⟩ := bC_s hG; clear hG
      refine hp_callV_v (H1 := H22) (As := [.int x7]) (rest := []) d_MRunner_statement_122 (k_MRunner_assigns z20) (ab_mkC s_MRunner_assigns (show 254 + 1 ≤ fr + 2 from by have := ho.1; omega) (show 8 + (4 + 11) + 6237 ≤ lo + 53 from by have := ho.2.1; omega) (Nat.le_refl 0) (Nat.le_refl 0)) (k12 6 rfl rfl) i_MRunner_assigns v_MRunner_assigns (by rw [(s_2).1]; exact q1) (by decide) rfl rfl (Nat.le_of_ble_eq_true rfl) ?_
      have s_3 : Sa H H22 := (s_2).tr (m_MRunner_assigns z20)
      refine ab_goto (tgt := 226) d_MRunner_statement_125 (by decide) ?_
      exact ab_vret d_MRunner_statement_226 rfl (Nat.le_refl _) (Nat.le_refl _) (by have hr := Option.some.inj hF; subst hr; exact ⟨rfl, rfl⟩)
    rw [if_neg t19] at hG
    have ut19 : ¬ (1 : Int) = (x16).toInt := fun z => t19 (Int32.toInt_inj.mp (z.symm.trans (by decide)))
    by_cases t23 : x16 = 214
    · rw [if_pos t23] at hG
      refine ab_lookup (off := 90) (tgt := 128) d_MRunner_statement_38 (by decide) (by rw [t23]; decide) (by decide) ?_
      refine ab_aload_n d_MRunner_statement_128 rfl rfl rfl ?_
      refine ab_dup d_MRunner_statement_129 rfl ?_
      refine hp_getI (f := 11) d_MRunner_statement_130 (by rw [(s_2).1]; exact q1) (by decide) rfl (by decide) (k9 194 rfl rfl) rfl ?_
      refine ab_topi (fun x24 ex24 => ?_)
      replace hG := bnd_s ex24 hG
      refine ab_iconst (v := 2) d_MRunner_statement_133 (by decide) ?_
      refine ab_iadd d_MRunner_statement_134 ?_
      refine hp_putI (v := x24 + (2 : Int32)) (f := 11) d_MRunner_statement_135 (by rw [(s_2).1]; exact q1) (by decide) rfl (by decide) (k9 194 rfl rfl) rfl rfl (fun _ => rfl) (fun _ => rfl) rfl ?_
      refine hp_gen (fun H25 eH25 => ?_)
      replace hG := bnd_s eH25 hG
      have s_4 : Sa H H25 := by rw [eH25]; exact s_2
      refine ab_aload_n d_MRunner_statement_138 rfl rfl rfl ?_
      obtain ⟨a26, e27, hF⟩ := rf_s hG; clear hG
      refine hp_getR (f := 14) d_MRunner_statement_139 (by rw [(s_4).1]; exact q1) (by decide) rfl (by decide) (k9 197 rfl rfl) rfl e27 ?_
      refine ab_aload_n d_MRunner_statement_142 rfl rfl rfl ?_
      obtain ⟨a28, e29, hG⟩ := rf_s hF; clear hF
      refine hp_getR (f := 0) d_MRunner_statement_143 (by rw [(s_4).1]; exact q1) (by decide) rfl (by decide) (k9 183 rfl rfl) rfl e29 ?_
      obtain ⟨q30, hF⟩ := ck_s hG; clear hG
      rw [(s_4).1] at q30
      obtain ⟨a31, e32, hG⟩ := rf_s hF; clear hF
      refine hp_getRN (f := 8) d_MRunner_statement_146 (by rw [(s_4).1]; exact q30) (by decide) rfl (by decide) (k8 170 rfl rfl) rfl e32 ?_
      refine ab_iload_n d_MRunner_statement_149 rfl rfl ?_
      refine ab_iconst (v := 1) d_MRunner_statement_150 (by decide) ?_
      refine ab_iadd d_MRunner_statement_151 ?_
      obtain ⟨n33, q34, hF⟩ := ar_s hG; clear hG
      rw [(s_4).1] at q34
      obtain ⟨q35, hG⟩ := ck_s hF; clear hF
      refine hp_iald d_MRunner_statement_152 tI (by rw [(s_4).1]; exact q34) q35 ?_
      refine ab_topi (fun x36 ex36 => ?_)
      replace hG := bnd_s ex36 hG
      refine ab_aload_n d_MRunner_statement_153 rfl rfl rfl ?_
      obtain ⟨v38, H39, z37, hF⟩ := bC_s hG; clear hG
      refine hp_callV_a (v := .int v38) (H1 := H39) (As := []) (rest := [.int x36, .ref a26]) d_MRunner_statement_154 ((okX_RunE 50).2.2.1 _ _ _ z37) (ab_mkC s_MRunner_value (show (3 + 5 * 50) + 1 ≤ fr + 2 from by have := ho.1; omega) (show 8 + (3 + 11) + (65 + 123 * 50) ≤ lo + 53 from by have := ho.2.1; omega) (Nat.le_refl 0) (Nat.le_refl 0)) (k12 10 rfl rfl) i_MRunner_value v_MRunner_value (by rw [(s_4).1]; exact q1) (by decide) rfl rfl (Nat.le_of_ble_eq_true rfl) ?_
      have s_5 : Sa H H39 := (s_4).tr ((moX_RunE 50).1 _ _ _ z37)
      obtain ⟨n40, q41, hG⟩ := ar_s hF; clear hF
      rw [(s_5).1] at q41
      obtain ⟨q42, hF⟩ := ck_s hG; clear hG
      refine hp_iast d_MRunner_statement_157 tI (by rw [(s_5).1]; exact q41) q42 ?_
      refine hp_gen (fun H43 eH43 => ?_)
      replace hF := bnd_s eH43 hF
      have s_6 : Sa H H43 := by rw [eH43]; exact s_5
      refine ab_aload_n d_MRunner_statement_158 rfl rfl rfl ?_
      refine ab_dup d_MRunner_statement_159 rfl ?_
      refine hp_getI (f := 11) d_MRunner_statement_160 (by rw [(s_6).1]; exact q1) (by decide) rfl (by decide) (k9 194 rfl rfl) rfl ?_
      refine ab_topi (fun x44 ex44 => ?_)
      replace hF := bnd_s ex44 hF
      refine ab_iconst (v := 1) d_MRunner_statement_163 (by decide) ?_
      refine ab_iadd d_MRunner_statement_164 ?_
      refine hp_putI (v := x44 + (1 : Int32)) (f := 11) d_MRunner_statement_165 (by rw [(s_6).1]; exact q1) (by decide) rfl (by decide) (k9 194 rfl rfl) rfl rfl (fun _ => rfl) (fun _ => rfl) rfl ?_
      refine hp_gen (fun H45 eH45 => ?_)
      replace hF := bnd_s eH45 hF
      have s_7 : Sa H H45 := by rw [eH45]; exact s_6
      refine ab_goto (tgt := 226) d_MRunner_statement_168 (by decide) ?_
      exact ab_vret d_MRunner_statement_226 rfl (Nat.le_refl _) (Nat.le_refl _) (by have hr := Option.some.inj hF; subst hr; exact ⟨rfl, rfl⟩)
    rw [if_neg t23] at hG
    have ut23 : ¬ (214 : Int) = (x16).toInt := fun z => t23 (Int32.toInt_inj.mp (z.symm.trans (by decide)))
    by_cases t46 : x16 = 215
    · rw [if_pos t46] at hG
      refine ab_lookup (off := 133) (tgt := 171) d_MRunner_statement_38 (by decide) (by rw [t46]; decide) (by decide) ?_
      refine ab_aload_n d_MRunner_statement_171 rfl rfl rfl ?_
      obtain ⟨v48, H49, z47, hF⟩ := bC_s hG; clear hG
      refine hp_callV_v (H1 := H49) (As := []) (rest := []) d_MRunner_statement_172 (k_MRunner_chooses ho hmo z47) (ab_mkC s_MRunner_chooses (show (fr + 1) + 1 ≤ fr + 2 from by have := ho.1; omega) (show 8 + (2 + 11) + (lo + 22) ≤ lo + 53 from by have := ho.2.1; omega) (Nat.le_refl 0) (Nat.le_refl 0)) (k12 88 rfl rfl) i_MRunner_chooses v_MRunner_chooses (by rw [(s_2).1]; exact q1) (by decide) rfl rfl (Nat.le_of_ble_eq_true rfl) ?_
      have s_8 : Sa H H49 := (s_2).tr (m_MRunner_chooses hmo z47)
      refine ab_goto (tgt := 226) d_MRunner_statement_175 (by decide) ?_
      exact ab_vret d_MRunner_statement_226 rfl (Nat.le_refl _) (Nat.le_refl _) (by have hr := Option.some.inj hF; subst hr; exact ⟨rfl, rfl⟩)
    rw [if_neg t46] at hG
    have ut46 : ¬ (215 : Int) = (x16).toInt := fun z => t46 (Int32.toInt_inj.mp (z.symm.trans (by decide)))
    by_cases t50 : x16 = 217
    · rw [if_pos t50] at hG
      refine ab_lookup (off := 140) (tgt := 178) d_MRunner_statement_38 (by decide) (by rw [t50]; decide) (by decide) ?_
      refine ab_aload_n d_MRunner_statement_178 rfl rfl rfl ?_
      obtain ⟨v52, H53, z51, hF⟩ := bC_s hG; clear hG
      refine hp_callV_v (H1 := H53) (As := []) (rest := []) d_MRunner_statement_179 (k_MRunner_repeats ho hmo z51) (ab_mkC s_MRunner_repeats (show (fr + 1) + 1 ≤ fr + 2 from by have := ho.1; omega) (show 8 + (3 + 11) + (lo + 22) ≤ lo + 53 from by have := ho.2.1; omega) (Nat.le_refl 0) (Nat.le_refl 0)) (k12 96 rfl rfl) i_MRunner_repeats v_MRunner_repeats (by rw [(s_2).1]; exact q1) (by decide) rfl rfl (Nat.le_of_ble_eq_true rfl) ?_
      have s_9 : Sa H H53 := (s_2).tr (m_MRunner_repeats hmo z51)
      refine ab_goto (tgt := 226) d_MRunner_statement_182 (by decide) ?_
      exact ab_vret d_MRunner_statement_226 rfl (Nat.le_refl _) (Nat.le_refl _) (by have hr := Option.some.inj hF; subst hr; exact ⟨rfl, rfl⟩)
    rw [if_neg t50] at hG
    have ut50 : ¬ (217 : Int) = (x16).toInt := fun z => t50 (Int32.toInt_inj.mp (z.symm.trans (by decide)))
    by_cases t54 : x16 = 218
    · rw [if_pos t54] at hG
      refine ab_lookup (off := 147) (tgt := 185) d_MRunner_statement_38 (by decide) (by rw [t54]; decide) (by decide) ?_
      refine ab_aload_n d_MRunner_statement_185 rfl rfl rfl ?_
      obtain ⟨v56, H57, z55, hF⟩ := bC_s hG; clear hG
      refine hp_callV_v (H1 := H57) (As := []) (rest := []) d_MRunner_statement_186 (k_MRunner_goes ho hmo z55) (ab_mkC s_MRunner_goes (show (fr + 1) + 1 ≤ fr + 2 from by have := ho.1; omega) (show 8 + (7 + 11) + (lo + 27) ≤ lo + 53 from by have := ho.2.1; omega) (Nat.le_refl 0) (Nat.le_refl 0)) (k12 100 rfl rfl) i_MRunner_goes v_MRunner_goes (by rw [(s_2).1]; exact q1) (by decide) rfl rfl (Nat.le_of_ble_eq_true rfl) ?_
      have s_10 : Sa H H57 := (s_2).tr (m_MRunner_goes hmo z55)
      refine ab_goto (tgt := 226) d_MRunner_statement_189 (by decide) ?_
      exact ab_vret d_MRunner_statement_226 rfl (Nat.le_refl _) (Nat.le_refl _) (by have hr := Option.some.inj hF; subst hr; exact ⟨rfl, rfl⟩)
    rw [if_neg t54] at hG
    have ut54 : ¬ (218 : Int) = (x16).toInt := fun z => t54 (Int32.toInt_inj.mp (z.symm.trans (by decide)))
    by_cases t58 : x16 = 221
    · rw [if_pos t58] at hG
      refine ab_lookup (off := 154) (tgt := 192) d_MRunner_statement_38 (by decide) (by rw [t58]; decide) (by decide) ?_
      refine ab_aload_n d_MRunner_statement_192 rfl rfl rfl ?_
      obtain ⟨v60, H61, z59, hF⟩ := bC_s hG; clear hG
      refine hp_callV_v (H1 := H61) (As := []) (rest := []) d_MRunner_statement_193 (k_MRunner_hears ho hmo z59) (ab_mkC s_MRunner_hears (show (fr + 1) + 1 ≤ fr + 2 from by have := ho.1; omega) (show 8 + (5 + 11) + (lo + 21) ≤ lo + 53 from by have := ho.2.1; omega) (Nat.le_refl 0) (Nat.le_refl 0)) (k12 108 rfl rfl) i_MRunner_hears v_MRunner_hears (by rw [(s_2).1]; exact q1) (by decide) rfl rfl (Nat.le_of_ble_eq_true rfl) ?_
      have s_11 : Sa H H61 := (s_2).tr (m_MRunner_hears hmo z59)
      refine ab_goto (tgt := 226) d_MRunner_statement_196 (by decide) ?_
      exact ab_vret d_MRunner_statement_226 rfl (Nat.le_refl _) (Nat.le_refl _) (by have hr := Option.some.inj hF; subst hr; exact ⟨rfl, rfl⟩)
    rw [if_neg t58] at hG
    have ut58 : ¬ (221 : Int) = (x16).toInt := fun z => t58 (Int32.toInt_inj.mp (z.symm.trans (by decide)))
    by_cases t62 : x16 = 222
    · rw [if_pos t62] at hG
      refine ab_lookup (off := 161) (tgt := 199) d_MRunner_statement_38 (by decide) (by rw [t62]; decide) (by decide) ?_
      refine ab_aload_n d_MRunner_statement_199 rfl rfl rfl ?_
      obtain ⟨v64, H65, z63, hF⟩ := bC_s hG; clear hG
      refine hp_callV_v (H1 := H65) (As := []) (rest := []) d_MRunner_statement_200 (k_MRunner_spawns z63) (ab_mkC s_MRunner_spawns (show 254 + 1 ≤ fr + 2 from by have := ho.1; omega) (show 8 + (11 + 11) + 6237 ≤ lo + 53 from by have := ho.2.1; omega) (Nat.le_refl 0) (Nat.le_refl 0)) (k12 112 rfl rfl) i_MRunner_spawns v_MRunner_spawns (by rw [(s_2).1]; exact q1) (by decide) rfl rfl (Nat.le_of_ble_eq_true rfl) ?_
      have s_12 : Sa H H65 := (s_2).tr (m_MRunner_spawns z63)
      refine ab_goto (tgt := 226) d_MRunner_statement_203 (by decide) ?_
      exact ab_vret d_MRunner_statement_226 rfl (Nat.le_refl _) (Nat.le_refl _) (by have hr := Option.some.inj hF; subst hr; exact ⟨rfl, rfl⟩)
    rw [if_neg t62] at hG
    have ut62 : ¬ (222 : Int) = (x16).toInt := fun z => t62 (Int32.toInt_inj.mp (z.symm.trans (by decide)))
    by_cases t66 : x16 = 227
    · rw [if_pos t66] at hG
      refine ab_lookup (off := 168) (tgt := 206) d_MRunner_statement_38 (by decide) (by rw [t66]; decide) (by decide) ?_
      refine ab_aload_n d_MRunner_statement_206 rfl rfl rfl ?_
      obtain ⟨v68, H69, z67, hF⟩ := bC_s hG; clear hG
      refine hp_callV_v (H1 := H69) (As := []) (rest := []) d_MRunner_statement_207 (k_MRunner_emits z67) (ab_mkC s_MRunner_emits (show 254 + 1 ≤ fr + 2 from by have := ho.1; omega) (show 8 + (9 + 11) + 6237 ≤ lo + 53 from by have := ho.2.1; omega) (Nat.le_refl 0) (Nat.le_refl 0)) (k12 120 rfl rfl) i_MRunner_emits v_MRunner_emits (by rw [(s_2).1]; exact q1) (by decide) rfl rfl (Nat.le_of_ble_eq_true rfl) ?_
      have s_13 : Sa H H69 := (s_2).tr (m_MRunner_emits z67)
      refine ab_goto (tgt := 226) d_MRunner_statement_210 (by decide) ?_
      exact ab_vret d_MRunner_statement_226 rfl (Nat.le_refl _) (Nat.le_refl _) (by have hr := Option.some.inj hF; subst hr; exact ⟨rfl, rfl⟩)
    rw [if_neg t66] at hG
    have ut66 : ¬ (227 : Int) = (x16).toInt := fun z => t66 (Int32.toInt_inj.mp (z.symm.trans (by decide)))
    by_cases t70 : x16 = 230
    · rw [if_pos t70] at hG
      refine ab_lookup (off := 175) (tgt := 213) d_MRunner_statement_38 (by decide) (by rw [t70]; decide) (by decide) ?_
      refine ab_aload_n d_MRunner_statement_213 rfl rfl rfl ?_
      refine ab_iconst (v := 4) d_MRunner_statement_214 (by decide) ?_
      obtain ⟨v72, H73, z71, hF⟩ := bC_s hG; clear hG
      refine hp_callV_v (H1 := H73) (As := [.int 4]) (rest := []) d_MRunner_statement_215 (k_MRunner_fails z71) (ab_mkC s_MRunner_fails (show 0 + 1 ≤ fr + 2 from by have := ho.1; omega) (show 8 + (2 + 11) + 0 ≤ lo + 53 from by have := ho.2.1; omega) (Nat.le_refl 0) (Nat.le_refl 0)) (k12 2 rfl rfl) i_MRunner_fails v_MRunner_fails (by rw [(s_2).1]; exact q1) (by decide) rfl rfl (Nat.le_of_ble_eq_true rfl) ?_
      have s_14 : Sa H H73 := (s_2).tr (m_MRunner_fails z71)
      refine ab_goto (tgt := 226) d_MRunner_statement_218 (by decide) ?_
      exact ab_vret d_MRunner_statement_226 rfl (Nat.le_refl _) (Nat.le_refl _) (by have hr := Option.some.inj hF; subst hr; exact ⟨rfl, rfl⟩)
    rw [if_neg t70] at hG
    have ut70 : ¬ (230 : Int) = (x16).toInt := fun z => t70 (Int32.toInt_inj.mp (z.symm.trans (by decide)))
    refine ab_lookup (off := 183) (tgt := 221) d_MRunner_statement_38 (by decide) (by simp [Op.lookupswitch.offset, ut19, ut23, ut46, ut50, ut54, ut58, ut62, ut66, ut70]) (by decide) ?_
    refine ab_aload_n d_MRunner_statement_221 rfl rfl rfl ?_
    refine ab_iload_n d_MRunner_statement_222 rfl rfl ?_
    obtain ⟨v75, H76, z74, hF⟩ := bC_s hG; clear hG
    refine hp_callV_v (H1 := H76) (As := [.int x16]) (rest := []) d_MRunner_statement_223 (k_MRunner_commands z74) (ab_mkC s_MRunner_commands (show 254 + 1 ≤ fr + 2 from by have := ho.1; omega) (show 8 + (7 + 11) + 6237 ≤ lo + 53 from by have := ho.2.1; omega) (Nat.le_refl 0) (Nat.le_refl 0)) (k12 125 rfl rfl) i_MRunner_commands v_MRunner_commands (by rw [(s_2).1]; exact q1) (by decide) rfl rfl (Nat.le_of_ble_eq_true rfl) ?_
    have s_15 : Sa H H76 := (s_2).tr (m_MRunner_commands z74)
    exact ab_vret d_MRunner_statement_226 rfl (Nat.le_refl _) (Nat.le_refl _) (by have hr := Option.some.inj hF; subst hr; exact ⟨rfl, rfl⟩)
  · rw [if_neg q6] at hF
    exact ab_vret d_MRunner_statement_11 rfl (Nat.le_refl _) (Nat.le_refl _) (by have hr := Option.some.inj hF; subst hr; exact ⟨rfl, rfl⟩)
def B_MRunner_block_45 (N : Nat) (o : Orc_RunS) (p0 : Nat) (l1 : Int32) (H : Hp) : Option (Unit × Hp) :=
    ck (H.sh[p0]? = some (15, 0)) <|
    rf (H.P p0 0) fun a9 =>
    ck (H.sh[a9]? = some (14, 0)) <|
    rf (H.P a9 8) fun a12 =>
    ar H 100 a12 fun n14 =>
    ck (inb l1 n14) <|
    bnd ((H.D a12 (l1).toNatClampNeg)) fun x17 =>
    bnd (H.sD p0 11 (x17 + (1 : Int32))) fun H18 =>
    some ((), H18)
set_option maxRecDepth 20000 in
set_option maxHeartbeats 2000000 in
theorem mB_MRunner_block_45 {N : Nat} {o : Orc_RunS} (hmo : mo_RunS o) {p0 : Nat} {l1 : Int32} {H : Hp} {r : Unit × Hp} (hF : B_MRunner_block_45 N o p0 l1 H = some r) : Sa H r.2 := by
  unfold B_MRunner_block_45 at hF
  have hm := Sa.rf H
  obtain ⟨q19, hG⟩ := ck_s hF; clear hF
  obtain ⟨a20, e21, hF⟩ := rf_s hG; clear hG
  obtain ⟨q22, hG⟩ := ck_s hF; clear hF
  obtain ⟨a23, e24, hF⟩ := rf_s hG; clear hG
  obtain ⟨n25, q26, hG⟩ := ar_s hF; clear hF
  obtain ⟨q27, hF⟩ := ck_s hG; clear hG
  obtain ⟨x28, -, hG⟩ := bnd_g hF; clear hF
  obtain ⟨H29, eH29, hF⟩ := bnd_g hG; clear hG
  replace hm : Sa H H29 := by rw [eH29]; exact hm
  have hr := Option.some.inj hF; subst hr
  exact hm
set_option maxRecDepth 20000 in
set_option maxHeartbeats 2000000 in
theorem kB_MRunner_block_45 {N : Nat} {o : Orc_RunS} {fr lo : Nat} (ho : ok_RunS o fr lo) (hmo : mo_RunS o) {p0 : Nat} {l1 : Int32} {H : Hp} {r : Unit × Hp} (hF : B_MRunner_block_45 N o p0 l1 H = some r) : ab_V y_MRunner_block { frames := fr + 3, cells := 0, slots := 0, locals := lo + 75 } (po (.returned none) r.2) 0 0 0 0 45 [some (.ref p0), some (.int l1)] [] (hpw H) := by
  unfold B_MRunner_block_45 at hF
  refine ab_aload_n d_MRunner_block_45 rfl rfl rfl ?_
  refine ab_aload_n d_MRunner_block_46 rfl rfl rfl ?_
  obtain ⟨q8, hG⟩ := ck_s hF; clear hF
  obtain ⟨a9, e10, hF⟩ := rf_s hG; clear hG
  refine hp_getR (f := 0) d_MRunner_block_47 q8 (by decide) rfl (by decide) (k9 183 rfl rfl) rfl e10 ?_
  obtain ⟨q11, hG⟩ := ck_s hF; clear hF
  obtain ⟨a12, e13, hF⟩ := rf_s hG; clear hG
  refine hp_getRN (f := 8) d_MRunner_block_50 q11 (by decide) rfl (by decide) (k8 170 rfl rfl) rfl e13 ?_
  refine ab_iload_n d_MRunner_block_53 rfl rfl ?_
  obtain ⟨n14, q15, hG⟩ := ar_s hF; clear hF
  obtain ⟨q16, hF⟩ := ck_s hG; clear hG
  refine hp_iald d_MRunner_block_54 tI q15 q16 ?_
  refine ab_topi (fun x17 ex17 => ?_)
  replace hF := bnd_s ex17 hF
  refine ab_iconst (v := 1) d_MRunner_block_55 (by decide) ?_
  refine ab_iadd d_MRunner_block_56 ?_
  refine hp_putI (v := x17 + (1 : Int32)) (f := 11) d_MRunner_block_57 q8 (by decide) rfl (by decide) (k9 194 rfl rfl) rfl rfl (fun _ => rfl) (fun _ => rfl) rfl ?_
  refine hp_gen (fun H18 eH18 => ?_)
  replace hF := bnd_s eH18 hF
  have s_2 : Sa H H18 := by rw [eH18]; exact Sa.rf _
  exact ab_vret d_MRunner_block_60 rfl (Nat.le_refl _) (Nat.le_refl _) (by have hr := Option.some.inj hF; subst hr; exact ⟨rfl, rfl⟩)
def B_MRunner_block_15 (N : Nat) (o : Orc_RunS) (p0 : Nat) : Nat → Int32 → Hp → Option (Unit × Hp)
  | 0, _, _ => none
  | n + 1, l1, H =>
    ck (H.sh[p0]? = some (15, 0)) <|
    bnd ((H.D p0 10)) fun x6 =>
    if x6 = (0 : Int32) then
    bnd ((H.D p0 11)) fun x30 =>
    rf (H.P p0 0) fun a31 =>
    ck (H.sh[a31]? = some (14, 0)) <|
    rf (H.P a31 8) fun a34 =>
    ar H 100 a34 fun n36 =>
    ck (inb l1 n36) <|
    bnd ((H.D a34 (l1).toNatClampNeg)) fun x39 =>
    if x39 ≤ x30 then
    B_MRunner_block_45 N o p0 l1 H
    else
    bC (F_MRunner_statement N o p0 H) fun v42 H43 =>
    B_MRunner_block_15 N o p0 n l1 H43
    else
    B_MRunner_block_45 N o p0 l1 H
termination_by structural n => n
set_option maxRecDepth 20000 in
set_option maxHeartbeats 2000000 in
theorem mB_MRunner_block_15 {N : Nat} {o : Orc_RunS} (hmo : mo_RunS o) {p0 : Nat} : ∀ (n : Nat) (l1 : Int32) (H : Hp) (r : Unit × Hp), B_MRunner_block_15 N o p0 n l1 H = some r → Sa H r.2 := by
  intro n
  induction n with
  | zero => intro l1 H r hF; rw [B_MRunner_block_15] at hF; cases hF
  | succ n ih =>
    intro l1 H r hF
    rw [B_MRunner_block_15] at hF
    have hm := Sa.rf H
    obtain ⟨q44, hG⟩ := ck_s hF; clear hF
    obtain ⟨x45, -, hF⟩ := bnd_g hG; clear hG
    rcases ite_s hF with ⟨q_5, hG⟩ | ⟨q_5, hG⟩
    · clear hF
      obtain ⟨x47, -, hF⟩ := bnd_g hG; clear hG
      obtain ⟨a48, e49, hG⟩ := rf_s hF; clear hF
      obtain ⟨q50, hF⟩ := ck_s hG; clear hG
      obtain ⟨a51, e52, hG⟩ := rf_s hF; clear hF
      obtain ⟨n53, q54, hF⟩ := ar_s hG; clear hG
      obtain ⟨q55, hG⟩ := ck_s hF; clear hF
      obtain ⟨x56, -, hF⟩ := bnd_g hG; clear hG
      rcases ite_s hF with ⟨q_6, hG⟩ | ⟨q_6, hG⟩
      · clear hF
        exact hm.tr (mB_MRunner_block_45 hmo hG)
      · clear hF
        obtain ⟨v59, H60, z58, hF⟩ := bC_s hG; clear hG
        replace hm : Sa H H60 := hm.tr (m_MRunner_statement hmo z58)
        exact hm.tr (ih l1 H60 r hF)
    · clear hF
      exact hm.tr (mB_MRunner_block_45 hmo hG)
set_option maxRecDepth 20000 in
set_option maxHeartbeats 2000000 in
theorem kB_MRunner_block_15 {N : Nat} {o : Orc_RunS} {fr lo : Nat} (ho : ok_RunS o fr lo) (hmo : mo_RunS o) {p0 : Nat} : ∀ (n : Nat) (l1 : Int32) (H : Hp) (r : Unit × Hp), B_MRunner_block_15 N o p0 n l1 H = some r → ab_V y_MRunner_block { frames := fr + 3, cells := 0, slots := 0, locals := lo + 75 } (po (.returned none) r.2) 0 0 0 0 15 [some (.ref p0), some (.int l1)] [] (hpw H) := by
  intro n
  induction n with
  | zero => intro l1 H r hF; rw [B_MRunner_block_15] at hF; cases hF
  | succ n ih =>
    intro l1 H r hF
    rw [B_MRunner_block_15] at hF
    refine ab_aload_n d_MRunner_block_15 rfl rfl rfl ?_
    obtain ⟨q5, hG⟩ := ck_s hF; clear hF
    refine hp_getI (f := 10) d_MRunner_block_16 q5 (by decide) rfl (by decide) (k9 193 rfl rfl) rfl ?_
    refine ab_topi (fun x6 ex6 => ?_)
    replace hG := bnd_s ex6 hG
    refine ab_if_ne (tgt := 45) d_MRunner_block_19 (by decide) (fun q7 => ?_) (fun q7 => ?_)
    · rw [if_neg q7] at hG
      exact kB_MRunner_block_45 ho hmo hG
    · rw [if_pos q7] at hG
      refine ab_aload_n d_MRunner_block_22 rfl rfl rfl ?_
      refine hp_getI (f := 11) d_MRunner_block_23 q5 (by decide) rfl (by decide) (k9 194 rfl rfl) rfl ?_
      refine ab_topi (fun x30 ex30 => ?_)
      replace hG := bnd_s ex30 hG
      refine ab_aload_n d_MRunner_block_26 rfl rfl rfl ?_
      obtain ⟨a31, e32, hF⟩ := rf_s hG; clear hG
      refine hp_getR (f := 0) d_MRunner_block_27 q5 (by decide) rfl (by decide) (k9 183 rfl rfl) rfl e32 ?_
      obtain ⟨q33, hG⟩ := ck_s hF; clear hF
      obtain ⟨a34, e35, hF⟩ := rf_s hG; clear hG
      refine hp_getRN (f := 8) d_MRunner_block_30 q33 (by decide) rfl (by decide) (k8 170 rfl rfl) rfl e35 ?_
      refine ab_iload_n d_MRunner_block_33 rfl rfl ?_
      obtain ⟨n36, q37, hG⟩ := ar_s hF; clear hF
      obtain ⟨q38, hF⟩ := ck_s hG; clear hG
      refine hp_iald d_MRunner_block_34 tI q37 q38 ?_
      refine ab_topi (fun x39 ex39 => ?_)
      replace hF := bnd_s ex39 hF
      refine ab_icmp_ge (tgt := 45) d_MRunner_block_35 (by decide) (fun q40 => ?_) (fun q40 => ?_)
      · rw [if_pos q40] at hF
        exact kB_MRunner_block_45 ho hmo hF
      · rw [if_neg q40] at hF
        refine ab_aload_n d_MRunner_block_38 rfl rfl rfl ?_
        obtain ⟨v42, H43, z41, hG⟩ := bC_s hF; clear hF
        refine hp_callV_v (H1 := H43) (As := []) (rest := []) d_MRunner_block_39 (k_MRunner_statement ho hmo z41) (ab_mkC s_MRunner_statement (show (fr + 2) + 1 ≤ fr + 3 from by have := ho.1; omega) (show 8 + (3 + 11) + (lo + 53) ≤ lo + 75 from by have := ho.2.1; omega) (Nat.le_refl 0) (Nat.le_refl 0)) (k11 234 rfl rfl) i_MRunner_statement v_MRunner_statement q5 (by decide) rfl rfl (Nat.le_of_ble_eq_true rfl) ?_
        have s_4 : Sa H H43 := (m_MRunner_statement hmo z41)
        refine ab_goto (tgt := 15) d_MRunner_block_42 (by decide) ?_
        exact ih l1 H43 r hG
def F_MRunner_block (N : Nat) (o : Orc_RunS) (p0 : Nat) (H : Hp) : Option (Unit × Hp) :=
    ck (H.sh[p0]? = some (15, 0)) <|
    bnd ((H.D p0 11)) fun x2 =>
    bnd ((H.D p0 11)) fun x3 =>
    bnd (H.sD p0 11 (x3 + (1 : Int32))) fun H4 =>
    B_MRunner_block_15 N o p0 N x2 H4
set_option maxRecDepth 20000 in
set_option maxHeartbeats 2000000 in
theorem m_MRunner_block {N : Nat} {o : Orc_RunS} (hmo : mo_RunS o) {p0 : Nat} {H : Hp} {r : Unit × Hp} (hF : F_MRunner_block N o p0 H = some r) : Sa H r.2 := by
  unfold F_MRunner_block at hF
  have hm := Sa.rf H
  obtain ⟨q61, hG⟩ := ck_s hF; clear hF
  obtain ⟨x62, -, hF⟩ := bnd_g hG; clear hG
  obtain ⟨x63, -, hG⟩ := bnd_g hF; clear hF
  obtain ⟨H64, eH64, hF⟩ := bnd_g hG; clear hG
  replace hm : Sa H H64 := by rw [eH64]; exact hm
  exact hm.tr (mB_MRunner_block_15 hmo N x62 H64 r hF)
set_option maxRecDepth 20000 in
set_option maxHeartbeats 2000000 in
theorem k_MRunner_block {N : Nat} {o : Orc_RunS} {fr lo : Nat} (ho : ok_RunS o fr lo) (hmo : mo_RunS o) {p0 : Nat} {H : Hp} {r : Unit × Hp} (hF : F_MRunner_block N o p0 H = some r) : ab_M y_MRunner_block { frames := fr + 3, cells := 0, slots := 0, locals := lo + 75 } [.ref p0] (hpw H) (po (.returned none) r.2) := by
  unfold F_MRunner_block at hF
  refine ab_of2 (lv := [some (.ref p0), none]) 1 rfl rfl (Nat.le_of_ble_eq_true rfl) ?_
  refine ab_aload_n d_MRunner_block_0 rfl rfl rfl ?_
  obtain ⟨q1, hG⟩ := ck_s hF; clear hF
  refine hp_getI (f := 11) d_MRunner_block_1 q1 (by decide) rfl (by decide) (k9 194 rfl rfl) rfl ?_
  refine ab_topi (fun x2 ex2 => ?_)
  replace hG := bnd_s ex2 hG
  refine ab_istore_n (lv' := [some (.ref p0), some (.int x2)]) d_MRunner_block_4 rfl (by decide) rfl ?_
  refine ab_aload_n d_MRunner_block_5 rfl rfl rfl ?_
  refine ab_dup d_MRunner_block_6 rfl ?_
  refine hp_getI (f := 11) d_MRunner_block_7 q1 (by decide) rfl (by decide) (k9 194 rfl rfl) rfl ?_
  refine ab_topi (fun x3 ex3 => ?_)
  replace hG := bnd_s ex3 hG
  refine ab_iconst (v := 1) d_MRunner_block_10 (by decide) ?_
  refine ab_iadd d_MRunner_block_11 ?_
  refine hp_putI (v := x3 + (1 : Int32)) (f := 11) d_MRunner_block_12 q1 (by decide) rfl (by decide) (k9 194 rfl rfl) rfl rfl (fun _ => rfl) (fun _ => rfl) rfl ?_
  refine hp_gen (fun H4 eH4 => ?_)
  replace hG := bnd_s eH4 hG
  have s_1 : Sa H H4 := by rw [eH4]; exact Sa.rf _
  exact kB_MRunner_block_15 ho hmo N x2 H4 r hG
def X_RunS (N : Nat) : Nat → Orc_RunS
  | 0 => (fun _ _ => none)
  | d + 1 => (fun a0 H => F_MRunner_block N (X_RunS N d) a0 H)
termination_by structural d => d
theorem moX_RunS {N : Nat} : ∀ d, mo_RunS (X_RunS N d) := by
  intro d
  induction d with
  | zero => exact (fun _ _ _ hz => absurd (show none = some _ from hz) (by simp))
  | succ d ih => exact (fun _ _ _ hz => m_MRunner_block ih hz)
theorem okX_RunS {N : Nat} : ∀ d, ok_RunS (X_RunS N d) (254 + 3 * d) (6237 + 75 * d) := by
  intro d
  induction d with
  | zero => exact ⟨Nat.le_refl _, Nat.le_refl _, (fun _ _ _ hz => absurd (show none = some _ from hz) (by simp))⟩
  | succ d ih => exact ⟨by omega, by omega, (fun _ _ _ hz => k_MRunner_block ih (moX_RunS d) hz)⟩
def y_MWorld_failed : ab_Y := (⟨"WorldEngineModel$World", "failed", "(III)V"⟩, prog_17_method_15_code, 4, none, [])
theorem d_MWorld_failed_0 : decode y_MWorld_failed.2.1 0 = .ok (.aload_n 0, 1) := by decide +kernel
theorem d_MWorld_failed_1 : decode y_MWorld_failed.2.1 1 = .ok (.dup, 1) := by decide +kernel
theorem d_MWorld_failed_2 : decode y_MWorld_failed.2.1 2 = .ok (.getfield 50, 3) := by decide +kernel
theorem d_MWorld_failed_5 : decode y_MWorld_failed.2.1 5 = .ok (.iconst 1, 1) := by decide +kernel
theorem d_MWorld_failed_6 : decode y_MWorld_failed.2.1 6 = .ok (.iadd, 1) := by decide +kernel
theorem d_MWorld_failed_7 : decode y_MWorld_failed.2.1 7 = .ok (.putfield 50, 3) := by decide +kernel
theorem d_MWorld_failed_10 : decode y_MWorld_failed.2.1 10 = .ok (.aload_n 0, 1) := by decide +kernel
theorem d_MWorld_failed_11 : decode y_MWorld_failed.2.1 11 = .ok (.getfield 59, 3) := by decide +kernel
theorem d_MWorld_failed_14 : decode y_MWorld_failed.2.1 14 = .ok (.ifCond .lt 4, 3) := by decide +kernel
theorem d_MWorld_failed_17 : decode y_MWorld_failed.2.1 17 = .ok (.return_, 1) := by decide +kernel
theorem d_MWorld_failed_18 : decode y_MWorld_failed.2.1 18 = .ok (.aload_n 0, 1) := by decide +kernel
theorem d_MWorld_failed_19 : decode y_MWorld_failed.2.1 19 = .ok (.iload_n 1, 1) := by decide +kernel
theorem d_MWorld_failed_20 : decode y_MWorld_failed.2.1 20 = .ok (.putfield 59, 3) := by decide +kernel
theorem d_MWorld_failed_23 : decode y_MWorld_failed.2.1 23 = .ok (.aload_n 0, 1) := by decide +kernel
theorem d_MWorld_failed_24 : decode y_MWorld_failed.2.1 24 = .ok (.iload_n 2, 1) := by decide +kernel
theorem d_MWorld_failed_25 : decode y_MWorld_failed.2.1 25 = .ok (.putfield 65, 3) := by decide +kernel
theorem d_MWorld_failed_28 : decode y_MWorld_failed.2.1 28 = .ok (.aload_n 0, 1) := by decide +kernel
theorem d_MWorld_failed_29 : decode y_MWorld_failed.2.1 29 = .ok (.iload_n 3, 1) := by decide +kernel
theorem d_MWorld_failed_30 : decode y_MWorld_failed.2.1 30 = .ok (.putfield 68, 3) := by decide +kernel
theorem d_MWorld_failed_33 : decode y_MWorld_failed.2.1 33 = .ok (.return_, 1) := by decide +kernel
theorem s_MWorld_failed : ab_Stat y_MWorld_failed 3 := ⟨(k12 132 rfl rfl), (k1 21 rfl rfl), ⟨by decide, by decide⟩, by decide +kernel⟩
theorem i_MWorld_failed : Cond.instanceMethod y_MWorld_failed.1 ∈ ab_T := (k12 130 rfl rfl)
theorem v_MWorld_failed : Cond.selects "WorldEngineModel$World" y_MWorld_failed.1 y_MWorld_failed.1 ∈ ab_T := (k12 131 rfl rfl)
def F_MWorld_failed (N : Nat) (p0 : Nat) (p1 : Int32) (p2 : Int32) (p3 : Int32) (H : Hp) : Option (Unit × Hp) :=
    ck (H.sh[p0]? = some (13, 0)) <|
    bnd ((H.D p0 2)) fun x2 =>
    bnd (H.sD p0 2 (x2 + (1 : Int32))) fun H3 =>
    bnd ((H3.D p0 13)) fun x4 =>
    if x4 < (0 : Int32) then
    bnd (H3.sD p0 13 p1) fun H6 =>
    bnd (H6.sD p0 14 p2) fun H7 =>
    bnd (H7.sD p0 15 p3) fun H8 =>
    some ((), H8)
    else
    some ((), H3)
set_option maxRecDepth 20000 in
set_option maxHeartbeats 2000000 in
theorem m_MWorld_failed {N : Nat} {p0 : Nat} {p1 : Int32} {p2 : Int32} {p3 : Int32} {H : Hp} {r : Unit × Hp} (hF : F_MWorld_failed N p0 p1 p2 p3 H = some r) : Sa H r.2 := by
  unfold F_MWorld_failed at hF
  have hm := Sa.rf H
  obtain ⟨q9, hG⟩ := ck_s hF; clear hF
  obtain ⟨x10, -, hF⟩ := bnd_g hG; clear hG
  obtain ⟨H11, eH11, hG⟩ := bnd_g hF; clear hF
  replace hm : Sa H H11 := by rw [eH11]; exact hm
  obtain ⟨x12, -, hF⟩ := bnd_g hG; clear hG
  rcases ite_s hF with ⟨q_6, hG⟩ | ⟨q_6, hG⟩
  · clear hF
    obtain ⟨H14, eH14, hF⟩ := bnd_g hG; clear hG
    replace hm : Sa H H14 := by rw [eH14]; exact hm
    obtain ⟨H15, eH15, hG⟩ := bnd_g hF; clear hF
    replace hm : Sa H H15 := by rw [eH15]; exact hm
    obtain ⟨H16, eH16, hF⟩ := bnd_g hG; clear hG
    replace hm : Sa H H16 := by rw [eH16]; exact hm
    have hr := Option.some.inj hF; subst hr
    exact hm
  · clear hF
    have hr := Option.some.inj hG; subst hr
    exact hm
set_option maxRecDepth 20000 in
set_option maxHeartbeats 2000000 in
theorem k_MWorld_failed {N : Nat} {p0 : Nat} {p1 : Int32} {p2 : Int32} {p3 : Int32} {H : Hp} {r : Unit × Hp} (hF : F_MWorld_failed N p0 p1 p2 p3 H = some r) : ab_M y_MWorld_failed { frames := 0, cells := 0, slots := 0, locals := 0 } [.ref p0, .int p1, .int p2, .int p3] (hpw H) (po (.returned none) r.2) := by
  unfold F_MWorld_failed at hF
  refine ab_of2 (lv := [some (.ref p0), some (.int p1), some (.int p2), some (.int p3)]) 0 rfl rfl (Nat.le_of_ble_eq_true rfl) ?_
  refine ab_aload_n d_MWorld_failed_0 rfl rfl rfl ?_
  refine ab_dup d_MWorld_failed_1 rfl ?_
  obtain ⟨q1, hG⟩ := ck_s hF; clear hF
  refine hp_getI (f := 2) d_MWorld_failed_2 q1 (by decide) rfl (by decide) (k9 93 rfl rfl) rfl ?_
  refine ab_topi (fun x2 ex2 => ?_)
  replace hG := bnd_s ex2 hG
  refine ab_iconst (v := 1) d_MWorld_failed_5 (by decide) ?_
  refine ab_iadd d_MWorld_failed_6 ?_
  refine hp_putI (v := x2 + (1 : Int32)) (f := 2) d_MWorld_failed_7 q1 (by decide) rfl (by decide) (k9 93 rfl rfl) rfl rfl (fun _ => rfl) (fun _ => rfl) rfl ?_
  refine hp_gen (fun H3 eH3 => ?_)
  replace hG := bnd_s eH3 hG
  have s_1 : Sa H H3 := by rw [eH3]; exact Sa.rf _
  refine ab_aload_n d_MWorld_failed_10 rfl rfl rfl ?_
  refine hp_getI (f := 13) d_MWorld_failed_11 (by rw [(s_1).1]; exact q1) (by decide) rfl (by decide) (k9 126 rfl rfl) rfl ?_
  refine ab_topi (fun x4 ex4 => ?_)
  replace hG := bnd_s ex4 hG
  refine ab_if_lt (tgt := 18) d_MWorld_failed_14 (by decide) (fun q5 => ?_) (fun q5 => ?_)
  · rw [if_pos q5] at hG
    refine ab_aload_n d_MWorld_failed_18 rfl rfl rfl ?_
    refine ab_iload_n d_MWorld_failed_19 rfl rfl ?_
    refine hp_putI (v := p1) (f := 13) d_MWorld_failed_20 (by rw [(s_1).1]; exact q1) (by decide) rfl (by decide) (k9 126 rfl rfl) rfl rfl (fun _ => rfl) (fun _ => rfl) rfl ?_
    refine hp_gen (fun H6 eH6 => ?_)
    replace hG := bnd_s eH6 hG
    have s_2 : Sa H H6 := by rw [eH6]; exact s_1
    refine ab_aload_n d_MWorld_failed_23 rfl rfl rfl ?_
    refine ab_iload_n d_MWorld_failed_24 rfl rfl ?_
    refine hp_putI (v := p2) (f := 14) d_MWorld_failed_25 (by rw [(s_2).1]; exact q1) (by decide) rfl (by decide) (k9 129 rfl rfl) rfl rfl (fun _ => rfl) (fun _ => rfl) rfl ?_
    refine hp_gen (fun H7 eH7 => ?_)
    replace hG := bnd_s eH7 hG
    have s_3 : Sa H H7 := by rw [eH7]; exact s_2
    refine ab_aload_n d_MWorld_failed_28 rfl rfl rfl ?_
    refine ab_iload_n d_MWorld_failed_29 rfl rfl ?_
    refine hp_putI (v := p3) (f := 15) d_MWorld_failed_30 (by rw [(s_3).1]; exact q1) (by decide) rfl (by decide) (k9 131 rfl rfl) rfl rfl (fun _ => rfl) (fun _ => rfl) rfl ?_
    refine hp_gen (fun H8 eH8 => ?_)
    replace hG := bnd_s eH8 hG
    have s_4 : Sa H H8 := by rw [eH8]; exact s_3
    exact ab_vret d_MWorld_failed_33 rfl (Nat.le_refl _) (Nat.le_refl _) (by have hr := Option.some.inj hG; subst hr; exact ⟨rfl, rfl⟩)
  · rw [if_neg q5] at hG
    exact ab_vret d_MWorld_failed_17 rfl (Nat.le_refl _) (Nat.le_refl _) (by have hr := Option.some.inj hG; subst hr; exact ⟨rfl, rfl⟩)
def y_MRunner_row : ab_Y := (⟨"WorldEngineModel$Runner", "row", "(II)V"⟩, prog_15_method_3_code, 4, none, [])
theorem d_MRunner_row_0 : decode y_MRunner_row.2.1 0 = .ok (.aload_n 0, 1) := by decide +kernel
theorem d_MRunner_row_1 : decode y_MRunner_row.2.1 1 = .ok (.iload_n 1, 1) := by decide +kernel
theorem d_MRunner_row_2 : decode y_MRunner_row.2.1 2 = .ok (.putfield 77, 3) := by decide +kernel
theorem d_MRunner_row_5 : decode y_MRunner_row.2.1 5 = .ok (.aload_n 0, 1) := by decide +kernel
theorem d_MRunner_row_6 : decode y_MRunner_row.2.1 6 = .ok (.aload_n 0, 1) := by decide +kernel
theorem d_MRunner_row_7 : decode y_MRunner_row.2.1 7 = .ok (.getfield 29, 3) := by decide +kernel
theorem d_MRunner_row_10 : decode y_MRunner_row.2.1 10 = .ok (.iload_n 2, 1) := by decide +kernel
theorem d_MRunner_row_11 : decode y_MRunner_row.2.1 11 = .ok (.invokevirtual 80, 3) := by decide +kernel
theorem d_MRunner_row_14 : decode y_MRunner_row.2.1 14 = .ok (.putfield 84, 3) := by decide +kernel
theorem d_MRunner_row_17 : decode y_MRunner_row.2.1 17 = .ok (.aload_n 0, 1) := by decide +kernel
theorem d_MRunner_row_18 : decode y_MRunner_row.2.1 18 = .ok (.aload_n 0, 1) := by decide +kernel
theorem d_MRunner_row_19 : decode y_MRunner_row.2.1 19 = .ok (.getfield 56, 3) := by decide +kernel
theorem d_MRunner_row_22 : decode y_MRunner_row.2.1 22 = .ok (.putfield 87, 3) := by decide +kernel
theorem d_MRunner_row_25 : decode y_MRunner_row.2.1 25 = .ok (.aload_n 0, 1) := by decide +kernel
theorem d_MRunner_row_26 : decode y_MRunner_row.2.1 26 = .ok (.iconst 0, 1) := by decide +kernel
theorem d_MRunner_row_27 : decode y_MRunner_row.2.1 27 = .ok (.putfield 90, 3) := by decide +kernel
theorem d_MRunner_row_30 : decode y_MRunner_row.2.1 30 = .ok (.aload_n 0, 1) := by decide +kernel
theorem d_MRunner_row_31 : decode y_MRunner_row.2.1 31 = .ok (.iconst 0, 1) := by decide +kernel
theorem d_MRunner_row_32 : decode y_MRunner_row.2.1 32 = .ok (.putfield 93, 3) := by decide +kernel
theorem d_MRunner_row_35 : decode y_MRunner_row.2.1 35 = .ok (.aload_n 0, 1) := by decide +kernel
theorem d_MRunner_row_36 : decode y_MRunner_row.2.1 36 = .ok (.iconst 0, 1) := by decide +kernel
theorem d_MRunner_row_37 : decode y_MRunner_row.2.1 37 = .ok (.putfield 96, 3) := by decide +kernel
theorem d_MRunner_row_40 : decode y_MRunner_row.2.1 40 = .ok (.aload_n 0, 1) := by decide +kernel
theorem d_MRunner_row_41 : decode y_MRunner_row.2.1 41 = .ok (.iconst 0, 1) := by decide +kernel
theorem d_MRunner_row_42 : decode y_MRunner_row.2.1 42 = .ok (.putfield 99, 3) := by decide +kernel
theorem d_MRunner_row_45 : decode y_MRunner_row.2.1 45 = .ok (.iconst 0, 1) := by decide +kernel
theorem d_MRunner_row_46 : decode y_MRunner_row.2.1 46 = .ok (.istore_n 3, 1) := by decide +kernel
theorem d_MRunner_row_47 : decode y_MRunner_row.2.1 47 = .ok (.iload_n 3, 1) := by decide +kernel
theorem d_MRunner_row_48 : decode y_MRunner_row.2.1 48 = .ok (.bipush 48, 2) := by decide +kernel
theorem d_MRunner_row_50 : decode y_MRunner_row.2.1 50 = .ok (.if_icmp .ge 29, 3) := by decide +kernel
theorem d_MRunner_row_53 : decode y_MRunner_row.2.1 53 = .ok (.aload_n 0, 1) := by decide +kernel
theorem d_MRunner_row_54 : decode y_MRunner_row.2.1 54 = .ok (.getfield 16, 3) := by decide +kernel
theorem d_MRunner_row_57 : decode y_MRunner_row.2.1 57 = .ok (.iload_n 3, 1) := by decide +kernel
theorem d_MRunner_row_58 : decode y_MRunner_row.2.1 58 = .ok (.aload_n 0, 1) := by decide +kernel
theorem d_MRunner_row_59 : decode y_MRunner_row.2.1 59 = .ok (.getfield 29, 3) := by decide +kernel
theorem d_MRunner_row_62 : decode y_MRunner_row.2.1 62 = .ok (.getfield 102, 3) := by decide +kernel
theorem d_MRunner_row_65 : decode y_MRunner_row.2.1 65 = .ok (.bipush 48, 2) := by decide +kernel
theorem d_MRunner_row_67 : decode y_MRunner_row.2.1 67 = .ok (.iload_n 2, 1) := by decide +kernel
theorem d_MRunner_row_68 : decode y_MRunner_row.2.1 68 = .ok (.imul, 1) := by decide +kernel
theorem d_MRunner_row_69 : decode y_MRunner_row.2.1 69 = .ok (.iload_n 3, 1) := by decide +kernel
theorem d_MRunner_row_70 : decode y_MRunner_row.2.1 70 = .ok (.iadd, 1) := by decide +kernel
theorem d_MRunner_row_71 : decode y_MRunner_row.2.1 71 = .ok (.iaload, 1) := by decide +kernel
theorem d_MRunner_row_72 : decode y_MRunner_row.2.1 72 = .ok (.iastore, 1) := by decide +kernel
theorem d_MRunner_row_73 : decode y_MRunner_row.2.1 73 = .ok (.iinc 3 1, 3) := by decide +kernel
theorem d_MRunner_row_76 : decode y_MRunner_row.2.1 76 = .ok (.goto (-29), 3) := by decide +kernel
theorem d_MRunner_row_79 : decode y_MRunner_row.2.1 79 = .ok (.aload_n 0, 1) := by decide +kernel
theorem d_MRunner_row_80 : decode y_MRunner_row.2.1 80 = .ok (.aload_n 0, 1) := by decide +kernel
theorem d_MRunner_row_81 : decode y_MRunner_row.2.1 81 = .ok (.getfield 25, 3) := by decide +kernel
theorem d_MRunner_row_84 : decode y_MRunner_row.2.1 84 = .ok (.getfield 105, 3) := by decide +kernel
theorem d_MRunner_row_87 : decode y_MRunner_row.2.1 87 = .ok (.iload_n 1, 1) := by decide +kernel
theorem d_MRunner_row_88 : decode y_MRunner_row.2.1 88 = .ok (.iaload, 1) := by decide +kernel
theorem d_MRunner_row_89 : decode y_MRunner_row.2.1 89 = .ok (.putfield 108, 3) := by decide +kernel
theorem d_MRunner_row_92 : decode y_MRunner_row.2.1 92 = .ok (.aload_n 0, 1) := by decide +kernel
theorem d_MRunner_row_93 : decode y_MRunner_row.2.1 93 = .ok (.invokevirtual 111, 3) := by decide +kernel
theorem d_MRunner_row_96 : decode y_MRunner_row.2.1 96 = .ok (.aload_n 0, 1) := by decide +kernel
theorem d_MRunner_row_97 : decode y_MRunner_row.2.1 97 = .ok (.getfield 96, 3) := by decide +kernel
theorem d_MRunner_row_100 : decode y_MRunner_row.2.1 100 = .ok (.ifCond .le 28, 3) := by decide +kernel
theorem d_MRunner_row_103 : decode y_MRunner_row.2.1 103 = .ok (.aload_n 0, 1) := by decide +kernel
theorem d_MRunner_row_104 : decode y_MRunner_row.2.1 104 = .ok (.aload_n 0, 1) := by decide +kernel
theorem d_MRunner_row_105 : decode y_MRunner_row.2.1 105 = .ok (.getfield 87, 3) := by decide +kernel
theorem d_MRunner_row_108 : decode y_MRunner_row.2.1 108 = .ok (.putfield 56, 3) := by decide +kernel
theorem d_MRunner_row_111 : decode y_MRunner_row.2.1 111 = .ok (.aload_n 0, 1) := by decide +kernel
theorem d_MRunner_row_112 : decode y_MRunner_row.2.1 112 = .ok (.getfield 29, 3) := by decide +kernel
theorem d_MRunner_row_115 : decode y_MRunner_row.2.1 115 = .ok (.iload_n 1, 1) := by decide +kernel
theorem d_MRunner_row_116 : decode y_MRunner_row.2.1 116 = .ok (.aload_n 0, 1) := by decide +kernel
theorem d_MRunner_row_117 : decode y_MRunner_row.2.1 117 = .ok (.getfield 84, 3) := by decide +kernel
theorem d_MRunner_row_120 : decode y_MRunner_row.2.1 120 = .ok (.aload_n 0, 1) := by decide +kernel
theorem d_MRunner_row_121 : decode y_MRunner_row.2.1 121 = .ok (.getfield 96, 3) := by decide +kernel
theorem d_MRunner_row_124 : decode y_MRunner_row.2.1 124 = .ok (.invokevirtual 114, 3) := by decide +kernel
theorem d_MRunner_row_127 : decode y_MRunner_row.2.1 127 = .ok (.return_, 1) := by decide +kernel
theorem d_MRunner_row_128 : decode y_MRunner_row.2.1 128 = .ok (.iconst 0, 1) := by decide +kernel
theorem d_MRunner_row_129 : decode y_MRunner_row.2.1 129 = .ok (.istore_n 3, 1) := by decide +kernel
theorem d_MRunner_row_130 : decode y_MRunner_row.2.1 130 = .ok (.iload_n 3, 1) := by decide +kernel
theorem d_MRunner_row_131 : decode y_MRunner_row.2.1 131 = .ok (.bipush 48, 2) := by decide +kernel
theorem d_MRunner_row_133 : decode y_MRunner_row.2.1 133 = .ok (.if_icmp .ge 29, 3) := by decide +kernel
theorem d_MRunner_row_136 : decode y_MRunner_row.2.1 136 = .ok (.aload_n 0, 1) := by decide +kernel
theorem d_MRunner_row_137 : decode y_MRunner_row.2.1 137 = .ok (.getfield 29, 3) := by decide +kernel
theorem d_MRunner_row_140 : decode y_MRunner_row.2.1 140 = .ok (.getfield 102, 3) := by decide +kernel
theorem d_MRunner_row_143 : decode y_MRunner_row.2.1 143 = .ok (.bipush 48, 2) := by decide +kernel
theorem d_MRunner_row_145 : decode y_MRunner_row.2.1 145 = .ok (.iload_n 2, 1) := by decide +kernel
theorem d_MRunner_row_146 : decode y_MRunner_row.2.1 146 = .ok (.imul, 1) := by decide +kernel
theorem d_MRunner_row_147 : decode y_MRunner_row.2.1 147 = .ok (.iload_n 3, 1) := by decide +kernel
theorem d_MRunner_row_148 : decode y_MRunner_row.2.1 148 = .ok (.iadd, 1) := by decide +kernel
theorem d_MRunner_row_149 : decode y_MRunner_row.2.1 149 = .ok (.aload_n 0, 1) := by decide +kernel
theorem d_MRunner_row_150 : decode y_MRunner_row.2.1 150 = .ok (.getfield 16, 3) := by decide +kernel
theorem d_MRunner_row_153 : decode y_MRunner_row.2.1 153 = .ok (.iload_n 3, 1) := by decide +kernel
theorem d_MRunner_row_154 : decode y_MRunner_row.2.1 154 = .ok (.iaload, 1) := by decide +kernel
theorem d_MRunner_row_155 : decode y_MRunner_row.2.1 155 = .ok (.iastore, 1) := by decide +kernel
theorem d_MRunner_row_156 : decode y_MRunner_row.2.1 156 = .ok (.iinc 3 1, 3) := by decide +kernel
theorem d_MRunner_row_159 : decode y_MRunner_row.2.1 159 = .ok (.goto (-29), 3) := by decide +kernel
theorem d_MRunner_row_162 : decode y_MRunner_row.2.1 162 = .ok (.return_, 1) := by decide +kernel
theorem s_MRunner_row : ab_Stat y_MRunner_row 2 := ⟨(k11 225 rfl rfl), (k1 22 rfl rfl), ⟨by decide, by decide⟩, by decide +kernel⟩
theorem i_MRunner_row : Cond.instanceMethod y_MRunner_row.1 ∈ ab_T := (k11 224 rfl rfl)
theorem v_MRunner_row : Cond.selects "WorldEngineModel$Runner" y_MRunner_row.1 y_MRunner_row.1 ∈ ab_T := ab_s (List.mem_of_getElem? (i := 175) rfl) rfl
def B_MRunner_row_130 (N : Nat) (p0 : Nat) (p1 : Int32) (p2 : Int32) : Nat → Int32 → Hp → Option (Unit × Hp)
  | 0, _, _ => none
  | n + 1, l3, H =>
    if (48 : Int32) ≤ l3 then
    some ((), H)
    else
    ck (H.sh[p0]? = some (15, 0)) <|
    rf (H.P p0 1) fun a35 =>
    ck (H.sh[a35]? = some (13, 0)) <|
    rf (H.P a35 7) fun a38 =>
    rf (H.P p0 13) fun a40 =>
    ar H 100 a40 fun n42 =>
    ck (inb l3 n42) <|
    bnd ((H.D a40 (l3).toNatClampNeg)) fun x45 =>
    ar H 100 a38 fun n46 =>
    ck (inb (((48 : Int32) * p2) + l3) n46) <|
    bnd (H.sD a38 ((((48 : Int32) * p2) + l3)).toNatClampNeg x45) fun H49 =>
    B_MRunner_row_130 N p0 p1 p2 n (l3 + 1) H49
termination_by structural n => n
set_option maxRecDepth 20000 in
set_option maxHeartbeats 2000000 in
theorem mB_MRunner_row_130 {N : Nat} {p0 : Nat} {p1 : Int32} {p2 : Int32} : ∀ (n : Nat) (l3 : Int32) (H : Hp) (r : Unit × Hp), B_MRunner_row_130 N p0 p1 p2 n l3 H = some r → Sa H r.2 := by
  intro n
  induction n with
  | zero => intro l3 H r hF; rw [B_MRunner_row_130] at hF; cases hF
  | succ n ih =>
    intro l3 H r hF
    rw [B_MRunner_row_130] at hF
    have hm := Sa.rf H
    rcases ite_s hF with ⟨q_12, hG⟩ | ⟨q_12, hG⟩
    · clear hF
      have hr := Option.some.inj hG; subst hr
      exact hm
    · clear hF
      obtain ⟨q51, hF⟩ := ck_s hG; clear hG
      obtain ⟨a52, e53, hG⟩ := rf_s hF; clear hF
      obtain ⟨q54, hF⟩ := ck_s hG; clear hG
      obtain ⟨a55, e56, hG⟩ := rf_s hF; clear hF
      obtain ⟨a57, e58, hF⟩ := rf_s hG; clear hG
      obtain ⟨n59, q60, hG⟩ := ar_s hF; clear hF
      obtain ⟨q61, hF⟩ := ck_s hG; clear hG
      obtain ⟨x62, -, hG⟩ := bnd_g hF; clear hF
      obtain ⟨n63, q64, hF⟩ := ar_s hG; clear hG
      obtain ⟨q65, hG⟩ := ck_s hF; clear hF
      obtain ⟨H66, eH66, hF⟩ := bnd_g hG; clear hG
      replace hm : Sa H H66 := by rw [eH66]; exact hm
      exact hm.tr (ih (l3 + 1) H66 r hF)
set_option maxRecDepth 20000 in
set_option maxHeartbeats 2000000 in
theorem kB_MRunner_row_130 {N : Nat} {p0 : Nat} {p1 : Int32} {p2 : Int32} : ∀ (n : Nat) (l3 : Int32) (H : Hp) (r : Unit × Hp), B_MRunner_row_130 N p0 p1 p2 n l3 H = some r → ab_V y_MRunner_row { frames := 327, cells := 0, slots := 0, locals := 8058 } (po (.returned none) r.2) 0 0 0 0 130 [some (.ref p0), some (.int p1), some (.int p2), some (.int l3)] [] (hpw H) := by
  intro n
  induction n with
  | zero => intro l3 H r hF; rw [B_MRunner_row_130] at hF; cases hF
  | succ n ih =>
    intro l3 H r hF
    rw [B_MRunner_row_130] at hF
    refine ab_iload_n d_MRunner_row_130 rfl rfl ?_
    refine ab_bipush (v := 48) d_MRunner_row_131 (by decide) ?_
    refine ab_icmp_ge (tgt := 162) d_MRunner_row_133 (by decide) (fun q33 => ?_) (fun q33 => ?_)
    · rw [if_pos q33] at hF
      exact ab_vret d_MRunner_row_162 rfl (Nat.le_refl _) (Nat.le_refl _) (by have hr := Option.some.inj hF; subst hr; exact ⟨rfl, rfl⟩)
    · rw [if_neg q33] at hF
      refine ab_aload_n d_MRunner_row_136 rfl rfl rfl ?_
      obtain ⟨q34, hG⟩ := ck_s hF; clear hF
      obtain ⟨a35, e36, hF⟩ := rf_s hG; clear hG
      refine hp_getR (f := 1) d_MRunner_row_137 q34 (by decide) rfl (by decide) (k9 184 rfl rfl) rfl e36 ?_
      obtain ⟨q37, hG⟩ := ck_s hF; clear hF
      obtain ⟨a38, e39, hF⟩ := rf_s hG; clear hG
      refine hp_getRN (f := 7) d_MRunner_row_140 q37 (by decide) rfl (by decide) (k9 109 rfl rfl) rfl e39 ?_
      refine ab_bipush (v := 48) d_MRunner_row_143 (by decide) ?_
      refine ab_iload_n d_MRunner_row_145 rfl rfl ?_
      refine ab_imul d_MRunner_row_146 ?_
      refine ab_iload_n d_MRunner_row_147 rfl rfl ?_
      refine ab_iadd d_MRunner_row_148 ?_
      refine ab_aload_n d_MRunner_row_149 rfl rfl rfl ?_
      obtain ⟨a40, e41, hG⟩ := rf_s hF; clear hF
      refine hp_getR (f := 13) d_MRunner_row_150 q34 (by decide) rfl (by decide) (k9 196 rfl rfl) rfl e41 ?_
      refine ab_iload_n d_MRunner_row_153 rfl rfl ?_
      obtain ⟨n42, q43, hF⟩ := ar_s hG; clear hG
      obtain ⟨q44, hG⟩ := ck_s hF; clear hF
      refine hp_iald d_MRunner_row_154 tI q43 q44 ?_
      refine ab_topi (fun x45 ex45 => ?_)
      replace hG := bnd_s ex45 hG
      obtain ⟨n46, q47, hF⟩ := ar_s hG; clear hG
      obtain ⟨q48, hG⟩ := ck_s hF; clear hF
      refine hp_iast d_MRunner_row_155 tI q47 q48 ?_
      refine hp_gen (fun H49 eH49 => ?_)
      replace hG := bnd_s eH49 hG
      have s_11 : Sa H H49 := by rw [eH49]; exact Sa.rf _
      refine ab_iinc (v := l3 + 1) (lv' := [some (.ref p0), some (.int p1), some (.int p2), some (.int (l3 + 1))]) d_MRunner_row_156 rfl rfl (by decide) rfl ?_
      refine ab_goto (tgt := 130) d_MRunner_row_159 (by decide) ?_
      exact ih (l3 + 1) H49 r hG
def B_MRunner_row_47 (N : Nat) (p0 : Nat) (p1 : Int32) (p2 : Int32) : Nat → Int32 → Hp → Option (Unit × Hp)
  | 0, _, _ => none
  | n + 1, l3, H =>
    if (48 : Int32) ≤ l3 then
    ck (H.sh[p0]? = some (15, 0)) <|
    rf (H.P p0 0) fun a18 =>
    ck (H.sh[a18]? = some (14, 0)) <|
    rf (H.P a18 35) fun a21 =>
    ar H 100 a21 fun n23 =>
    ck (inb p1 n23) <|
    bnd ((H.D a21 (p1).toNatClampNeg)) fun x26 =>
    bnd (H.sD p0 11 x26) fun H27 =>
    bC ((X_RunS N 24) p0 H27) fun v29 H30 =>
    bnd ((H30.D p0 10)) fun x31 =>
    if x31 ≤ (0 : Int32) then
    B_MRunner_row_130 N p0 p1 p2 N 0 H30
    else
    bnd ((H30.D p0 7)) fun x67 =>
    bnd (H30.sD p0 4 x67) fun H68 =>
    rf (H68.P p0 1) fun a69 =>
    bnd ((H68.D p0 6)) fun x71 =>
    bnd ((H68.D p0 10)) fun x72 =>
    ck (H68.sh[a69]? = some (13, 0)) <|
    bC (F_MWorld_failed N a69 p1 x71 x72 H68) fun v75 H76 =>
    some ((), H76)
    else
    ck (H.sh[p0]? = some (15, 0)) <|
    rf (H.P p0 13) fun a78 =>
    rf (H.P p0 1) fun a80 =>
    ck (H.sh[a80]? = some (13, 0)) <|
    rf (H.P a80 7) fun a83 =>
    ar H 100 a83 fun n85 =>
    ck (inb (((48 : Int32) * p2) + l3) n85) <|
    bnd ((H.D a83 ((((48 : Int32) * p2) + l3)).toNatClampNeg)) fun x88 =>
    ar H 100 a78 fun n89 =>
    ck (inb l3 n89) <|
    bnd (H.sD a78 (l3).toNatClampNeg x88) fun H92 =>
    B_MRunner_row_47 N p0 p1 p2 n (l3 + 1) H92
termination_by structural n => n
set_option maxRecDepth 20000 in
set_option maxHeartbeats 2000000 in
theorem mB_MRunner_row_47 {N : Nat} {p0 : Nat} {p1 : Int32} {p2 : Int32} : ∀ (n : Nat) (l3 : Int32) (H : Hp) (r : Unit × Hp), B_MRunner_row_47 N p0 p1 p2 n l3 H = some r → Sa H r.2 := by
  intro n
  induction n with
  | zero => intro l3 H r hF; rw [B_MRunner_row_47] at hF; cases hF
  | succ n ih =>
    intro l3 H r hF
    rw [B_MRunner_row_47] at hF
    have hm := Sa.rf H
    rcases ite_s hF with ⟨q_17, hG⟩ | ⟨q_17, hG⟩
    · clear hF
      obtain ⟨q94, hF⟩ := ck_s hG; clear hG
      obtain ⟨a95, e96, hG⟩ := rf_s hF; clear hF
      obtain ⟨q97, hF⟩ := ck_s hG; clear hG
      obtain ⟨a98, e99, hG⟩ := rf_s hF; clear hF
      obtain ⟨n100, q101, hF⟩ := ar_s hG; clear hG
      obtain ⟨q102, hG⟩ := ck_s hF; clear hF
      obtain ⟨x103, -, hF⟩ := bnd_g hG; clear hG
      obtain ⟨H104, eH104, hG⟩ := bnd_g hF; clear hF
      replace hm : Sa H H104 := by rw [eH104]; exact hm
      obtain ⟨v106, H107, z105, hF⟩ := bC_s hG; clear hG
      replace hm : Sa H H107 := hm.tr ((moX_RunS 24) _ _ _ z105)
      obtain ⟨x108, -, hG⟩ := bnd_g hF; clear hF
      rcases ite_s hG with ⟨q_20, hF⟩ | ⟨q_20, hF⟩
      · clear hG
        exact hm.tr (mB_MRunner_row_130 N 0 H107 r hF)
      · clear hG
        obtain ⟨x110, -, hG⟩ := bnd_g hF; clear hF
        obtain ⟨H111, eH111, hF⟩ := bnd_g hG; clear hG
        replace hm : Sa H H111 := by rw [eH111]; exact hm
        obtain ⟨a112, e113, hG⟩ := rf_s hF; clear hF
        obtain ⟨x114, -, hF⟩ := bnd_g hG; clear hG
        obtain ⟨x115, -, hG⟩ := bnd_g hF; clear hF
        obtain ⟨q116, hF⟩ := ck_s hG; clear hG
        obtain ⟨v118, H119, z117, hG⟩ := bC_s hF; clear hF
        replace hm : Sa H H119 := hm.tr (m_MWorld_failed z117)
        have hr := Option.some.inj hG; subst hr
        exact hm
    · clear hF
      obtain ⟨q120, hF⟩ := ck_s hG; clear hG
      obtain ⟨a121, e122, hG⟩ := rf_s hF; clear hF
      obtain ⟨a123, e124, hF⟩ := rf_s hG; clear hG
      obtain ⟨q125, hG⟩ := ck_s hF; clear hF
      obtain ⟨a126, e127, hF⟩ := rf_s hG; clear hG
      obtain ⟨n128, q129, hG⟩ := ar_s hF; clear hF
      obtain ⟨q130, hF⟩ := ck_s hG; clear hG
      obtain ⟨x131, -, hG⟩ := bnd_g hF; clear hF
      obtain ⟨n132, q133, hF⟩ := ar_s hG; clear hG
      obtain ⟨q134, hG⟩ := ck_s hF; clear hF
      obtain ⟨H135, eH135, hF⟩ := bnd_g hG; clear hG
      replace hm : Sa H H135 := by rw [eH135]; exact hm
      exact hm.tr (ih (l3 + 1) H135 r hF)
set_option maxRecDepth 20000 in
set_option maxHeartbeats 2000000 in
theorem kB_MRunner_row_47 {N : Nat} {p0 : Nat} {p1 : Int32} {p2 : Int32} : ∀ (n : Nat) (l3 : Int32) (H : Hp) (r : Unit × Hp), B_MRunner_row_47 N p0 p1 p2 n l3 H = some r → ab_V y_MRunner_row { frames := 327, cells := 0, slots := 0, locals := 8058 } (po (.returned none) r.2) 0 0 0 0 47 [some (.ref p0), some (.int p1), some (.int p2), some (.int l3)] [] (hpw H) := by
  intro n
  induction n with
  | zero => intro l3 H r hF; rw [B_MRunner_row_47] at hF; cases hF
  | succ n ih =>
    intro l3 H r hF
    rw [B_MRunner_row_47] at hF
    refine ab_iload_n d_MRunner_row_47 rfl rfl ?_
    refine ab_bipush (v := 48) d_MRunner_row_48 (by decide) ?_
    refine ab_icmp_ge (tgt := 79) d_MRunner_row_50 (by decide) (fun q16 => ?_) (fun q16 => ?_)
    · rw [if_pos q16] at hF
      refine ab_aload_n d_MRunner_row_79 rfl rfl rfl ?_
      refine ab_aload_n d_MRunner_row_80 rfl rfl rfl ?_
      obtain ⟨q17, hG⟩ := ck_s hF; clear hF
      obtain ⟨a18, e19, hF⟩ := rf_s hG; clear hG
      refine hp_getR (f := 0) d_MRunner_row_81 q17 (by decide) rfl (by decide) (k9 183 rfl rfl) rfl e19 ?_
      obtain ⟨q20, hG⟩ := ck_s hF; clear hF
      obtain ⟨a21, e22, hF⟩ := rf_s hG; clear hG
      refine hp_getRN (f := 35) d_MRunner_row_84 q20 (by decide) rfl (by decide) (k8 220 rfl rfl) rfl e22 ?_
      refine ab_iload_n d_MRunner_row_87 rfl rfl ?_
      obtain ⟨n23, q24, hG⟩ := ar_s hF; clear hF
      obtain ⟨q25, hF⟩ := ck_s hG; clear hG
      refine hp_iald d_MRunner_row_88 tI q24 q25 ?_
      refine ab_topi (fun x26 ex26 => ?_)
      replace hF := bnd_s ex26 hF
      refine hp_putI (v := x26) (f := 11) d_MRunner_row_89 q17 (by decide) rfl (by decide) (k9 194 rfl rfl) rfl rfl (fun _ => rfl) (fun _ => rfl) rfl ?_
      refine hp_gen (fun H27 eH27 => ?_)
      replace hF := bnd_s eH27 hF
      have s_9 : Sa H H27 := by rw [eH27]; exact Sa.rf _
      refine ab_aload_n d_MRunner_row_92 rfl rfl rfl ?_
      obtain ⟨v29, H30, z28, hG⟩ := bC_s hF; clear hF
      refine hp_callV_v (H1 := H30) (As := []) (rest := []) d_MRunner_row_93 ((okX_RunS 24).2.2 _ _ _ z28) (ab_mkC s_MRunner_block (Nat.le_of_ble_eq_true rfl) (Nat.le_of_ble_eq_true rfl) (Nat.le_refl 0) (Nat.le_refl 0)) (k11 230 rfl rfl) i_MRunner_block v_MRunner_block (by rw [(s_9).1]; exact q17) (by decide) rfl rfl (Nat.le_of_ble_eq_true rfl) ?_
      have s_10 : Sa H H30 := (s_9).tr ((moX_RunS 24) _ _ _ z28)
      refine ab_aload_n d_MRunner_row_96 rfl rfl rfl ?_
      refine hp_getI (f := 10) d_MRunner_row_97 (by rw [(s_10).1]; exact q17) (by decide) rfl (by decide) (k9 193 rfl rfl) rfl ?_
      refine ab_topi (fun x31 ex31 => ?_)
      replace hG := bnd_s ex31 hG
      refine ab_if_le (tgt := 128) d_MRunner_row_100 (by decide) (fun q32 => ?_) (fun q32 => ?_)
      · rw [if_pos q32] at hG
        refine ab_iconst (v := 0) d_MRunner_row_128 (by decide) ?_
        refine ab_istore_n (lv' := [some (.ref p0), some (.int p1), some (.int p2), some (.int 0)]) d_MRunner_row_129 rfl (by decide) rfl ?_
        exact kB_MRunner_row_130 N 0 H30 r hG
      · rw [if_neg q32] at hG
        refine ab_aload_n d_MRunner_row_103 rfl rfl rfl ?_
        refine ab_aload_n d_MRunner_row_104 rfl rfl rfl ?_
        refine hp_getI (f := 7) d_MRunner_row_105 (by rw [(s_10).1]; exact q17) (by decide) rfl (by decide) (k9 190 rfl rfl) rfl ?_
        refine ab_topi (fun x67 ex67 => ?_)
        replace hG := bnd_s ex67 hG
        refine hp_putI (v := x67) (f := 4) d_MRunner_row_108 (by rw [(s_10).1]; exact q17) (by decide) rfl (by decide) (k9 187 rfl rfl) rfl rfl (fun _ => rfl) (fun _ => rfl) rfl ?_
        refine hp_gen (fun H68 eH68 => ?_)
        replace hG := bnd_s eH68 hG
        have s_14 : Sa H H68 := by rw [eH68]; exact s_10
        refine ab_aload_n d_MRunner_row_111 rfl rfl rfl ?_
        obtain ⟨a69, e70, hF⟩ := rf_s hG; clear hG
        refine hp_getR (f := 1) d_MRunner_row_112 (by rw [(s_14).1]; exact q17) (by decide) rfl (by decide) (k9 184 rfl rfl) rfl e70 ?_
        refine ab_iload_n d_MRunner_row_115 rfl rfl ?_
        refine ab_aload_n d_MRunner_row_116 rfl rfl rfl ?_
        refine hp_getI (f := 6) d_MRunner_row_117 (by rw [(s_14).1]; exact q17) (by decide) rfl (by decide) (k9 189 rfl rfl) rfl ?_
        refine ab_topi (fun x71 ex71 => ?_)
        replace hF := bnd_s ex71 hF
        refine ab_aload_n d_MRunner_row_120 rfl rfl rfl ?_
        refine hp_getI (f := 10) d_MRunner_row_121 (by rw [(s_14).1]; exact q17) (by decide) rfl (by decide) (k9 193 rfl rfl) rfl ?_
        refine ab_topi (fun x72 ex72 => ?_)
        replace hF := bnd_s ex72 hF
        obtain ⟨q73, hG⟩ := ck_s hF; clear hF
        rw [(s_14).1] at q73
        obtain ⟨v75, H76, z74, hF⟩ := bC_s hG; clear hG
        refine hp_callV_v (H1 := H76) (As := [.int p1, .int x71, .int x72]) (rest := []) d_MRunner_row_124 (k_MWorld_failed z74) (ab_mkC s_MWorld_failed (Nat.le_of_ble_eq_true rfl) (Nat.le_of_ble_eq_true rfl) (Nat.le_refl 0) (Nat.le_refl 0)) (k12 129 rfl rfl) i_MWorld_failed v_MWorld_failed (by rw [(s_14).1]; exact q73) (by decide) rfl rfl (Nat.le_of_ble_eq_true rfl) ?_
        have s_15 : Sa H H76 := (s_14).tr (m_MWorld_failed z74)
        exact ab_vret d_MRunner_row_127 rfl (Nat.le_refl _) (Nat.le_refl _) (by have hr := Option.some.inj hF; subst hr; exact ⟨rfl, rfl⟩)
    · rw [if_neg q16] at hF
      refine ab_aload_n d_MRunner_row_53 rfl rfl rfl ?_
      obtain ⟨q77, hG⟩ := ck_s hF; clear hF
      obtain ⟨a78, e79, hF⟩ := rf_s hG; clear hG
      refine hp_getR (f := 13) d_MRunner_row_54 q77 (by decide) rfl (by decide) (k9 196 rfl rfl) rfl e79 ?_
      refine ab_iload_n d_MRunner_row_57 rfl rfl ?_
      refine ab_aload_n d_MRunner_row_58 rfl rfl rfl ?_
      obtain ⟨a80, e81, hG⟩ := rf_s hF; clear hF
      refine hp_getR (f := 1) d_MRunner_row_59 q77 (by decide) rfl (by decide) (k9 184 rfl rfl) rfl e81 ?_
      obtain ⟨q82, hF⟩ := ck_s hG; clear hG
      obtain ⟨a83, e84, hG⟩ := rf_s hF; clear hF
      refine hp_getRN (f := 7) d_MRunner_row_62 q82 (by decide) rfl (by decide) (k9 109 rfl rfl) rfl e84 ?_
      refine ab_bipush (v := 48) d_MRunner_row_65 (by decide) ?_
      refine ab_iload_n d_MRunner_row_67 rfl rfl ?_
      refine ab_imul d_MRunner_row_68 ?_
      refine ab_iload_n d_MRunner_row_69 rfl rfl ?_
      refine ab_iadd d_MRunner_row_70 ?_
      obtain ⟨n85, q86, hF⟩ := ar_s hG; clear hG
      obtain ⟨q87, hG⟩ := ck_s hF; clear hF
      refine hp_iald d_MRunner_row_71 tI q86 q87 ?_
      refine ab_topi (fun x88 ex88 => ?_)
      replace hG := bnd_s ex88 hG
      obtain ⟨n89, q90, hF⟩ := ar_s hG; clear hG
      obtain ⟨q91, hG⟩ := ck_s hF; clear hF
      refine hp_iast d_MRunner_row_72 tI q90 q91 ?_
      refine hp_gen (fun H92 eH92 => ?_)
      replace hG := bnd_s eH92 hG
      have s_16 : Sa H H92 := by rw [eH92]; exact Sa.rf _
      refine ab_iinc (v := l3 + 1) (lv' := [some (.ref p0), some (.int p1), some (.int p2), some (.int (l3 + 1))]) d_MRunner_row_73 rfl rfl (by decide) rfl ?_
      refine ab_goto (tgt := 47) d_MRunner_row_76 (by decide) ?_
      exact ih (l3 + 1) H92 r hG
def F_MRunner_row (N : Nat) (p0 : Nat) (p1 : Int32) (p2 : Int32) (H : Hp) : Option (Unit × Hp) :=
    ck (H.sh[p0]? = some (15, 0)) <|
    bnd (H.sD p0 5 p1) fun H2 =>
    rf (H2.P p0 1) fun a3 =>
    ck (H2.sh[a3]? = some (13, 0)) <|
    bC (F_MWorld_number N a3 p2 H2) fun v7 H8 =>
    bnd (H8.sD p0 6 v7) fun H9 =>
    bnd ((H9.D p0 4)) fun x10 =>
    bnd (H9.sD p0 7 x10) fun H11 =>
    bnd (H11.sD p0 8 (0 : Int32)) fun H12 =>
    bnd (H12.sD p0 9 (0 : Int32)) fun H13 =>
    bnd (H13.sD p0 10 (0 : Int32)) fun H14 =>
    bnd (H14.sD p0 12 (0 : Int32)) fun H15 =>
    B_MRunner_row_47 N p0 p1 p2 N 0 H15
set_option maxRecDepth 20000 in
set_option maxHeartbeats 2000000 in
theorem m_MRunner_row {N : Nat} {p0 : Nat} {p1 : Int32} {p2 : Int32} {H : Hp} {r : Unit × Hp} (hF : F_MRunner_row N p0 p1 p2 H = some r) : Sa H r.2 := by
  unfold F_MRunner_row at hF
  have hm := Sa.rf H
  obtain ⟨q136, hG⟩ := ck_s hF; clear hF
  obtain ⟨H137, eH137, hF⟩ := bnd_g hG; clear hG
  replace hm : Sa H H137 := by rw [eH137]; exact hm
  obtain ⟨a138, e139, hG⟩ := rf_s hF; clear hF
  obtain ⟨q140, hF⟩ := ck_s hG; clear hG
  obtain ⟨v142, H143, z141, hG⟩ := bC_s hF; clear hF
  replace hm : Sa H H143 := hm.tr (m_MWorld_number z141)
  obtain ⟨H144, eH144, hF⟩ := bnd_g hG; clear hG
  replace hm : Sa H H144 := by rw [eH144]; exact hm
  obtain ⟨x145, -, hG⟩ := bnd_g hF; clear hF
  obtain ⟨H146, eH146, hF⟩ := bnd_g hG; clear hG
  replace hm : Sa H H146 := by rw [eH146]; exact hm
  obtain ⟨H147, eH147, hG⟩ := bnd_g hF; clear hF
  replace hm : Sa H H147 := by rw [eH147]; exact hm
  obtain ⟨H148, eH148, hF⟩ := bnd_g hG; clear hG
  replace hm : Sa H H148 := by rw [eH148]; exact hm
  obtain ⟨H149, eH149, hG⟩ := bnd_g hF; clear hF
  replace hm : Sa H H149 := by rw [eH149]; exact hm
  obtain ⟨H150, eH150, hF⟩ := bnd_g hG; clear hG
  replace hm : Sa H H150 := by rw [eH150]; exact hm
  exact hm.tr (mB_MRunner_row_47 N 0 H150 r hF)
set_option maxRecDepth 20000 in
set_option maxHeartbeats 2000000 in
theorem k_MRunner_row {N : Nat} {p0 : Nat} {p1 : Int32} {p2 : Int32} {H : Hp} {r : Unit × Hp} (hF : F_MRunner_row N p0 p1 p2 H = some r) : ab_M y_MRunner_row { frames := 327, cells := 0, slots := 0, locals := 8058 } [.ref p0, .int p1, .int p2] (hpw H) (po (.returned none) r.2) := by
  unfold F_MRunner_row at hF
  refine ab_of2 (lv := [some (.ref p0), some (.int p1), some (.int p2), none]) 1 rfl rfl (Nat.le_of_ble_eq_true rfl) ?_
  refine ab_aload_n d_MRunner_row_0 rfl rfl rfl ?_
  refine ab_iload_n d_MRunner_row_1 rfl rfl ?_
  obtain ⟨q1, hG⟩ := ck_s hF; clear hF
  refine hp_putI (v := p1) (f := 5) d_MRunner_row_2 q1 (by decide) rfl (by decide) (k9 188 rfl rfl) rfl rfl (fun _ => rfl) (fun _ => rfl) rfl ?_
  refine hp_gen (fun H2 eH2 => ?_)
  replace hG := bnd_s eH2 hG
  have s_1 : Sa H H2 := by rw [eH2]; exact Sa.rf _
  refine ab_aload_n d_MRunner_row_5 rfl rfl rfl ?_
  refine ab_aload_n d_MRunner_row_6 rfl rfl rfl ?_
  obtain ⟨a3, e4, hF⟩ := rf_s hG; clear hG
  refine hp_getR (f := 1) d_MRunner_row_7 (by rw [(s_1).1]; exact q1) (by decide) rfl (by decide) (k9 184 rfl rfl) rfl e4 ?_
  refine ab_iload_n d_MRunner_row_10 rfl rfl ?_
  obtain ⟨q5, hG⟩ := ck_s hF; clear hF
  rw [(s_1).1] at q5
  obtain ⟨v7, H8, z6, hF⟩ := bC_s hG; clear hG
  refine hp_callV_a (v := .int v7) (H1 := H8) (As := [.int p2]) (rest := [.ref p0]) d_MRunner_row_11 (k_MWorld_number z6) (ab_mkC s_MWorld_number (Nat.le_of_ble_eq_true rfl) (Nat.le_of_ble_eq_true rfl) (Nat.le_refl 0) (Nat.le_refl 0)) (k11 226 rfl rfl) i_MWorld_number v_MWorld_number (by rw [(s_1).1]; exact q5) (by decide) rfl rfl (Nat.le_of_ble_eq_true rfl) ?_
  have s_2 : Sa H H8 := (s_1).tr (m_MWorld_number z6)
  refine hp_putI (v := v7) (f := 6) d_MRunner_row_14 (by rw [(s_2).1]; exact q1) (by decide) rfl (by decide) (k9 189 rfl rfl) rfl rfl (fun _ => rfl) (fun _ => rfl) rfl ?_
  refine hp_gen (fun H9 eH9 => ?_)
  replace hF := bnd_s eH9 hF
  have s_3 : Sa H H9 := by rw [eH9]; exact s_2
  refine ab_aload_n d_MRunner_row_17 rfl rfl rfl ?_
  refine ab_aload_n d_MRunner_row_18 rfl rfl rfl ?_
  refine hp_getI (f := 4) d_MRunner_row_19 (by rw [(s_3).1]; exact q1) (by decide) rfl (by decide) (k9 187 rfl rfl) rfl ?_
  refine ab_topi (fun x10 ex10 => ?_)
  replace hF := bnd_s ex10 hF
  refine hp_putI (v := x10) (f := 7) d_MRunner_row_22 (by rw [(s_3).1]; exact q1) (by decide) rfl (by decide) (k9 190 rfl rfl) rfl rfl (fun _ => rfl) (fun _ => rfl) rfl ?_
  refine hp_gen (fun H11 eH11 => ?_)
  replace hF := bnd_s eH11 hF
  have s_4 : Sa H H11 := by rw [eH11]; exact s_3
  refine ab_aload_n d_MRunner_row_25 rfl rfl rfl ?_
  refine ab_iconst (v := 0) d_MRunner_row_26 (by decide) ?_
  refine hp_putI (v := 0) (f := 8) d_MRunner_row_27 (by rw [(s_4).1]; exact q1) (by decide) rfl (by decide) (k9 191 rfl rfl) rfl rfl (fun _ => rfl) (fun _ => rfl) rfl ?_
  refine hp_gen (fun H12 eH12 => ?_)
  replace hF := bnd_s eH12 hF
  have s_5 : Sa H H12 := by rw [eH12]; exact s_4
  refine ab_aload_n d_MRunner_row_30 rfl rfl rfl ?_
  refine ab_iconst (v := 0) d_MRunner_row_31 (by decide) ?_
  refine hp_putI (v := 0) (f := 9) d_MRunner_row_32 (by rw [(s_5).1]; exact q1) (by decide) rfl (by decide) (k9 192 rfl rfl) rfl rfl (fun _ => rfl) (fun _ => rfl) rfl ?_
  refine hp_gen (fun H13 eH13 => ?_)
  replace hF := bnd_s eH13 hF
  have s_6 : Sa H H13 := by rw [eH13]; exact s_5
  refine ab_aload_n d_MRunner_row_35 rfl rfl rfl ?_
  refine ab_iconst (v := 0) d_MRunner_row_36 (by decide) ?_
  refine hp_putI (v := 0) (f := 10) d_MRunner_row_37 (by rw [(s_6).1]; exact q1) (by decide) rfl (by decide) (k9 193 rfl rfl) rfl rfl (fun _ => rfl) (fun _ => rfl) rfl ?_
  refine hp_gen (fun H14 eH14 => ?_)
  replace hF := bnd_s eH14 hF
  have s_7 : Sa H H14 := by rw [eH14]; exact s_6
  refine ab_aload_n d_MRunner_row_40 rfl rfl rfl ?_
  refine ab_iconst (v := 0) d_MRunner_row_41 (by decide) ?_
  refine hp_putI (v := 0) (f := 12) d_MRunner_row_42 (by rw [(s_7).1]; exact q1) (by decide) rfl (by decide) (k9 195 rfl rfl) rfl rfl (fun _ => rfl) (fun _ => rfl) rfl ?_
  refine hp_gen (fun H15 eH15 => ?_)
  replace hF := bnd_s eH15 hF
  have s_8 : Sa H H15 := by rw [eH15]; exact s_7
  refine ab_iconst (v := 0) d_MRunner_row_45 (by decide) ?_
  refine ab_istore_n (lv' := [some (.ref p0), some (.int p1), some (.int p2), some (.int 0)]) d_MRunner_row_46 rfl (by decide) rfl ?_
  exact kB_MRunner_row_47 N 0 H15 r hF
def y_MWorld_spawns : ab_Y := (⟨"WorldEngineModel$World", "spawns", "(LWorldEngineModel$Text;I)I"⟩, prog_17_method_9_code, 5, (some FieldType.int), [])
theorem d_MWorld_spawns_0 : decode y_MWorld_spawns.2.1 0 = .ok (.iconst 0, 1) := by decide +kernel
theorem d_MWorld_spawns_1 : decode y_MWorld_spawns.2.1 1 = .ok (.istore_n 3, 1) := by decide +kernel
theorem d_MWorld_spawns_2 : decode y_MWorld_spawns.2.1 2 = .ok (.iload_n 3, 1) := by decide +kernel
theorem d_MWorld_spawns_3 : decode y_MWorld_spawns.2.1 3 = .ok (.sipush 256, 3) := by decide +kernel
theorem d_MWorld_spawns_6 : decode y_MWorld_spawns.2.1 6 = .ok (.if_icmp .ge 18, 3) := by decide +kernel
theorem d_MWorld_spawns_9 : decode y_MWorld_spawns.2.1 9 = .ok (.aload_n 0, 1) := by decide +kernel
theorem d_MWorld_spawns_10 : decode y_MWorld_spawns.2.1 10 = .ok (.getfield 15, 3) := by decide +kernel
theorem d_MWorld_spawns_13 : decode y_MWorld_spawns.2.1 13 = .ok (.iload_n 3, 1) := by decide +kernel
theorem d_MWorld_spawns_14 : decode y_MWorld_spawns.2.1 14 = .ok (.baload, 1) := by decide +kernel
theorem d_MWorld_spawns_15 : decode y_MWorld_spawns.2.1 15 = .ok (.ifCond .eq 9, 3) := by decide +kernel
theorem d_MWorld_spawns_18 : decode y_MWorld_spawns.2.1 18 = .ok (.iinc 3 1, 3) := by decide +kernel
theorem d_MWorld_spawns_21 : decode y_MWorld_spawns.2.1 21 = .ok (.goto (-19), 3) := by decide +kernel
theorem d_MWorld_spawns_24 : decode y_MWorld_spawns.2.1 24 = .ok (.iload_n 3, 1) := by decide +kernel
theorem d_MWorld_spawns_25 : decode y_MWorld_spawns.2.1 25 = .ok (.sipush 256, 3) := by decide +kernel
theorem d_MWorld_spawns_28 : decode y_MWorld_spawns.2.1 28 = .ok (.if_icmp .ne 5, 3) := by decide +kernel
theorem d_MWorld_spawns_31 : decode y_MWorld_spawns.2.1 31 = .ok (.iconst (-1), 1) := by decide +kernel
theorem d_MWorld_spawns_32 : decode y_MWorld_spawns.2.1 32 = .ok (.ireturn, 1) := by decide +kernel
theorem d_MWorld_spawns_33 : decode y_MWorld_spawns.2.1 33 = .ok (.aload_n 0, 1) := by decide +kernel
theorem d_MWorld_spawns_34 : decode y_MWorld_spawns.2.1 34 = .ok (.getfield 15, 3) := by decide +kernel
theorem d_MWorld_spawns_37 : decode y_MWorld_spawns.2.1 37 = .ok (.iload_n 3, 1) := by decide +kernel
theorem d_MWorld_spawns_38 : decode y_MWorld_spawns.2.1 38 = .ok (.iconst 1, 1) := by decide +kernel
theorem d_MWorld_spawns_39 : decode y_MWorld_spawns.2.1 39 = .ok (.bastore, 1) := by decide +kernel
theorem d_MWorld_spawns_40 : decode y_MWorld_spawns.2.1 40 = .ok (.aload_n 0, 1) := by decide +kernel
theorem d_MWorld_spawns_41 : decode y_MWorld_spawns.2.1 41 = .ok (.getfield 19, 3) := by decide +kernel
theorem d_MWorld_spawns_44 : decode y_MWorld_spawns.2.1 44 = .ok (.iload_n 3, 1) := by decide +kernel
theorem d_MWorld_spawns_45 : decode y_MWorld_spawns.2.1 45 = .ok (.aload_n 1, 1) := by decide +kernel
theorem d_MWorld_spawns_46 : decode y_MWorld_spawns.2.1 46 = .ok (.getfield 83, 3) := by decide +kernel
theorem d_MWorld_spawns_49 : decode y_MWorld_spawns.2.1 49 = .ok (.iload_n 2, 1) := by decide +kernel
theorem d_MWorld_spawns_50 : decode y_MWorld_spawns.2.1 50 = .ok (.iaload, 1) := by decide +kernel
theorem d_MWorld_spawns_51 : decode y_MWorld_spawns.2.1 51 = .ok (.iastore, 1) := by decide +kernel
theorem d_MWorld_spawns_52 : decode y_MWorld_spawns.2.1 52 = .ok (.iconst 0, 1) := by decide +kernel
theorem d_MWorld_spawns_53 : decode y_MWorld_spawns.2.1 53 = .ok (.istore 4, 2) := by decide +kernel
theorem d_MWorld_spawns_55 : decode y_MWorld_spawns.2.1 55 = .ok (.iload 4, 2) := by decide +kernel
theorem d_MWorld_spawns_57 : decode y_MWorld_spawns.2.1 57 = .ok (.bipush 48, 2) := by decide +kernel
theorem d_MWorld_spawns_59 : decode y_MWorld_spawns.2.1 59 = .ok (.if_icmp .ge 33, 3) := by decide +kernel
theorem d_MWorld_spawns_62 : decode y_MWorld_spawns.2.1 62 = .ok (.aload_n 0, 1) := by decide +kernel
theorem d_MWorld_spawns_63 : decode y_MWorld_spawns.2.1 63 = .ok (.getfield 22, 3) := by decide +kernel
theorem d_MWorld_spawns_66 : decode y_MWorld_spawns.2.1 66 = .ok (.bipush 48, 2) := by decide +kernel
theorem d_MWorld_spawns_68 : decode y_MWorld_spawns.2.1 68 = .ok (.iload_n 3, 1) := by decide +kernel
theorem d_MWorld_spawns_69 : decode y_MWorld_spawns.2.1 69 = .ok (.imul, 1) := by decide +kernel
theorem d_MWorld_spawns_70 : decode y_MWorld_spawns.2.1 70 = .ok (.iload 4, 2) := by decide +kernel
theorem d_MWorld_spawns_72 : decode y_MWorld_spawns.2.1 72 = .ok (.iadd, 1) := by decide +kernel
theorem d_MWorld_spawns_73 : decode y_MWorld_spawns.2.1 73 = .ok (.aload_n 1, 1) := by decide +kernel
theorem d_MWorld_spawns_74 : decode y_MWorld_spawns.2.1 74 = .ok (.getfield 88, 3) := by decide +kernel
theorem d_MWorld_spawns_77 : decode y_MWorld_spawns.2.1 77 = .ok (.bipush 48, 2) := by decide +kernel
theorem d_MWorld_spawns_79 : decode y_MWorld_spawns.2.1 79 = .ok (.iload_n 2, 1) := by decide +kernel
theorem d_MWorld_spawns_80 : decode y_MWorld_spawns.2.1 80 = .ok (.imul, 1) := by decide +kernel
theorem d_MWorld_spawns_81 : decode y_MWorld_spawns.2.1 81 = .ok (.iload 4, 2) := by decide +kernel
theorem d_MWorld_spawns_83 : decode y_MWorld_spawns.2.1 83 = .ok (.iadd, 1) := by decide +kernel
theorem d_MWorld_spawns_84 : decode y_MWorld_spawns.2.1 84 = .ok (.iaload, 1) := by decide +kernel
theorem d_MWorld_spawns_85 : decode y_MWorld_spawns.2.1 85 = .ok (.iastore, 1) := by decide +kernel
theorem d_MWorld_spawns_86 : decode y_MWorld_spawns.2.1 86 = .ok (.iinc 4 1, 3) := by decide +kernel
theorem d_MWorld_spawns_89 : decode y_MWorld_spawns.2.1 89 = .ok (.goto (-34), 3) := by decide +kernel
theorem d_MWorld_spawns_92 : decode y_MWorld_spawns.2.1 92 = .ok (.iload_n 3, 1) := by decide +kernel
theorem d_MWorld_spawns_93 : decode y_MWorld_spawns.2.1 93 = .ok (.ireturn, 1) := by decide +kernel
theorem s_MWorld_spawns : ab_Stat y_MWorld_spawns 2 := ⟨(k12 140 rfl rfl), (k1 21 rfl rfl), ⟨by decide, by decide⟩, by decide +kernel⟩
theorem i_MWorld_spawns : Cond.instanceMethod y_MWorld_spawns.1 ∈ ab_T := (k12 138 rfl rfl)
theorem v_MWorld_spawns : Cond.selects "WorldEngineModel$World" y_MWorld_spawns.1 y_MWorld_spawns.1 ∈ ab_T := (k12 139 rfl rfl)
def B_MWorld_spawns_55 (N : Nat) (p0 : Nat) (p1 : Nat) (p2 : Int32) : Nat → Int32 → Int32 → Hp → Option (Int32 × Hp)
  | 0, _, _, _ => none
  | n + 1, l3, l4, H =>
    if (48 : Int32) ≤ l4 then
    some (l3, H)
    else
    ck (H.sh[p0]? = some (13, 0)) <|
    rf (H.P p0 7) fun a25 =>
    ck (H.sh[p1]? = some (14, 0)) <|
    rf (H.P p1 28) fun a28 =>
    ar H 100 a28 fun n30 =>
    ck (inb (((48 : Int32) * p2) + l4) n30) <|
    bnd ((H.D a28 ((((48 : Int32) * p2) + l4)).toNatClampNeg)) fun x33 =>
    ar H 100 a25 fun n34 =>
    ck (inb (((48 : Int32) * l3) + l4) n34) <|
    bnd (H.sD a25 ((((48 : Int32) * l3) + l4)).toNatClampNeg x33) fun H37 =>
    B_MWorld_spawns_55 N p0 p1 p2 n l3 (l4 + 1) H37
termination_by structural n => n
set_option maxRecDepth 20000 in
set_option maxHeartbeats 2000000 in
theorem mB_MWorld_spawns_55 {N : Nat} {p0 : Nat} {p1 : Nat} {p2 : Int32} : ∀ (n : Nat) (l3 : Int32) (l4 : Int32) (H : Hp) (r : Int32 × Hp), B_MWorld_spawns_55 N p0 p1 p2 n l3 l4 H = some r → Sa H r.2 := by
  intro n
  induction n with
  | zero => intro l3 l4 H r hF; rw [B_MWorld_spawns_55] at hF; cases hF
  | succ n ih =>
    intro l3 l4 H r hF
    rw [B_MWorld_spawns_55] at hF
    have hm := Sa.rf H
    rcases ite_s hF with ⟨q_4, hG⟩ | ⟨q_4, hG⟩
    · clear hF
      have hr := Option.some.inj hG; subst hr
      exact hm
    · clear hF
      obtain ⟨q39, hF⟩ := ck_s hG; clear hG
      obtain ⟨a40, e41, hG⟩ := rf_s hF; clear hF
      obtain ⟨q42, hF⟩ := ck_s hG; clear hG
      obtain ⟨a43, e44, hG⟩ := rf_s hF; clear hF
      obtain ⟨n45, q46, hF⟩ := ar_s hG; clear hG
      obtain ⟨q47, hG⟩ := ck_s hF; clear hF
      obtain ⟨x48, -, hF⟩ := bnd_g hG; clear hG
      obtain ⟨n49, q50, hG⟩ := ar_s hF; clear hF
      obtain ⟨q51, hF⟩ := ck_s hG; clear hG
      obtain ⟨H52, eH52, hG⟩ := bnd_g hF; clear hF
      replace hm : Sa H H52 := by rw [eH52]; exact hm
      exact hm.tr (ih l3 (l4 + 1) H52 r hG)
set_option maxRecDepth 20000 in
set_option maxHeartbeats 2000000 in
theorem kB_MWorld_spawns_55 {N : Nat} {p0 : Nat} {p1 : Nat} {p2 : Int32} : ∀ (n : Nat) (l3 : Int32) (l4 : Int32) (H : Hp) (r : Int32 × Hp), B_MWorld_spawns_55 N p0 p1 p2 n l3 l4 H = some r → ab_V y_MWorld_spawns { frames := 0, cells := 0, slots := 0, locals := 0 } (po (.returned (some (.int r.1))) r.2) 0 0 0 0 55 [some (.ref p0), some (.ref p1), some (.int p2), some (.int l3), some (.int l4)] [] (hpw H) := by
  intro n
  induction n with
  | zero => intro l3 l4 H r hF; rw [B_MWorld_spawns_55] at hF; cases hF
  | succ n ih =>
    intro l3 l4 H r hF
    rw [B_MWorld_spawns_55] at hF
    refine ab_iload d_MWorld_spawns_55 rfl ?_
    refine ab_bipush (v := 48) d_MWorld_spawns_57 (by decide) ?_
    refine ab_icmp_ge (tgt := 92) d_MWorld_spawns_59 (by decide) (fun q23 => ?_) (fun q23 => ?_)
    · rw [if_pos q23] at hF
      refine ab_iload_n d_MWorld_spawns_92 rfl rfl ?_
      exact ab_iret d_MWorld_spawns_93 rfl (Nat.le_refl _) (Nat.le_refl _) (by have hr := Option.some.inj hF; subst hr; exact ⟨rfl, rfl⟩)
    · rw [if_neg q23] at hF
      refine ab_aload_n d_MWorld_spawns_62 rfl rfl rfl ?_
      obtain ⟨q24, hG⟩ := ck_s hF; clear hF
      obtain ⟨a25, e26, hF⟩ := rf_s hG; clear hG
      refine hp_getR (f := 7) d_MWorld_spawns_63 q24 (by decide) rfl (by decide) (k9 108 rfl rfl) rfl e26 ?_
      refine ab_bipush (v := 48) d_MWorld_spawns_66 (by decide) ?_
      refine ab_iload_n d_MWorld_spawns_68 rfl rfl ?_
      refine ab_imul d_MWorld_spawns_69 ?_
      refine ab_iload d_MWorld_spawns_70 rfl ?_
      refine ab_iadd d_MWorld_spawns_72 ?_
      refine ab_aload_n d_MWorld_spawns_73 rfl rfl rfl ?_
      obtain ⟨q27, hG⟩ := ck_s hF; clear hF
      obtain ⟨a28, e29, hF⟩ := rf_s hG; clear hG
      refine hp_getRN (f := 28) d_MWorld_spawns_74 q27 (by decide) rfl (by decide) (k8 210 rfl rfl) rfl e29 ?_
      refine ab_bipush (v := 48) d_MWorld_spawns_77 (by decide) ?_
      refine ab_iload_n d_MWorld_spawns_79 rfl rfl ?_
      refine ab_imul d_MWorld_spawns_80 ?_
      refine ab_iload d_MWorld_spawns_81 rfl ?_
      refine ab_iadd d_MWorld_spawns_83 ?_
      obtain ⟨n30, q31, hG⟩ := ar_s hF; clear hF
      obtain ⟨q32, hF⟩ := ck_s hG; clear hG
      refine hp_iald d_MWorld_spawns_84 tI q31 q32 ?_
      refine ab_topi (fun x33 ex33 => ?_)
      replace hF := bnd_s ex33 hF
      obtain ⟨n34, q35, hG⟩ := ar_s hF; clear hF
      obtain ⟨q36, hF⟩ := ck_s hG; clear hG
      refine hp_iast d_MWorld_spawns_85 tI q35 q36 ?_
      refine hp_gen (fun H37 eH37 => ?_)
      replace hF := bnd_s eH37 hF
      have s_3 : Sa H H37 := by rw [eH37]; exact Sa.rf _
      refine ab_iinc (v := l4 + 1) (lv' := [some (.ref p0), some (.ref p1), some (.int p2), some (.int l3), some (.int (l4 + 1))]) d_MWorld_spawns_86 rfl rfl (by decide) rfl ?_
      refine ab_goto (tgt := 55) d_MWorld_spawns_89 (by decide) ?_
      exact ih l3 (l4 + 1) H37 r hF
def B_MWorld_spawns_24 (N : Nat) (p0 : Nat) (p1 : Nat) (p2 : Int32) (l3 : Int32) (H : Hp) : Option (Int32 × Hp) :=
    if l3 = (256 : Int32) then
    some ((-1), H)
    else
    ck (H.sh[p0]? = some (13, 0)) <|
    rf (H.P p0 5) fun a4 =>
    ar H 102 a4 fun n6 =>
    ck (inb l3 n6) <|
    bnd (H.sD a4 (l3).toNatClampNeg (vp_nar .boolean (1 : Int32))) fun H9 =>
    rf (H9.P p0 6) fun a10 =>
    ck (H9.sh[p1]? = some (14, 0)) <|
    rf (H9.P p1 27) fun a13 =>
    ar H9 100 a13 fun n15 =>
    ck (inb p2 n15) <|
    bnd ((H9.D a13 (p2).toNatClampNeg)) fun x18 =>
    ar H9 100 a10 fun n19 =>
    ck (inb l3 n19) <|
    bnd (H9.sD a10 (l3).toNatClampNeg x18) fun H22 =>
    B_MWorld_spawns_55 N p0 p1 p2 N l3 0 H22
set_option maxRecDepth 20000 in
set_option maxHeartbeats 2000000 in
theorem mB_MWorld_spawns_24 {N : Nat} {p0 : Nat} {p1 : Nat} {p2 : Int32} {l3 : Int32} {H : Hp} {r : Int32 × Hp} (hF : B_MWorld_spawns_24 N p0 p1 p2 l3 H = some r) : Sa H r.2 := by
  unfold B_MWorld_spawns_24 at hF
  have hm := Sa.rf H
  rcases ite_s hF with ⟨q_6, hG⟩ | ⟨q_6, hG⟩
  · clear hF
    have hr := Option.some.inj hG; subst hr
    exact hm
  · clear hF
    obtain ⟨q54, hF⟩ := ck_s hG; clear hG
    obtain ⟨a55, e56, hG⟩ := rf_s hF; clear hF
    obtain ⟨n57, q58, hF⟩ := ar_s hG; clear hG
    obtain ⟨q59, hG⟩ := ck_s hF; clear hF
    obtain ⟨H60, eH60, hF⟩ := bnd_g hG; clear hG
    replace hm : Sa H H60 := by rw [eH60]; exact hm
    obtain ⟨a61, e62, hG⟩ := rf_s hF; clear hF
    obtain ⟨q63, hF⟩ := ck_s hG; clear hG
    obtain ⟨a64, e65, hG⟩ := rf_s hF; clear hF
    obtain ⟨n66, q67, hF⟩ := ar_s hG; clear hG
    obtain ⟨q68, hG⟩ := ck_s hF; clear hF
    obtain ⟨x69, -, hF⟩ := bnd_g hG; clear hG
    obtain ⟨n70, q71, hG⟩ := ar_s hF; clear hF
    obtain ⟨q72, hF⟩ := ck_s hG; clear hG
    obtain ⟨H73, eH73, hG⟩ := bnd_g hF; clear hF
    replace hm : Sa H H73 := by rw [eH73]; exact hm
    exact hm.tr (mB_MWorld_spawns_55 N l3 0 H73 r hG)
set_option maxRecDepth 20000 in
set_option maxHeartbeats 2000000 in
theorem kB_MWorld_spawns_24 {N : Nat} {p0 : Nat} {p1 : Nat} {p2 : Int32} {l3 : Int32} {H : Hp} {r : Int32 × Hp} (hF : B_MWorld_spawns_24 N p0 p1 p2 l3 H = some r) : ab_V y_MWorld_spawns { frames := 0, cells := 0, slots := 0, locals := 0 } (po (.returned (some (.int r.1))) r.2) 0 0 0 0 24 [some (.ref p0), some (.ref p1), some (.int p2), some (.int l3), none] [] (hpw H) := by
  unfold B_MWorld_spawns_24 at hF
  refine ab_iload_n d_MWorld_spawns_24 rfl rfl ?_
  refine ab_sipush (v := 256) d_MWorld_spawns_25 (by decide) ?_
  refine ab_icmp_ne (tgt := 33) d_MWorld_spawns_28 (by decide) (fun q2 => ?_) (fun q2 => ?_)
  · rw [if_neg q2] at hF
    refine ab_aload_n d_MWorld_spawns_33 rfl rfl rfl ?_
    obtain ⟨q3, hG⟩ := ck_s hF; clear hF
    obtain ⟨a4, e5, hF⟩ := rf_s hG; clear hG
    refine hp_getR (f := 5) d_MWorld_spawns_34 q3 (by decide) rfl (by decide) (k9 100 rfl rfl) rfl e5 ?_
    refine ab_iload_n d_MWorld_spawns_37 rfl rfl ?_
    refine ab_iconst (v := 1) d_MWorld_spawns_38 (by decide) ?_
    obtain ⟨n6, q7, hG⟩ := ar_s hF; clear hF
    obtain ⟨q8, hF⟩ := ck_s hG; clear hG
    refine hp_zast d_MWorld_spawns_39 tZ q7 q8 ?_
    refine hp_gen (fun H9 eH9 => ?_)
    replace hF := bnd_s eH9 hF
    have s_1 : Sa H H9 := by rw [eH9]; exact Sa.rf _
    refine ab_aload_n d_MWorld_spawns_40 rfl rfl rfl ?_
    obtain ⟨a10, e11, hG⟩ := rf_s hF; clear hF
    refine hp_getR (f := 6) d_MWorld_spawns_41 (by rw [(s_1).1]; exact q3) (by decide) rfl (by decide) (k9 104 rfl rfl) rfl e11 ?_
    refine ab_iload_n d_MWorld_spawns_44 rfl rfl ?_
    refine ab_aload_n d_MWorld_spawns_45 rfl rfl rfl ?_
    obtain ⟨q12, hF⟩ := ck_s hG; clear hG
    rw [(s_1).1] at q12
    obtain ⟨a13, e14, hG⟩ := rf_s hF; clear hF
    refine hp_getRN (f := 27) d_MWorld_spawns_46 (by rw [(s_1).1]; exact q12) (by decide) rfl (by decide) (k8 208 rfl rfl) rfl e14 ?_
    refine ab_iload_n d_MWorld_spawns_49 rfl rfl ?_
    obtain ⟨n15, q16, hF⟩ := ar_s hG; clear hG
    rw [(s_1).1] at q16
    obtain ⟨q17, hG⟩ := ck_s hF; clear hF
    refine hp_iald d_MWorld_spawns_50 tI (by rw [(s_1).1]; exact q16) q17 ?_
    refine ab_topi (fun x18 ex18 => ?_)
    replace hG := bnd_s ex18 hG
    obtain ⟨n19, q20, hF⟩ := ar_s hG; clear hG
    rw [(s_1).1] at q20
    obtain ⟨q21, hG⟩ := ck_s hF; clear hF
    refine hp_iast d_MWorld_spawns_51 tI (by rw [(s_1).1]; exact q20) q21 ?_
    refine hp_gen (fun H22 eH22 => ?_)
    replace hG := bnd_s eH22 hG
    have s_2 : Sa H H22 := by rw [eH22]; exact s_1
    refine ab_iconst (v := 0) d_MWorld_spawns_52 (by decide) ?_
    refine ab_istore (lv' := [some (.ref p0), some (.ref p1), some (.int p2), some (.int l3), some (.int 0)]) d_MWorld_spawns_53 (by decide) rfl ?_
    exact kB_MWorld_spawns_55 N l3 0 H22 r hG
  · rw [if_pos q2] at hF
    refine ab_iconst (v := (-1)) d_MWorld_spawns_31 (by decide) ?_
    exact ab_iret d_MWorld_spawns_32 rfl (Nat.le_refl _) (Nat.le_refl _) (by have hr := Option.some.inj hF; subst hr; exact ⟨rfl, rfl⟩)
def B_MWorld_spawns_2 (N : Nat) (p0 : Nat) (p1 : Nat) (p2 : Int32) : Nat → Int32 → Hp → Option (Int32 × Hp)
  | 0, _, _ => none
  | n + 1, l3, H =>
    if (256 : Int32) ≤ l3 then
    B_MWorld_spawns_24 N p0 p1 p2 l3 H
    else
    ck (H.sh[p0]? = some (13, 0)) <|
    rf (H.P p0 5) fun a75 =>
    ar H 102 a75 fun n77 =>
    ck (inb l3 n77) <|
    bnd ((H.D a75 (l3).toNatClampNeg)) fun x80 =>
    if x80 = (0 : Int32) then
    B_MWorld_spawns_24 N p0 p1 p2 l3 H
    else
    B_MWorld_spawns_2 N p0 p1 p2 n (l3 + 1) H
termination_by structural n => n
set_option maxRecDepth 20000 in
set_option maxHeartbeats 2000000 in
theorem mB_MWorld_spawns_2 {N : Nat} {p0 : Nat} {p1 : Nat} {p2 : Int32} : ∀ (n : Nat) (l3 : Int32) (H : Hp) (r : Int32 × Hp), B_MWorld_spawns_2 N p0 p1 p2 n l3 H = some r → Sa H r.2 := by
  intro n
  induction n with
  | zero => intro l3 H r hF; rw [B_MWorld_spawns_2] at hF; cases hF
  | succ n ih =>
    intro l3 H r hF
    rw [B_MWorld_spawns_2] at hF
    have hm := Sa.rf H
    rcases ite_s hF with ⟨q_9, hG⟩ | ⟨q_9, hG⟩
    · clear hF
      exact hm.tr (mB_MWorld_spawns_24 hG)
    · clear hF
      obtain ⟨q83, hF⟩ := ck_s hG; clear hG
      obtain ⟨a84, e85, hG⟩ := rf_s hF; clear hF
      obtain ⟨n86, q87, hF⟩ := ar_s hG; clear hG
      obtain ⟨q88, hG⟩ := ck_s hF; clear hF
      obtain ⟨x89, -, hF⟩ := bnd_g hG; clear hG
      rcases ite_s hF with ⟨q_10, hG⟩ | ⟨q_10, hG⟩
      · clear hF
        exact hm.tr (mB_MWorld_spawns_24 hG)
      · clear hF
        exact hm.tr (ih (l3 + 1) H r hG)
set_option maxRecDepth 20000 in
set_option maxHeartbeats 2000000 in
theorem kB_MWorld_spawns_2 {N : Nat} {p0 : Nat} {p1 : Nat} {p2 : Int32} : ∀ (n : Nat) (l3 : Int32) (H : Hp) (r : Int32 × Hp), B_MWorld_spawns_2 N p0 p1 p2 n l3 H = some r → ab_V y_MWorld_spawns { frames := 0, cells := 0, slots := 0, locals := 0 } (po (.returned (some (.int r.1))) r.2) 0 0 0 0 2 [some (.ref p0), some (.ref p1), some (.int p2), some (.int l3), none] [] (hpw H) := by
  intro n
  induction n with
  | zero => intro l3 H r hF; rw [B_MWorld_spawns_2] at hF; cases hF
  | succ n ih =>
    intro l3 H r hF
    rw [B_MWorld_spawns_2] at hF
    refine ab_iload_n d_MWorld_spawns_2 rfl rfl ?_
    refine ab_sipush (v := 256) d_MWorld_spawns_3 (by decide) ?_
    refine ab_icmp_ge (tgt := 24) d_MWorld_spawns_6 (by decide) (fun q1 => ?_) (fun q1 => ?_)
    · rw [if_pos q1] at hF
      exact kB_MWorld_spawns_24 hF
    · rw [if_neg q1] at hF
      refine ab_aload_n d_MWorld_spawns_9 rfl rfl rfl ?_
      obtain ⟨q74, hG⟩ := ck_s hF; clear hF
      obtain ⟨a75, e76, hF⟩ := rf_s hG; clear hG
      refine hp_getR (f := 5) d_MWorld_spawns_10 q74 (by decide) rfl (by decide) (k9 100 rfl rfl) rfl e76 ?_
      refine ab_iload_n d_MWorld_spawns_13 rfl rfl ?_
      obtain ⟨n77, q78, hG⟩ := ar_s hF; clear hF
      obtain ⟨q79, hF⟩ := ck_s hG; clear hG
      refine hp_zald d_MWorld_spawns_14 tZ q78 q79 ?_
      refine ab_topi (fun x80 ex80 => ?_)
      replace hF := bnd_s ex80 hF
      refine ab_if_eq (tgt := 24) d_MWorld_spawns_15 (by decide) (fun q81 => ?_) (fun q81 => ?_)
      · rw [if_pos q81] at hF
        exact kB_MWorld_spawns_24 hF
      · rw [if_neg q81] at hF
        refine ab_iinc (v := l3 + 1) (lv' := [some (.ref p0), some (.ref p1), some (.int p2), some (.int (l3 + 1)), none]) d_MWorld_spawns_18 rfl rfl (by decide) rfl ?_
        refine ab_goto (tgt := 2) d_MWorld_spawns_21 (by decide) ?_
        exact ih (l3 + 1) H r hF
def F_MWorld_spawns (N : Nat) (p0 : Nat) (p1 : Nat) (p2 : Int32) (H : Hp) : Option (Int32 × Hp) :=
    B_MWorld_spawns_2 N p0 p1 p2 N 0 H
set_option maxRecDepth 20000 in
set_option maxHeartbeats 2000000 in
theorem m_MWorld_spawns {N : Nat} {p0 : Nat} {p1 : Nat} {p2 : Int32} {H : Hp} {r : Int32 × Hp} (hF : F_MWorld_spawns N p0 p1 p2 H = some r) : Sa H r.2 := by
  unfold F_MWorld_spawns at hF
  have hm := Sa.rf H
  exact hm.tr (mB_MWorld_spawns_2 N 0 H r hF)
set_option maxRecDepth 20000 in
set_option maxHeartbeats 2000000 in
theorem k_MWorld_spawns {N : Nat} {p0 : Nat} {p1 : Nat} {p2 : Int32} {H : Hp} {r : Int32 × Hp} (hF : F_MWorld_spawns N p0 p1 p2 H = some r) : ab_M y_MWorld_spawns { frames := 0, cells := 0, slots := 0, locals := 0 } [.ref p0, .ref p1, .int p2] (hpw H) (po (.returned (some (.int r.1))) r.2) := by
  unfold F_MWorld_spawns at hF
  refine ab_of2 (lv := [some (.ref p0), some (.ref p1), some (.int p2), none, none]) 2 rfl rfl (Nat.le_of_ble_eq_true rfl) ?_
  refine ab_iconst (v := 0) d_MWorld_spawns_0 (by decide) ?_
  refine ab_istore_n (lv' := [some (.ref p0), some (.ref p1), some (.int p2), some (.int 0), none]) d_MWorld_spawns_1 rfl (by decide) rfl ?_
  exact kB_MWorld_spawns_2 N 0 H r hF
