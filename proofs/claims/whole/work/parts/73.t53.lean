def y_MText_sum : ab_Y := (⟨"WorldEngineModel$Text", "sum", "()I"⟩, prog_16_method_66_code, 3, (some FieldType.int), [])
theorem d_MText_sum_0 : decode y_MText_sum.2.1 0 = .ok (.aload_n 0, 1) := by decide +kernel
theorem d_MText_sum_1 : decode y_MText_sum.2.1 1 = .ok (.invokevirtual 382, 3) := by decide +kernel
theorem d_MText_sum_4 : decode y_MText_sum.2.1 4 = .ok (.istore_n 1, 1) := by decide +kernel
theorem d_MText_sum_5 : decode y_MText_sum.2.1 5 = .ok (.aload_n 0, 1) := by decide +kernel
theorem d_MText_sum_6 : decode y_MText_sum.2.1 6 = .ok (.bipush 43, 2) := by decide +kernel
theorem d_MText_sum_8 : decode y_MText_sum.2.1 8 = .ok (.invokevirtual 194, 3) := by decide +kernel
theorem d_MText_sum_11 : decode y_MText_sum.2.1 11 = .ok (.ifCond .ne 12, 3) := by decide +kernel
theorem d_MText_sum_14 : decode y_MText_sum.2.1 14 = .ok (.aload_n 0, 1) := by decide +kernel
theorem d_MText_sum_15 : decode y_MText_sum.2.1 15 = .ok (.bipush 45, 2) := by decide +kernel
theorem d_MText_sum_17 : decode y_MText_sum.2.1 17 = .ok (.invokevirtual 194, 3) := by decide +kernel
theorem d_MText_sum_20 : decode y_MText_sum.2.1 20 = .ok (.ifCond .eq 36, 3) := by decide +kernel
theorem d_MText_sum_23 : decode y_MText_sum.2.1 23 = .ok (.aload_n 0, 1) := by decide +kernel
theorem d_MText_sum_24 : decode y_MText_sum.2.1 24 = .ok (.getfield 191, 3) := by decide +kernel
theorem d_MText_sum_27 : decode y_MText_sum.2.1 27 = .ok (.istore_n 2, 1) := by decide +kernel
theorem d_MText_sum_28 : decode y_MText_sum.2.1 28 = .ok (.aload_n 0, 1) := by decide +kernel
theorem d_MText_sum_29 : decode y_MText_sum.2.1 29 = .ok (.dup, 1) := by decide +kernel
theorem d_MText_sum_30 : decode y_MText_sum.2.1 30 = .ok (.getfield 191, 3) := by decide +kernel
theorem d_MText_sum_33 : decode y_MText_sum.2.1 33 = .ok (.iconst 1, 1) := by decide +kernel
theorem d_MText_sum_34 : decode y_MText_sum.2.1 34 = .ok (.iadd, 1) := by decide +kernel
theorem d_MText_sum_35 : decode y_MText_sum.2.1 35 = .ok (.putfield 191, 3) := by decide +kernel
theorem d_MText_sum_38 : decode y_MText_sum.2.1 38 = .ok (.aload_n 0, 1) := by decide +kernel
theorem d_MText_sum_39 : decode y_MText_sum.2.1 39 = .ok (.iload_n 2, 1) := by decide +kernel
theorem d_MText_sum_40 : decode y_MText_sum.2.1 40 = .ok (.iload_n 1, 1) := by decide +kernel
theorem d_MText_sum_41 : decode y_MText_sum.2.1 41 = .ok (.aload_n 0, 1) := by decide +kernel
theorem d_MText_sum_42 : decode y_MText_sum.2.1 42 = .ok (.invokevirtual 382, 3) := by decide +kernel
theorem d_MText_sum_45 : decode y_MText_sum.2.1 45 = .ok (.iload_n 1, 1) := by decide +kernel
theorem d_MText_sum_46 : decode y_MText_sum.2.1 46 = .ok (.invokestatic 379, 3) := by decide +kernel
theorem d_MText_sum_49 : decode y_MText_sum.2.1 49 = .ok (.invokevirtual 366, 3) := by decide +kernel
theorem d_MText_sum_52 : decode y_MText_sum.2.1 52 = .ok (.istore_n 1, 1) := by decide +kernel
theorem d_MText_sum_53 : decode y_MText_sum.2.1 53 = .ok (.goto (-48), 3) := by decide +kernel
theorem d_MText_sum_56 : decode y_MText_sum.2.1 56 = .ok (.iload_n 1, 1) := by decide +kernel
theorem d_MText_sum_57 : decode y_MText_sum.2.1 57 = .ok (.ireturn, 1) := by decide +kernel
theorem s_MText_sum : ab_Stat y_MText_sum 0 := ⟨(k11 54 rfl rfl), (k1 20 rfl rfl), ⟨by decide, by decide⟩, by decide +kernel⟩
theorem i_MText_sum : Cond.instanceMethod y_MText_sum.1 ∈ ab_T := (k11 53 rfl rfl)
theorem v_MText_sum : Cond.selects "WorldEngineModel$Text" y_MText_sum.1 y_MText_sum.1 ∈ ab_T := ab_s (List.mem_of_getElem? (i := 145) rfl) rfl
def B_MText_sum_23 (N : Nat) (o : Orc_TextE) (p0 : Nat) (kq5 : Int32 → Hp → Option (Int32 × Hp)) (l1 : Int32) (H : Hp) : Option (Int32 × Hp) :=
    ck (H.sh[p0]? = some (14, 0)) <|
    bnd ((H.D p0 11)) fun x11 =>
    bnd ((H.D p0 11)) fun x12 =>
    bnd (H.sD p0 11 (x12 + (1 : Int32))) fun H13 =>
    bC (F_MText_product N o p0 H13) fun v15 H16 =>
    bC (F_MText_reckons N l1 H16) fun v18 H19 =>
    bC (F_MText_goTogether N p0 x11 l1 v15 v18 H19) fun v21 H22 =>
    kq5 v21 H22
set_option maxRecDepth 20000 in
set_option maxHeartbeats 2000000 in
theorem mB_MText_sum_23 {N : Nat} {o : Orc_TextE} (hmo : mo_TextE o) {p0 : Nat} {kq5 : Int32 → Hp → Option (Int32 × Hp)} (hm5 : ∀ (l1 : Int32) (H : Hp) (r : Int32 × Hp), kq5 l1 H = some r → Sa H r.2) {l1 : Int32} {H : Hp} {r : Int32 × Hp} (hF : B_MText_sum_23 N o p0 kq5 l1 H = some r) : Sa H r.2 := by
  unfold B_MText_sum_23 at hF
  have hm := Sa.rf H
  obtain ⟨q23, hG⟩ := ck_s hF; clear hF
  obtain ⟨x24, -, hF⟩ := bnd_g hG; clear hG
  obtain ⟨x25, -, hG⟩ := bnd_g hF; clear hF
  obtain ⟨H26, eH26, hF⟩ := bnd_g hG; clear hG
  replace hm : Sa H H26 := by rw [eH26]; exact hm
  obtain ⟨v28, H29, z27, hG⟩ := bC_s hF; clear hF
  replace hm : Sa H H29 := hm.tr (m_MText_product hmo z27)
  obtain ⟨v31, H32, z30, hF⟩ := bC_s hG; clear hG
  replace hm : Sa H H32 := hm.tr (m_MText_reckons z30)
  obtain ⟨v34, H35, z33, hG⟩ := bC_s hF; clear hF
  replace hm : Sa H H35 := hm.tr (m_MText_goTogether z33)
  exact hm.tr (hm5 v34 H35 r hG)
set_option maxRecDepth 20000 in
set_option maxHeartbeats 2000000 in
theorem kB_MText_sum_23 {N : Nat} {o : Orc_TextE} {fr lo : Nat} (ho : ok_TextE o fr lo) (hmo : mo_TextE o) {p0 : Nat} {kq5 : Int32 → Hp → Option (Int32 × Hp)} (hm5 : ∀ (l1 : Int32) (H : Hp) (r : Int32 × Hp), kq5 l1 H = some r → Sa H r.2) (hk5 : ∀ (l1 : Int32) (H : Hp) (r : Int32 × Hp), kq5 l1 H = some r → ab_V y_MText_sum { frames := fr + 2, cells := 0, slots := 0, locals := lo + 46 } (po (.returned (some (.int r.1))) r.2) 0 0 0 0 5 [some (.ref p0), some (.int l1), none] [] (hpw H)) {l1 : Int32} {H : Hp} {r : Int32 × Hp} (hF : B_MText_sum_23 N o p0 kq5 l1 H = some r) : ab_V y_MText_sum { frames := fr + 2, cells := 0, slots := 0, locals := lo + 46 } (po (.returned (some (.int r.1))) r.2) 0 0 0 0 23 [some (.ref p0), some (.int l1), none] [] (hpw H) := by
  unfold B_MText_sum_23 at hF
  refine ab_aload_n d_MText_sum_23 rfl rfl rfl ?_
  obtain ⟨q10, hG⟩ := ck_s hF; clear hF
  refine hp_getI (f := 11) d_MText_sum_24 q10 (by decide) rfl (by decide) (k8 175 rfl rfl) rfl ?_
  refine ab_topi (fun x11 ex11 => ?_)
  replace hG := bnd_s ex11 hG
  refine ab_istore_n (lv' := [some (.ref p0), some (.int l1), some (.int x11)]) d_MText_sum_27 rfl (by decide) rfl ?_
  refine ab_aload_n d_MText_sum_28 rfl rfl rfl ?_
  refine ab_dup d_MText_sum_29 rfl ?_
  refine hp_getI (f := 11) d_MText_sum_30 q10 (by decide) rfl (by decide) (k8 175 rfl rfl) rfl ?_
  refine ab_topi (fun x12 ex12 => ?_)
  replace hG := bnd_s ex12 hG
  refine ab_iconst (v := 1) d_MText_sum_33 (by decide) ?_
  refine ab_iadd d_MText_sum_34 ?_
  refine hp_putI (v := x12 + (1 : Int32)) (f := 11) d_MText_sum_35 q10 (by decide) rfl (by decide) (k8 175 rfl rfl) rfl rfl (fun _ => rfl) (fun _ => rfl) rfl ?_
  refine hp_gen (fun H13 eH13 => ?_)
  replace hG := bnd_s eH13 hG
  have s_3 : Sa H H13 := by rw [eH13]; exact Sa.rf _
  refine ab_aload_n d_MText_sum_38 rfl rfl rfl ?_
  refine ab_iload_n d_MText_sum_39 rfl rfl ?_
  refine ab_iload_n d_MText_sum_40 rfl rfl ?_
  refine ab_aload_n d_MText_sum_41 rfl rfl rfl ?_
  obtain ⟨v15, H16, z14, hF⟩ := bC_s hG; clear hG
  refine hp_callV_a (v := .int v15) (H1 := H16) (As := []) (rest := [.int l1, .int x11, .ref p0]) d_MText_sum_42 (k_MText_product ho hmo z14) (ab_mkC s_MText_product (show (fr + 1) + 1 ≤ fr + 2 from by have := ho.1; omega) (show 8 + (3 + 11) + (lo + 24) ≤ lo + 46 from by have := ho.2.1; omega) (Nat.le_refl 0) (Nat.le_refl 0)) (k11 55 rfl rfl) i_MText_product v_MText_product (by rw [(s_3).1]; exact q10) (by decide) rfl rfl (Nat.le_of_ble_eq_true rfl) ?_
  have s_4 : Sa H H16 := (s_3).tr (m_MText_product hmo z14)
  refine ab_iload_n d_MText_sum_45 rfl rfl ?_
  obtain ⟨v18, H19, z17, hG⟩ := bC_s hF; clear hF
  refine hp_callS_a (v := .int v18) (H1 := H19) (As := [.int l1]) (rest := [.int v15, .int l1, .int x11, .ref p0]) d_MText_sum_46 (k_MText_reckons z17) (ab_mkC s_MText_reckons (show 0 + 1 ≤ fr + 2 from by have := ho.1; omega) (show 8 + (1 + 11) + 0 ≤ lo + 46 from by have := ho.2.1; omega) (Nat.le_refl 0) (Nat.le_refl 0)) (k11 94 rfl rfl) t_MText_reckons rfl (Nat.le_of_ble_eq_true rfl) ?_
  have s_5 : Sa H H19 := (s_4).tr (m_MText_reckons z17)
  obtain ⟨v21, H22, z20, hF⟩ := bC_s hG; clear hG
  refine hp_callV_a (v := .int v21) (H1 := H22) (As := [.int x11, .int l1, .int v15, .int v18]) (rest := []) d_MText_sum_49 (k_MText_goTogether z20) (ab_mkC s_MText_goTogether (show 1 + 1 ≤ fr + 2 from by have := ho.1; omega) (show 8 + (5 + 11) + 22 ≤ lo + 46 from by have := ho.2.1; omega) (Nat.le_refl 0) (Nat.le_refl 0)) (k11 97 rfl rfl) i_MText_goTogether v_MText_goTogether (by rw [(s_5).1]; exact q10) (by decide) rfl rfl (Nat.le_of_ble_eq_true rfl) ?_
  have s_6 : Sa H H22 := (s_5).tr (m_MText_goTogether z20)
  refine ab_istore_n (lv' := [some (.ref p0), some (.int v21), some (.int x11)]) d_MText_sum_52 rfl (by decide) rfl ?_
  refine ab_goto (tgt := 5) d_MText_sum_53 (by decide) ?_
  refine ab_le (lv' := [some (.ref p0), some (.int v21), none]) ⟨rfl, ⟨rfl, trivial⟩⟩ ?_
  exact hk5 v21 H22 r hF
def B_MText_sum_5 (N : Nat) (o : Orc_TextE) (p0 : Nat) : Nat → Int32 → Hp → Option (Int32 × Hp)
  | 0, _, _ => none
  | n + 1, l1, H =>
    ck (H.sh[p0]? = some (14, 0)) <|
    bC (F_MText_is N p0 (43 : Int32) H) fun v7 H8 =>
    if v7 = (0 : Int32) then
    bC (F_MText_is N p0 (45 : Int32) H8) fun v37 H38 =>
    if v37 = (0 : Int32) then
    some (l1, H38)
    else
    B_MText_sum_23 N o p0 (fun l1 H => B_MText_sum_5 N o p0 n l1 H) l1 H38
    else
    B_MText_sum_23 N o p0 (fun l1 H => B_MText_sum_5 N o p0 n l1 H) l1 H8
termination_by structural n => n
set_option maxRecDepth 20000 in
set_option maxHeartbeats 2000000 in
theorem mB_MText_sum_5 {N : Nat} {o : Orc_TextE} (hmo : mo_TextE o) {p0 : Nat} : ∀ (n : Nat) (l1 : Int32) (H : Hp) (r : Int32 × Hp), B_MText_sum_5 N o p0 n l1 H = some r → Sa H r.2 := by
  intro n
  induction n with
  | zero => intro l1 H r hF; rw [B_MText_sum_5] at hF; cases hF
  | succ n ih =>
    intro l1 H r hF
    rw [B_MText_sum_5] at hF
    have hm := Sa.rf H
    obtain ⟨q40, hG⟩ := ck_s hF; clear hF
    obtain ⟨v42, H43, z41, hF⟩ := bC_s hG; clear hG
    replace hm : Sa H H43 := hm.tr (m_MText_is z41)
    rcases ite_s hF with ⟨q_13, hG⟩ | ⟨q_13, hG⟩
    · clear hF
      obtain ⟨v46, H47, z45, hF⟩ := bC_s hG; clear hG
      replace hm : Sa H H47 := hm.tr (m_MText_is z45)
      rcases ite_s hF with ⟨q_15, hG⟩ | ⟨q_15, hG⟩
      · clear hF
        have hr := Option.some.inj hG; subst hr
        exact hm
      · clear hF
        exact hm.tr (mB_MText_sum_23 hmo ih hG)
    · clear hF
      exact hm.tr (mB_MText_sum_23 hmo ih hG)
set_option maxRecDepth 20000 in
set_option maxHeartbeats 2000000 in
theorem kB_MText_sum_5 {N : Nat} {o : Orc_TextE} {fr lo : Nat} (ho : ok_TextE o fr lo) (hmo : mo_TextE o) {p0 : Nat} : ∀ (n : Nat) (l1 : Int32) (H : Hp) (r : Int32 × Hp), B_MText_sum_5 N o p0 n l1 H = some r → ab_V y_MText_sum { frames := fr + 2, cells := 0, slots := 0, locals := lo + 46 } (po (.returned (some (.int r.1))) r.2) 0 0 0 0 5 [some (.ref p0), some (.int l1), none] [] (hpw H) := by
  intro n
  induction n with
  | zero => intro l1 H r hF; rw [B_MText_sum_5] at hF; cases hF
  | succ n ih =>
    intro l1 H r hF
    rw [B_MText_sum_5] at hF
    refine ab_aload_n d_MText_sum_5 rfl rfl rfl ?_
    refine ab_bipush (v := 43) d_MText_sum_6 (by decide) ?_
    obtain ⟨q5, hG⟩ := ck_s hF; clear hF
    obtain ⟨v7, H8, z6, hF⟩ := bC_s hG; clear hG
    refine hp_callV_a (v := .int v7) (H1 := H8) (As := [.int 43]) (rest := []) d_MText_sum_8 (k_MText_is z6) (ab_mkC s_MText_is (show 0 + 1 ≤ fr + 2 from by have := ho.1; omega) (show 8 + (2 + 11) + 0 ≤ lo + 46 from by have := ho.2.1; omega) (Nat.le_refl 0) (Nat.le_refl 0)) (k10 180 rfl rfl) i_MText_is v_MText_is q5 (by decide) rfl rfl (Nat.le_of_ble_eq_true rfl) ?_
    have s_2 : Sa H H8 := (m_MText_is z6)
    refine ab_if_ne (tgt := 23) d_MText_sum_11 (by decide) (fun q9 => ?_) (fun q9 => ?_)
    · rw [if_neg q9] at hF
      exact kB_MText_sum_23 ho hmo (mB_MText_sum_5 hmo n) ih hF
    · rw [if_pos q9] at hF
      refine ab_aload_n d_MText_sum_14 rfl rfl rfl ?_
      refine ab_bipush (v := 45) d_MText_sum_15 (by decide) ?_
      obtain ⟨v37, H38, z36, hG⟩ := bC_s hF; clear hF
      refine hp_callV_a (v := .int v37) (H1 := H38) (As := [.int 45]) (rest := []) d_MText_sum_17 (k_MText_is z36) (ab_mkC s_MText_is (show 0 + 1 ≤ fr + 2 from by have := ho.1; omega) (show 8 + (2 + 11) + 0 ≤ lo + 46 from by have := ho.2.1; omega) (Nat.le_refl 0) (Nat.le_refl 0)) (k10 180 rfl rfl) i_MText_is v_MText_is (by rw [(s_2).1]; exact q5) (by decide) rfl rfl (Nat.le_of_ble_eq_true rfl) ?_
      have s_11 : Sa H H38 := (s_2).tr (m_MText_is z36)
      refine ab_if_eq (tgt := 56) d_MText_sum_20 (by decide) (fun q39 => ?_) (fun q39 => ?_)
      · rw [if_pos q39] at hG
        refine ab_iload_n d_MText_sum_56 rfl rfl ?_
        exact ab_iret d_MText_sum_57 rfl (Nat.le_refl _) (Nat.le_refl _) (by have hr := Option.some.inj hG; subst hr; exact ⟨rfl, rfl⟩)
      · rw [if_neg q39] at hG
        exact kB_MText_sum_23 ho hmo (mB_MText_sum_5 hmo n) ih hG
def F_MText_sum (N : Nat) (o : Orc_TextE) (p0 : Nat) (H : Hp) : Option (Int32 × Hp) :=
    ck (H.sh[p0]? = some (14, 0)) <|
    bC (F_MText_product N o p0 H) fun v3 H4 =>
    B_MText_sum_5 N o p0 N v3 H4
set_option maxRecDepth 20000 in
set_option maxHeartbeats 2000000 in
theorem m_MText_sum {N : Nat} {o : Orc_TextE} (hmo : mo_TextE o) {p0 : Nat} {H : Hp} {r : Int32 × Hp} (hF : F_MText_sum N o p0 H = some r) : Sa H r.2 := by
  unfold F_MText_sum at hF
  have hm := Sa.rf H
  obtain ⟨q49, hG⟩ := ck_s hF; clear hF
  obtain ⟨v51, H52, z50, hF⟩ := bC_s hG; clear hG
  replace hm : Sa H H52 := hm.tr (m_MText_product hmo z50)
  exact hm.tr (mB_MText_sum_5 hmo N v51 H52 r hF)
set_option maxRecDepth 20000 in
set_option maxHeartbeats 2000000 in
theorem k_MText_sum {N : Nat} {o : Orc_TextE} {fr lo : Nat} (ho : ok_TextE o fr lo) (hmo : mo_TextE o) {p0 : Nat} {H : Hp} {r : Int32 × Hp} (hF : F_MText_sum N o p0 H = some r) : ab_M y_MText_sum { frames := fr + 2, cells := 0, slots := 0, locals := lo + 46 } [.ref p0] (hpw H) (po (.returned (some (.int r.1))) r.2) := by
  unfold F_MText_sum at hF
  refine ab_of2 (lv := [some (.ref p0), none, none]) 2 rfl rfl (Nat.le_of_ble_eq_true rfl) ?_
  refine ab_aload_n d_MText_sum_0 rfl rfl rfl ?_
  obtain ⟨q1, hG⟩ := ck_s hF; clear hF
  obtain ⟨v3, H4, z2, hF⟩ := bC_s hG; clear hG
  refine hp_callV_a (v := .int v3) (H1 := H4) (As := []) (rest := []) d_MText_sum_1 (k_MText_product ho hmo z2) (ab_mkC s_MText_product (show (fr + 1) + 1 ≤ fr + 2 from by have := ho.1; omega) (show 8 + (3 + 11) + (lo + 24) ≤ lo + 46 from by have := ho.2.1; omega) (Nat.le_refl 0) (Nat.le_refl 0)) (k11 55 rfl rfl) i_MText_product v_MText_product q1 (by decide) rfl rfl (Nat.le_of_ble_eq_true rfl) ?_
  have s_1 : Sa H H4 := (m_MText_product hmo z2)
  refine ab_istore_n (lv' := [some (.ref p0), some (.int v3), none]) d_MText_sum_4 rfl (by decide) rfl ?_
  exact kB_MText_sum_5 ho hmo N v3 H4 r hF
def y_MText_compared : ab_Y := (⟨"WorldEngineModel$Text", "compared", "()I"⟩, prog_16_method_65_code, 5, (some FieldType.int), [])
theorem d_MText_compared_0 : decode y_MText_compared.2.1 0 = .ok (.aload_n 0, 1) := by decide +kernel
theorem d_MText_compared_1 : decode y_MText_compared.2.1 1 = .ok (.invokevirtual 373, 3) := by decide +kernel
theorem d_MText_compared_4 : decode y_MText_compared.2.1 4 = .ok (.istore_n 1, 1) := by decide +kernel
theorem d_MText_compared_5 : decode y_MText_compared.2.1 5 = .ok (.aload_n 0, 1) := by decide +kernel
theorem d_MText_compared_6 : decode y_MText_compared.2.1 6 = .ok (.invokevirtual 376, 3) := by decide +kernel
theorem d_MText_compared_9 : decode y_MText_compared.2.1 9 = .ok (.istore_n 2, 1) := by decide +kernel
theorem d_MText_compared_10 : decode y_MText_compared.2.1 10 = .ok (.iload_n 2, 1) := by decide +kernel
theorem d_MText_compared_11 : decode y_MText_compared.2.1 11 = .ok (.ifCond .ne 23, 3) := by decide +kernel
theorem d_MText_compared_14 : decode y_MText_compared.2.1 14 = .ok (.aload_n 0, 1) := by decide +kernel
theorem d_MText_compared_15 : decode y_MText_compared.2.1 15 = .ok (.bipush 7, 2) := by decide +kernel
theorem d_MText_compared_17 : decode y_MText_compared.2.1 17 = .ok (.invokevirtual 194, 3) := by decide +kernel
theorem d_MText_compared_20 : decode y_MText_compared.2.1 20 = .ok (.ifCond .ne 14, 3) := by decide +kernel
theorem d_MText_compared_23 : decode y_MText_compared.2.1 23 = .ok (.aload_n 0, 1) := by decide +kernel
theorem d_MText_compared_24 : decode y_MText_compared.2.1 24 = .ok (.bipush 8, 2) := by decide +kernel
theorem d_MText_compared_26 : decode y_MText_compared.2.1 26 = .ok (.invokevirtual 194, 3) := by decide +kernel
theorem d_MText_compared_29 : decode y_MText_compared.2.1 29 = .ok (.ifCond .ne 5, 3) := by decide +kernel
theorem d_MText_compared_32 : decode y_MText_compared.2.1 32 = .ok (.iload_n 1, 1) := by decide +kernel
theorem d_MText_compared_33 : decode y_MText_compared.2.1 33 = .ok (.ireturn, 1) := by decide +kernel
theorem d_MText_compared_34 : decode y_MText_compared.2.1 34 = .ok (.aload_n 0, 1) := by decide +kernel
theorem d_MText_compared_35 : decode y_MText_compared.2.1 35 = .ok (.getfield 191, 3) := by decide +kernel
theorem d_MText_compared_38 : decode y_MText_compared.2.1 38 = .ok (.istore_n 3, 1) := by decide +kernel
theorem d_MText_compared_39 : decode y_MText_compared.2.1 39 = .ok (.aload_n 0, 1) := by decide +kernel
theorem d_MText_compared_40 : decode y_MText_compared.2.1 40 = .ok (.dup, 1) := by decide +kernel
theorem d_MText_compared_41 : decode y_MText_compared.2.1 41 = .ok (.getfield 191, 3) := by decide +kernel
theorem d_MText_compared_44 : decode y_MText_compared.2.1 44 = .ok (.iconst 1, 1) := by decide +kernel
theorem d_MText_compared_45 : decode y_MText_compared.2.1 45 = .ok (.iadd, 1) := by decide +kernel
theorem d_MText_compared_46 : decode y_MText_compared.2.1 46 = .ok (.putfield 191, 3) := by decide +kernel
theorem d_MText_compared_49 : decode y_MText_compared.2.1 49 = .ok (.aload_n 0, 1) := by decide +kernel
theorem d_MText_compared_50 : decode y_MText_compared.2.1 50 = .ok (.iload_n 3, 1) := by decide +kernel
theorem d_MText_compared_51 : decode y_MText_compared.2.1 51 = .ok (.iload_n 1, 1) := by decide +kernel
theorem d_MText_compared_52 : decode y_MText_compared.2.1 52 = .ok (.aload_n 0, 1) := by decide +kernel
theorem d_MText_compared_53 : decode y_MText_compared.2.1 53 = .ok (.invokevirtual 373, 3) := by decide +kernel
theorem d_MText_compared_56 : decode y_MText_compared.2.1 56 = .ok (.iload_n 2, 1) := by decide +kernel
theorem d_MText_compared_57 : decode y_MText_compared.2.1 57 = .ok (.ifCond .eq 10, 3) := by decide +kernel
theorem d_MText_compared_60 : decode y_MText_compared.2.1 60 = .ok (.iload_n 1, 1) := by decide +kernel
theorem d_MText_compared_61 : decode y_MText_compared.2.1 61 = .ok (.invokestatic 379, 3) := by decide +kernel
theorem d_MText_compared_64 : decode y_MText_compared.2.1 64 = .ok (.ifCond .eq 7, 3) := by decide +kernel
theorem d_MText_compared_67 : decode y_MText_compared.2.1 67 = .ok (.iconst 1, 1) := by decide +kernel
theorem d_MText_compared_68 : decode y_MText_compared.2.1 68 = .ok (.goto 4, 3) := by decide +kernel
theorem d_MText_compared_71 : decode y_MText_compared.2.1 71 = .ok (.iconst 0, 1) := by decide +kernel
theorem d_MText_compared_72 : decode y_MText_compared.2.1 72 = .ok (.invokevirtual 366, 3) := by decide +kernel
theorem d_MText_compared_75 : decode y_MText_compared.2.1 75 = .ok (.istore 4, 2) := by decide +kernel
theorem d_MText_compared_77 : decode y_MText_compared.2.1 77 = .ok (.iconst 3, 1) := by decide +kernel
theorem d_MText_compared_78 : decode y_MText_compared.2.1 78 = .ok (.ireturn, 1) := by decide +kernel
theorem s_MText_compared : ab_Stat y_MText_compared 0 := ⟨(k11 50 rfl rfl), (k1 20 rfl rfl), ⟨by decide, by decide⟩, by decide +kernel⟩
theorem i_MText_compared : Cond.instanceMethod y_MText_compared.1 ∈ ab_T := (k11 49 rfl rfl)
theorem v_MText_compared : Cond.selects "WorldEngineModel$Text" y_MText_compared.1 y_MText_compared.1 ∈ ab_T := ab_s (List.mem_of_getElem? (i := 144) rfl) rfl
def B_MText_compared_72 (N : Nat) (o : Orc_TextE) (p0 : Nat) (w0 : Nat) (w1 : Int32) (w2 : Int32) (w3 : Int32) (w4 : Int32) (H : Hp) : Option (Int32 × Hp) :=
    ck (H.sh[w0]? = some (14, 0)) <|
    bC (F_MText_goTogether N w0 w1 w2 w3 w4 H) fun v19 H20 =>
    some (3, H20)
set_option maxRecDepth 20000 in
set_option maxHeartbeats 2000000 in
theorem mB_MText_compared_72 {N : Nat} {o : Orc_TextE} (hmo : mo_TextE o) {p0 : Nat} {w0 : Nat} {w1 : Int32} {w2 : Int32} {w3 : Int32} {w4 : Int32} {H : Hp} {r : Int32 × Hp} (hF : B_MText_compared_72 N o p0 w0 w1 w2 w3 w4 H = some r) : Sa H r.2 := by
  unfold B_MText_compared_72 at hF
  have hm := Sa.rf H
  obtain ⟨q21, hG⟩ := ck_s hF; clear hF
  obtain ⟨v23, H24, z22, hF⟩ := bC_s hG; clear hG
  replace hm : Sa H H24 := hm.tr (m_MText_goTogether z22)
  have hr := Option.some.inj hF; subst hr
  exact hm
set_option maxRecDepth 20000 in
set_option maxHeartbeats 2000000 in
theorem kB_MText_compared_72 {N : Nat} {o : Orc_TextE} {fr lo : Nat} (ho : ok_TextE o fr lo) (hmo : mo_TextE o) {p0 : Nat} {w0 : Nat} {w1 : Int32} {w2 : Int32} {w3 : Int32} {w4 : Int32} {H : Hp} {r : Int32 × Hp} (hF : B_MText_compared_72 N o p0 w0 w1 w2 w3 w4 H = some r) : ab_V y_MText_compared { frames := fr + 3, cells := 0, slots := 0, locals := lo + 68 } (po (.returned (some (.int r.1))) r.2) 0 0 0 0 72 [some (.ref p0), none, none, none, none] [.int w4, .int w3, .int w2, .int w1, .ref w0] (hpw H) := by
  unfold B_MText_compared_72 at hF
  obtain ⟨q17, hG⟩ := ck_s hF; clear hF
  obtain ⟨v19, H20, z18, hF⟩ := bC_s hG; clear hG
  refine hp_callV_a (v := .int v19) (H1 := H20) (As := [.int w1, .int w2, .int w3, .int w4]) (rest := []) d_MText_compared_72 (k_MText_goTogether z18) (ab_mkC s_MText_goTogether (show 1 + 1 ≤ fr + 3 from by have := ho.1; omega) (show 8 + (5 + 11) + 22 ≤ lo + 68 from by have := ho.2.1; omega) (Nat.le_refl 0) (Nat.le_refl 0)) (k11 97 rfl rfl) i_MText_goTogether v_MText_goTogether q17 (by decide) rfl rfl (Nat.le_of_ble_eq_true rfl) ?_
  have s_5 : Sa H H20 := (m_MText_goTogether z18)
  refine ab_istore (lv' := [some (.ref p0), none, none, none, some (.int v19)]) d_MText_compared_75 (by decide) rfl ?_
  refine ab_iconst (v := 3) d_MText_compared_77 (by decide) ?_
  exact ab_iret d_MText_compared_78 rfl (Nat.le_refl _) (Nat.le_refl _) (by have hr := Option.some.inj hF; subst hr; exact ⟨rfl, rfl⟩)
def B_MText_compared_67 (N : Nat) (o : Orc_TextE) (p0 : Nat) (w0 : Nat) (w1 : Int32) (w2 : Int32) (w3 : Int32) (H : Hp) : Option (Int32 × Hp) :=
    B_MText_compared_72 N o p0 w0 w1 w2 w3 1 H
set_option maxRecDepth 20000 in
set_option maxHeartbeats 2000000 in
theorem mB_MText_compared_67 {N : Nat} {o : Orc_TextE} (hmo : mo_TextE o) {p0 : Nat} {w0 : Nat} {w1 : Int32} {w2 : Int32} {w3 : Int32} {H : Hp} {r : Int32 × Hp} (hF : B_MText_compared_67 N o p0 w0 w1 w2 w3 H = some r) : Sa H r.2 := by
  unfold B_MText_compared_67 at hF
  have hm := Sa.rf H
  exact hm.tr (mB_MText_compared_72 hmo hF)
set_option maxRecDepth 20000 in
set_option maxHeartbeats 2000000 in
theorem kB_MText_compared_67 {N : Nat} {o : Orc_TextE} {fr lo : Nat} (ho : ok_TextE o fr lo) (hmo : mo_TextE o) {p0 : Nat} {w0 : Nat} {w1 : Int32} {w2 : Int32} {w3 : Int32} {H : Hp} {r : Int32 × Hp} (hF : B_MText_compared_67 N o p0 w0 w1 w2 w3 H = some r) : ab_V y_MText_compared { frames := fr + 3, cells := 0, slots := 0, locals := lo + 68 } (po (.returned (some (.int r.1))) r.2) 0 0 0 0 67 [some (.ref p0), none, none, none, none] [.int w3, .int w2, .int w1, .ref w0] (hpw H) := by
  unfold B_MText_compared_67 at hF
  refine ab_iconst (v := 1) d_MText_compared_67 (by decide) ?_
  refine ab_goto (tgt := 72) d_MText_compared_68 (by decide) ?_
  exact kB_MText_compared_72 ho hmo hF
def B_MText_compared_34 (N : Nat) (o : Orc_TextE) (p0 : Nat) (l1 : Int32) (l2 : Int32) (H : Hp) : Option (Int32 × Hp) :=
    ck (H.sh[p0]? = some (14, 0)) <|
    bnd ((H.D p0 11)) fun x10 =>
    bnd ((H.D p0 11)) fun x11 =>
    bnd (H.sD p0 11 (x11 + (1 : Int32))) fun H12 =>
    bC (F_MText_sum N o p0 H12) fun v14 H15 =>
    if l2 = (0 : Int32) then
    B_MText_compared_67 N o p0 p0 x10 l1 v14 H15
    else
    bC (F_MText_reckons N l1 H15) fun v26 H27 =>
    if v26 = (0 : Int32) then
    B_MText_compared_72 N o p0 p0 x10 l1 v14 0 H27
    else
    B_MText_compared_67 N o p0 p0 x10 l1 v14 H27
set_option maxRecDepth 20000 in
set_option maxHeartbeats 2000000 in
theorem mB_MText_compared_34 {N : Nat} {o : Orc_TextE} (hmo : mo_TextE o) {p0 : Nat} {l1 : Int32} {l2 : Int32} {H : Hp} {r : Int32 × Hp} (hF : B_MText_compared_34 N o p0 l1 l2 H = some r) : Sa H r.2 := by
  unfold B_MText_compared_34 at hF
  have hm := Sa.rf H
  obtain ⟨q29, hG⟩ := ck_s hF; clear hF
  obtain ⟨x30, -, hF⟩ := bnd_g hG; clear hG
  obtain ⟨x31, -, hG⟩ := bnd_g hF; clear hF
  obtain ⟨H32, eH32, hF⟩ := bnd_g hG; clear hG
  replace hm : Sa H H32 := by rw [eH32]; exact hm
  obtain ⟨v34, H35, z33, hG⟩ := bC_s hF; clear hF
  replace hm : Sa H H35 := hm.tr (m_MText_sum hmo z33)
  rcases ite_s hG with ⟨q_10, hF⟩ | ⟨q_10, hF⟩
  · clear hG
    exact hm.tr (mB_MText_compared_67 hmo hF)
  · clear hG
    obtain ⟨v38, H39, z37, hG⟩ := bC_s hF; clear hF
    replace hm : Sa H H39 := hm.tr (m_MText_reckons z37)
    rcases ite_s hG with ⟨q_12, hF⟩ | ⟨q_12, hF⟩
    · clear hG
      exact hm.tr (mB_MText_compared_72 hmo hF)
    · clear hG
      exact hm.tr (mB_MText_compared_67 hmo hF)
set_option maxRecDepth 20000 in
set_option maxHeartbeats 2000000 in
theorem kB_MText_compared_34 {N : Nat} {o : Orc_TextE} {fr lo : Nat} (ho : ok_TextE o fr lo) (hmo : mo_TextE o) {p0 : Nat} {l1 : Int32} {l2 : Int32} {H : Hp} {r : Int32 × Hp} (hF : B_MText_compared_34 N o p0 l1 l2 H = some r) : ab_V y_MText_compared { frames := fr + 3, cells := 0, slots := 0, locals := lo + 68 } (po (.returned (some (.int r.1))) r.2) 0 0 0 0 34 [some (.ref p0), some (.int l1), some (.int l2), none, none] [] (hpw H) := by
  unfold B_MText_compared_34 at hF
  refine ab_aload_n d_MText_compared_34 rfl rfl rfl ?_
  obtain ⟨q9, hG⟩ := ck_s hF; clear hF
  refine hp_getI (f := 11) d_MText_compared_35 q9 (by decide) rfl (by decide) (k8 175 rfl rfl) rfl ?_
  refine ab_topi (fun x10 ex10 => ?_)
  replace hG := bnd_s ex10 hG
  refine ab_istore_n (lv' := [some (.ref p0), some (.int l1), some (.int l2), some (.int x10), none]) d_MText_compared_38 rfl (by decide) rfl ?_
  refine ab_aload_n d_MText_compared_39 rfl rfl rfl ?_
  refine ab_dup d_MText_compared_40 rfl ?_
  refine hp_getI (f := 11) d_MText_compared_41 q9 (by decide) rfl (by decide) (k8 175 rfl rfl) rfl ?_
  refine ab_topi (fun x11 ex11 => ?_)
  replace hG := bnd_s ex11 hG
  refine ab_iconst (v := 1) d_MText_compared_44 (by decide) ?_
  refine ab_iadd d_MText_compared_45 ?_
  refine hp_putI (v := x11 + (1 : Int32)) (f := 11) d_MText_compared_46 q9 (by decide) rfl (by decide) (k8 175 rfl rfl) rfl rfl (fun _ => rfl) (fun _ => rfl) rfl ?_
  refine hp_gen (fun H12 eH12 => ?_)
  replace hG := bnd_s eH12 hG
  have s_3 : Sa H H12 := by rw [eH12]; exact Sa.rf _
  refine ab_aload_n d_MText_compared_49 rfl rfl rfl ?_
  refine ab_iload_n d_MText_compared_50 rfl rfl ?_
  refine ab_iload_n d_MText_compared_51 rfl rfl ?_
  refine ab_aload_n d_MText_compared_52 rfl rfl rfl ?_
  obtain ⟨v14, H15, z13, hF⟩ := bC_s hG; clear hG
  refine hp_callV_a (v := .int v14) (H1 := H15) (As := []) (rest := [.int l1, .int x10, .ref p0]) d_MText_compared_53 (k_MText_sum ho hmo z13) (ab_mkC s_MText_sum (show (fr + 2) + 1 ≤ fr + 3 from by have := ho.1; omega) (show 8 + (3 + 11) + (lo + 46) ≤ lo + 68 from by have := ho.2.1; omega) (Nat.le_refl 0) (Nat.le_refl 0)) (k11 51 rfl rfl) i_MText_sum v_MText_sum (by rw [(s_3).1]; exact q9) (by decide) rfl rfl (Nat.le_of_ble_eq_true rfl) ?_
  have s_4 : Sa H H15 := (s_3).tr (m_MText_sum hmo z13)
  refine ab_iload_n d_MText_compared_56 rfl rfl ?_
  refine ab_if_eq (tgt := 67) d_MText_compared_57 (by decide) (fun q16 => ?_) (fun q16 => ?_)
  · rw [if_pos q16] at hF
    refine ab_le (lv' := [some (.ref p0), none, none, none, none]) ⟨rfl, trivial⟩ ?_
    exact kB_MText_compared_67 ho hmo hF
  · rw [if_neg q16] at hF
    refine ab_iload_n d_MText_compared_60 rfl rfl ?_
    obtain ⟨v26, H27, z25, hG⟩ := bC_s hF; clear hF
    refine hp_callS_a (v := .int v26) (H1 := H27) (As := [.int l1]) (rest := [.int v14, .int l1, .int x10, .ref p0]) d_MText_compared_61 (k_MText_reckons z25) (ab_mkC s_MText_reckons (show 0 + 1 ≤ fr + 3 from by have := ho.1; omega) (show 8 + (1 + 11) + 0 ≤ lo + 68 from by have := ho.2.1; omega) (Nat.le_refl 0) (Nat.le_refl 0)) (k11 94 rfl rfl) t_MText_reckons rfl (Nat.le_of_ble_eq_true rfl) ?_
    have s_7 : Sa H H27 := (s_4).tr (m_MText_reckons z25)
    refine ab_if_eq (tgt := 71) d_MText_compared_64 (by decide) (fun q28 => ?_) (fun q28 => ?_)
    · rw [if_pos q28] at hG
      refine ab_iconst (v := 0) d_MText_compared_71 (by decide) ?_
      refine ab_le (lv' := [some (.ref p0), none, none, none, none]) ⟨rfl, trivial⟩ ?_
      exact kB_MText_compared_72 ho hmo hG
    · rw [if_neg q28] at hG
      refine ab_le (lv' := [some (.ref p0), none, none, none, none]) ⟨rfl, trivial⟩ ?_
      exact kB_MText_compared_67 ho hmo hG
def F_MText_compared (N : Nat) (o : Orc_TextE) (p0 : Nat) (H : Hp) : Option (Int32 × Hp) :=
    ck (H.sh[p0]? = some (14, 0)) <|
    bC (F_MText_sum N o p0 H) fun v3 H4 =>
    bC (F_MText_isLess N p0 H4) fun v6 H7 =>
    if v6 = (0 : Int32) then
    bC (F_MText_is N p0 (7 : Int32) H7) fun v42 H43 =>
    if v42 = (0 : Int32) then
    bC (F_MText_is N p0 (8 : Int32) H43) fun v46 H47 =>
    if v46 = (0 : Int32) then
    some (v3, H47)
    else
    B_MText_compared_34 N o p0 v3 v6 H47
    else
    B_MText_compared_34 N o p0 v3 v6 H43
    else
    B_MText_compared_34 N o p0 v3 v6 H7
set_option maxRecDepth 20000 in
set_option maxHeartbeats 2000000 in
theorem m_MText_compared {N : Nat} {o : Orc_TextE} (hmo : mo_TextE o) {p0 : Nat} {H : Hp} {r : Int32 × Hp} (hF : F_MText_compared N o p0 H = some r) : Sa H r.2 := by
  unfold F_MText_compared at hF
  have hm := Sa.rf H
  obtain ⟨q49, hG⟩ := ck_s hF; clear hF
  obtain ⟨v51, H52, z50, hF⟩ := bC_s hG; clear hG
  replace hm : Sa H H52 := hm.tr (m_MText_sum hmo z50)
  obtain ⟨v54, H55, z53, hG⟩ := bC_s hF; clear hF
  replace hm : Sa H H55 := hm.tr (m_MText_isLess z53)
  rcases ite_s hG with ⟨q_17, hF⟩ | ⟨q_17, hF⟩
  · clear hG
    obtain ⟨v58, H59, z57, hG⟩ := bC_s hF; clear hF
    replace hm : Sa H H59 := hm.tr (m_MText_is z57)
    rcases ite_s hG with ⟨q_19, hF⟩ | ⟨q_19, hF⟩
    · clear hG
      obtain ⟨v62, H63, z61, hG⟩ := bC_s hF; clear hF
      replace hm : Sa H H63 := hm.tr (m_MText_is z61)
      rcases ite_s hG with ⟨q_21, hF⟩ | ⟨q_21, hF⟩
      · clear hG
        have hr := Option.some.inj hF; subst hr
        exact hm
      · clear hG
        exact hm.tr (mB_MText_compared_34 hmo hF)
    · clear hG
      exact hm.tr (mB_MText_compared_34 hmo hF)
  · clear hG
    exact hm.tr (mB_MText_compared_34 hmo hF)
set_option maxRecDepth 20000 in
set_option maxHeartbeats 2000000 in
theorem k_MText_compared {N : Nat} {o : Orc_TextE} {fr lo : Nat} (ho : ok_TextE o fr lo) (hmo : mo_TextE o) {p0 : Nat} {H : Hp} {r : Int32 × Hp} (hF : F_MText_compared N o p0 H = some r) : ab_M y_MText_compared { frames := fr + 3, cells := 0, slots := 0, locals := lo + 68 } [.ref p0] (hpw H) (po (.returned (some (.int r.1))) r.2) := by
  unfold F_MText_compared at hF
  refine ab_of2 (lv := [some (.ref p0), none, none, none, none]) 4 rfl rfl (Nat.le_of_ble_eq_true rfl) ?_
  refine ab_aload_n d_MText_compared_0 rfl rfl rfl ?_
  obtain ⟨q1, hG⟩ := ck_s hF; clear hF
  obtain ⟨v3, H4, z2, hF⟩ := bC_s hG; clear hG
  refine hp_callV_a (v := .int v3) (H1 := H4) (As := []) (rest := []) d_MText_compared_1 (k_MText_sum ho hmo z2) (ab_mkC s_MText_sum (show (fr + 2) + 1 ≤ fr + 3 from by have := ho.1; omega) (show 8 + (3 + 11) + (lo + 46) ≤ lo + 68 from by have := ho.2.1; omega) (Nat.le_refl 0) (Nat.le_refl 0)) (k11 51 rfl rfl) i_MText_sum v_MText_sum q1 (by decide) rfl rfl (Nat.le_of_ble_eq_true rfl) ?_
  have s_1 : Sa H H4 := (m_MText_sum hmo z2)
  refine ab_istore_n (lv' := [some (.ref p0), some (.int v3), none, none, none]) d_MText_compared_4 rfl (by decide) rfl ?_
  refine ab_aload_n d_MText_compared_5 rfl rfl rfl ?_
  obtain ⟨v6, H7, z5, hG⟩ := bC_s hF; clear hF
  refine hp_callV_a (v := .int v6) (H1 := H7) (As := []) (rest := []) d_MText_compared_6 (k_MText_isLess z5) (ab_mkC s_MText_isLess (show 1 + 1 ≤ fr + 3 from by have := ho.1; omega) (show 8 + (1 + 11) + 21 ≤ lo + 68 from by have := ho.2.1; omega) (Nat.le_refl 0) (Nat.le_refl 0)) (k11 101 rfl rfl) i_MText_isLess v_MText_isLess (by rw [(s_1).1]; exact q1) (by decide) rfl rfl (Nat.le_of_ble_eq_true rfl) ?_
  have s_2 : Sa H H7 := (s_1).tr (m_MText_isLess z5)
  refine ab_istore_n (lv' := [some (.ref p0), some (.int v3), some (.int v6), none, none]) d_MText_compared_9 rfl (by decide) rfl ?_
  refine ab_iload_n d_MText_compared_10 rfl rfl ?_
  refine ab_if_ne (tgt := 34) d_MText_compared_11 (by decide) (fun q8 => ?_) (fun q8 => ?_)
  · rw [if_neg q8] at hG
    exact kB_MText_compared_34 ho hmo hG
  · rw [if_pos q8] at hG
    refine ab_aload_n d_MText_compared_14 rfl rfl rfl ?_
    refine ab_bipush (v := 7) d_MText_compared_15 (by decide) ?_
    obtain ⟨v42, H43, z41, hF⟩ := bC_s hG; clear hG
    refine hp_callV_a (v := .int v42) (H1 := H43) (As := [.int 7]) (rest := []) d_MText_compared_17 (k_MText_is z41) (ab_mkC s_MText_is (show 0 + 1 ≤ fr + 3 from by have := ho.1; omega) (show 8 + (2 + 11) + 0 ≤ lo + 68 from by have := ho.2.1; omega) (Nat.le_refl 0) (Nat.le_refl 0)) (k10 180 rfl rfl) i_MText_is v_MText_is (by rw [(s_2).1]; exact q1) (by decide) rfl rfl (Nat.le_of_ble_eq_true rfl) ?_
    have s_13 : Sa H H43 := (s_2).tr (m_MText_is z41)
    refine ab_if_ne (tgt := 34) d_MText_compared_20 (by decide) (fun q44 => ?_) (fun q44 => ?_)
    · rw [if_neg q44] at hF
      exact kB_MText_compared_34 ho hmo hF
    · rw [if_pos q44] at hF
      refine ab_aload_n d_MText_compared_23 rfl rfl rfl ?_
      refine ab_bipush (v := 8) d_MText_compared_24 (by decide) ?_
      obtain ⟨v46, H47, z45, hG⟩ := bC_s hF; clear hF
      refine hp_callV_a (v := .int v46) (H1 := H47) (As := [.int 8]) (rest := []) d_MText_compared_26 (k_MText_is z45) (ab_mkC s_MText_is (show 0 + 1 ≤ fr + 3 from by have := ho.1; omega) (show 8 + (2 + 11) + 0 ≤ lo + 68 from by have := ho.2.1; omega) (Nat.le_refl 0) (Nat.le_refl 0)) (k10 180 rfl rfl) i_MText_is v_MText_is (by rw [(s_13).1]; exact q1) (by decide) rfl rfl (Nat.le_of_ble_eq_true rfl) ?_
      have s_14 : Sa H H47 := (s_13).tr (m_MText_is z45)
      refine ab_if_ne (tgt := 34) d_MText_compared_29 (by decide) (fun q48 => ?_) (fun q48 => ?_)
      · rw [if_neg q48] at hG
        exact kB_MText_compared_34 ho hmo hG
      · rw [if_pos q48] at hG
        refine ab_iload_n d_MText_compared_32 rfl rfl ?_
        exact ab_iret d_MText_compared_33 rfl (Nat.le_refl _) (Nat.le_refl _) (by have hr := Option.some.inj hG; subst hr; exact ⟨rfl, rfl⟩)
def y_MText_both : ab_Y := (⟨"WorldEngineModel$Text", "both", "()I"⟩, prog_16_method_61_code, 3, (some FieldType.int), [])
theorem d_MText_both_0 : decode y_MText_both.2.1 0 = .ok (.aload_n 0, 1) := by decide +kernel
theorem d_MText_both_1 : decode y_MText_both.2.1 1 = .ok (.invokevirtual 370, 3) := by decide +kernel
theorem d_MText_both_4 : decode y_MText_both.2.1 4 = .ok (.istore_n 1, 1) := by decide +kernel
theorem d_MText_both_5 : decode y_MText_both.2.1 5 = .ok (.aload_n 0, 1) := by decide +kernel
theorem d_MText_both_6 : decode y_MText_both.2.1 6 = .ok (.bipush 9, 2) := by decide +kernel
theorem d_MText_both_8 : decode y_MText_both.2.1 8 = .ok (.invokevirtual 194, 3) := by decide +kernel
theorem d_MText_both_11 : decode y_MText_both.2.1 11 = .ok (.ifCond .eq 42, 3) := by decide +kernel
theorem d_MText_both_14 : decode y_MText_both.2.1 14 = .ok (.aload_n 0, 1) := by decide +kernel
theorem d_MText_both_15 : decode y_MText_both.2.1 15 = .ok (.getfield 191, 3) := by decide +kernel
theorem d_MText_both_18 : decode y_MText_both.2.1 18 = .ok (.istore_n 2, 1) := by decide +kernel
theorem d_MText_both_19 : decode y_MText_both.2.1 19 = .ok (.aload_n 0, 1) := by decide +kernel
theorem d_MText_both_20 : decode y_MText_both.2.1 20 = .ok (.dup, 1) := by decide +kernel
theorem d_MText_both_21 : decode y_MText_both.2.1 21 = .ok (.getfield 191, 3) := by decide +kernel
theorem d_MText_both_24 : decode y_MText_both.2.1 24 = .ok (.iconst 1, 1) := by decide +kernel
theorem d_MText_both_25 : decode y_MText_both.2.1 25 = .ok (.iadd, 1) := by decide +kernel
theorem d_MText_both_26 : decode y_MText_both.2.1 26 = .ok (.putfield 191, 3) := by decide +kernel
theorem d_MText_both_29 : decode y_MText_both.2.1 29 = .ok (.aload_n 0, 1) := by decide +kernel
theorem d_MText_both_30 : decode y_MText_both.2.1 30 = .ok (.iload_n 2, 1) := by decide +kernel
theorem d_MText_both_31 : decode y_MText_both.2.1 31 = .ok (.iload_n 1, 1) := by decide +kernel
theorem d_MText_both_32 : decode y_MText_both.2.1 32 = .ok (.aload_n 0, 1) := by decide +kernel
theorem d_MText_both_33 : decode y_MText_both.2.1 33 = .ok (.invokevirtual 370, 3) := by decide +kernel
theorem d_MText_both_36 : decode y_MText_both.2.1 36 = .ok (.iload_n 1, 1) := by decide +kernel
theorem d_MText_both_37 : decode y_MText_both.2.1 37 = .ok (.iconst 3, 1) := by decide +kernel
theorem d_MText_both_38 : decode y_MText_both.2.1 38 = .ok (.if_icmp .ne 7, 3) := by decide +kernel
theorem d_MText_both_41 : decode y_MText_both.2.1 41 = .ok (.iconst 1, 1) := by decide +kernel
theorem d_MText_both_42 : decode y_MText_both.2.1 42 = .ok (.goto 4, 3) := by decide +kernel
theorem d_MText_both_45 : decode y_MText_both.2.1 45 = .ok (.iconst 0, 1) := by decide +kernel
theorem d_MText_both_46 : decode y_MText_both.2.1 46 = .ok (.invokevirtual 366, 3) := by decide +kernel
theorem d_MText_both_49 : decode y_MText_both.2.1 49 = .ok (.istore_n 1, 1) := by decide +kernel
theorem d_MText_both_50 : decode y_MText_both.2.1 50 = .ok (.goto (-45), 3) := by decide +kernel
theorem d_MText_both_53 : decode y_MText_both.2.1 53 = .ok (.iload_n 1, 1) := by decide +kernel
theorem d_MText_both_54 : decode y_MText_both.2.1 54 = .ok (.ireturn, 1) := by decide +kernel
theorem s_MText_both : ab_Stat y_MText_both 0 := ⟨(k11 46 rfl rfl), (k1 20 rfl rfl), ⟨by decide, by decide⟩, by decide +kernel⟩
theorem i_MText_both : Cond.instanceMethod y_MText_both.1 ∈ ab_T := (k11 45 rfl rfl)
theorem v_MText_both : Cond.selects "WorldEngineModel$Text" y_MText_both.1 y_MText_both.1 ∈ ab_T := ab_s (List.mem_of_getElem? (i := 143) rfl) rfl
def B_MText_both_46 (N : Nat) (o : Orc_TextE) (p0 : Nat) (kq5 : Int32 → Hp → Option (Int32 × Hp)) (w0 : Nat) (w1 : Int32) (w2 : Int32) (w3 : Int32) (w4 : Int32) (H : Hp) : Option (Int32 × Hp) :=
    ck (H.sh[w0]? = some (14, 0)) <|
    bC (F_MText_goTogether N w0 w1 w2 w3 w4 H) fun v19 H20 =>
    kq5 v19 H20
set_option maxRecDepth 20000 in
set_option maxHeartbeats 2000000 in
theorem mB_MText_both_46 {N : Nat} {o : Orc_TextE} (hmo : mo_TextE o) {p0 : Nat} {kq5 : Int32 → Hp → Option (Int32 × Hp)} (hm5 : ∀ (l1 : Int32) (H : Hp) (r : Int32 × Hp), kq5 l1 H = some r → Sa H r.2) {w0 : Nat} {w1 : Int32} {w2 : Int32} {w3 : Int32} {w4 : Int32} {H : Hp} {r : Int32 × Hp} (hF : B_MText_both_46 N o p0 kq5 w0 w1 w2 w3 w4 H = some r) : Sa H r.2 := by
  unfold B_MText_both_46 at hF
  have hm := Sa.rf H
  obtain ⟨q21, hG⟩ := ck_s hF; clear hF
  obtain ⟨v23, H24, z22, hF⟩ := bC_s hG; clear hG
  replace hm : Sa H H24 := hm.tr (m_MText_goTogether z22)
  exact hm.tr (hm5 v23 H24 r hF)
set_option maxRecDepth 20000 in
set_option maxHeartbeats 2000000 in
theorem kB_MText_both_46 {N : Nat} {o : Orc_TextE} {fr lo : Nat} (ho : ok_TextE o fr lo) (hmo : mo_TextE o) {p0 : Nat} {kq5 : Int32 → Hp → Option (Int32 × Hp)} (hm5 : ∀ (l1 : Int32) (H : Hp) (r : Int32 × Hp), kq5 l1 H = some r → Sa H r.2) (hk5 : ∀ (l1 : Int32) (H : Hp) (r : Int32 × Hp), kq5 l1 H = some r → ab_V y_MText_both { frames := fr + 4, cells := 0, slots := 0, locals := lo + 92 } (po (.returned (some (.int r.1))) r.2) 0 0 0 0 5 [some (.ref p0), some (.int l1), none] [] (hpw H)) {w0 : Nat} {w1 : Int32} {w2 : Int32} {w3 : Int32} {w4 : Int32} {H : Hp} {r : Int32 × Hp} (hF : B_MText_both_46 N o p0 kq5 w0 w1 w2 w3 w4 H = some r) : ab_V y_MText_both { frames := fr + 4, cells := 0, slots := 0, locals := lo + 92 } (po (.returned (some (.int r.1))) r.2) 0 0 0 0 46 [some (.ref p0), none, none] [.int w4, .int w3, .int w2, .int w1, .ref w0] (hpw H) := by
  unfold B_MText_both_46 at hF
  obtain ⟨q17, hG⟩ := ck_s hF; clear hF
  obtain ⟨v19, H20, z18, hF⟩ := bC_s hG; clear hG
  refine hp_callV_a (v := .int v19) (H1 := H20) (As := [.int w1, .int w2, .int w3, .int w4]) (rest := []) d_MText_both_46 (k_MText_goTogether z18) (ab_mkC s_MText_goTogether (show 1 + 1 ≤ fr + 4 from by have := ho.1; omega) (show 8 + (5 + 11) + 22 ≤ lo + 92 from by have := ho.2.1; omega) (Nat.le_refl 0) (Nat.le_refl 0)) (k11 97 rfl rfl) i_MText_goTogether v_MText_goTogether q17 (by decide) rfl rfl (Nat.le_of_ble_eq_true rfl) ?_
  have s_5 : Sa H H20 := (m_MText_goTogether z18)
  refine ab_istore_n (lv' := [some (.ref p0), some (.int v19), none]) d_MText_both_49 rfl (by decide) rfl ?_
  refine ab_goto (tgt := 5) d_MText_both_50 (by decide) ?_
  exact hk5 v19 H20 r hF
def B_MText_both_5 (N : Nat) (o : Orc_TextE) (p0 : Nat) : Nat → Int32 → Hp → Option (Int32 × Hp)
  | 0, _, _ => none
  | n + 1, l1, H =>
    ck (H.sh[p0]? = some (14, 0)) <|
    bC (F_MText_is N p0 (9 : Int32) H) fun v7 H8 =>
    if v7 = (0 : Int32) then
    some (l1, H8)
    else
    bnd ((H8.D p0 11)) fun x10 =>
    bnd ((H8.D p0 11)) fun x11 =>
    bnd (H8.sD p0 11 (x11 + (1 : Int32))) fun H12 =>
    bC (F_MText_compared N o p0 H12) fun v14 H15 =>
    if l1 = (3 : Int32) then
    B_MText_both_46 N o p0 (fun l1 H => B_MText_both_5 N o p0 n l1 H) p0 x10 l1 v14 1 H15
    else
    B_MText_both_46 N o p0 (fun l1 H => B_MText_both_5 N o p0 n l1 H) p0 x10 l1 v14 0 H15
termination_by structural n => n
set_option maxRecDepth 20000 in
set_option maxHeartbeats 2000000 in
theorem mB_MText_both_5 {N : Nat} {o : Orc_TextE} (hmo : mo_TextE o) {p0 : Nat} : ∀ (n : Nat) (l1 : Int32) (H : Hp) (r : Int32 × Hp), B_MText_both_5 N o p0 n l1 H = some r → Sa H r.2 := by
  intro n
  induction n with
  | zero => intro l1 H r hF; rw [B_MText_both_5] at hF; cases hF
  | succ n ih =>
    intro l1 H r hF
    rw [B_MText_both_5] at hF
    have hm := Sa.rf H
    obtain ⟨q25, hG⟩ := ck_s hF; clear hF
    obtain ⟨v27, H28, z26, hF⟩ := bC_s hG; clear hG
    replace hm : Sa H H28 := hm.tr (m_MText_is z26)
    rcases ite_s hF with ⟨q_8, hG⟩ | ⟨q_8, hG⟩
    · clear hF
      have hr := Option.some.inj hG; subst hr
      exact hm
    · clear hF
      obtain ⟨x30, -, hF⟩ := bnd_g hG; clear hG
      obtain ⟨x31, -, hG⟩ := bnd_g hF; clear hF
      obtain ⟨H32, eH32, hF⟩ := bnd_g hG; clear hG
      replace hm : Sa H H32 := by rw [eH32]; exact hm
      obtain ⟨v34, H35, z33, hG⟩ := bC_s hF; clear hF
      replace hm : Sa H H35 := hm.tr (m_MText_compared hmo z33)
      rcases ite_s hG with ⟨q_11, hF⟩ | ⟨q_11, hF⟩
      · clear hG
        exact hm.tr (mB_MText_both_46 hmo ih hF)
      · clear hG
        exact hm.tr (mB_MText_both_46 hmo ih hF)
set_option maxRecDepth 20000 in
set_option maxHeartbeats 2000000 in
theorem kB_MText_both_5 {N : Nat} {o : Orc_TextE} {fr lo : Nat} (ho : ok_TextE o fr lo) (hmo : mo_TextE o) {p0 : Nat} : ∀ (n : Nat) (l1 : Int32) (H : Hp) (r : Int32 × Hp), B_MText_both_5 N o p0 n l1 H = some r → ab_V y_MText_both { frames := fr + 4, cells := 0, slots := 0, locals := lo + 92 } (po (.returned (some (.int r.1))) r.2) 0 0 0 0 5 [some (.ref p0), some (.int l1), none] [] (hpw H) := by
  intro n
  induction n with
  | zero => intro l1 H r hF; rw [B_MText_both_5] at hF; cases hF
  | succ n ih =>
    intro l1 H r hF
    rw [B_MText_both_5] at hF
    refine ab_aload_n d_MText_both_5 rfl rfl rfl ?_
    refine ab_bipush (v := 9) d_MText_both_6 (by decide) ?_
    obtain ⟨q5, hG⟩ := ck_s hF; clear hF
    obtain ⟨v7, H8, z6, hF⟩ := bC_s hG; clear hG
    refine hp_callV_a (v := .int v7) (H1 := H8) (As := [.int 9]) (rest := []) d_MText_both_8 (k_MText_is z6) (ab_mkC s_MText_is (show 0 + 1 ≤ fr + 4 from by have := ho.1; omega) (show 8 + (2 + 11) + 0 ≤ lo + 92 from by have := ho.2.1; omega) (Nat.le_refl 0) (Nat.le_refl 0)) (k10 180 rfl rfl) i_MText_is v_MText_is q5 (by decide) rfl rfl (Nat.le_of_ble_eq_true rfl) ?_
    have s_2 : Sa H H8 := (m_MText_is z6)
    refine ab_if_eq (tgt := 53) d_MText_both_11 (by decide) (fun q9 => ?_) (fun q9 => ?_)
    · rw [if_pos q9] at hF
      refine ab_iload_n d_MText_both_53 rfl rfl ?_
      exact ab_iret d_MText_both_54 rfl (Nat.le_refl _) (Nat.le_refl _) (by have hr := Option.some.inj hF; subst hr; exact ⟨rfl, rfl⟩)
    · rw [if_neg q9] at hF
      refine ab_aload_n d_MText_both_14 rfl rfl rfl ?_
      refine hp_getI (f := 11) d_MText_both_15 (by rw [(s_2).1]; exact q5) (by decide) rfl (by decide) (k8 175 rfl rfl) rfl ?_
      refine ab_topi (fun x10 ex10 => ?_)
      replace hF := bnd_s ex10 hF
      refine ab_istore_n (lv' := [some (.ref p0), some (.int l1), some (.int x10)]) d_MText_both_18 rfl (by decide) rfl ?_
      refine ab_aload_n d_MText_both_19 rfl rfl rfl ?_
      refine ab_dup d_MText_both_20 rfl ?_
      refine hp_getI (f := 11) d_MText_both_21 (by rw [(s_2).1]; exact q5) (by decide) rfl (by decide) (k8 175 rfl rfl) rfl ?_
      refine ab_topi (fun x11 ex11 => ?_)
      replace hF := bnd_s ex11 hF
      refine ab_iconst (v := 1) d_MText_both_24 (by decide) ?_
      refine ab_iadd d_MText_both_25 ?_
      refine hp_putI (v := x11 + (1 : Int32)) (f := 11) d_MText_both_26 (by rw [(s_2).1]; exact q5) (by decide) rfl (by decide) (k8 175 rfl rfl) rfl rfl (fun _ => rfl) (fun _ => rfl) rfl ?_
      refine hp_gen (fun H12 eH12 => ?_)
      replace hF := bnd_s eH12 hF
      have s_3 : Sa H H12 := by rw [eH12]; exact s_2
      refine ab_aload_n d_MText_both_29 rfl rfl rfl ?_
      refine ab_iload_n d_MText_both_30 rfl rfl ?_
      refine ab_iload_n d_MText_both_31 rfl rfl ?_
      refine ab_aload_n d_MText_both_32 rfl rfl rfl ?_
      obtain ⟨v14, H15, z13, hG⟩ := bC_s hF; clear hF
      refine hp_callV_a (v := .int v14) (H1 := H15) (As := []) (rest := [.int l1, .int x10, .ref p0]) d_MText_both_33 (k_MText_compared ho hmo z13) (ab_mkC s_MText_compared (show (fr + 3) + 1 ≤ fr + 4 from by have := ho.1; omega) (show 8 + (5 + 11) + (lo + 68) ≤ lo + 92 from by have := ho.2.1; omega) (Nat.le_refl 0) (Nat.le_refl 0)) (k11 47 rfl rfl) i_MText_compared v_MText_compared (by rw [(s_3).1]; exact q5) (by decide) rfl rfl (Nat.le_of_ble_eq_true rfl) ?_
      have s_4 : Sa H H15 := (s_3).tr (m_MText_compared hmo z13)
      refine ab_iload_n d_MText_both_36 rfl rfl ?_
      refine ab_iconst (v := 3) d_MText_both_37 (by decide) ?_
      refine ab_icmp_ne (tgt := 45) d_MText_both_38 (by decide) (fun q16 => ?_) (fun q16 => ?_)
      · rw [if_neg q16] at hG
        refine ab_iconst (v := 0) d_MText_both_45 (by decide) ?_
        refine ab_le (lv' := [some (.ref p0), none, none]) ⟨rfl, trivial⟩ ?_
        exact kB_MText_both_46 ho hmo (mB_MText_both_5 hmo n) ih hG
      · rw [if_pos q16] at hG
        refine ab_iconst (v := 1) d_MText_both_41 (by decide) ?_
        refine ab_goto (tgt := 46) d_MText_both_42 (by decide) ?_
        refine ab_le (lv' := [some (.ref p0), none, none]) ⟨rfl, trivial⟩ ?_
        exact kB_MText_both_46 ho hmo (mB_MText_both_5 hmo n) ih hG
def F_MText_both (N : Nat) (o : Orc_TextE) (p0 : Nat) (H : Hp) : Option (Int32 × Hp) :=
    ck (H.sh[p0]? = some (14, 0)) <|
    bC (F_MText_compared N o p0 H) fun v3 H4 =>
    B_MText_both_5 N o p0 N v3 H4
set_option maxRecDepth 20000 in
set_option maxHeartbeats 2000000 in
theorem m_MText_both {N : Nat} {o : Orc_TextE} (hmo : mo_TextE o) {p0 : Nat} {H : Hp} {r : Int32 × Hp} (hF : F_MText_both N o p0 H = some r) : Sa H r.2 := by
  unfold F_MText_both at hF
  have hm := Sa.rf H
  obtain ⟨q37, hG⟩ := ck_s hF; clear hF
  obtain ⟨v39, H40, z38, hF⟩ := bC_s hG; clear hG
  replace hm : Sa H H40 := hm.tr (m_MText_compared hmo z38)
  exact hm.tr (mB_MText_both_5 hmo N v39 H40 r hF)
set_option maxRecDepth 20000 in
set_option maxHeartbeats 2000000 in
theorem k_MText_both {N : Nat} {o : Orc_TextE} {fr lo : Nat} (ho : ok_TextE o fr lo) (hmo : mo_TextE o) {p0 : Nat} {H : Hp} {r : Int32 × Hp} (hF : F_MText_both N o p0 H = some r) : ab_M y_MText_both { frames := fr + 4, cells := 0, slots := 0, locals := lo + 92 } [.ref p0] (hpw H) (po (.returned (some (.int r.1))) r.2) := by
  unfold F_MText_both at hF
  refine ab_of2 (lv := [some (.ref p0), none, none]) 2 rfl rfl (Nat.le_of_ble_eq_true rfl) ?_
  refine ab_aload_n d_MText_both_0 rfl rfl rfl ?_
  obtain ⟨q1, hG⟩ := ck_s hF; clear hF
  obtain ⟨v3, H4, z2, hF⟩ := bC_s hG; clear hG
  refine hp_callV_a (v := .int v3) (H1 := H4) (As := []) (rest := []) d_MText_both_1 (k_MText_compared ho hmo z2) (ab_mkC s_MText_compared (show (fr + 3) + 1 ≤ fr + 4 from by have := ho.1; omega) (show 8 + (5 + 11) + (lo + 68) ≤ lo + 92 from by have := ho.2.1; omega) (Nat.le_refl 0) (Nat.le_refl 0)) (k11 47 rfl rfl) i_MText_compared v_MText_compared q1 (by decide) rfl rfl (Nat.le_of_ble_eq_true rfl) ?_
  have s_1 : Sa H H4 := (m_MText_compared hmo z2)
  refine ab_istore_n (lv' := [some (.ref p0), some (.int v3), none]) d_MText_both_4 rfl (by decide) rfl ?_
  exact kB_MText_both_5 ho hmo N v3 H4 r hF
def B_MText_value_46 (N : Nat) (o : Orc_TextE) (p0 : Nat) (kq5 : Int32 → Hp → Option (Int32 × Hp)) (w0 : Nat) (w1 : Int32) (w2 : Int32) (w3 : Int32) (w4 : Int32) (H : Hp) : Option (Int32 × Hp) :=
    ck (H.sh[w0]? = some (14, 0)) <|
    bC (F_MText_goTogether N w0 w1 w2 w3 w4 H) fun v19 H20 =>
    kq5 v19 H20
set_option maxRecDepth 20000 in
set_option maxHeartbeats 2000000 in
theorem mB_MText_value_46 {N : Nat} {o : Orc_TextE} (hmo : mo_TextE o) {p0 : Nat} {kq5 : Int32 → Hp → Option (Int32 × Hp)} (hm5 : ∀ (l1 : Int32) (H : Hp) (r : Int32 × Hp), kq5 l1 H = some r → Sa H r.2) {w0 : Nat} {w1 : Int32} {w2 : Int32} {w3 : Int32} {w4 : Int32} {H : Hp} {r : Int32 × Hp} (hF : B_MText_value_46 N o p0 kq5 w0 w1 w2 w3 w4 H = some r) : Sa H r.2 := by
  unfold B_MText_value_46 at hF
  have hm := Sa.rf H
  obtain ⟨q21, hG⟩ := ck_s hF; clear hF
  obtain ⟨v23, H24, z22, hF⟩ := bC_s hG; clear hG
  replace hm : Sa H H24 := hm.tr (m_MText_goTogether z22)
  exact hm.tr (hm5 v23 H24 r hF)
set_option maxRecDepth 20000 in
set_option maxHeartbeats 2000000 in
theorem kB_MText_value_46 {N : Nat} {o : Orc_TextE} {fr lo : Nat} (ho : ok_TextE o fr lo) (hmo : mo_TextE o) {p0 : Nat} {kq5 : Int32 → Hp → Option (Int32 × Hp)} (hm5 : ∀ (l1 : Int32) (H : Hp) (r : Int32 × Hp), kq5 l1 H = some r → Sa H r.2) (hk5 : ∀ (l1 : Int32) (H : Hp) (r : Int32 × Hp), kq5 l1 H = some r → ab_V y_MText_value { frames := fr + 5, cells := 0, slots := 0, locals := lo + 114 } (po (.returned (some (.int r.1))) r.2) 0 0 0 0 5 [some (.ref p0), some (.int l1), none] [] (hpw H)) {w0 : Nat} {w1 : Int32} {w2 : Int32} {w3 : Int32} {w4 : Int32} {H : Hp} {r : Int32 × Hp} (hF : B_MText_value_46 N o p0 kq5 w0 w1 w2 w3 w4 H = some r) : ab_V y_MText_value { frames := fr + 5, cells := 0, slots := 0, locals := lo + 114 } (po (.returned (some (.int r.1))) r.2) 0 0 0 0 46 [some (.ref p0), none, none] [.int w4, .int w3, .int w2, .int w1, .ref w0] (hpw H) := by
  unfold B_MText_value_46 at hF
  obtain ⟨q17, hG⟩ := ck_s hF; clear hF
  obtain ⟨v19, H20, z18, hF⟩ := bC_s hG; clear hG
  refine hp_callV_a (v := .int v19) (H1 := H20) (As := [.int w1, .int w2, .int w3, .int w4]) (rest := []) d_MText_value_46 (k_MText_goTogether z18) (ab_mkC s_MText_goTogether (show 1 + 1 ≤ fr + 5 from by have := ho.1; omega) (show 8 + (5 + 11) + 22 ≤ lo + 114 from by have := ho.2.1; omega) (Nat.le_refl 0) (Nat.le_refl 0)) (k11 97 rfl rfl) i_MText_goTogether v_MText_goTogether q17 (by decide) rfl rfl (Nat.le_of_ble_eq_true rfl) ?_
  have s_5 : Sa H H20 := (m_MText_goTogether z18)
  refine ab_istore_n (lv' := [some (.ref p0), some (.int v19), none]) d_MText_value_49 rfl (by decide) rfl ?_
  refine ab_goto (tgt := 5) d_MText_value_50 (by decide) ?_
  exact hk5 v19 H20 r hF
def B_MText_value_5 (N : Nat) (o : Orc_TextE) (p0 : Nat) : Nat → Int32 → Hp → Option (Int32 × Hp)
  | 0, _, _ => none
  | n + 1, l1, H =>
    ck (H.sh[p0]? = some (14, 0)) <|
    bC (F_MText_is N p0 (10 : Int32) H) fun v7 H8 =>
    if v7 = (0 : Int32) then
    some (l1, H8)
    else
    bnd ((H8.D p0 11)) fun x10 =>
    bnd ((H8.D p0 11)) fun x11 =>
    bnd (H8.sD p0 11 (x11 + (1 : Int32))) fun H12 =>
    bC (F_MText_both N o p0 H12) fun v14 H15 =>
    if l1 = (3 : Int32) then
    B_MText_value_46 N o p0 (fun l1 H => B_MText_value_5 N o p0 n l1 H) p0 x10 l1 v14 1 H15
    else
    B_MText_value_46 N o p0 (fun l1 H => B_MText_value_5 N o p0 n l1 H) p0 x10 l1 v14 0 H15
termination_by structural n => n
set_option maxRecDepth 20000 in
set_option maxHeartbeats 2000000 in
theorem mB_MText_value_5 {N : Nat} {o : Orc_TextE} (hmo : mo_TextE o) {p0 : Nat} : ∀ (n : Nat) (l1 : Int32) (H : Hp) (r : Int32 × Hp), B_MText_value_5 N o p0 n l1 H = some r → Sa H r.2 := by
  intro n
  induction n with
  | zero => intro l1 H r hF; rw [B_MText_value_5] at hF; cases hF
  | succ n ih =>
    intro l1 H r hF
    rw [B_MText_value_5] at hF
    have hm := Sa.rf H
    obtain ⟨q25, hG⟩ := ck_s hF; clear hF
    obtain ⟨v27, H28, z26, hF⟩ := bC_s hG; clear hG
    replace hm : Sa H H28 := hm.tr (m_MText_is z26)
    rcases ite_s hF with ⟨q_8, hG⟩ | ⟨q_8, hG⟩
    · clear hF
      have hr := Option.some.inj hG; subst hr
      exact hm
    · clear hF
      obtain ⟨x30, -, hF⟩ := bnd_g hG; clear hG
      obtain ⟨x31, -, hG⟩ := bnd_g hF; clear hF
      obtain ⟨H32, eH32, hF⟩ := bnd_g hG; clear hG
      replace hm : Sa H H32 := by rw [eH32]; exact hm
      obtain ⟨v34, H35, z33, hG⟩ := bC_s hF; clear hF
      replace hm : Sa H H35 := hm.tr (m_MText_both hmo z33)
      rcases ite_s hG with ⟨q_11, hF⟩ | ⟨q_11, hF⟩
      · clear hG
        exact hm.tr (mB_MText_value_46 hmo ih hF)
      · clear hG
        exact hm.tr (mB_MText_value_46 hmo ih hF)
set_option maxRecDepth 20000 in
set_option maxHeartbeats 2000000 in
theorem kB_MText_value_5 {N : Nat} {o : Orc_TextE} {fr lo : Nat} (ho : ok_TextE o fr lo) (hmo : mo_TextE o) {p0 : Nat} : ∀ (n : Nat) (l1 : Int32) (H : Hp) (r : Int32 × Hp), B_MText_value_5 N o p0 n l1 H = some r → ab_V y_MText_value { frames := fr + 5, cells := 0, slots := 0, locals := lo + 114 } (po (.returned (some (.int r.1))) r.2) 0 0 0 0 5 [some (.ref p0), some (.int l1), none] [] (hpw H) := by
  intro n
  induction n with
  | zero => intro l1 H r hF; rw [B_MText_value_5] at hF; cases hF
  | succ n ih =>
    intro l1 H r hF
    rw [B_MText_value_5] at hF
    refine ab_aload_n d_MText_value_5 rfl rfl rfl ?_
    refine ab_bipush (v := 10) d_MText_value_6 (by decide) ?_
    obtain ⟨q5, hG⟩ := ck_s hF; clear hF
    obtain ⟨v7, H8, z6, hF⟩ := bC_s hG; clear hG
    refine hp_callV_a (v := .int v7) (H1 := H8) (As := [.int 10]) (rest := []) d_MText_value_8 (k_MText_is z6) (ab_mkC s_MText_is (show 0 + 1 ≤ fr + 5 from by have := ho.1; omega) (show 8 + (2 + 11) + 0 ≤ lo + 114 from by have := ho.2.1; omega) (Nat.le_refl 0) (Nat.le_refl 0)) (k10 180 rfl rfl) i_MText_is v_MText_is q5 (by decide) rfl rfl (Nat.le_of_ble_eq_true rfl) ?_
    have s_2 : Sa H H8 := (m_MText_is z6)
    refine ab_if_eq (tgt := 53) d_MText_value_11 (by decide) (fun q9 => ?_) (fun q9 => ?_)
    · rw [if_pos q9] at hF
      refine ab_iload_n d_MText_value_53 rfl rfl ?_
      exact ab_iret d_MText_value_54 rfl (Nat.le_refl _) (Nat.le_refl _) (by have hr := Option.some.inj hF; subst hr; exact ⟨rfl, rfl⟩)
    · rw [if_neg q9] at hF
      refine ab_aload_n d_MText_value_14 rfl rfl rfl ?_
      refine hp_getI (f := 11) d_MText_value_15 (by rw [(s_2).1]; exact q5) (by decide) rfl (by decide) (k8 175 rfl rfl) rfl ?_
      refine ab_topi (fun x10 ex10 => ?_)
      replace hF := bnd_s ex10 hF
      refine ab_istore_n (lv' := [some (.ref p0), some (.int l1), some (.int x10)]) d_MText_value_18 rfl (by decide) rfl ?_
      refine ab_aload_n d_MText_value_19 rfl rfl rfl ?_
      refine ab_dup d_MText_value_20 rfl ?_
      refine hp_getI (f := 11) d_MText_value_21 (by rw [(s_2).1]; exact q5) (by decide) rfl (by decide) (k8 175 rfl rfl) rfl ?_
      refine ab_topi (fun x11 ex11 => ?_)
      replace hF := bnd_s ex11 hF
      refine ab_iconst (v := 1) d_MText_value_24 (by decide) ?_
      refine ab_iadd d_MText_value_25 ?_
      refine hp_putI (v := x11 + (1 : Int32)) (f := 11) d_MText_value_26 (by rw [(s_2).1]; exact q5) (by decide) rfl (by decide) (k8 175 rfl rfl) rfl rfl (fun _ => rfl) (fun _ => rfl) rfl ?_
      refine hp_gen (fun H12 eH12 => ?_)
      replace hF := bnd_s eH12 hF
      have s_3 : Sa H H12 := by rw [eH12]; exact s_2
      refine ab_aload_n d_MText_value_29 rfl rfl rfl ?_
      refine ab_iload_n d_MText_value_30 rfl rfl ?_
      refine ab_iload_n d_MText_value_31 rfl rfl ?_
      refine ab_aload_n d_MText_value_32 rfl rfl rfl ?_
      obtain ⟨v14, H15, z13, hG⟩ := bC_s hF; clear hF
      refine hp_callV_a (v := .int v14) (H1 := H15) (As := []) (rest := [.int l1, .int x10, .ref p0]) d_MText_value_33 (k_MText_both ho hmo z13) (ab_mkC s_MText_both (show (fr + 4) + 1 ≤ fr + 5 from by have := ho.1; omega) (show 8 + (3 + 11) + (lo + 92) ≤ lo + 114 from by have := ho.2.1; omega) (Nat.le_refl 0) (Nat.le_refl 0)) (k11 43 rfl rfl) i_MText_both v_MText_both (by rw [(s_3).1]; exact q5) (by decide) rfl rfl (Nat.le_of_ble_eq_true rfl) ?_
      have s_4 : Sa H H15 := (s_3).tr (m_MText_both hmo z13)
      refine ab_iload_n d_MText_value_36 rfl rfl ?_
      refine ab_iconst (v := 3) d_MText_value_37 (by decide) ?_
      refine ab_icmp_ne (tgt := 45) d_MText_value_38 (by decide) (fun q16 => ?_) (fun q16 => ?_)
      · rw [if_neg q16] at hG
        refine ab_iconst (v := 0) d_MText_value_45 (by decide) ?_
        refine ab_le (lv' := [some (.ref p0), none, none]) ⟨rfl, trivial⟩ ?_
        exact kB_MText_value_46 ho hmo (mB_MText_value_5 hmo n) ih hG
      · rw [if_pos q16] at hG
        refine ab_iconst (v := 1) d_MText_value_41 (by decide) ?_
        refine ab_goto (tgt := 46) d_MText_value_42 (by decide) ?_
        refine ab_le (lv' := [some (.ref p0), none, none]) ⟨rfl, trivial⟩ ?_
        exact kB_MText_value_46 ho hmo (mB_MText_value_5 hmo n) ih hG
def F_MText_value (N : Nat) (o : Orc_TextE) (p0 : Nat) (H : Hp) : Option (Int32 × Hp) :=
    ck (H.sh[p0]? = some (14, 0)) <|
    bC (F_MText_both N o p0 H) fun v3 H4 =>
    B_MText_value_5 N o p0 N v3 H4
set_option maxRecDepth 20000 in
set_option maxHeartbeats 2000000 in
theorem m_MText_value {N : Nat} {o : Orc_TextE} (hmo : mo_TextE o) {p0 : Nat} {H : Hp} {r : Int32 × Hp} (hF : F_MText_value N o p0 H = some r) : Sa H r.2 := by
  unfold F_MText_value at hF
  have hm := Sa.rf H
  obtain ⟨q37, hG⟩ := ck_s hF; clear hF
  obtain ⟨v39, H40, z38, hF⟩ := bC_s hG; clear hG
  replace hm : Sa H H40 := hm.tr (m_MText_both hmo z38)
  exact hm.tr (mB_MText_value_5 hmo N v39 H40 r hF)
set_option maxRecDepth 20000 in
set_option maxHeartbeats 2000000 in
theorem k_MText_value {N : Nat} {o : Orc_TextE} {fr lo : Nat} (ho : ok_TextE o fr lo) (hmo : mo_TextE o) {p0 : Nat} {H : Hp} {r : Int32 × Hp} (hF : F_MText_value N o p0 H = some r) : ab_M y_MText_value { frames := fr + 5, cells := 0, slots := 0, locals := lo + 114 } [.ref p0] (hpw H) (po (.returned (some (.int r.1))) r.2) := by
  unfold F_MText_value at hF
  refine ab_of2 (lv := [some (.ref p0), none, none]) 2 rfl rfl (Nat.le_of_ble_eq_true rfl) ?_
  refine ab_aload_n d_MText_value_0 rfl rfl rfl ?_
  obtain ⟨q1, hG⟩ := ck_s hF; clear hF
  obtain ⟨v3, H4, z2, hF⟩ := bC_s hG; clear hG
  refine hp_callV_a (v := .int v3) (H1 := H4) (As := []) (rest := []) d_MText_value_1 (k_MText_both ho hmo z2) (ab_mkC s_MText_both (show (fr + 4) + 1 ≤ fr + 5 from by have := ho.1; omega) (show 8 + (3 + 11) + (lo + 92) ≤ lo + 114 from by have := ho.2.1; omega) (Nat.le_refl 0) (Nat.le_refl 0)) (k11 43 rfl rfl) i_MText_both v_MText_both q1 (by decide) rfl rfl (Nat.le_of_ble_eq_true rfl) ?_
  have s_1 : Sa H H4 := (m_MText_both hmo z2)
  refine ab_istore_n (lv' := [some (.ref p0), some (.int v3), none]) d_MText_value_4 rfl (by decide) rfl ?_
  exact kB_MText_value_5 ho hmo N v3 H4 r hF
def X_TextE (N : Nat) : Nat → Orc_TextE
  | 0 => (fun _ _ => none, fun _ _ => none)
  | d + 1 => (fun a0 H => F_MText_value N (X_TextE N d) a0 H, fun a0 H => F_MText_unary N (X_TextE N d) a0 H)
termination_by structural d => d
theorem moX_TextE {N : Nat} : ∀ d, mo_TextE (X_TextE N d) := by
  intro d
  induction d with
  | zero => exact ⟨(fun _ _ _ hz => absurd (show none = some _ from hz) (by simp)), (fun _ _ _ hz => absurd (show none = some _ from hz) (by simp))⟩
  | succ d ih => exact ⟨(fun _ _ _ hz => m_MText_value ih hz), (fun _ _ _ hz => m_MText_unary ih hz)⟩
theorem okX_TextE {N : Nat} : ∀ d, ok_TextE (X_TextE N d) (5 + 5 * d) (108 + 114 * d) := by
  intro d
  induction d with
  | zero => exact ⟨Nat.le_refl _, Nat.le_refl _, (fun _ _ _ hz => absurd (show none = some _ from hz) (by simp)), (fun _ _ _ hz => absurd (show none = some _ from hz) (by simp))⟩
  | succ d ih => exact ⟨by omega, by omega, (fun _ _ _ hz => k_MText_value ih (moX_TextE d) hz), (fun _ _ _ hz => k_MText_unary ih (moX_TextE d) hz)⟩
def y_MText_assigns : ab_Y := (⟨"WorldEngineModel$Text", "assigns", "()V"⟩, prog_16_method_50_code, 5, none, [])
theorem d_MText_assigns_0 : decode y_MText_assigns.2.1 0 = .ok (.aload_n 0, 1) := by decide +kernel
theorem d_MText_assigns_1 : decode y_MText_assigns.2.1 1 = .ok (.invokevirtual 240, 3) := by decide +kernel
theorem d_MText_assigns_4 : decode y_MText_assigns.2.1 4 = .ok (.istore_n 1, 1) := by decide +kernel
theorem d_MText_assigns_5 : decode y_MText_assigns.2.1 5 = .ok (.aload_n 0, 1) := by decide +kernel
theorem d_MText_assigns_6 : decode y_MText_assigns.2.1 6 = .ok (.iload_n 1, 1) := by decide +kernel
theorem d_MText_assigns_7 : decode y_MText_assigns.2.1 7 = .ok (.invokevirtual 287, 3) := by decide +kernel
theorem d_MText_assigns_10 : decode y_MText_assigns.2.1 10 = .ok (.istore_n 2, 1) := by decide +kernel
theorem d_MText_assigns_11 : decode y_MText_assigns.2.1 11 = .ok (.aload_n 0, 1) := by decide +kernel
theorem d_MText_assigns_12 : decode y_MText_assigns.2.1 12 = .ok (.getfield 185, 3) := by decide +kernel
theorem d_MText_assigns_15 : decode y_MText_assigns.2.1 15 = .ok (.ifCond .le 4, 3) := by decide +kernel
theorem d_MText_assigns_18 : decode y_MText_assigns.2.1 18 = .ok (.return_, 1) := by decide +kernel
theorem d_MText_assigns_19 : decode y_MText_assigns.2.1 19 = .ok (.aload_n 0, 1) := by decide +kernel
theorem d_MText_assigns_20 : decode y_MText_assigns.2.1 20 = .ok (.bipush 46, 2) := by decide +kernel
theorem d_MText_assigns_22 : decode y_MText_assigns.2.1 22 = .ok (.invokevirtual 194, 3) := by decide +kernel
theorem d_MText_assigns_25 : decode y_MText_assigns.2.1 25 = .ok (.ifCond .ne 22, 3) := by decide +kernel
theorem d_MText_assigns_28 : decode y_MText_assigns.2.1 28 = .ok (.aload_n 0, 1) := by decide +kernel
theorem d_MText_assigns_29 : decode y_MText_assigns.2.1 29 = .ok (.bipush 61, 2) := by decide +kernel
theorem d_MText_assigns_31 : decode y_MText_assigns.2.1 31 = .ok (.invokevirtual 194, 3) := by decide +kernel
theorem d_MText_assigns_34 : decode y_MText_assigns.2.1 34 = .ok (.ifCond .ne 13, 3) := by decide +kernel
theorem d_MText_assigns_37 : decode y_MText_assigns.2.1 37 = .ok (.aload_n 0, 1) := by decide +kernel
theorem d_MText_assigns_38 : decode y_MText_assigns.2.1 38 = .ok (.iconst 1, 1) := by decide +kernel
theorem d_MText_assigns_39 : decode y_MText_assigns.2.1 39 = .ok (.aload_n 0, 1) := by decide +kernel
theorem d_MText_assigns_40 : decode y_MText_assigns.2.1 40 = .ok (.getfield 191, 3) := by decide +kernel
theorem d_MText_assigns_43 : decode y_MText_assigns.2.1 43 = .ok (.invokevirtual 200, 3) := by decide +kernel
theorem d_MText_assigns_46 : decode y_MText_assigns.2.1 46 = .ok (.return_, 1) := by decide +kernel
theorem d_MText_assigns_47 : decode y_MText_assigns.2.1 47 = .ok (.aload_n 0, 1) := by decide +kernel
theorem d_MText_assigns_48 : decode y_MText_assigns.2.1 48 = .ok (.bipush 61, 2) := by decide +kernel
theorem d_MText_assigns_50 : decode y_MText_assigns.2.1 50 = .ok (.invokevirtual 197, 3) := by decide +kernel
theorem d_MText_assigns_53 : decode y_MText_assigns.2.1 53 = .ok (.ifCond .eq 57, 3) := by decide +kernel
theorem d_MText_assigns_56 : decode y_MText_assigns.2.1 56 = .ok (.aload_n 0, 1) := by decide +kernel
theorem d_MText_assigns_57 : decode y_MText_assigns.2.1 57 = .ok (.iload_n 1, 1) := by decide +kernel
theorem d_MText_assigns_58 : decode y_MText_assigns.2.1 58 = .ok (.invokevirtual 284, 3) := by decide +kernel
theorem d_MText_assigns_61 : decode y_MText_assigns.2.1 61 = .ok (.istore_n 3, 1) := by decide +kernel
theorem d_MText_assigns_62 : decode y_MText_assigns.2.1 62 = .ok (.iload_n 2, 1) := by decide +kernel
theorem d_MText_assigns_63 : decode y_MText_assigns.2.1 63 = .ok (.iconst 1, 1) := by decide +kernel
theorem d_MText_assigns_64 : decode y_MText_assigns.2.1 64 = .ok (.if_icmp .ne 12, 3) := by decide +kernel
theorem d_MText_assigns_67 : decode y_MText_assigns.2.1 67 = .ok (.aload_n 0, 1) := by decide +kernel
theorem d_MText_assigns_68 : decode y_MText_assigns.2.1 68 = .ok (.getfield 101, 3) := by decide +kernel
theorem d_MText_assigns_71 : decode y_MText_assigns.2.1 71 = .ok (.iload_n 3, 1) := by decide +kernel
theorem d_MText_assigns_72 : decode y_MText_assigns.2.1 72 = .ok (.baload, 1) := by decide +kernel
theorem d_MText_assigns_73 : decode y_MText_assigns.2.1 73 = .ok (.ifCond .eq 9, 3) := by decide +kernel
theorem d_MText_assigns_76 : decode y_MText_assigns.2.1 76 = .ok (.aload_n 0, 1) := by decide +kernel
theorem d_MText_assigns_77 : decode y_MText_assigns.2.1 77 = .ok (.iconst 5, 1) := by decide +kernel
theorem d_MText_assigns_78 : decode y_MText_assigns.2.1 78 = .ok (.iload_n 1, 1) := by decide +kernel
theorem d_MText_assigns_79 : decode y_MText_assigns.2.1 79 = .ok (.invokevirtual 200, 3) := by decide +kernel
theorem d_MText_assigns_82 : decode y_MText_assigns.2.1 82 = .ok (.aload_n 0, 1) := by decide +kernel
theorem d_MText_assigns_83 : decode y_MText_assigns.2.1 83 = .ok (.getfield 185, 3) := by decide +kernel
theorem d_MText_assigns_86 : decode y_MText_assigns.2.1 86 = .ok (.ifCond .le 4, 3) := by decide +kernel
theorem d_MText_assigns_89 : decode y_MText_assigns.2.1 89 = .ok (.return_, 1) := by decide +kernel
theorem d_MText_assigns_90 : decode y_MText_assigns.2.1 90 = .ok (.aload_n 0, 1) := by decide +kernel
theorem d_MText_assigns_91 : decode y_MText_assigns.2.1 91 = .ok (.getfield 32, 3) := by decide +kernel
theorem d_MText_assigns_94 : decode y_MText_assigns.2.1 94 = .ok (.iload_n 1, 1) := by decide +kernel
theorem d_MText_assigns_95 : decode y_MText_assigns.2.1 95 = .ok (.iload_n 3, 1) := by decide +kernel
theorem d_MText_assigns_96 : decode y_MText_assigns.2.1 96 = .ok (.iastore, 1) := by decide +kernel
theorem d_MText_assigns_97 : decode y_MText_assigns.2.1 97 = .ok (.aload_n 0, 1) := by decide +kernel
theorem d_MText_assigns_98 : decode y_MText_assigns.2.1 98 = .ok (.aload_n 0, 1) := by decide +kernel
theorem d_MText_assigns_99 : decode y_MText_assigns.2.1 99 = .ok (.getfield 98, 3) := by decide +kernel
theorem d_MText_assigns_102 : decode y_MText_assigns.2.1 102 = .ok (.iload_n 3, 1) := by decide +kernel
theorem d_MText_assigns_103 : decode y_MText_assigns.2.1 103 = .ok (.iaload, 1) := by decide +kernel
theorem d_MText_assigns_104 : decode y_MText_assigns.2.1 104 = .ok (.invokevirtual 327, 3) := by decide +kernel
theorem d_MText_assigns_107 : decode y_MText_assigns.2.1 107 = .ok (.goto 81, 3) := by decide +kernel
theorem d_MText_assigns_110 : decode y_MText_assigns.2.1 110 = .ok (.aload_n 0, 1) := by decide +kernel
theorem d_MText_assigns_111 : decode y_MText_assigns.2.1 111 = .ok (.iload_n 1, 1) := by decide +kernel
theorem d_MText_assigns_112 : decode y_MText_assigns.2.1 112 = .ok (.iconst 2, 1) := by decide +kernel
theorem d_MText_assigns_113 : decode y_MText_assigns.2.1 113 = .ok (.invokevirtual 290, 3) := by decide +kernel
theorem d_MText_assigns_116 : decode y_MText_assigns.2.1 116 = .ok (.istore_n 3, 1) := by decide +kernel
theorem d_MText_assigns_117 : decode y_MText_assigns.2.1 117 = .ok (.aload_n 0, 1) := by decide +kernel
theorem d_MText_assigns_118 : decode y_MText_assigns.2.1 118 = .ok (.getfield 185, 3) := by decide +kernel
theorem d_MText_assigns_121 : decode y_MText_assigns.2.1 121 = .ok (.ifCond .ne 27, 3) := by decide +kernel
theorem d_MText_assigns_124 : decode y_MText_assigns.2.1 124 = .ok (.aload_n 0, 1) := by decide +kernel
theorem d_MText_assigns_125 : decode y_MText_assigns.2.1 125 = .ok (.getfield 80, 3) := by decide +kernel
theorem d_MText_assigns_128 : decode y_MText_assigns.2.1 128 = .ok (.aload_n 0, 1) := by decide +kernel
theorem d_MText_assigns_129 : decode y_MText_assigns.2.1 129 = .ok (.getfield 182, 3) := by decide +kernel
theorem d_MText_assigns_132 : decode y_MText_assigns.2.1 132 = .ok (.iconst 1, 1) := by decide +kernel
theorem d_MText_assigns_133 : decode y_MText_assigns.2.1 133 = .ok (.isub, 1) := by decide +kernel
theorem d_MText_assigns_134 : decode y_MText_assigns.2.1 134 = .ok (.iaload, 1) := by decide +kernel
theorem d_MText_assigns_135 : decode y_MText_assigns.2.1 135 = .ok (.iload_n 3, 1) := by decide +kernel
theorem d_MText_assigns_136 : decode y_MText_assigns.2.1 136 = .ok (.ishr, 1) := by decide +kernel
theorem d_MText_assigns_137 : decode y_MText_assigns.2.1 137 = .ok (.iconst 1, 1) := by decide +kernel
theorem d_MText_assigns_138 : decode y_MText_assigns.2.1 138 = .ok (.iand, 1) := by decide +kernel
theorem d_MText_assigns_139 : decode y_MText_assigns.2.1 139 = .ok (.ifCond .ne 9, 3) := by decide +kernel
theorem d_MText_assigns_142 : decode y_MText_assigns.2.1 142 = .ok (.aload_n 0, 1) := by decide +kernel
theorem d_MText_assigns_143 : decode y_MText_assigns.2.1 143 = .ok (.iconst 5, 1) := by decide +kernel
theorem d_MText_assigns_144 : decode y_MText_assigns.2.1 144 = .ok (.iload_n 1, 1) := by decide +kernel
theorem d_MText_assigns_145 : decode y_MText_assigns.2.1 145 = .ok (.invokevirtual 200, 3) := by decide +kernel
theorem d_MText_assigns_148 : decode y_MText_assigns.2.1 148 = .ok (.aload_n 0, 1) := by decide +kernel
theorem d_MText_assigns_149 : decode y_MText_assigns.2.1 149 = .ok (.bipush 46, 2) := by decide +kernel
theorem d_MText_assigns_151 : decode y_MText_assigns.2.1 151 = .ok (.invokevirtual 204, 3) := by decide +kernel
theorem d_MText_assigns_154 : decode y_MText_assigns.2.1 154 = .ok (.aload_n 0, 1) := by decide +kernel
theorem d_MText_assigns_155 : decode y_MText_assigns.2.1 155 = .ok (.iload_n 3, 1) := by decide +kernel
theorem d_MText_assigns_156 : decode y_MText_assigns.2.1 156 = .ok (.invokevirtual 348, 3) := by decide +kernel
theorem d_MText_assigns_159 : decode y_MText_assigns.2.1 159 = .ok (.istore 4, 2) := by decide +kernel
theorem d_MText_assigns_161 : decode y_MText_assigns.2.1 161 = .ok (.aload_n 0, 1) := by decide +kernel
theorem d_MText_assigns_162 : decode y_MText_assigns.2.1 162 = .ok (.bipush 61, 2) := by decide +kernel
theorem d_MText_assigns_164 : decode y_MText_assigns.2.1 164 = .ok (.invokevirtual 204, 3) := by decide +kernel
theorem d_MText_assigns_167 : decode y_MText_assigns.2.1 167 = .ok (.aload_n 0, 1) := by decide +kernel
theorem d_MText_assigns_168 : decode y_MText_assigns.2.1 168 = .ok (.getfield 185, 3) := by decide +kernel
theorem d_MText_assigns_171 : decode y_MText_assigns.2.1 171 = .ok (.ifCond .ne 17, 3) := by decide +kernel
theorem d_MText_assigns_174 : decode y_MText_assigns.2.1 174 = .ok (.aload_n 0, 1) := by decide +kernel
theorem d_MText_assigns_175 : decode y_MText_assigns.2.1 175 = .ok (.aload_n 0, 1) := by decide +kernel
theorem d_MText_assigns_176 : decode y_MText_assigns.2.1 176 = .ok (.getfield 50, 3) := by decide +kernel
theorem d_MText_assigns_179 : decode y_MText_assigns.2.1 179 = .ok (.iload 4, 2) := by decide +kernel
theorem d_MText_assigns_181 : decode y_MText_assigns.2.1 181 = .ok (.iaload, 1) := by decide +kernel
theorem d_MText_assigns_182 : decode y_MText_assigns.2.1 182 = .ok (.invokestatic 351, 3) := by decide +kernel
theorem d_MText_assigns_185 : decode y_MText_assigns.2.1 185 = .ok (.invokevirtual 327, 3) := by decide +kernel
theorem d_MText_assigns_188 : decode y_MText_assigns.2.1 188 = .ok (.aload_n 0, 1) := by decide +kernel
theorem d_MText_assigns_189 : decode y_MText_assigns.2.1 189 = .ok (.bipush 59, 2) := by decide +kernel
theorem d_MText_assigns_191 : decode y_MText_assigns.2.1 191 = .ok (.invokevirtual 204, 3) := by decide +kernel
theorem d_MText_assigns_194 : decode y_MText_assigns.2.1 194 = .ok (.return_, 1) := by decide +kernel
theorem s_MText_assigns : ab_Stat y_MText_assigns 0 := ⟨(k11 34 rfl rfl), (k1 20 rfl rfl), ⟨by decide, by decide⟩, by decide +kernel⟩
theorem i_MText_assigns : Cond.instanceMethod y_MText_assigns.1 ∈ ab_T := (k11 33 rfl rfl)
theorem v_MText_assigns : Cond.selects "WorldEngineModel$Text" y_MText_assigns.1 y_MText_assigns.1 ∈ ab_T := ab_s (List.mem_of_getElem? (i := 140) rfl) rfl
def B_MText_assigns_188 (N : Nat) (p0 : Nat)  (H : Hp) : Option (Unit × Hp) :=
    ck (H.sh[p0]? = some (14, 0)) <|
    bC (F_MText_takes N p0 (59 : Int32) H) fun v38 H39 =>
    some ((), H39)
set_option maxRecDepth 20000 in
set_option maxHeartbeats 2000000 in
theorem mB_MText_assigns_188 {N : Nat} {p0 : Nat}  {H : Hp} {r : Unit × Hp} (hF : B_MText_assigns_188 N p0  H = some r) : Sa H r.2 := by
  unfold B_MText_assigns_188 at hF
  have hm := Sa.rf H
  obtain ⟨q40, hG⟩ := ck_s hF; clear hF
  obtain ⟨v42, H43, z41, hF⟩ := bC_s hG; clear hG
  replace hm : Sa H H43 := hm.tr (m_MText_takes z41)
  have hr := Option.some.inj hF; subst hr
  exact hm
set_option maxRecDepth 20000 in
set_option maxHeartbeats 2000000 in
theorem kB_MText_assigns_188 {N : Nat} {p0 : Nat}  {H : Hp} {r : Unit × Hp} (hF : B_MText_assigns_188 N p0  H = some r) : ab_V y_MText_assigns { frames := 257, cells := 0, slots := 0, locals := 5853 } (po (.returned none) r.2) 0 0 0 0 188 [some (.ref p0), none, none, none, none] [] (hpw H) := by
  unfold B_MText_assigns_188 at hF
  refine ab_aload_n d_MText_assigns_188 rfl rfl rfl ?_
  refine ab_bipush (v := 59) d_MText_assigns_189 (by decide) ?_
  obtain ⟨q36, hG⟩ := ck_s hF; clear hF
  obtain ⟨v38, H39, z37, hF⟩ := bC_s hG; clear hG
  refine hp_callV_v (H1 := H39) (As := [.int 59]) (rest := []) d_MText_assigns_191 (k_MText_takes z37) (ab_mkC s_MText_takes (Nat.le_of_ble_eq_true rfl) (Nat.le_of_ble_eq_true rfl) (Nat.le_refl 0) (Nat.le_refl 0)) (k10 172 rfl rfl) i_MText_takes v_MText_takes q36 (by decide) rfl rfl (Nat.le_of_ble_eq_true rfl) ?_
  have s_9 : Sa H H39 := (m_MText_takes z37)
  exact ab_vret d_MText_assigns_194 rfl (Nat.le_refl _) (Nat.le_refl _) (by have hr := Option.some.inj hF; subst hr; exact ⟨rfl, rfl⟩)
def B_MText_assigns_148 (N : Nat) (p0 : Nat) (l3 : Int32) (H : Hp) : Option (Unit × Hp) :=
    ck (H.sh[p0]? = some (14, 0)) <|
    bC (F_MText_takes N p0 (46 : Int32) H) fun v26 H27 =>
    bC (F_MText_memberName N p0 l3 H27) fun v29 H30 =>
    bC (F_MText_takes N p0 (61 : Int32) H30) fun v32 H33 =>
    bnd ((H33.D p0 9)) fun x34 =>
    if x34 = (0 : Int32) then
    rf (H33.P p0 19) fun a44 =>
    ar H33 100 a44 fun n46 =>
    ck (inb v29 n46) <|
    bnd ((H33.D a44 (v29).toNatClampNeg)) fun x49 =>
    bC (F_MText_plain N x49 H33) fun v51 H52 =>
    bC (F_MText_wants N (X_TextE N 50) p0 v51 H52) fun v54 H55 =>
    B_MText_assigns_188 N p0  H55
    else
    B_MText_assigns_188 N p0  H33
set_option maxRecDepth 20000 in
set_option maxHeartbeats 2000000 in
theorem mB_MText_assigns_148 {N : Nat} {p0 : Nat} {l3 : Int32} {H : Hp} {r : Unit × Hp} (hF : B_MText_assigns_148 N p0 l3 H = some r) : Sa H r.2 := by
  unfold B_MText_assigns_148 at hF
  have hm := Sa.rf H
  obtain ⟨q56, hG⟩ := ck_s hF; clear hF
  obtain ⟨v58, H59, z57, hF⟩ := bC_s hG; clear hG
  replace hm : Sa H H59 := hm.tr (m_MText_takes z57)
  obtain ⟨v61, H62, z60, hG⟩ := bC_s hF; clear hF
  replace hm : Sa H H62 := hm.tr (m_MText_memberName z60)
  obtain ⟨v64, H65, z63, hF⟩ := bC_s hG; clear hG
  replace hm : Sa H H65 := hm.tr (m_MText_takes z63)
  obtain ⟨x66, -, hG⟩ := bnd_g hF; clear hF
  rcases ite_s hG with ⟨q_16, hF⟩ | ⟨q_16, hF⟩
  · clear hG
    obtain ⟨a68, e69, hG⟩ := rf_s hF; clear hF
    obtain ⟨n70, q71, hF⟩ := ar_s hG; clear hG
    obtain ⟨q72, hG⟩ := ck_s hF; clear hF
    obtain ⟨x73, -, hF⟩ := bnd_g hG; clear hG
    obtain ⟨v75, H76, z74, hG⟩ := bC_s hF; clear hF
    replace hm : Sa H H76 := hm.tr (m_MText_plain z74)
    obtain ⟨v78, H79, z77, hF⟩ := bC_s hG; clear hG
    replace hm : Sa H H79 := hm.tr (m_MText_wants (moX_TextE 50) z77)
    exact hm.tr (mB_MText_assigns_188 hF)
  · clear hG
    exact hm.tr (mB_MText_assigns_188 hF)
set_option maxRecDepth 20000 in
set_option maxHeartbeats 2000000 in
theorem kB_MText_assigns_148 {N : Nat} {p0 : Nat} {l3 : Int32} {H : Hp} {r : Unit × Hp} (hF : B_MText_assigns_148 N p0 l3 H = some r) : ab_V y_MText_assigns { frames := 257, cells := 0, slots := 0, locals := 5853 } (po (.returned none) r.2) 0 0 0 0 148 [some (.ref p0), none, none, some (.int l3), none] [] (hpw H) := by
  unfold B_MText_assigns_148 at hF
  refine ab_aload_n d_MText_assigns_148 rfl rfl rfl ?_
  refine ab_bipush (v := 46) d_MText_assigns_149 (by decide) ?_
  obtain ⟨q24, hG⟩ := ck_s hF; clear hF
  obtain ⟨v26, H27, z25, hF⟩ := bC_s hG; clear hG
  refine hp_callV_v (H1 := H27) (As := [.int 46]) (rest := []) d_MText_assigns_151 (k_MText_takes z25) (ab_mkC s_MText_takes (Nat.le_of_ble_eq_true rfl) (Nat.le_of_ble_eq_true rfl) (Nat.le_refl 0) (Nat.le_refl 0)) (k10 172 rfl rfl) i_MText_takes v_MText_takes q24 (by decide) rfl rfl (Nat.le_of_ble_eq_true rfl) ?_
  have s_6 : Sa H H27 := (m_MText_takes z25)
  refine ab_aload_n d_MText_assigns_154 rfl rfl rfl ?_
  refine ab_iload_n d_MText_assigns_155 rfl rfl ?_
  obtain ⟨v29, H30, z28, hG⟩ := bC_s hF; clear hF
  refine hp_callV_a (v := .int v29) (H1 := H30) (As := [.int l3]) (rest := []) d_MText_assigns_156 (k_MText_memberName z28) (ab_mkC s_MText_memberName (Nat.le_of_ble_eq_true rfl) (Nat.le_of_ble_eq_true rfl) (Nat.le_refl 0) (Nat.le_refl 0)) (k11 74 rfl rfl) i_MText_memberName v_MText_memberName (by rw [(s_6).1]; exact q24) (by decide) rfl rfl (Nat.le_of_ble_eq_true rfl) ?_
  have s_7 : Sa H H30 := (s_6).tr (m_MText_memberName z28)
  refine ab_istore (lv' := [some (.ref p0), none, none, some (.int l3), some (.int v29)]) d_MText_assigns_159 (by decide) rfl ?_
  refine ab_aload_n d_MText_assigns_161 rfl rfl rfl ?_
  refine ab_bipush (v := 61) d_MText_assigns_162 (by decide) ?_
  obtain ⟨v32, H33, z31, hF⟩ := bC_s hG; clear hG
  refine hp_callV_v (H1 := H33) (As := [.int 61]) (rest := []) d_MText_assigns_164 (k_MText_takes z31) (ab_mkC s_MText_takes (Nat.le_of_ble_eq_true rfl) (Nat.le_of_ble_eq_true rfl) (Nat.le_refl 0) (Nat.le_refl 0)) (k10 172 rfl rfl) i_MText_takes v_MText_takes (by rw [(s_7).1]; exact q24) (by decide) rfl rfl (Nat.le_of_ble_eq_true rfl) ?_
  have s_8 : Sa H H33 := (s_7).tr (m_MText_takes z31)
  refine ab_aload_n d_MText_assigns_167 rfl rfl rfl ?_
  refine hp_getI (f := 9) d_MText_assigns_168 (by rw [(s_8).1]; exact q24) (by decide) rfl (by decide) (k8 172 rfl rfl) rfl ?_
  refine ab_topi (fun x34 ex34 => ?_)
  replace hF := bnd_s ex34 hF
  refine ab_if_ne (tgt := 188) d_MText_assigns_171 (by decide) (fun q35 => ?_) (fun q35 => ?_)
  · rw [if_neg q35] at hF
    refine ab_le (lv' := [some (.ref p0), none, none, none, none]) ⟨rfl, trivial⟩ ?_
    exact kB_MText_assigns_188 hF
  · rw [if_pos q35] at hF
    refine ab_aload_n d_MText_assigns_174 rfl rfl rfl ?_
    refine ab_aload_n d_MText_assigns_175 rfl rfl rfl ?_
    obtain ⟨a44, e45, hG⟩ := rf_s hF; clear hF
    refine hp_getR (f := 19) d_MText_assigns_176 (by rw [(s_8).1]; exact q24) (by decide) rfl (by decide) (k8 188 rfl rfl) rfl e45 ?_
    refine ab_iload d_MText_assigns_179 rfl ?_
    obtain ⟨n46, q47, hF⟩ := ar_s hG; clear hG
    rw [(s_8).1] at q47
    obtain ⟨q48, hG⟩ := ck_s hF; clear hF
    refine hp_iald d_MText_assigns_181 tI (by rw [(s_8).1]; exact q47) q48 ?_
    refine ab_topi (fun x49 ex49 => ?_)
    replace hG := bnd_s ex49 hG
    obtain ⟨v51, H52, z50, hF⟩ := bC_s hG; clear hG
    refine hp_callS_a (v := .int v51) (H1 := H52) (As := [.int x49]) (rest := [.ref p0]) d_MText_assigns_182 (k_MText_plain z50) (ab_mkC s_MText_plain (Nat.le_of_ble_eq_true rfl) (Nat.le_of_ble_eq_true rfl) (Nat.le_refl 0) (Nat.le_refl 0)) (k11 71 rfl rfl) t_MText_plain rfl (Nat.le_of_ble_eq_true rfl) ?_
    have s_11 : Sa H H52 := (s_8).tr (m_MText_plain z50)
    obtain ⟨v54, H55, z53, hG⟩ := bC_s hF; clear hF
    refine hp_callV_v (H1 := H55) (As := [.int v51]) (rest := []) d_MText_assigns_185 (k_MText_wants (okX_TextE 50) (moX_TextE 50) z53) (ab_mkC s_MText_wants (Nat.le_of_ble_eq_true rfl) (Nat.le_of_ble_eq_true rfl) (Nat.le_refl 0) (Nat.le_refl 0)) (k11 35 rfl rfl) i_MText_wants v_MText_wants (by rw [(s_11).1]; exact q24) (by decide) rfl rfl (Nat.le_of_ble_eq_true rfl) ?_
    have s_12 : Sa H H55 := (s_11).tr (m_MText_wants (moX_TextE 50) z53)
    refine ab_le (lv' := [some (.ref p0), none, none, none, none]) ⟨rfl, trivial⟩ ?_
    exact kB_MText_assigns_188 hG
def B_MText_assigns_82 (N : Nat) (p0 : Nat) (l1 : Int32) (l3 : Int32) (H : Hp) : Option (Unit × Hp) :=
    ck (H.sh[p0]? = some (14, 0)) <|
    bnd ((H.D p0 9)) fun x100 =>
    if x100 ≤ (0 : Int32) then
    rf (H.P p0 8) fun a102 =>
    ar H 100 a102 fun n104 =>
    ck (inb l1 n104) <|
    bnd (H.sD a102 (l1).toNatClampNeg l3) fun H107 =>
    rf (H107.P p0 39) fun a108 =>
    ar H107 100 a108 fun n110 =>
    ck (inb l3 n110) <|
    bnd ((H107.D a108 (l3).toNatClampNeg)) fun x113 =>
    bC (F_MText_wants N (X_TextE N 50) p0 x113 H107) fun v115 H116 =>
    B_MText_assigns_188 N p0  H116
    else
    some ((), H)
set_option maxRecDepth 20000 in
set_option maxHeartbeats 2000000 in
theorem mB_MText_assigns_82 {N : Nat} {p0 : Nat} {l1 : Int32} {l3 : Int32} {H : Hp} {r : Unit × Hp} (hF : B_MText_assigns_82 N p0 l1 l3 H = some r) : Sa H r.2 := by
  unfold B_MText_assigns_82 at hF
  have hm := Sa.rf H
  obtain ⟨q117, hG⟩ := ck_s hF; clear hF
  obtain ⟨x118, -, hF⟩ := bnd_g hG; clear hG
  rcases ite_s hF with ⟨q_24, hG⟩ | ⟨q_24, hG⟩
  · clear hF
    obtain ⟨a120, e121, hF⟩ := rf_s hG; clear hG
    obtain ⟨n122, q123, hG⟩ := ar_s hF; clear hF
    obtain ⟨q124, hF⟩ := ck_s hG; clear hG
    obtain ⟨H125, eH125, hG⟩ := bnd_g hF; clear hF
    replace hm : Sa H H125 := by rw [eH125]; exact hm
    obtain ⟨a126, e127, hF⟩ := rf_s hG; clear hG
    obtain ⟨n128, q129, hG⟩ := ar_s hF; clear hF
    obtain ⟨q130, hF⟩ := ck_s hG; clear hG
    obtain ⟨x131, -, hG⟩ := bnd_g hF; clear hF
    obtain ⟨v133, H134, z132, hF⟩ := bC_s hG; clear hG
    replace hm : Sa H H134 := hm.tr (m_MText_wants (moX_TextE 50) z132)
    exact hm.tr (mB_MText_assigns_188 hF)
  · clear hF
    have hr := Option.some.inj hG; subst hr
    exact hm
set_option maxRecDepth 20000 in
set_option maxHeartbeats 2000000 in
theorem kB_MText_assigns_82 {N : Nat} {p0 : Nat} {l1 : Int32} {l3 : Int32} {H : Hp} {r : Unit × Hp} (hF : B_MText_assigns_82 N p0 l1 l3 H = some r) : ab_V y_MText_assigns { frames := 257, cells := 0, slots := 0, locals := 5853 } (po (.returned none) r.2) 0 0 0 0 82 [some (.ref p0), some (.int l1), none, some (.int l3), none] [] (hpw H) := by
  unfold B_MText_assigns_82 at hF
  refine ab_aload_n d_MText_assigns_82 rfl rfl rfl ?_
  obtain ⟨q99, hG⟩ := ck_s hF; clear hF
  refine hp_getI (f := 9) d_MText_assigns_83 q99 (by decide) rfl (by decide) (k8 172 rfl rfl) rfl ?_
  refine ab_topi (fun x100 ex100 => ?_)
  replace hG := bnd_s ex100 hG
  refine ab_if_le (tgt := 90) d_MText_assigns_86 (by decide) (fun q101 => ?_) (fun q101 => ?_)
  · rw [if_pos q101] at hG
    refine ab_aload_n d_MText_assigns_90 rfl rfl rfl ?_
    obtain ⟨a102, e103, hF⟩ := rf_s hG; clear hG
    refine hp_getR (f := 8) d_MText_assigns_91 q99 (by decide) rfl (by decide) (k8 169 rfl rfl) rfl e103 ?_
    refine ab_iload_n d_MText_assigns_94 rfl rfl ?_
    refine ab_iload_n d_MText_assigns_95 rfl rfl ?_
    obtain ⟨n104, q105, hG⟩ := ar_s hF; clear hF
    obtain ⟨q106, hF⟩ := ck_s hG; clear hG
    refine hp_iast d_MText_assigns_96 tI q105 q106 ?_
    refine hp_gen (fun H107 eH107 => ?_)
    replace hF := bnd_s eH107 hF
    have s_22 : Sa H H107 := by rw [eH107]; exact Sa.rf _
    refine ab_aload_n d_MText_assigns_97 rfl rfl rfl ?_
    refine ab_aload_n d_MText_assigns_98 rfl rfl rfl ?_
    obtain ⟨a108, e109, hG⟩ := rf_s hF; clear hF
    refine hp_getR (f := 39) d_MText_assigns_99 (by rw [(s_22).1]; exact q99) (by decide) rfl (by decide) (k8 226 rfl rfl) rfl e109 ?_
    refine ab_iload_n d_MText_assigns_102 rfl rfl ?_
    obtain ⟨n110, q111, hF⟩ := ar_s hG; clear hG
    rw [(s_22).1] at q111
    obtain ⟨q112, hG⟩ := ck_s hF; clear hF
    refine hp_iald d_MText_assigns_103 tI (by rw [(s_22).1]; exact q111) q112 ?_
    refine ab_topi (fun x113 ex113 => ?_)
    replace hG := bnd_s ex113 hG
    obtain ⟨v115, H116, z114, hF⟩ := bC_s hG; clear hG
    refine hp_callV_v (H1 := H116) (As := [.int x113]) (rest := []) d_MText_assigns_104 (k_MText_wants (okX_TextE 50) (moX_TextE 50) z114) (ab_mkC s_MText_wants (Nat.le_of_ble_eq_true rfl) (Nat.le_of_ble_eq_true rfl) (Nat.le_refl 0) (Nat.le_refl 0)) (k11 35 rfl rfl) i_MText_wants v_MText_wants (by rw [(s_22).1]; exact q99) (by decide) rfl rfl (Nat.le_of_ble_eq_true rfl) ?_
    have s_23 : Sa H H116 := (s_22).tr (m_MText_wants (moX_TextE 50) z114)
    refine ab_goto (tgt := 188) d_MText_assigns_107 (by decide) ?_
    refine ab_le (lv' := [some (.ref p0), none, none, none, none]) ⟨rfl, trivial⟩ ?_
    exact kB_MText_assigns_188 hF
  · rw [if_neg q101] at hG
    exact ab_vret d_MText_assigns_89 rfl (Nat.le_refl _) (Nat.le_refl _) (by have hr := Option.some.inj hG; subst hr; exact ⟨rfl, rfl⟩)
def B_MText_assigns_76 (N : Nat) (p0 : Nat) (l1 : Int32) (l3 : Int32) (H : Hp) : Option (Unit × Hp) :=
    ck (H.sh[p0]? = some (14, 0)) <|
    bC (F_MText_fails N p0 (5 : Int32) l1 H) fun v97 H98 =>
    B_MText_assigns_82 N p0 l1 l3 H98
set_option maxRecDepth 20000 in
set_option maxHeartbeats 2000000 in
theorem mB_MText_assigns_76 {N : Nat} {p0 : Nat} {l1 : Int32} {l3 : Int32} {H : Hp} {r : Unit × Hp} (hF : B_MText_assigns_76 N p0 l1 l3 H = some r) : Sa H r.2 := by
  unfold B_MText_assigns_76 at hF
  have hm := Sa.rf H
  obtain ⟨q135, hG⟩ := ck_s hF; clear hF
  obtain ⟨v137, H138, z136, hF⟩ := bC_s hG; clear hG
  replace hm : Sa H H138 := hm.tr (m_MText_fails z136)
  exact hm.tr (mB_MText_assigns_82 hF)
set_option maxRecDepth 20000 in
set_option maxHeartbeats 2000000 in
theorem kB_MText_assigns_76 {N : Nat} {p0 : Nat} {l1 : Int32} {l3 : Int32} {H : Hp} {r : Unit × Hp} (hF : B_MText_assigns_76 N p0 l1 l3 H = some r) : ab_V y_MText_assigns { frames := 257, cells := 0, slots := 0, locals := 5853 } (po (.returned none) r.2) 0 0 0 0 76 [some (.ref p0), some (.int l1), none, some (.int l3), none] [] (hpw H) := by
  unfold B_MText_assigns_76 at hF
  refine ab_aload_n d_MText_assigns_76 rfl rfl rfl ?_
  refine ab_iconst (v := 5) d_MText_assigns_77 (by decide) ?_
  refine ab_iload_n d_MText_assigns_78 rfl rfl ?_
  obtain ⟨q95, hG⟩ := ck_s hF; clear hF
  obtain ⟨v97, H98, z96, hF⟩ := bC_s hG; clear hG
  refine hp_callV_v (H1 := H98) (As := [.int 5, .int l1]) (rest := []) d_MText_assigns_79 (k_MText_fails z96) (ab_mkC s_MText_fails (Nat.le_of_ble_eq_true rfl) (Nat.le_of_ble_eq_true rfl) (Nat.le_refl 0) (Nat.le_refl 0)) (k10 160 rfl rfl) i_MText_fails v_MText_fails q95 (by decide) rfl rfl (Nat.le_of_ble_eq_true rfl) ?_
  have s_21 : Sa H H98 := (m_MText_fails z96)
  exact kB_MText_assigns_82 hF
def B_MText_assigns_47 (N : Nat) (p0 : Nat) (l1 : Int32) (l2 : Int32) (H : Hp) : Option (Unit × Hp) :=
    ck (H.sh[p0]? = some (14, 0)) <|
    bC (F_MText_accepts N p0 (61 : Int32) H) fun v16 H17 =>
    if v16 = (0 : Int32) then
    bC (F_MText_numberOf N p0 l1 (2 : Int32) H17) fun v20 H21 =>
    bnd ((H21.D p0 9)) fun x22 =>
    if x22 = (0 : Int32) then
    rf (H21.P p0 32) fun a80 =>
    bnd ((H21.D p0 29)) fun x82 =>
    ar H21 100 a80 fun n83 =>
    ck (inb (x82 - (1 : Int32)) n83) <|
    bnd ((H21.D a80 ((x82 - (1 : Int32))).toNatClampNeg)) fun x86 =>
    if ((x86 >>> (v20 &&& 31)) &&& (1 : Int32)) = (0 : Int32) then
    bC (F_MText_fails N p0 (5 : Int32) l1 H21) fun v89 H90 =>
    B_MText_assigns_148 N p0 v20 H90
    else
    B_MText_assigns_148 N p0 v20 H21
    else
    B_MText_assigns_148 N p0 v20 H21
    else
    bC (F_MText_local N p0 l1 H17) fun v92 H93 =>
    if l2 = (1 : Int32) then
    rf (H93.P p0 40) fun a139 =>
    ar H93 102 a139 fun n141 =>
    ck (inb v92 n141) <|
    bnd ((H93.D a139 (v92).toNatClampNeg)) fun x144 =>
    if x144 = (0 : Int32) then
    B_MText_assigns_82 N p0 l1 v92 H93
    else
    B_MText_assigns_76 N p0 l1 v92 H93
    else
    B_MText_assigns_76 N p0 l1 v92 H93
set_option maxRecDepth 20000 in
set_option maxHeartbeats 2000000 in
theorem mB_MText_assigns_47 {N : Nat} {p0 : Nat} {l1 : Int32} {l2 : Int32} {H : Hp} {r : Unit × Hp} (hF : B_MText_assigns_47 N p0 l1 l2 H = some r) : Sa H r.2 := by
  unfold B_MText_assigns_47 at hF
  have hm := Sa.rf H
  obtain ⟨q146, hG⟩ := ck_s hF; clear hF
  obtain ⟨v148, H149, z147, hF⟩ := bC_s hG; clear hG
  replace hm : Sa H H149 := hm.tr (m_MText_accepts z147)
  rcases ite_s hF with ⟨q_29, hG⟩ | ⟨q_29, hG⟩
  · clear hF
    obtain ⟨v152, H153, z151, hF⟩ := bC_s hG; clear hG
    replace hm : Sa H H153 := hm.tr (m_MText_numberOf z151)
    obtain ⟨x154, -, hG⟩ := bnd_g hF; clear hF
    rcases ite_s hG with ⟨q_31, hF⟩ | ⟨q_31, hF⟩
    · clear hG
      obtain ⟨a156, e157, hG⟩ := rf_s hF; clear hF
      obtain ⟨x158, -, hF⟩ := bnd_g hG; clear hG
      obtain ⟨n159, q160, hG⟩ := ar_s hF; clear hF
      obtain ⟨q161, hF⟩ := ck_s hG; clear hG
      obtain ⟨x162, -, hG⟩ := bnd_g hF; clear hF
      rcases ite_s hG with ⟨q_32, hF⟩ | ⟨q_32, hF⟩
      · clear hG
        obtain ⟨v165, H166, z164, hG⟩ := bC_s hF; clear hF
        replace hm : Sa H H166 := hm.tr (m_MText_fails z164)
        exact hm.tr (mB_MText_assigns_148 hG)
      · clear hG
        exact hm.tr (mB_MText_assigns_148 hF)
    · clear hG
      exact hm.tr (mB_MText_assigns_148 hF)
  · clear hF
    obtain ⟨v168, H169, z167, hF⟩ := bC_s hG; clear hG
    replace hm : Sa H H169 := hm.tr (m_MText_local z167)
    rcases ite_s hF with ⟨q_35, hG⟩ | ⟨q_35, hG⟩
    · clear hF
      obtain ⟨a171, e172, hF⟩ := rf_s hG; clear hG
      obtain ⟨n173, q174, hG⟩ := ar_s hF; clear hF
      obtain ⟨q175, hF⟩ := ck_s hG; clear hG
      obtain ⟨x176, -, hG⟩ := bnd_g hF; clear hF
      rcases ite_s hG with ⟨q_36, hF⟩ | ⟨q_36, hF⟩
      · clear hG
        exact hm.tr (mB_MText_assigns_82 hF)
      · clear hG
        exact hm.tr (mB_MText_assigns_76 hF)
    · clear hF
      exact hm.tr (mB_MText_assigns_76 hG)
set_option maxRecDepth 20000 in
set_option maxHeartbeats 2000000 in
theorem kB_MText_assigns_47 {N : Nat} {p0 : Nat} {l1 : Int32} {l2 : Int32} {H : Hp} {r : Unit × Hp} (hF : B_MText_assigns_47 N p0 l1 l2 H = some r) : ab_V y_MText_assigns { frames := 257, cells := 0, slots := 0, locals := 5853 } (po (.returned none) r.2) 0 0 0 0 47 [some (.ref p0), some (.int l1), some (.int l2), none, none] [] (hpw H) := by
  unfold B_MText_assigns_47 at hF
  refine ab_aload_n d_MText_assigns_47 rfl rfl rfl ?_
  refine ab_bipush (v := 61) d_MText_assigns_48 (by decide) ?_
  obtain ⟨q14, hG⟩ := ck_s hF; clear hF
  obtain ⟨v16, H17, z15, hF⟩ := bC_s hG; clear hG
  refine hp_callV_a (v := .int v16) (H1 := H17) (As := [.int 61]) (rest := []) d_MText_assigns_50 (k_MText_accepts z15) (ab_mkC s_MText_accepts (Nat.le_of_ble_eq_true rfl) (Nat.le_of_ble_eq_true rfl) (Nat.le_refl 0) (Nat.le_refl 0)) (k10 176 rfl rfl) i_MText_accepts v_MText_accepts q14 (by decide) rfl rfl (Nat.le_of_ble_eq_true rfl) ?_
  have s_4 : Sa H H17 := (m_MText_accepts z15)
  refine ab_if_eq (tgt := 110) d_MText_assigns_53 (by decide) (fun q18 => ?_) (fun q18 => ?_)
  · rw [if_pos q18] at hF
    refine ab_aload_n d_MText_assigns_110 rfl rfl rfl ?_
    refine ab_iload_n d_MText_assigns_111 rfl rfl ?_
    refine ab_iconst (v := 2) d_MText_assigns_112 (by decide) ?_
    obtain ⟨v20, H21, z19, hG⟩ := bC_s hF; clear hF
    refine hp_callV_a (v := .int v20) (H1 := H21) (As := [.int l1, .int 2]) (rest := []) d_MText_assigns_113 (k_MText_numberOf z19) (ab_mkC s_MText_numberOf (Nat.le_of_ble_eq_true rfl) (Nat.le_of_ble_eq_true rfl) (Nat.le_refl 0) (Nat.le_refl 0)) (k10 225 rfl rfl) i_MText_numberOf v_MText_numberOf (by rw [(s_4).1]; exact q14) (by decide) rfl rfl (Nat.le_of_ble_eq_true rfl) ?_
    have s_5 : Sa H H21 := (s_4).tr (m_MText_numberOf z19)
    refine ab_istore_n (lv' := [some (.ref p0), some (.int l1), some (.int l2), some (.int v20), none]) d_MText_assigns_116 rfl (by decide) rfl ?_
    refine ab_aload_n d_MText_assigns_117 rfl rfl rfl ?_
    refine hp_getI (f := 9) d_MText_assigns_118 (by rw [(s_5).1]; exact q14) (by decide) rfl (by decide) (k8 172 rfl rfl) rfl ?_
    refine ab_topi (fun x22 ex22 => ?_)
    replace hG := bnd_s ex22 hG
    refine ab_if_ne (tgt := 148) d_MText_assigns_121 (by decide) (fun q23 => ?_) (fun q23 => ?_)
    · rw [if_neg q23] at hG
      refine ab_le (lv' := [some (.ref p0), none, none, some (.int v20), none]) ⟨rfl, ⟨rfl, trivial⟩⟩ ?_
      exact kB_MText_assigns_148 hG
    · rw [if_pos q23] at hG
      refine ab_aload_n d_MText_assigns_124 rfl rfl rfl ?_
      obtain ⟨a80, e81, hF⟩ := rf_s hG; clear hG
      refine hp_getR (f := 32) d_MText_assigns_125 (by rw [(s_5).1]; exact q14) (by decide) rfl (by decide) (k8 216 rfl rfl) rfl e81 ?_
      refine ab_aload_n d_MText_assigns_128 rfl rfl rfl ?_
      refine hp_getI (f := 29) d_MText_assigns_129 (by rw [(s_5).1]; exact q14) (by decide) rfl (by decide) (k8 213 rfl rfl) rfl ?_
      refine ab_topi (fun x82 ex82 => ?_)
      replace hF := bnd_s ex82 hF
      refine ab_iconst (v := 1) d_MText_assigns_132 (by decide) ?_
      refine ab_isub d_MText_assigns_133 ?_
      obtain ⟨n83, q84, hG⟩ := ar_s hF; clear hF
      rw [(s_5).1] at q84
      obtain ⟨q85, hF⟩ := ck_s hG; clear hG
      refine hp_iald d_MText_assigns_134 tI (by rw [(s_5).1]; exact q84) q85 ?_
      refine ab_topi (fun x86 ex86 => ?_)
      replace hF := bnd_s ex86 hF
      refine ab_iload_n d_MText_assigns_135 rfl rfl ?_
      refine ab_ishr d_MText_assigns_136 ?_
      refine ab_iconst (v := 1) d_MText_assigns_137 (by decide) ?_
      refine ab_iand d_MText_assigns_138 ?_
      refine ab_if_ne (tgt := 148) d_MText_assigns_139 (by decide) (fun q87 => ?_) (fun q87 => ?_)
      · rw [if_neg q87] at hF
        refine ab_le (lv' := [some (.ref p0), none, none, some (.int v20), none]) ⟨rfl, ⟨rfl, trivial⟩⟩ ?_
        exact kB_MText_assigns_148 hF
      · rw [if_pos q87] at hF
        refine ab_aload_n d_MText_assigns_142 rfl rfl rfl ?_
        refine ab_iconst (v := 5) d_MText_assigns_143 (by decide) ?_
        refine ab_iload_n d_MText_assigns_144 rfl rfl ?_
        obtain ⟨v89, H90, z88, hG⟩ := bC_s hF; clear hF
        refine hp_callV_v (H1 := H90) (As := [.int 5, .int l1]) (rest := []) d_MText_assigns_145 (k_MText_fails z88) (ab_mkC s_MText_fails (Nat.le_of_ble_eq_true rfl) (Nat.le_of_ble_eq_true rfl) (Nat.le_refl 0) (Nat.le_refl 0)) (k10 160 rfl rfl) i_MText_fails v_MText_fails (by rw [(s_5).1]; exact q14) (by decide) rfl rfl (Nat.le_of_ble_eq_true rfl) ?_
        have s_19 : Sa H H90 := (s_5).tr (m_MText_fails z88)
        refine ab_le (lv' := [some (.ref p0), none, none, some (.int v20), none]) ⟨rfl, ⟨rfl, trivial⟩⟩ ?_
        exact kB_MText_assigns_148 hG
  · rw [if_neg q18] at hF
    refine ab_aload_n d_MText_assigns_56 rfl rfl rfl ?_
    refine ab_iload_n d_MText_assigns_57 rfl rfl ?_
    obtain ⟨v92, H93, z91, hG⟩ := bC_s hF; clear hF
    refine hp_callV_a (v := .int v92) (H1 := H93) (As := [.int l1]) (rest := []) d_MText_assigns_58 (k_MText_local z91) (ab_mkC s_MText_local (Nat.le_of_ble_eq_true rfl) (Nat.le_of_ble_eq_true rfl) (Nat.le_refl 0) (Nat.le_refl 0)) (k10 221 rfl rfl) i_MText_local v_MText_local (by rw [(s_4).1]; exact q14) (by decide) rfl rfl (Nat.le_of_ble_eq_true rfl) ?_
    have s_20 : Sa H H93 := (s_4).tr (m_MText_local z91)
    refine ab_istore_n (lv' := [some (.ref p0), some (.int l1), some (.int l2), some (.int v92), none]) d_MText_assigns_61 rfl (by decide) rfl ?_
    refine ab_iload_n d_MText_assigns_62 rfl rfl ?_
    refine ab_iconst (v := 1) d_MText_assigns_63 (by decide) ?_
    refine ab_icmp_ne (tgt := 76) d_MText_assigns_64 (by decide) (fun q94 => ?_) (fun q94 => ?_)
    · rw [if_neg q94] at hG
      refine ab_le (lv' := [some (.ref p0), some (.int l1), none, some (.int v92), none]) ⟨rfl, ⟨rfl, ⟨rfl, trivial⟩⟩⟩ ?_
      exact kB_MText_assigns_76 hG
    · rw [if_pos q94] at hG
      refine ab_aload_n d_MText_assigns_67 rfl rfl rfl ?_
      obtain ⟨a139, e140, hF⟩ := rf_s hG; clear hG
      refine hp_getR (f := 40) d_MText_assigns_68 (by rw [(s_20).1]; exact q14) (by decide) rfl (by decide) (k8 227 rfl rfl) rfl e140 ?_
      refine ab_iload_n d_MText_assigns_71 rfl rfl ?_
      obtain ⟨n141, q142, hG⟩ := ar_s hF; clear hF
      rw [(s_20).1] at q142
      obtain ⟨q143, hF⟩ := ck_s hG; clear hG
      refine hp_zald d_MText_assigns_72 tZ (by rw [(s_20).1]; exact q142) q143 ?_
      refine ab_topi (fun x144 ex144 => ?_)
      replace hF := bnd_s ex144 hF
      refine ab_if_eq (tgt := 82) d_MText_assigns_73 (by decide) (fun q145 => ?_) (fun q145 => ?_)
      · rw [if_pos q145] at hF
        refine ab_le (lv' := [some (.ref p0), some (.int l1), none, some (.int v92), none]) ⟨rfl, ⟨rfl, ⟨rfl, trivial⟩⟩⟩ ?_
        exact kB_MText_assigns_82 hF
      · rw [if_neg q145] at hF
        refine ab_le (lv' := [some (.ref p0), some (.int l1), none, some (.int v92), none]) ⟨rfl, ⟨rfl, ⟨rfl, trivial⟩⟩⟩ ?_
        exact kB_MText_assigns_76 hF
def F_MText_assigns (N : Nat) (p0 : Nat) (H : Hp) : Option (Unit × Hp) :=
    ck (H.sh[p0]? = some (14, 0)) <|
    bC (F_MText_name N p0 H) fun v3 H4 =>
    bC (F_MText_sort N p0 v3 H4) fun v6 H7 =>
    bnd ((H7.D p0 9)) fun x8 =>
    if x8 ≤ (0 : Int32) then
    bC (F_MText_is N p0 (46 : Int32) H7) fun v11 H12 =>
    if v11 = (0 : Int32) then
    bC (F_MText_is N p0 (61 : Int32) H12) fun v179 H180 =>
    if v179 = (0 : Int32) then
    bnd ((H180.D p0 11)) fun x182 =>
    bC (F_MText_fails N p0 (1 : Int32) x182 H180) fun v184 H185 =>
    some ((), H185)
    else
    B_MText_assigns_47 N p0 v3 v6 H180
    else
    B_MText_assigns_47 N p0 v3 v6 H12
    else
    some ((), H7)
set_option maxRecDepth 20000 in
set_option maxHeartbeats 2000000 in
theorem m_MText_assigns {N : Nat} {p0 : Nat} {H : Hp} {r : Unit × Hp} (hF : F_MText_assigns N p0 H = some r) : Sa H r.2 := by
  unfold F_MText_assigns at hF
  have hm := Sa.rf H
  obtain ⟨q186, hG⟩ := ck_s hF; clear hF
  obtain ⟨v188, H189, z187, hF⟩ := bC_s hG; clear hG
  replace hm : Sa H H189 := hm.tr (m_MText_name z187)
  obtain ⟨v191, H192, z190, hG⟩ := bC_s hF; clear hF
  replace hm : Sa H H192 := hm.tr (m_MText_sort z190)
  obtain ⟨x193, -, hF⟩ := bnd_g hG; clear hG
  rcases ite_s hF with ⟨q_41, hG⟩ | ⟨q_41, hG⟩
  · clear hF
    obtain ⟨v196, H197, z195, hF⟩ := bC_s hG; clear hG
    replace hm : Sa H H197 := hm.tr (m_MText_is z195)
    rcases ite_s hF with ⟨q_43, hG⟩ | ⟨q_43, hG⟩
    · clear hF
      obtain ⟨v200, H201, z199, hF⟩ := bC_s hG; clear hG
      replace hm : Sa H H201 := hm.tr (m_MText_is z199)
      rcases ite_s hF with ⟨q_45, hG⟩ | ⟨q_45, hG⟩
      · clear hF
        obtain ⟨x203, -, hF⟩ := bnd_g hG; clear hG
        obtain ⟨v205, H206, z204, hG⟩ := bC_s hF; clear hF
        replace hm : Sa H H206 := hm.tr (m_MText_fails z204)
        have hr := Option.some.inj hG; subst hr
        exact hm
      · clear hF
        exact hm.tr (mB_MText_assigns_47 hG)
    · clear hF
      exact hm.tr (mB_MText_assigns_47 hG)
  · clear hF
    have hr := Option.some.inj hG; subst hr
    exact hm
set_option maxRecDepth 20000 in
set_option maxHeartbeats 2000000 in
theorem k_MText_assigns {N : Nat} {p0 : Nat} {H : Hp} {r : Unit × Hp} (hF : F_MText_assigns N p0 H = some r) : ab_M y_MText_assigns { frames := 257, cells := 0, slots := 0, locals := 5853 } [.ref p0] (hpw H) (po (.returned none) r.2) := by
  unfold F_MText_assigns at hF
  refine ab_of2 (lv := [some (.ref p0), none, none, none, none]) 4 rfl rfl (Nat.le_of_ble_eq_true rfl) ?_
  refine ab_aload_n d_MText_assigns_0 rfl rfl rfl ?_
  obtain ⟨q1, hG⟩ := ck_s hF; clear hF
  obtain ⟨v3, H4, z2, hF⟩ := bC_s hG; clear hG
  refine hp_callV_a (v := .int v3) (H1 := H4) (As := []) (rest := []) d_MText_assigns_1 (k_MText_name z2) (ab_mkC s_MText_name (Nat.le_of_ble_eq_true rfl) (Nat.le_of_ble_eq_true rfl) (Nat.le_refl 0) (Nat.le_refl 0)) (k10 168 rfl rfl) i_MText_name v_MText_name q1 (by decide) rfl rfl (Nat.le_of_ble_eq_true rfl) ?_
  have s_1 : Sa H H4 := (m_MText_name z2)
  refine ab_istore_n (lv' := [some (.ref p0), some (.int v3), none, none, none]) d_MText_assigns_4 rfl (by decide) rfl ?_
  refine ab_aload_n d_MText_assigns_5 rfl rfl rfl ?_
  refine ab_iload_n d_MText_assigns_6 rfl rfl ?_
  obtain ⟨v6, H7, z5, hG⟩ := bC_s hF; clear hF
  refine hp_callV_a (v := .int v6) (H1 := H7) (As := [.int v3]) (rest := []) d_MText_assigns_7 (k_MText_sort z5) (ab_mkC s_MText_sort (Nat.le_of_ble_eq_true rfl) (Nat.le_of_ble_eq_true rfl) (Nat.le_refl 0) (Nat.le_refl 0)) (k10 229 rfl rfl) i_MText_sort v_MText_sort (by rw [(s_1).1]; exact q1) (by decide) rfl rfl (Nat.le_of_ble_eq_true rfl) ?_
  have s_2 : Sa H H7 := (s_1).tr (m_MText_sort z5)
  refine ab_istore_n (lv' := [some (.ref p0), some (.int v3), some (.int v6), none, none]) d_MText_assigns_10 rfl (by decide) rfl ?_
  refine ab_aload_n d_MText_assigns_11 rfl rfl rfl ?_
  refine hp_getI (f := 9) d_MText_assigns_12 (by rw [(s_2).1]; exact q1) (by decide) rfl (by decide) (k8 172 rfl rfl) rfl ?_
  refine ab_topi (fun x8 ex8 => ?_)
  replace hG := bnd_s ex8 hG
  refine ab_if_le (tgt := 19) d_MText_assigns_15 (by decide) (fun q9 => ?_) (fun q9 => ?_)
  · rw [if_pos q9] at hG
    refine ab_aload_n d_MText_assigns_19 rfl rfl rfl ?_
    refine ab_bipush (v := 46) d_MText_assigns_20 (by decide) ?_
    obtain ⟨v11, H12, z10, hF⟩ := bC_s hG; clear hG
    refine hp_callV_a (v := .int v11) (H1 := H12) (As := [.int 46]) (rest := []) d_MText_assigns_22 (k_MText_is z10) (ab_mkC s_MText_is (Nat.le_of_ble_eq_true rfl) (Nat.le_of_ble_eq_true rfl) (Nat.le_refl 0) (Nat.le_refl 0)) (k10 180 rfl rfl) i_MText_is v_MText_is (by rw [(s_2).1]; exact q1) (by decide) rfl rfl (Nat.le_of_ble_eq_true rfl) ?_
    have s_3 : Sa H H12 := (s_2).tr (m_MText_is z10)
    refine ab_if_ne (tgt := 47) d_MText_assigns_25 (by decide) (fun q13 => ?_) (fun q13 => ?_)
    · rw [if_neg q13] at hF
      exact kB_MText_assigns_47 hF
    · rw [if_pos q13] at hF
      refine ab_aload_n d_MText_assigns_28 rfl rfl rfl ?_
      refine ab_bipush (v := 61) d_MText_assigns_29 (by decide) ?_
      obtain ⟨v179, H180, z178, hG⟩ := bC_s hF; clear hF
      refine hp_callV_a (v := .int v179) (H1 := H180) (As := [.int 61]) (rest := []) d_MText_assigns_31 (k_MText_is z178) (ab_mkC s_MText_is (Nat.le_of_ble_eq_true rfl) (Nat.le_of_ble_eq_true rfl) (Nat.le_refl 0) (Nat.le_refl 0)) (k10 180 rfl rfl) i_MText_is v_MText_is (by rw [(s_3).1]; exact q1) (by decide) rfl rfl (Nat.le_of_ble_eq_true rfl) ?_
      have s_37 : Sa H H180 := (s_3).tr (m_MText_is z178)
      refine ab_if_ne (tgt := 47) d_MText_assigns_34 (by decide) (fun q181 => ?_) (fun q181 => ?_)
      · rw [if_neg q181] at hG
        exact kB_MText_assigns_47 hG
      · rw [if_pos q181] at hG
        refine ab_aload_n d_MText_assigns_37 rfl rfl rfl ?_
        refine ab_iconst (v := 1) d_MText_assigns_38 (by decide) ?_
        refine ab_aload_n d_MText_assigns_39 rfl rfl rfl ?_
        refine hp_getI (f := 11) d_MText_assigns_40 (by rw [(s_37).1]; exact q1) (by decide) rfl (by decide) (k8 175 rfl rfl) rfl ?_
        refine ab_topi (fun x182 ex182 => ?_)
        replace hG := bnd_s ex182 hG
        obtain ⟨v184, H185, z183, hF⟩ := bC_s hG; clear hG
        refine hp_callV_v (H1 := H185) (As := [.int 1, .int x182]) (rest := []) d_MText_assigns_43 (k_MText_fails z183) (ab_mkC s_MText_fails (Nat.le_of_ble_eq_true rfl) (Nat.le_of_ble_eq_true rfl) (Nat.le_refl 0) (Nat.le_refl 0)) (k10 160 rfl rfl) i_MText_fails v_MText_fails (by rw [(s_37).1]; exact q1) (by decide) rfl rfl (Nat.le_of_ble_eq_true rfl) ?_
        have s_38 : Sa H H185 := (s_37).tr (m_MText_fails z183)
        exact ab_vret d_MText_assigns_46 rfl (Nat.le_refl _) (Nat.le_refl _) (by have hr := Option.some.inj hF; subst hr; exact ⟨rfl, rfl⟩)
  · rw [if_neg q9] at hG
    exact ab_vret d_MText_assigns_18 rfl (Nat.le_refl _) (Nat.le_refl _) (by have hr := Option.some.inj hG; subst hr; exact ⟨rfl, rfl⟩)
def y_MText_localName : ab_Y := (⟨"WorldEngineModel$Text", "localName", "()I"⟩, prog_16_method_47_code, 2, (some FieldType.int), [])
theorem d_MText_localName_0 : decode y_MText_localName.2.1 0 = .ok (.aload_n 0, 1) := by decide +kernel
theorem d_MText_localName_1 : decode y_MText_localName.2.1 1 = .ok (.invokevirtual 240, 3) := by decide +kernel
theorem d_MText_localName_4 : decode y_MText_localName.2.1 4 = .ok (.istore_n 1, 1) := by decide +kernel
theorem d_MText_localName_5 : decode y_MText_localName.2.1 5 = .ok (.aload_n 0, 1) := by decide +kernel
theorem d_MText_localName_6 : decode y_MText_localName.2.1 6 = .ok (.getfield 185, 3) := by decide +kernel
theorem d_MText_localName_9 : decode y_MText_localName.2.1 9 = .ok (.ifCond .ne 18, 3) := by decide +kernel
theorem d_MText_localName_12 : decode y_MText_localName.2.1 12 = .ok (.aload_n 0, 1) := by decide +kernel
theorem d_MText_localName_13 : decode y_MText_localName.2.1 13 = .ok (.getfield 281, 3) := by decide +kernel
theorem d_MText_localName_16 : decode y_MText_localName.2.1 16 = .ok (.bipush 12, 2) := by decide +kernel
theorem d_MText_localName_18 : decode y_MText_localName.2.1 18 = .ok (.if_icmp .ne 9, 3) := by decide +kernel
theorem d_MText_localName_21 : decode y_MText_localName.2.1 21 = .ok (.aload_n 0, 1) := by decide +kernel
theorem d_MText_localName_22 : decode y_MText_localName.2.1 22 = .ok (.iconst 2, 1) := by decide +kernel
theorem d_MText_localName_23 : decode y_MText_localName.2.1 23 = .ok (.iload_n 1, 1) := by decide +kernel
theorem d_MText_localName_24 : decode y_MText_localName.2.1 24 = .ok (.invokevirtual 200, 3) := by decide +kernel
theorem d_MText_localName_27 : decode y_MText_localName.2.1 27 = .ok (.aload_n 0, 1) := by decide +kernel
theorem d_MText_localName_28 : decode y_MText_localName.2.1 28 = .ok (.getfield 185, 3) := by decide +kernel
theorem d_MText_localName_31 : decode y_MText_localName.2.1 31 = .ok (.ifCond .ne 25, 3) := by decide +kernel
theorem d_MText_localName_34 : decode y_MText_localName.2.1 34 = .ok (.aload_n 0, 1) := by decide +kernel
theorem d_MText_localName_35 : decode y_MText_localName.2.1 35 = .ok (.iload_n 1, 1) := by decide +kernel
theorem d_MText_localName_36 : decode y_MText_localName.2.1 36 = .ok (.invokevirtual 284, 3) := by decide +kernel
theorem d_MText_localName_39 : decode y_MText_localName.2.1 39 = .ok (.ifCond .ge 11, 3) := by decide +kernel
theorem d_MText_localName_42 : decode y_MText_localName.2.1 42 = .ok (.aload_n 0, 1) := by decide +kernel
theorem d_MText_localName_43 : decode y_MText_localName.2.1 43 = .ok (.iload_n 1, 1) := by decide +kernel
theorem d_MText_localName_44 : decode y_MText_localName.2.1 44 = .ok (.invokevirtual 243, 3) := by decide +kernel
theorem d_MText_localName_47 : decode y_MText_localName.2.1 47 = .ok (.ifCond .lt 9, 3) := by decide +kernel
theorem d_MText_localName_50 : decode y_MText_localName.2.1 50 = .ok (.aload_n 0, 1) := by decide +kernel
theorem d_MText_localName_51 : decode y_MText_localName.2.1 51 = .ok (.iconst 3, 1) := by decide +kernel
theorem d_MText_localName_52 : decode y_MText_localName.2.1 52 = .ok (.iload_n 1, 1) := by decide +kernel
theorem d_MText_localName_53 : decode y_MText_localName.2.1 53 = .ok (.invokevirtual 200, 3) := by decide +kernel
theorem d_MText_localName_56 : decode y_MText_localName.2.1 56 = .ok (.iload_n 1, 1) := by decide +kernel
theorem d_MText_localName_57 : decode y_MText_localName.2.1 57 = .ok (.ireturn, 1) := by decide +kernel
theorem s_MText_localName : ab_Stat y_MText_localName 0 := ⟨(k11 108 rfl rfl), (k1 20 rfl rfl), ⟨by decide, by decide⟩, by decide +kernel⟩
theorem i_MText_localName : Cond.instanceMethod y_MText_localName.1 ∈ ab_T := (k11 107 rfl rfl)
theorem v_MText_localName : Cond.selects "WorldEngineModel$Text" y_MText_localName.1 y_MText_localName.1 ∈ ab_T := ab_s (List.mem_of_getElem? (i := 157) rfl) rfl
def B_MText_localName_50 (N : Nat) (p0 : Nat) (l1 : Int32) (H : Hp) : Option (Int32 × Hp) :=
    ck (H.sh[p0]? = some (14, 0)) <|
    bC (F_MText_fails N p0 (3 : Int32) l1 H) fun v16 H17 =>
    some (l1, H17)
set_option maxRecDepth 20000 in
set_option maxHeartbeats 2000000 in
theorem mB_MText_localName_50 {N : Nat} {p0 : Nat} {l1 : Int32} {H : Hp} {r : Int32 × Hp} (hF : B_MText_localName_50 N p0 l1 H = some r) : Sa H r.2 := by
  unfold B_MText_localName_50 at hF
  have hm := Sa.rf H
  obtain ⟨q18, hG⟩ := ck_s hF; clear hF
  obtain ⟨v20, H21, z19, hF⟩ := bC_s hG; clear hG
  replace hm : Sa H H21 := hm.tr (m_MText_fails z19)
  have hr := Option.some.inj hF; subst hr
  exact hm
set_option maxRecDepth 20000 in
set_option maxHeartbeats 2000000 in
theorem kB_MText_localName_50 {N : Nat} {p0 : Nat} {l1 : Int32} {H : Hp} {r : Int32 × Hp} (hF : B_MText_localName_50 N p0 l1 H = some r) : ab_V y_MText_localName { frames := 4, cells := 0, slots := 0, locals := 85 } (po (.returned (some (.int r.1))) r.2) 0 0 0 0 50 [some (.ref p0), some (.int l1)] [] (hpw H) := by
  unfold B_MText_localName_50 at hF
  refine ab_aload_n d_MText_localName_50 rfl rfl rfl ?_
  refine ab_iconst (v := 3) d_MText_localName_51 (by decide) ?_
  refine ab_iload_n d_MText_localName_52 rfl rfl ?_
  obtain ⟨q14, hG⟩ := ck_s hF; clear hF
  obtain ⟨v16, H17, z15, hF⟩ := bC_s hG; clear hG
  refine hp_callV_v (H1 := H17) (As := [.int 3, .int l1]) (rest := []) d_MText_localName_53 (k_MText_fails z15) (ab_mkC s_MText_fails (Nat.le_of_ble_eq_true rfl) (Nat.le_of_ble_eq_true rfl) (Nat.le_refl 0) (Nat.le_refl 0)) (k10 160 rfl rfl) i_MText_fails v_MText_fails q14 (by decide) rfl rfl (Nat.le_of_ble_eq_true rfl) ?_
  have s_3 : Sa H H17 := (m_MText_fails z15)
  refine ab_iload_n d_MText_localName_56 rfl rfl ?_
  exact ab_iret d_MText_localName_57 rfl (Nat.le_refl _) (Nat.le_refl _) (by have hr := Option.some.inj hF; subst hr; exact ⟨rfl, rfl⟩)
def B_MText_localName_27 (N : Nat) (p0 : Nat) (l1 : Int32) (H : Hp) : Option (Int32 × Hp) :=
    ck (H.sh[p0]? = some (14, 0)) <|
    bnd ((H.D p0 9)) fun x8 =>
    if x8 = (0 : Int32) then
    bC (F_MText_local N p0 l1 H) fun v11 H12 =>
    if (0 : Int32) ≤ v11 then
    B_MText_localName_50 N p0 l1 H12
    else
    bC (F_MText_index N p0 l1 H12) fun v23 H24 =>
    if v23 < (0 : Int32) then
    some (l1, H24)
    else
    B_MText_localName_50 N p0 l1 H24
    else
    some (l1, H)
set_option maxRecDepth 20000 in
set_option maxHeartbeats 2000000 in
theorem mB_MText_localName_27 {N : Nat} {p0 : Nat} {l1 : Int32} {H : Hp} {r : Int32 × Hp} (hF : B_MText_localName_27 N p0 l1 H = some r) : Sa H r.2 := by
  unfold B_MText_localName_27 at hF
  have hm := Sa.rf H
  obtain ⟨q26, hG⟩ := ck_s hF; clear hF
  obtain ⟨x27, -, hF⟩ := bnd_g hG; clear hG
  rcases ite_s hF with ⟨q_6, hG⟩ | ⟨q_6, hG⟩
  · clear hF
    obtain ⟨v30, H31, z29, hF⟩ := bC_s hG; clear hG
    replace hm : Sa H H31 := hm.tr (m_MText_local z29)
    rcases ite_s hF with ⟨q_8, hG⟩ | ⟨q_8, hG⟩
    · clear hF
      exact hm.tr (mB_MText_localName_50 hG)
    · clear hF
      obtain ⟨v34, H35, z33, hF⟩ := bC_s hG; clear hG
      replace hm : Sa H H35 := hm.tr (m_MText_index z33)
      rcases ite_s hF with ⟨q_10, hG⟩ | ⟨q_10, hG⟩
      · clear hF
        have hr := Option.some.inj hG; subst hr
        exact hm
      · clear hF
        exact hm.tr (mB_MText_localName_50 hG)
  · clear hF
    have hr := Option.some.inj hG; subst hr
    exact hm
set_option maxRecDepth 20000 in
set_option maxHeartbeats 2000000 in
theorem kB_MText_localName_27 {N : Nat} {p0 : Nat} {l1 : Int32} {H : Hp} {r : Int32 × Hp} (hF : B_MText_localName_27 N p0 l1 H = some r) : ab_V y_MText_localName { frames := 4, cells := 0, slots := 0, locals := 85 } (po (.returned (some (.int r.1))) r.2) 0 0 0 0 27 [some (.ref p0), some (.int l1)] [] (hpw H) := by
  unfold B_MText_localName_27 at hF
  refine ab_aload_n d_MText_localName_27 rfl rfl rfl ?_
  obtain ⟨q7, hG⟩ := ck_s hF; clear hF
  refine hp_getI (f := 9) d_MText_localName_28 q7 (by decide) rfl (by decide) (k8 172 rfl rfl) rfl ?_
  refine ab_topi (fun x8 ex8 => ?_)
  replace hG := bnd_s ex8 hG
  refine ab_if_ne (tgt := 56) d_MText_localName_31 (by decide) (fun q9 => ?_) (fun q9 => ?_)
  · rw [if_neg q9] at hG
    refine ab_iload_n d_MText_localName_56 rfl rfl ?_
    exact ab_iret d_MText_localName_57 rfl (Nat.le_refl _) (Nat.le_refl _) (by have hr := Option.some.inj hG; subst hr; exact ⟨rfl, rfl⟩)
  · rw [if_pos q9] at hG
    refine ab_aload_n d_MText_localName_34 rfl rfl rfl ?_
    refine ab_iload_n d_MText_localName_35 rfl rfl ?_
    obtain ⟨v11, H12, z10, hF⟩ := bC_s hG; clear hG
    refine hp_callV_a (v := .int v11) (H1 := H12) (As := [.int l1]) (rest := []) d_MText_localName_36 (k_MText_local z10) (ab_mkC s_MText_local (Nat.le_of_ble_eq_true rfl) (Nat.le_of_ble_eq_true rfl) (Nat.le_refl 0) (Nat.le_refl 0)) (k10 221 rfl rfl) i_MText_local v_MText_local q7 (by decide) rfl rfl (Nat.le_of_ble_eq_true rfl) ?_
    have s_2 : Sa H H12 := (m_MText_local z10)
    refine ab_if_ge (tgt := 50) d_MText_localName_39 (by decide) (fun q13 => ?_) (fun q13 => ?_)
    · rw [if_pos q13] at hF
      exact kB_MText_localName_50 hF
    · rw [if_neg q13] at hF
      refine ab_aload_n d_MText_localName_42 rfl rfl rfl ?_
      refine ab_iload_n d_MText_localName_43 rfl rfl ?_
      obtain ⟨v23, H24, z22, hG⟩ := bC_s hF; clear hF
      refine hp_callV_a (v := .int v23) (H1 := H24) (As := [.int l1]) (rest := []) d_MText_localName_44 (k_MText_index z22) (ab_mkC s_MText_index (Nat.le_of_ble_eq_true rfl) (Nat.le_of_ble_eq_true rfl) (Nat.le_refl 0) (Nat.le_refl 0)) (k10 184 rfl rfl) i_MText_index v_MText_index (by rw [(s_2).1]; exact q7) (by decide) rfl rfl (Nat.le_of_ble_eq_true rfl) ?_
      have s_5 : Sa H H24 := (s_2).tr (m_MText_index z22)
      refine ab_if_lt (tgt := 56) d_MText_localName_47 (by decide) (fun q25 => ?_) (fun q25 => ?_)
      · rw [if_pos q25] at hG
        refine ab_iload_n d_MText_localName_56 rfl rfl ?_
        exact ab_iret d_MText_localName_57 rfl (Nat.le_refl _) (Nat.le_refl _) (by have hr := Option.some.inj hG; subst hr; exact ⟨rfl, rfl⟩)
      · rw [if_neg q25] at hG
        exact kB_MText_localName_50 hG
def F_MText_localName (N : Nat) (p0 : Nat) (H : Hp) : Option (Int32 × Hp) :=
    ck (H.sh[p0]? = some (14, 0)) <|
    bC (F_MText_name N p0 H) fun v3 H4 =>
    bnd ((H4.D p0 9)) fun x5 =>
    if x5 = (0 : Int32) then
    bnd ((H4.D p0 37)) fun x37 =>
    if x37 = (12 : Int32) then
    bC (F_MText_fails N p0 (2 : Int32) v3 H4) fun v40 H41 =>
    B_MText_localName_27 N p0 v3 H41
    else
    B_MText_localName_27 N p0 v3 H4
    else
    B_MText_localName_27 N p0 v3 H4
set_option maxRecDepth 20000 in
set_option maxHeartbeats 2000000 in
theorem m_MText_localName {N : Nat} {p0 : Nat} {H : Hp} {r : Int32 × Hp} (hF : F_MText_localName N p0 H = some r) : Sa H r.2 := by
  unfold F_MText_localName at hF
  have hm := Sa.rf H
  obtain ⟨q42, hG⟩ := ck_s hF; clear hF
  obtain ⟨v44, H45, z43, hF⟩ := bC_s hG; clear hG
  replace hm : Sa H H45 := hm.tr (m_MText_name z43)
  obtain ⟨x46, -, hG⟩ := bnd_g hF; clear hF
  rcases ite_s hG with ⟨q_13, hF⟩ | ⟨q_13, hF⟩
  · clear hG
    obtain ⟨x48, -, hG⟩ := bnd_g hF; clear hF
    rcases ite_s hG with ⟨q_14, hF⟩ | ⟨q_14, hF⟩
    · clear hG
      obtain ⟨v51, H52, z50, hG⟩ := bC_s hF; clear hF
      replace hm : Sa H H52 := hm.tr (m_MText_fails z50)
      exact hm.tr (mB_MText_localName_27 hG)
    · clear hG
      exact hm.tr (mB_MText_localName_27 hF)
  · clear hG
    exact hm.tr (mB_MText_localName_27 hF)
set_option maxRecDepth 20000 in
set_option maxHeartbeats 2000000 in
theorem k_MText_localName {N : Nat} {p0 : Nat} {H : Hp} {r : Int32 × Hp} (hF : F_MText_localName N p0 H = some r) : ab_M y_MText_localName { frames := 4, cells := 0, slots := 0, locals := 85 } [.ref p0] (hpw H) (po (.returned (some (.int r.1))) r.2) := by
  unfold F_MText_localName at hF
  refine ab_of2 (lv := [some (.ref p0), none]) 1 rfl rfl (Nat.le_of_ble_eq_true rfl) ?_
  refine ab_aload_n d_MText_localName_0 rfl rfl rfl ?_
  obtain ⟨q1, hG⟩ := ck_s hF; clear hF
  obtain ⟨v3, H4, z2, hF⟩ := bC_s hG; clear hG
  refine hp_callV_a (v := .int v3) (H1 := H4) (As := []) (rest := []) d_MText_localName_1 (k_MText_name z2) (ab_mkC s_MText_name (Nat.le_of_ble_eq_true rfl) (Nat.le_of_ble_eq_true rfl) (Nat.le_refl 0) (Nat.le_refl 0)) (k10 168 rfl rfl) i_MText_name v_MText_name q1 (by decide) rfl rfl (Nat.le_of_ble_eq_true rfl) ?_
  have s_1 : Sa H H4 := (m_MText_name z2)
  refine ab_istore_n (lv' := [some (.ref p0), some (.int v3)]) d_MText_localName_4 rfl (by decide) rfl ?_
  refine ab_aload_n d_MText_localName_5 rfl rfl rfl ?_
  refine hp_getI (f := 9) d_MText_localName_6 (by rw [(s_1).1]; exact q1) (by decide) rfl (by decide) (k8 172 rfl rfl) rfl ?_
  refine ab_topi (fun x5 ex5 => ?_)
  replace hF := bnd_s ex5 hF
  refine ab_if_ne (tgt := 27) d_MText_localName_9 (by decide) (fun q6 => ?_) (fun q6 => ?_)
  · rw [if_neg q6] at hF
    exact kB_MText_localName_27 hF
  · rw [if_pos q6] at hF
    refine ab_aload_n d_MText_localName_12 rfl rfl rfl ?_
    refine hp_getI (f := 37) d_MText_localName_13 (by rw [(s_1).1]; exact q1) (by decide) rfl (by decide) (k8 224 rfl rfl) rfl ?_
    refine ab_topi (fun x37 ex37 => ?_)
    replace hF := bnd_s ex37 hF
    refine ab_bipush (v := 12) d_MText_localName_16 (by decide) ?_
    refine ab_icmp_ne (tgt := 27) d_MText_localName_18 (by decide) (fun q38 => ?_) (fun q38 => ?_)
    · rw [if_neg q38] at hF
      exact kB_MText_localName_27 hF
    · rw [if_pos q38] at hF
      refine ab_aload_n d_MText_localName_21 rfl rfl rfl ?_
      refine ab_iconst (v := 2) d_MText_localName_22 (by decide) ?_
      refine ab_iload_n d_MText_localName_23 rfl rfl ?_
      obtain ⟨v40, H41, z39, hG⟩ := bC_s hF; clear hF
      refine hp_callV_v (H1 := H41) (As := [.int 2, .int v3]) (rest := []) d_MText_localName_24 (k_MText_fails z39) (ab_mkC s_MText_fails (Nat.le_of_ble_eq_true rfl) (Nat.le_of_ble_eq_true rfl) (Nat.le_refl 0) (Nat.le_refl 0)) (k10 160 rfl rfl) i_MText_fails v_MText_fails (by rw [(s_1).1]; exact q1) (by decide) rfl rfl (Nat.le_of_ble_eq_true rfl) ?_
      have s_11 : Sa H H41 := (s_1).tr (m_MText_fails z39)
      exact kB_MText_localName_27 hG
