def y_MText_value : ab_Y := (⟨"WorldEngineModel$Text", "value", "()I"⟩, prog_16_method_60_code, 3, (some FieldType.int), [])
theorem d_MText_value_0 : decode y_MText_value.2.1 0 = .ok (.aload_n 0, 1) := by decide +kernel
theorem d_MText_value_1 : decode y_MText_value.2.1 1 = .ok (.invokevirtual 363, 3) := by decide +kernel
theorem d_MText_value_4 : decode y_MText_value.2.1 4 = .ok (.istore_n 1, 1) := by decide +kernel
theorem d_MText_value_5 : decode y_MText_value.2.1 5 = .ok (.aload_n 0, 1) := by decide +kernel
theorem d_MText_value_6 : decode y_MText_value.2.1 6 = .ok (.bipush 10, 2) := by decide +kernel
theorem d_MText_value_8 : decode y_MText_value.2.1 8 = .ok (.invokevirtual 194, 3) := by decide +kernel
theorem d_MText_value_11 : decode y_MText_value.2.1 11 = .ok (.ifCond .eq 42, 3) := by decide +kernel
theorem d_MText_value_14 : decode y_MText_value.2.1 14 = .ok (.aload_n 0, 1) := by decide +kernel
theorem d_MText_value_15 : decode y_MText_value.2.1 15 = .ok (.getfield 191, 3) := by decide +kernel
theorem d_MText_value_18 : decode y_MText_value.2.1 18 = .ok (.istore_n 2, 1) := by decide +kernel
theorem d_MText_value_19 : decode y_MText_value.2.1 19 = .ok (.aload_n 0, 1) := by decide +kernel
theorem d_MText_value_20 : decode y_MText_value.2.1 20 = .ok (.dup, 1) := by decide +kernel
theorem d_MText_value_21 : decode y_MText_value.2.1 21 = .ok (.getfield 191, 3) := by decide +kernel
theorem d_MText_value_24 : decode y_MText_value.2.1 24 = .ok (.iconst 1, 1) := by decide +kernel
theorem d_MText_value_25 : decode y_MText_value.2.1 25 = .ok (.iadd, 1) := by decide +kernel
theorem d_MText_value_26 : decode y_MText_value.2.1 26 = .ok (.putfield 191, 3) := by decide +kernel
theorem d_MText_value_29 : decode y_MText_value.2.1 29 = .ok (.aload_n 0, 1) := by decide +kernel
theorem d_MText_value_30 : decode y_MText_value.2.1 30 = .ok (.iload_n 2, 1) := by decide +kernel
theorem d_MText_value_31 : decode y_MText_value.2.1 31 = .ok (.iload_n 1, 1) := by decide +kernel
theorem d_MText_value_32 : decode y_MText_value.2.1 32 = .ok (.aload_n 0, 1) := by decide +kernel
theorem d_MText_value_33 : decode y_MText_value.2.1 33 = .ok (.invokevirtual 363, 3) := by decide +kernel
theorem d_MText_value_36 : decode y_MText_value.2.1 36 = .ok (.iload_n 1, 1) := by decide +kernel
theorem d_MText_value_37 : decode y_MText_value.2.1 37 = .ok (.iconst 3, 1) := by decide +kernel
theorem d_MText_value_38 : decode y_MText_value.2.1 38 = .ok (.if_icmp .ne 7, 3) := by decide +kernel
theorem d_MText_value_41 : decode y_MText_value.2.1 41 = .ok (.iconst 1, 1) := by decide +kernel
theorem d_MText_value_42 : decode y_MText_value.2.1 42 = .ok (.goto 4, 3) := by decide +kernel
theorem d_MText_value_45 : decode y_MText_value.2.1 45 = .ok (.iconst 0, 1) := by decide +kernel
theorem d_MText_value_46 : decode y_MText_value.2.1 46 = .ok (.invokevirtual 366, 3) := by decide +kernel
theorem d_MText_value_49 : decode y_MText_value.2.1 49 = .ok (.istore_n 1, 1) := by decide +kernel
theorem d_MText_value_50 : decode y_MText_value.2.1 50 = .ok (.goto (-45), 3) := by decide +kernel
theorem d_MText_value_53 : decode y_MText_value.2.1 53 = .ok (.iload_n 1, 1) := by decide +kernel
theorem d_MText_value_54 : decode y_MText_value.2.1 54 = .ok (.ireturn, 1) := by decide +kernel
theorem s_MText_value : ab_Stat y_MText_value 0 := ⟨(k11 42 rfl rfl), (k1 20 rfl rfl), ⟨by decide, by decide⟩, by decide +kernel⟩
theorem i_MText_value : Cond.instanceMethod y_MText_value.1 ∈ ab_T := (k11 41 rfl rfl)
theorem v_MText_value : Cond.selects "WorldEngineModel$Text" y_MText_value.1 y_MText_value.1 ∈ ab_T := ab_s (List.mem_of_getElem? (i := 142) rfl) rfl
def y_MText_unary : ab_Y := (⟨"WorldEngineModel$Text", "unary", "()I"⟩, prog_16_method_68_code, 3, (some FieldType.int), [])
theorem d_MText_unary_0 : decode y_MText_unary.2.1 0 = .ok (.aload_n 0, 1) := by decide +kernel
theorem d_MText_unary_1 : decode y_MText_unary.2.1 1 = .ok (.bipush 45, 2) := by decide +kernel
theorem d_MText_unary_3 : decode y_MText_unary.2.1 3 = .ok (.invokevirtual 194, 3) := by decide +kernel
theorem d_MText_unary_6 : decode y_MText_unary.2.1 6 = .ok (.ifCond .ne 17, 3) := by decide +kernel
theorem d_MText_unary_9 : decode y_MText_unary.2.1 9 = .ok (.aload_n 0, 1) := by decide +kernel
theorem d_MText_unary_10 : decode y_MText_unary.2.1 10 = .ok (.bipush 33, 2) := by decide +kernel
theorem d_MText_unary_12 : decode y_MText_unary.2.1 12 = .ok (.invokevirtual 194, 3) := by decide +kernel
theorem d_MText_unary_15 : decode y_MText_unary.2.1 15 = .ok (.ifCond .ne 8, 3) := by decide +kernel
theorem d_MText_unary_18 : decode y_MText_unary.2.1 18 = .ok (.aload_n 0, 1) := by decide +kernel
theorem d_MText_unary_19 : decode y_MText_unary.2.1 19 = .ok (.invokevirtual 388, 3) := by decide +kernel
theorem d_MText_unary_22 : decode y_MText_unary.2.1 22 = .ok (.ireturn, 1) := by decide +kernel
theorem d_MText_unary_23 : decode y_MText_unary.2.1 23 = .ok (.aload_n 0, 1) := by decide +kernel
theorem d_MText_unary_24 : decode y_MText_unary.2.1 24 = .ok (.getfield 191, 3) := by decide +kernel
theorem d_MText_unary_27 : decode y_MText_unary.2.1 27 = .ok (.istore_n 1, 1) := by decide +kernel
theorem d_MText_unary_28 : decode y_MText_unary.2.1 28 = .ok (.aload_n 0, 1) := by decide +kernel
theorem d_MText_unary_29 : decode y_MText_unary.2.1 29 = .ok (.invokevirtual 308, 3) := by decide +kernel
theorem d_MText_unary_32 : decode y_MText_unary.2.1 32 = .ok (.aload_n 0, 1) := by decide +kernel
theorem d_MText_unary_33 : decode y_MText_unary.2.1 33 = .ok (.dup, 1) := by decide +kernel
theorem d_MText_unary_34 : decode y_MText_unary.2.1 34 = .ok (.getfield 191, 3) := by decide +kernel
theorem d_MText_unary_37 : decode y_MText_unary.2.1 37 = .ok (.iconst 1, 1) := by decide +kernel
theorem d_MText_unary_38 : decode y_MText_unary.2.1 38 = .ok (.iadd, 1) := by decide +kernel
theorem d_MText_unary_39 : decode y_MText_unary.2.1 39 = .ok (.putfield 191, 3) := by decide +kernel
theorem d_MText_unary_42 : decode y_MText_unary.2.1 42 = .ok (.aload_n 0, 1) := by decide +kernel
theorem d_MText_unary_43 : decode y_MText_unary.2.1 43 = .ok (.invokevirtual 385, 3) := by decide +kernel
theorem d_MText_unary_46 : decode y_MText_unary.2.1 46 = .ok (.istore_n 2, 1) := by decide +kernel
theorem d_MText_unary_47 : decode y_MText_unary.2.1 47 = .ok (.aload_n 0, 1) := by decide +kernel
theorem d_MText_unary_48 : decode y_MText_unary.2.1 48 = .ok (.dup, 1) := by decide +kernel
theorem d_MText_unary_49 : decode y_MText_unary.2.1 49 = .ok (.getfield 293, 3) := by decide +kernel
theorem d_MText_unary_52 : decode y_MText_unary.2.1 52 = .ok (.iconst 1, 1) := by decide +kernel
theorem d_MText_unary_53 : decode y_MText_unary.2.1 53 = .ok (.isub, 1) := by decide +kernel
theorem d_MText_unary_54 : decode y_MText_unary.2.1 54 = .ok (.putfield 293, 3) := by decide +kernel
theorem d_MText_unary_57 : decode y_MText_unary.2.1 57 = .ok (.aload_n 0, 1) := by decide +kernel
theorem d_MText_unary_58 : decode y_MText_unary.2.1 58 = .ok (.getfield 185, 3) := by decide +kernel
theorem d_MText_unary_61 : decode y_MText_unary.2.1 61 = .ok (.ifCond .ne 35, 3) := by decide +kernel
theorem d_MText_unary_64 : decode y_MText_unary.2.1 64 = .ok (.aload_n 0, 1) := by decide +kernel
theorem d_MText_unary_65 : decode y_MText_unary.2.1 65 = .ok (.getfield 15, 3) := by decide +kernel
theorem d_MText_unary_68 : decode y_MText_unary.2.1 68 = .ok (.iload_n 1, 1) := by decide +kernel
theorem d_MText_unary_69 : decode y_MText_unary.2.1 69 = .ok (.iaload, 1) := by decide +kernel
theorem d_MText_unary_70 : decode y_MText_unary.2.1 70 = .ok (.bipush 33, 2) := by decide +kernel
theorem d_MText_unary_72 : decode y_MText_unary.2.1 72 = .ok (.if_icmp .ne 11, 3) := by decide +kernel
theorem d_MText_unary_75 : decode y_MText_unary.2.1 75 = .ok (.iload_n 2, 1) := by decide +kernel
theorem d_MText_unary_76 : decode y_MText_unary.2.1 76 = .ok (.iconst 3, 1) := by decide +kernel
theorem d_MText_unary_77 : decode y_MText_unary.2.1 77 = .ok (.if_icmp .ne 13, 3) := by decide +kernel
theorem d_MText_unary_80 : decode y_MText_unary.2.1 80 = .ok (.goto 16, 3) := by decide +kernel
theorem d_MText_unary_83 : decode y_MText_unary.2.1 83 = .ok (.iload_n 2, 1) := by decide +kernel
theorem d_MText_unary_84 : decode y_MText_unary.2.1 84 = .ok (.invokestatic 379, 3) := by decide +kernel
theorem d_MText_unary_87 : decode y_MText_unary.2.1 87 = .ok (.ifCond .ne 9, 3) := by decide +kernel
theorem d_MText_unary_90 : decode y_MText_unary.2.1 90 = .ok (.aload_n 0, 1) := by decide +kernel
theorem d_MText_unary_91 : decode y_MText_unary.2.1 91 = .ok (.iconst 5, 1) := by decide +kernel
theorem d_MText_unary_92 : decode y_MText_unary.2.1 92 = .ok (.iload_n 1, 1) := by decide +kernel
theorem d_MText_unary_93 : decode y_MText_unary.2.1 93 = .ok (.invokevirtual 200, 3) := by decide +kernel
theorem d_MText_unary_96 : decode y_MText_unary.2.1 96 = .ok (.aload_n 0, 1) := by decide +kernel
theorem d_MText_unary_97 : decode y_MText_unary.2.1 97 = .ok (.getfield 32, 3) := by decide +kernel
theorem d_MText_unary_100 : decode y_MText_unary.2.1 100 = .ok (.iload_n 1, 1) := by decide +kernel
theorem d_MText_unary_101 : decode y_MText_unary.2.1 101 = .ok (.iload_n 2, 1) := by decide +kernel
theorem d_MText_unary_102 : decode y_MText_unary.2.1 102 = .ok (.iastore, 1) := by decide +kernel
theorem d_MText_unary_103 : decode y_MText_unary.2.1 103 = .ok (.iload_n 2, 1) := by decide +kernel
theorem d_MText_unary_104 : decode y_MText_unary.2.1 104 = .ok (.ireturn, 1) := by decide +kernel
theorem s_MText_unary : ab_Stat y_MText_unary 0 := ⟨(k11 62 rfl rfl), (k1 20 rfl rfl), ⟨by decide, by decide⟩, by decide +kernel⟩
theorem i_MText_unary : Cond.instanceMethod y_MText_unary.1 ∈ ab_T := (k11 61 rfl rfl)
theorem v_MText_unary : Cond.selects "WorldEngineModel$Text" y_MText_unary.1 y_MText_unary.1 ∈ ab_T := ab_s (List.mem_of_getElem? (i := 147) rfl) rfl
def y_MText_wants : ab_Y := (⟨"WorldEngineModel$Text", "wants", "(I)V"⟩, prog_16_method_59_code, 4, none, [])
theorem d_MText_wants_0 : decode y_MText_wants.2.1 0 = .ok (.aload_n 0, 1) := by decide +kernel
theorem d_MText_wants_1 : decode y_MText_wants.2.1 1 = .ok (.getfield 191, 3) := by decide +kernel
theorem d_MText_wants_4 : decode y_MText_wants.2.1 4 = .ok (.istore_n 2, 1) := by decide +kernel
theorem d_MText_wants_5 : decode y_MText_wants.2.1 5 = .ok (.aload_n 0, 1) := by decide +kernel
theorem d_MText_wants_6 : decode y_MText_wants.2.1 6 = .ok (.invokevirtual 320, 3) := by decide +kernel
theorem d_MText_wants_9 : decode y_MText_wants.2.1 9 = .ok (.istore_n 3, 1) := by decide +kernel
theorem d_MText_wants_10 : decode y_MText_wants.2.1 10 = .ok (.aload_n 0, 1) := by decide +kernel
theorem d_MText_wants_11 : decode y_MText_wants.2.1 11 = .ok (.getfield 185, 3) := by decide +kernel
theorem d_MText_wants_14 : decode y_MText_wants.2.1 14 = .ok (.ifCond .ne 14, 3) := by decide +kernel
theorem d_MText_wants_17 : decode y_MText_wants.2.1 17 = .ok (.iload_n 3, 1) := by decide +kernel
theorem d_MText_wants_18 : decode y_MText_wants.2.1 18 = .ok (.iload_n 1, 1) := by decide +kernel
theorem d_MText_wants_19 : decode y_MText_wants.2.1 19 = .ok (.if_icmp .eq 9, 3) := by decide +kernel
theorem d_MText_wants_22 : decode y_MText_wants.2.1 22 = .ok (.aload_n 0, 1) := by decide +kernel
theorem d_MText_wants_23 : decode y_MText_wants.2.1 23 = .ok (.iconst 5, 1) := by decide +kernel
theorem d_MText_wants_24 : decode y_MText_wants.2.1 24 = .ok (.iload_n 2, 1) := by decide +kernel
theorem d_MText_wants_25 : decode y_MText_wants.2.1 25 = .ok (.invokevirtual 200, 3) := by decide +kernel
theorem d_MText_wants_28 : decode y_MText_wants.2.1 28 = .ok (.return_, 1) := by decide +kernel
theorem s_MText_wants : ab_Stat y_MText_wants 1 := ⟨(k11 38 rfl rfl), (k1 20 rfl rfl), ⟨by decide, by decide⟩, by decide +kernel⟩
theorem i_MText_wants : Cond.instanceMethod y_MText_wants.1 ∈ ab_T := (k11 37 rfl rfl)
theorem v_MText_wants : Cond.selects "WorldEngineModel$Text" y_MText_wants.1 y_MText_wants.1 ∈ ab_T := ab_s (List.mem_of_getElem? (i := 141) rfl) rfl
abbrev Orc_TextE : Type := (Nat → Hp → Option (Int32 × Hp)) × (Nat → Hp → Option (Int32 × Hp))
def ok_TextE (o : Orc_TextE) (fr lo : Nat) : Prop :=
  5 ≤ fr ∧ 108 ≤ lo ∧
  (∀ (a0 : Nat) (H : Hp) (r : Int32 × Hp), o.1 a0 H = some r → ab_M y_MText_value { frames := fr, cells := 0, slots := 0, locals := lo } [.ref a0] (hpw H) (po (.returned (some (.int r.1))) r.2)) ∧
  (∀ (a0 : Nat) (H : Hp) (r : Int32 × Hp), o.2 a0 H = some r → ab_M y_MText_unary { frames := fr, cells := 0, slots := 0, locals := lo } [.ref a0] (hpw H) (po (.returned (some (.int r.1))) r.2))
def mo_TextE (o : Orc_TextE) : Prop :=
  (∀ (a0 : Nat) (H : Hp) (r : Int32 × Hp), o.1 a0 H = some r → Sa H r.2) ∧
  (∀ (a0 : Nat) (H : Hp) (r : Int32 × Hp), o.2 a0 H = some r → Sa H r.2)
def F_MText_wants (N : Nat) (o : Orc_TextE) (p0 : Nat) (p1 : Int32) (H : Hp) : Option (Unit × Hp) :=
    ck (H.sh[p0]? = some (14, 0)) <|
    bnd ((H.D p0 11)) fun x2 =>
    bC (o.1 p0 H) fun v4 H5 =>
    bnd ((H5.D p0 9)) fun x6 =>
    if x6 = (0 : Int32) then
    if v4 = p1 then
    some ((), H5)
    else
    bC (F_MText_fails N p0 (5 : Int32) x2 H5) fun v10 H11 =>
    some ((), H11)
    else
    some ((), H5)
set_option maxRecDepth 20000 in
set_option maxHeartbeats 2000000 in
theorem m_MText_wants {N : Nat} {o : Orc_TextE} (hmo : mo_TextE o) {p0 : Nat} {p1 : Int32} {H : Hp} {r : Unit × Hp} (hF : F_MText_wants N o p0 p1 H = some r) : Sa H r.2 := by
  unfold F_MText_wants at hF
  have hm := Sa.rf H
  obtain ⟨q12, hG⟩ := ck_s hF; clear hF
  obtain ⟨x13, -, hF⟩ := bnd_g hG; clear hG
  obtain ⟨v15, H16, z14, hG⟩ := bC_s hF; clear hF
  replace hm : Sa H H16 := hm.tr (hmo.1 _ _ _ z14)
  obtain ⟨x17, -, hF⟩ := bnd_g hG; clear hG
  rcases ite_s hF with ⟨q_4, hG⟩ | ⟨q_4, hG⟩
  · clear hF
    rcases ite_s hG with ⟨q_5, hF⟩ | ⟨q_5, hF⟩
    · clear hG
      have hr := Option.some.inj hF; subst hr
      exact hm
    · clear hG
      obtain ⟨v21, H22, z20, hG⟩ := bC_s hF; clear hF
      replace hm : Sa H H22 := hm.tr (m_MText_fails z20)
      have hr := Option.some.inj hG; subst hr
      exact hm
  · clear hF
    have hr := Option.some.inj hG; subst hr
    exact hm
set_option maxRecDepth 20000 in
set_option maxHeartbeats 2000000 in
theorem k_MText_wants {N : Nat} {o : Orc_TextE} {fr lo : Nat} (ho : ok_TextE o fr lo) (hmo : mo_TextE o) {p0 : Nat} {p1 : Int32} {H : Hp} {r : Unit × Hp} (hF : F_MText_wants N o p0 p1 H = some r) : ab_M y_MText_wants { frames := fr + 1, cells := 0, slots := 0, locals := lo + 22 } [.ref p0, .int p1] (hpw H) (po (.returned none) r.2) := by
  unfold F_MText_wants at hF
  refine ab_of2 (lv := [some (.ref p0), some (.int p1), none, none]) 2 rfl rfl (Nat.le_of_ble_eq_true rfl) ?_
  refine ab_aload_n d_MText_wants_0 rfl rfl rfl ?_
  obtain ⟨q1, hG⟩ := ck_s hF; clear hF
  refine hp_getI (f := 11) d_MText_wants_1 q1 (by decide) rfl (by decide) (k8 175 rfl rfl) rfl ?_
  refine ab_topi (fun x2 ex2 => ?_)
  replace hG := bnd_s ex2 hG
  refine ab_istore_n (lv' := [some (.ref p0), some (.int p1), some (.int x2), none]) d_MText_wants_4 rfl (by decide) rfl ?_
  refine ab_aload_n d_MText_wants_5 rfl rfl rfl ?_
  obtain ⟨v4, H5, z3, hF⟩ := bC_s hG; clear hG
  refine hp_callV_a (v := .int v4) (H1 := H5) (As := []) (rest := []) d_MText_wants_6 (ho.2.2.1 _ _ _ z3) (ab_mkC s_MText_value (show fr + 1 ≤ fr + 1 from by have := ho.1; omega) (show 8 + (3 + 11) + lo ≤ lo + 22 from by have := ho.2.1; omega) (Nat.le_refl 0) (Nat.le_refl 0)) (k11 39 rfl rfl) i_MText_value v_MText_value q1 (by decide) rfl rfl (Nat.le_of_ble_eq_true rfl) ?_
  have s_1 : Sa H H5 := (hmo.1 _ _ _ z3)
  refine ab_istore_n (lv' := [some (.ref p0), some (.int p1), some (.int x2), some (.int v4)]) d_MText_wants_9 rfl (by decide) rfl ?_
  refine ab_aload_n d_MText_wants_10 rfl rfl rfl ?_
  refine hp_getI (f := 9) d_MText_wants_11 (by rw [(s_1).1]; exact q1) (by decide) rfl (by decide) (k8 172 rfl rfl) rfl ?_
  refine ab_topi (fun x6 ex6 => ?_)
  replace hF := bnd_s ex6 hF
  refine ab_if_ne (tgt := 28) d_MText_wants_14 (by decide) (fun q7 => ?_) (fun q7 => ?_)
  · rw [if_neg q7] at hF
    exact ab_vret d_MText_wants_28 rfl (Nat.le_refl _) (Nat.le_refl _) (by have hr := Option.some.inj hF; subst hr; exact ⟨rfl, rfl⟩)
  · rw [if_pos q7] at hF
    refine ab_iload_n d_MText_wants_17 rfl rfl ?_
    refine ab_iload_n d_MText_wants_18 rfl rfl ?_
    refine ab_icmp_eq (tgt := 28) d_MText_wants_19 (by decide) (fun q8 => ?_) (fun q8 => ?_)
    · rw [if_pos q8] at hF
      exact ab_vret d_MText_wants_28 rfl (Nat.le_refl _) (Nat.le_refl _) (by have hr := Option.some.inj hF; subst hr; exact ⟨rfl, rfl⟩)
    · rw [if_neg q8] at hF
      refine ab_aload_n d_MText_wants_22 rfl rfl rfl ?_
      refine ab_iconst (v := 5) d_MText_wants_23 (by decide) ?_
      refine ab_iload_n d_MText_wants_24 rfl rfl ?_
      obtain ⟨v10, H11, z9, hG⟩ := bC_s hF; clear hF
      refine hp_callV_v (H1 := H11) (As := [.int 5, .int x2]) (rest := []) d_MText_wants_25 (k_MText_fails z9) (ab_mkC s_MText_fails (show 0 + 1 ≤ fr + 1 from by have := ho.1; omega) (show 8 + (3 + 11) + 0 ≤ lo + 22 from by have := ho.2.1; omega) (Nat.le_refl 0) (Nat.le_refl 0)) (k10 160 rfl rfl) i_MText_fails v_MText_fails (by rw [(s_1).1]; exact q1) (by decide) rfl rfl (Nat.le_of_ble_eq_true rfl) ?_
      have s_2 : Sa H H11 := (s_1).tr (m_MText_fails z9)
      exact ab_vret d_MText_wants_28 rfl (Nat.le_refl _) (Nat.le_refl _) (by have hr := Option.some.inj hG; subst hr; exact ⟨rfl, rfl⟩)
def y_MText_wantsIn : ab_Y := (⟨"WorldEngineModel$Text", "wantsIn", "(I)V"⟩, prog_16_method_57_code, 2, none, [])
theorem d_MText_wantsIn_0 : decode y_MText_wantsIn.2.1 0 = .ok (.aload_n 0, 1) := by decide +kernel
theorem d_MText_wantsIn_1 : decode y_MText_wantsIn.2.1 1 = .ok (.invokevirtual 354, 3) := by decide +kernel
theorem d_MText_wantsIn_4 : decode y_MText_wantsIn.2.1 4 = .ok (.aload_n 0, 1) := by decide +kernel
theorem d_MText_wantsIn_5 : decode y_MText_wantsIn.2.1 5 = .ok (.iload_n 1, 1) := by decide +kernel
theorem d_MText_wantsIn_6 : decode y_MText_wantsIn.2.1 6 = .ok (.invokevirtual 327, 3) := by decide +kernel
theorem d_MText_wantsIn_9 : decode y_MText_wantsIn.2.1 9 = .ok (.aload_n 0, 1) := by decide +kernel
theorem d_MText_wantsIn_10 : decode y_MText_wantsIn.2.1 10 = .ok (.invokevirtual 357, 3) := by decide +kernel
theorem d_MText_wantsIn_13 : decode y_MText_wantsIn.2.1 13 = .ok (.return_, 1) := by decide +kernel
theorem s_MText_wantsIn : ab_Stat y_MText_wantsIn 1 := ⟨(k11 93 rfl rfl), (k1 20 rfl rfl), ⟨by decide, by decide⟩, by decide +kernel⟩
theorem i_MText_wantsIn : Cond.instanceMethod y_MText_wantsIn.1 ∈ ab_T := (k11 92 rfl rfl)
theorem v_MText_wantsIn : Cond.selects "WorldEngineModel$Text" y_MText_wantsIn.1 y_MText_wantsIn.1 ∈ ab_T := ab_s (List.mem_of_getElem? (i := 154) rfl) rfl
def F_MText_wantsIn (N : Nat) (o : Orc_TextE) (p0 : Nat) (p1 : Int32) (H : Hp) : Option (Unit × Hp) :=
    ck (H.sh[p0]? = some (14, 0)) <|
    bC (F_MText_opens N p0 H) fun v3 H4 =>
    bC (F_MText_wants N o p0 p1 H4) fun v6 H7 =>
    bC (F_MText_closes N p0 H7) fun v9 H10 =>
    some ((), H10)
set_option maxRecDepth 20000 in
set_option maxHeartbeats 2000000 in
theorem m_MText_wantsIn {N : Nat} {o : Orc_TextE} (hmo : mo_TextE o) {p0 : Nat} {p1 : Int32} {H : Hp} {r : Unit × Hp} (hF : F_MText_wantsIn N o p0 p1 H = some r) : Sa H r.2 := by
  unfold F_MText_wantsIn at hF
  have hm := Sa.rf H
  obtain ⟨q11, hG⟩ := ck_s hF; clear hF
  obtain ⟨v13, H14, z12, hF⟩ := bC_s hG; clear hG
  replace hm : Sa H H14 := hm.tr (m_MText_opens z12)
  obtain ⟨v16, H17, z15, hG⟩ := bC_s hF; clear hF
  replace hm : Sa H H17 := hm.tr (m_MText_wants hmo z15)
  obtain ⟨v19, H20, z18, hF⟩ := bC_s hG; clear hG
  replace hm : Sa H H20 := hm.tr (m_MText_closes z18)
  have hr := Option.some.inj hF; subst hr
  exact hm
set_option maxRecDepth 20000 in
set_option maxHeartbeats 2000000 in
theorem k_MText_wantsIn {N : Nat} {o : Orc_TextE} {fr lo : Nat} (ho : ok_TextE o fr lo) (hmo : mo_TextE o) {p0 : Nat} {p1 : Int32} {H : Hp} {r : Unit × Hp} (hF : F_MText_wantsIn N o p0 p1 H = some r) : ab_M y_MText_wantsIn { frames := fr + 2, cells := 0, slots := 0, locals := lo + 45 } [.ref p0, .int p1] (hpw H) (po (.returned none) r.2) := by
  unfold F_MText_wantsIn at hF
  refine ab_of2 (lv := [some (.ref p0), some (.int p1)]) 0 rfl rfl (Nat.le_of_ble_eq_true rfl) ?_
  refine ab_aload_n d_MText_wantsIn_0 rfl rfl rfl ?_
  obtain ⟨q1, hG⟩ := ck_s hF; clear hF
  obtain ⟨v3, H4, z2, hF⟩ := bC_s hG; clear hG
  refine hp_callV_v (H1 := H4) (As := []) (rest := []) d_MText_wantsIn_1 (k_MText_opens z2) (ab_mkC s_MText_opens (show 3 + 1 ≤ fr + 2 from by have := ho.1; omega) (show 8 + (1 + 11) + 64 ≤ lo + 45 from by have := ho.2.1; omega) (Nat.le_refl 0) (Nat.le_refl 0)) (k11 78 rfl rfl) i_MText_opens v_MText_opens q1 (by decide) rfl rfl (Nat.le_of_ble_eq_true rfl) ?_
  have s_1 : Sa H H4 := (m_MText_opens z2)
  refine ab_aload_n d_MText_wantsIn_4 rfl rfl rfl ?_
  refine ab_iload_n d_MText_wantsIn_5 rfl rfl ?_
  obtain ⟨v6, H7, z5, hG⟩ := bC_s hF; clear hF
  refine hp_callV_v (H1 := H7) (As := [.int p1]) (rest := []) d_MText_wantsIn_6 (k_MText_wants ho hmo z5) (ab_mkC s_MText_wants (show (fr + 1) + 1 ≤ fr + 2 from by have := ho.1; omega) (show 8 + (4 + 11) + (lo + 22) ≤ lo + 45 from by have := ho.2.1; omega) (Nat.le_refl 0) (Nat.le_refl 0)) (k11 35 rfl rfl) i_MText_wants v_MText_wants (by rw [(s_1).1]; exact q1) (by decide) rfl rfl (Nat.le_of_ble_eq_true rfl) ?_
  have s_2 : Sa H H7 := (s_1).tr (m_MText_wants hmo z5)
  refine ab_aload_n d_MText_wantsIn_9 rfl rfl rfl ?_
  obtain ⟨v9, H10, z8, hF⟩ := bC_s hG; clear hG
  refine hp_callV_v (H1 := H10) (As := []) (rest := []) d_MText_wantsIn_10 (k_MText_closes z8) (ab_mkC s_MText_closes (show 3 + 1 ≤ fr + 2 from by have := ho.1; omega) (show 8 + (1 + 11) + 64 ≤ lo + 45 from by have := ho.2.1; omega) (Nat.le_refl 0) (Nat.le_refl 0)) (k11 86 rfl rfl) i_MText_closes v_MText_closes (by rw [(s_2).1]; exact q1) (by decide) rfl rfl (Nat.le_of_ble_eq_true rfl) ?_
  have s_3 : Sa H H10 := (s_2).tr (m_MText_closes z8)
  exact ab_vret d_MText_wantsIn_13 rfl (Nat.le_refl _) (Nat.le_refl _) (by have hr := Option.some.inj hF; subst hr; exact ⟨rfl, rfl⟩)
def y_MText_primary : ab_Y := (⟨"WorldEngineModel$Text", "primary", "()I"⟩, prog_16_method_69_code, 5, (some FieldType.int), [])
theorem d_MText_primary_0 : decode y_MText_primary.2.1 0 = .ok (.aload_n 0, 1) := by decide +kernel
theorem d_MText_primary_1 : decode y_MText_primary.2.1 1 = .ok (.getfield 191, 3) := by decide +kernel
theorem d_MText_primary_4 : decode y_MText_primary.2.1 4 = .ok (.istore_n 1, 1) := by decide +kernel
theorem d_MText_primary_5 : decode y_MText_primary.2.1 5 = .ok (.aload_n 0, 1) := by decide +kernel
theorem d_MText_primary_6 : decode y_MText_primary.2.1 6 = .ok (.getfield 185, 3) := by decide +kernel
theorem d_MText_primary_9 : decode y_MText_primary.2.1 9 = .ok (.ifCond .le 7, 3) := by decide +kernel
theorem d_MText_primary_12 : decode y_MText_primary.2.1 12 = .ok (.iconst 0, 1) := by decide +kernel
theorem d_MText_primary_13 : decode y_MText_primary.2.1 13 = .ok (.goto 12, 3) := by decide +kernel
theorem d_MText_primary_16 : decode y_MText_primary.2.1 16 = .ok (.aload_n 0, 1) := by decide +kernel
theorem d_MText_primary_17 : decode y_MText_primary.2.1 17 = .ok (.getfield 15, 3) := by decide +kernel
theorem d_MText_primary_20 : decode y_MText_primary.2.1 20 = .ok (.aload_n 0, 1) := by decide +kernel
theorem d_MText_primary_21 : decode y_MText_primary.2.1 21 = .ok (.getfield 191, 3) := by decide +kernel
theorem d_MText_primary_24 : decode y_MText_primary.2.1 24 = .ok (.iaload, 1) := by decide +kernel
theorem d_MText_primary_25 : decode y_MText_primary.2.1 25 = .ok (.istore_n 2, 1) := by decide +kernel
theorem d_MText_primary_26 : decode y_MText_primary.2.1 26 = .ok (.iload_n 2, 1) := by decide +kernel
theorem d_MText_primary_27 : decode y_MText_primary.2.1 27 = .ok (.iconst 2, 1) := by decide +kernel
theorem d_MText_primary_28 : decode y_MText_primary.2.1 28 = .ok (.if_icmp .eq 8, 3) := by decide +kernel
theorem d_MText_primary_31 : decode y_MText_primary.2.1 31 = .ok (.iload_n 2, 1) := by decide +kernel
theorem d_MText_primary_32 : decode y_MText_primary.2.1 32 = .ok (.iconst 3, 1) := by decide +kernel
theorem d_MText_primary_33 : decode y_MText_primary.2.1 33 = .ok (.if_icmp .ne 18, 3) := by decide +kernel
theorem d_MText_primary_36 : decode y_MText_primary.2.1 36 = .ok (.aload_n 0, 1) := by decide +kernel
theorem d_MText_primary_37 : decode y_MText_primary.2.1 37 = .ok (.getfield 28, 3) := by decide +kernel
theorem d_MText_primary_40 : decode y_MText_primary.2.1 40 = .ok (.iload_n 1, 1) := by decide +kernel
theorem d_MText_primary_41 : decode y_MText_primary.2.1 41 = .ok (.baload, 1) := by decide +kernel
theorem d_MText_primary_42 : decode y_MText_primary.2.1 42 = .ok (.ifCond .eq 9, 3) := by decide +kernel
theorem d_MText_primary_45 : decode y_MText_primary.2.1 45 = .ok (.aload_n 0, 1) := by decide +kernel
theorem d_MText_primary_46 : decode y_MText_primary.2.1 46 = .ok (.iconst 2, 1) := by decide +kernel
theorem d_MText_primary_47 : decode y_MText_primary.2.1 47 = .ok (.iload_n 1, 1) := by decide +kernel
theorem d_MText_primary_48 : decode y_MText_primary.2.1 48 = .ok (.invokevirtual 200, 3) := by decide +kernel
theorem d_MText_primary_51 : decode y_MText_primary.2.1 51 = .ok (.aload_n 0, 1) := by decide +kernel
theorem d_MText_primary_52 : decode y_MText_primary.2.1 52 = .ok (.getfield 185, 3) := by decide +kernel
theorem d_MText_primary_55 : decode y_MText_primary.2.1 55 = .ok (.ifCond .le 5, 3) := by decide +kernel
theorem d_MText_primary_58 : decode y_MText_primary.2.1 58 = .ok (.iconst 0, 1) := by decide +kernel
theorem d_MText_primary_59 : decode y_MText_primary.2.1 59 = .ok (.ireturn, 1) := by decide +kernel
theorem d_MText_primary_60 : decode y_MText_primary.2.1 60 = .ok (.iload_n 2, 1) := by decide +kernel
theorem d_MText_primary_61 : decode y_MText_primary.2.1 61 = .ok (.iconst 1, 1) := by decide +kernel
theorem d_MText_primary_62 : decode y_MText_primary.2.1 62 = .ok (.if_icmp .ne 8, 3) := by decide +kernel
theorem d_MText_primary_65 : decode y_MText_primary.2.1 65 = .ok (.aload_n 0, 1) := by decide +kernel
theorem d_MText_primary_66 : decode y_MText_primary.2.1 66 = .ok (.invokevirtual 391, 3) := by decide +kernel
theorem d_MText_primary_69 : decode y_MText_primary.2.1 69 = .ok (.ireturn, 1) := by decide +kernel
theorem d_MText_primary_70 : decode y_MText_primary.2.1 70 = .ok (.aload_n 0, 1) := by decide +kernel
theorem d_MText_primary_71 : decode y_MText_primary.2.1 71 = .ok (.dup, 1) := by decide +kernel
theorem d_MText_primary_72 : decode y_MText_primary.2.1 72 = .ok (.getfield 191, 3) := by decide +kernel
theorem d_MText_primary_75 : decode y_MText_primary.2.1 75 = .ok (.iconst 1, 1) := by decide +kernel
theorem d_MText_primary_76 : decode y_MText_primary.2.1 76 = .ok (.iadd, 1) := by decide +kernel
theorem d_MText_primary_77 : decode y_MText_primary.2.1 77 = .ok (.putfield 191, 3) := by decide +kernel
theorem d_MText_primary_80 : decode y_MText_primary.2.1 80 = .ok (.iload_n 2, 1) := by decide +kernel
theorem d_MText_primary_81 : decode y_MText_primary.2.1 81 = .ok (.lookupswitch 234 #[(2, 131), (3, 133), (40, 139), (209, 177), (211, 159), (231, 135), (232, 135), (233, 137), (234, 137), (235, 131), (236, 159), (237, 159), (238, 195), (239, 177), (240, 202)], 131) := by decide +kernel
theorem d_MText_primary_212 : decode y_MText_primary.2.1 212 = .ok (.iconst 0, 1) := by decide +kernel
theorem d_MText_primary_213 : decode y_MText_primary.2.1 213 = .ok (.ireturn, 1) := by decide +kernel
theorem d_MText_primary_214 : decode y_MText_primary.2.1 214 = .ok (.iconst 2, 1) := by decide +kernel
theorem d_MText_primary_215 : decode y_MText_primary.2.1 215 = .ok (.ireturn, 1) := by decide +kernel
theorem d_MText_primary_216 : decode y_MText_primary.2.1 216 = .ok (.iconst 3, 1) := by decide +kernel
theorem d_MText_primary_217 : decode y_MText_primary.2.1 217 = .ok (.ireturn, 1) := by decide +kernel
theorem d_MText_primary_218 : decode y_MText_primary.2.1 218 = .ok (.iconst 4, 1) := by decide +kernel
theorem d_MText_primary_219 : decode y_MText_primary.2.1 219 = .ok (.ireturn, 1) := by decide +kernel
theorem d_MText_primary_220 : decode y_MText_primary.2.1 220 = .ok (.aload_n 0, 1) := by decide +kernel
theorem d_MText_primary_221 : decode y_MText_primary.2.1 221 = .ok (.iload_n 1, 1) := by decide +kernel
theorem d_MText_primary_222 : decode y_MText_primary.2.1 222 = .ok (.putfield 191, 3) := by decide +kernel
theorem d_MText_primary_225 : decode y_MText_primary.2.1 225 = .ok (.aload_n 0, 1) := by decide +kernel
theorem d_MText_primary_226 : decode y_MText_primary.2.1 226 = .ok (.invokevirtual 354, 3) := by decide +kernel
theorem d_MText_primary_229 : decode y_MText_primary.2.1 229 = .ok (.aload_n 0, 1) := by decide +kernel
theorem d_MText_primary_230 : decode y_MText_primary.2.1 230 = .ok (.invokevirtual 320, 3) := by decide +kernel
theorem d_MText_primary_233 : decode y_MText_primary.2.1 233 = .ok (.istore_n 3, 1) := by decide +kernel
theorem d_MText_primary_234 : decode y_MText_primary.2.1 234 = .ok (.aload_n 0, 1) := by decide +kernel
theorem d_MText_primary_235 : decode y_MText_primary.2.1 235 = .ok (.invokevirtual 357, 3) := by decide +kernel
theorem d_MText_primary_238 : decode y_MText_primary.2.1 238 = .ok (.iload_n 3, 1) := by decide +kernel
theorem d_MText_primary_239 : decode y_MText_primary.2.1 239 = .ok (.ireturn, 1) := by decide +kernel
theorem d_MText_primary_240 : decode y_MText_primary.2.1 240 = .ok (.aload_n 0, 1) := by decide +kernel
theorem d_MText_primary_241 : decode y_MText_primary.2.1 241 = .ok (.iconst 0, 1) := by decide +kernel
theorem d_MText_primary_242 : decode y_MText_primary.2.1 242 = .ok (.invokevirtual 360, 3) := by decide +kernel
theorem d_MText_primary_245 : decode y_MText_primary.2.1 245 = .ok (.iload_n 2, 1) := by decide +kernel
theorem d_MText_primary_246 : decode y_MText_primary.2.1 246 = .ok (.sipush 211, 3) := by decide +kernel
theorem d_MText_primary_249 : decode y_MText_primary.2.1 249 = .ok (.if_icmp .ne 7, 3) := by decide +kernel
theorem d_MText_primary_252 : decode y_MText_primary.2.1 252 = .ok (.iconst 2, 1) := by decide +kernel
theorem d_MText_primary_253 : decode y_MText_primary.2.1 253 = .ok (.goto 4, 3) := by decide +kernel
theorem d_MText_primary_256 : decode y_MText_primary.2.1 256 = .ok (.iconst 0, 1) := by decide +kernel
theorem d_MText_primary_257 : decode y_MText_primary.2.1 257 = .ok (.ireturn, 1) := by decide +kernel
theorem d_MText_primary_258 : decode y_MText_primary.2.1 258 = .ok (.aload_n 0, 1) := by decide +kernel
theorem d_MText_primary_259 : decode y_MText_primary.2.1 259 = .ok (.iconst 2, 1) := by decide +kernel
theorem d_MText_primary_260 : decode y_MText_primary.2.1 260 = .ok (.invokevirtual 360, 3) := by decide +kernel
theorem d_MText_primary_263 : decode y_MText_primary.2.1 263 = .ok (.iload_n 2, 1) := by decide +kernel
theorem d_MText_primary_264 : decode y_MText_primary.2.1 264 = .ok (.sipush 239, 3) := by decide +kernel
theorem d_MText_primary_267 : decode y_MText_primary.2.1 267 = .ok (.if_icmp .ne 7, 3) := by decide +kernel
theorem d_MText_primary_270 : decode y_MText_primary.2.1 270 = .ok (.iconst 2, 1) := by decide +kernel
theorem d_MText_primary_271 : decode y_MText_primary.2.1 271 = .ok (.goto 4, 3) := by decide +kernel
theorem d_MText_primary_274 : decode y_MText_primary.2.1 274 = .ok (.iconst 0, 1) := by decide +kernel
theorem d_MText_primary_275 : decode y_MText_primary.2.1 275 = .ok (.ireturn, 1) := by decide +kernel
theorem d_MText_primary_276 : decode y_MText_primary.2.1 276 = .ok (.aload_n 0, 1) := by decide +kernel
theorem d_MText_primary_277 : decode y_MText_primary.2.1 277 = .ok (.iconst 4, 1) := by decide +kernel
theorem d_MText_primary_278 : decode y_MText_primary.2.1 278 = .ok (.invokevirtual 360, 3) := by decide +kernel
theorem d_MText_primary_281 : decode y_MText_primary.2.1 281 = .ok (.iconst 3, 1) := by decide +kernel
theorem d_MText_primary_282 : decode y_MText_primary.2.1 282 = .ok (.ireturn, 1) := by decide +kernel
theorem d_MText_primary_283 : decode y_MText_primary.2.1 283 = .ok (.aload_n 0, 1) := by decide +kernel
theorem d_MText_primary_284 : decode y_MText_primary.2.1 284 = .ok (.invokevirtual 354, 3) := by decide +kernel
theorem d_MText_primary_287 : decode y_MText_primary.2.1 287 = .ok (.aload_n 0, 1) := by decide +kernel
theorem d_MText_primary_288 : decode y_MText_primary.2.1 288 = .ok (.iconst 4, 1) := by decide +kernel
theorem d_MText_primary_289 : decode y_MText_primary.2.1 289 = .ok (.invokevirtual 327, 3) := by decide +kernel
theorem d_MText_primary_292 : decode y_MText_primary.2.1 292 = .ok (.aload_n 0, 1) := by decide +kernel
theorem d_MText_primary_293 : decode y_MText_primary.2.1 293 = .ok (.bipush 44, 2) := by decide +kernel
theorem d_MText_primary_295 : decode y_MText_primary.2.1 295 = .ok (.invokevirtual 204, 3) := by decide +kernel
theorem d_MText_primary_298 : decode y_MText_primary.2.1 298 = .ok (.aload_n 0, 1) := by decide +kernel
theorem d_MText_primary_299 : decode y_MText_primary.2.1 299 = .ok (.aload_n 0, 1) := by decide +kernel
theorem d_MText_primary_300 : decode y_MText_primary.2.1 300 = .ok (.invokevirtual 240, 3) := by decide +kernel
theorem d_MText_primary_303 : decode y_MText_primary.2.1 303 = .ok (.iconst 2, 1) := by decide +kernel
theorem d_MText_primary_304 : decode y_MText_primary.2.1 304 = .ok (.invokevirtual 290, 3) := by decide +kernel
theorem d_MText_primary_307 : decode y_MText_primary.2.1 307 = .ok (.istore 4, 2) := by decide +kernel
theorem d_MText_primary_309 : decode y_MText_primary.2.1 309 = .ok (.aload_n 0, 1) := by decide +kernel
theorem d_MText_primary_310 : decode y_MText_primary.2.1 310 = .ok (.invokevirtual 357, 3) := by decide +kernel
theorem d_MText_primary_313 : decode y_MText_primary.2.1 313 = .ok (.iconst 3, 1) := by decide +kernel
theorem d_MText_primary_314 : decode y_MText_primary.2.1 314 = .ok (.ireturn, 1) := by decide +kernel
theorem d_MText_primary_315 : decode y_MText_primary.2.1 315 = .ok (.aload_n 0, 1) := by decide +kernel
theorem d_MText_primary_316 : decode y_MText_primary.2.1 316 = .ok (.iload_n 1, 1) := by decide +kernel
theorem d_MText_primary_317 : decode y_MText_primary.2.1 317 = .ok (.putfield 191, 3) := by decide +kernel
theorem d_MText_primary_320 : decode y_MText_primary.2.1 320 = .ok (.aload_n 0, 1) := by decide +kernel
theorem d_MText_primary_321 : decode y_MText_primary.2.1 321 = .ok (.iconst 1, 1) := by decide +kernel
theorem d_MText_primary_322 : decode y_MText_primary.2.1 322 = .ok (.iload_n 1, 1) := by decide +kernel
theorem d_MText_primary_323 : decode y_MText_primary.2.1 323 = .ok (.invokevirtual 200, 3) := by decide +kernel
theorem d_MText_primary_326 : decode y_MText_primary.2.1 326 = .ok (.iconst 0, 1) := by decide +kernel
theorem d_MText_primary_327 : decode y_MText_primary.2.1 327 = .ok (.ireturn, 1) := by decide +kernel
theorem s_MText_primary : ab_Stat y_MText_primary 0 := ⟨(k11 66 rfl rfl), (k1 20 rfl rfl), ⟨by decide, by decide⟩, by decide +kernel⟩
theorem i_MText_primary : Cond.instanceMethod y_MText_primary.1 ∈ ab_T := (k11 65 rfl rfl)
theorem v_MText_primary : Cond.selects "WorldEngineModel$Text" y_MText_primary.1 y_MText_primary.1 ∈ ab_T := ab_s (List.mem_of_getElem? (i := 148) rfl) rfl
def B_MText_primary_51 (N : Nat) (o : Orc_TextE) (p0 : Nat) (l1 : Int32) (l2 : Int32) (H : Hp) : Option (Int32 × Hp) :=
    ck (H.sh[p0]? = some (14, 0)) <|
    bnd ((H.D p0 9)) fun x22 =>
    if x22 ≤ (0 : Int32) then
    if l2 = (1 : Int32) then
    bC (F_MText_named N p0 H) fun v98 H99 =>
    some (v98, H99)
    else
    bnd ((H.D p0 11)) fun x25 =>
    bnd (H.sD p0 11 (x25 + (1 : Int32))) fun H26 =>
    if l2 = 2 then
    some (0, H26)
    else if l2 = 3 then
    some (2, H26)
    else if l2 = 40 then
    bnd (H26.sD p0 11 l1) fun H30 =>
    bC (F_MText_opens N p0 H30) fun v32 H33 =>
    bC (o.1 p0 H33) fun v35 H36 =>
    bC (F_MText_closes N p0 H36) fun v38 H39 =>
    some (v35, H39)
    else if l2 = 209 then
    bC (F_MText_wantsIn N o p0 (2 : Int32) H26) fun v42 H43 =>
    if l2 = (239 : Int32) then
    some (2, H43)
    else
    some (0, H43)
    else if l2 = 211 then
    bC (F_MText_wantsIn N o p0 (0 : Int32) H26) fun v47 H48 =>
    if l2 = (211 : Int32) then
    some (2, H48)
    else
    some (0, H48)
    else if l2 = 231 then
    some (3, H26)
    else if l2 = 232 then
    some (3, H26)
    else if l2 = 233 then
    some (4, H26)
    else if l2 = 234 then
    some (4, H26)
    else if l2 = 235 then
    some (0, H26)
    else if l2 = 236 then
    bC (F_MText_wantsIn N o p0 (0 : Int32) H26) fun v57 H58 =>
    if l2 = (211 : Int32) then
    some (2, H58)
    else
    some (0, H58)
    else if l2 = 237 then
    bC (F_MText_wantsIn N o p0 (0 : Int32) H26) fun v62 H63 =>
    if l2 = (211 : Int32) then
    some (2, H63)
    else
    some (0, H63)
    else if l2 = 238 then
    bC (F_MText_wantsIn N o p0 (4 : Int32) H26) fun v67 H68 =>
    some (3, H68)
    else if l2 = 239 then
    bC (F_MText_wantsIn N o p0 (2 : Int32) H26) fun v71 H72 =>
    if l2 = (239 : Int32) then
    some (2, H72)
    else
    some (0, H72)
    else if l2 = 240 then
    bC (F_MText_opens N p0 H26) fun v76 H77 =>
    bC (F_MText_wants N o p0 (4 : Int32) H77) fun v79 H80 =>
    bC (F_MText_takes N p0 (44 : Int32) H80) fun v82 H83 =>
    bC (F_MText_name N p0 H83) fun v85 H86 =>
    bC (F_MText_numberOf N p0 v85 (2 : Int32) H86) fun v88 H89 =>
    bC (F_MText_closes N p0 H89) fun v91 H92 =>
    some (3, H92)
    else bnd (H26.sD p0 11 l1) fun H93 =>
    bC (F_MText_fails N p0 (1 : Int32) l1 H93) fun v95 H96 =>
    some (0, H96)
    else
    some (0, H)
set_option maxRecDepth 20000 in
set_option maxHeartbeats 2000000 in
theorem mB_MText_primary_51 {N : Nat} {o : Orc_TextE} (hmo : mo_TextE o) {p0 : Nat} {l1 : Int32} {l2 : Int32} {H : Hp} {r : Int32 × Hp} (hF : B_MText_primary_51 N o p0 l1 l2 H = some r) : Sa H r.2 := by
  unfold B_MText_primary_51 at hF
  have hm := Sa.rf H
  obtain ⟨q100, hG⟩ := ck_s hF; clear hF
  obtain ⟨x101, -, hF⟩ := bnd_g hG; clear hG
  rcases ite_s hF with ⟨q_21, hG⟩ | ⟨q_21, hG⟩
  · clear hF
    rcases ite_s hG with ⟨q_22, hF⟩ | ⟨q_22, hF⟩
    · clear hG
      obtain ⟨v105, H106, z104, hG⟩ := bC_s hF; clear hF
      replace hm : Sa H H106 := hm.tr (m_MText_named z104)
      have hr := Option.some.inj hG; subst hr
      exact hm
    · clear hG
      obtain ⟨x107, -, hG⟩ := bnd_g hF; clear hF
      obtain ⟨H108, eH108, hF⟩ := bnd_g hG; clear hG
      replace hm : Sa H H108 := by rw [eH108]; exact hm
      rcases ite_s hF with ⟨q_25, hG⟩ | ⟨q_25, hG⟩
      · clear hF
        have hr := Option.some.inj hG; subst hr
        exact hm
      clear hF
      rcases ite_s hG with ⟨q_26, hF⟩ | ⟨q_26, hF⟩
      · clear hG
        have hr := Option.some.inj hF; subst hr
        exact hm
      clear hG
      rcases ite_s hF with ⟨q_27, hG⟩ | ⟨q_27, hG⟩
      · clear hF
        obtain ⟨H112, eH112, hF⟩ := bnd_g hG; clear hG
        replace hm : Sa H H112 := by rw [eH112]; exact hm
        obtain ⟨v114, H115, z113, hG⟩ := bC_s hF; clear hF
        replace hm : Sa H H115 := hm.tr (m_MText_opens z113)
        obtain ⟨v117, H118, z116, hF⟩ := bC_s hG; clear hG
        replace hm : Sa H H118 := hm.tr (hmo.1 _ _ _ z116)
        obtain ⟨v120, H121, z119, hG⟩ := bC_s hF; clear hF
        replace hm : Sa H H121 := hm.tr (m_MText_closes z119)
        have hr := Option.some.inj hG; subst hr
        exact hm
      clear hF
      rcases ite_s hG with ⟨q_32, hF⟩ | ⟨q_32, hF⟩
      · clear hG
        obtain ⟨v124, H125, z123, hG⟩ := bC_s hF; clear hF
        replace hm : Sa H H125 := hm.tr (m_MText_wantsIn hmo z123)
        rcases ite_s hG with ⟨q_34, hF⟩ | ⟨q_34, hF⟩
        · clear hG
          have hr := Option.some.inj hF; subst hr
          exact hm
        · clear hG
          have hr := Option.some.inj hF; subst hr
          exact hm
      clear hG
      rcases ite_s hF with ⟨q_35, hG⟩ | ⟨q_35, hG⟩
      · clear hF
        obtain ⟨v129, H130, z128, hF⟩ := bC_s hG; clear hG
        replace hm : Sa H H130 := hm.tr (m_MText_wantsIn hmo z128)
        rcases ite_s hF with ⟨q_37, hG⟩ | ⟨q_37, hG⟩
        · clear hF
          have hr := Option.some.inj hG; subst hr
          exact hm
        · clear hF
          have hr := Option.some.inj hG; subst hr
          exact hm
      clear hF
      rcases ite_s hG with ⟨q_38, hF⟩ | ⟨q_38, hF⟩
      · clear hG
        have hr := Option.some.inj hF; subst hr
        exact hm
      clear hG
      rcases ite_s hF with ⟨q_39, hG⟩ | ⟨q_39, hG⟩
      · clear hF
        have hr := Option.some.inj hG; subst hr
        exact hm
      clear hF
      rcases ite_s hG with ⟨q_40, hF⟩ | ⟨q_40, hF⟩
      · clear hG
        have hr := Option.some.inj hF; subst hr
        exact hm
      clear hG
      rcases ite_s hF with ⟨q_41, hG⟩ | ⟨q_41, hG⟩
      · clear hF
        have hr := Option.some.inj hG; subst hr
        exact hm
      clear hF
      rcases ite_s hG with ⟨q_42, hF⟩ | ⟨q_42, hF⟩
      · clear hG
        have hr := Option.some.inj hF; subst hr
        exact hm
      clear hG
      rcases ite_s hF with ⟨q_43, hG⟩ | ⟨q_43, hG⟩
      · clear hF
        obtain ⟨v139, H140, z138, hF⟩ := bC_s hG; clear hG
        replace hm : Sa H H140 := hm.tr (m_MText_wantsIn hmo z138)
        rcases ite_s hF with ⟨q_45, hG⟩ | ⟨q_45, hG⟩
        · clear hF
          have hr := Option.some.inj hG; subst hr
          exact hm
        · clear hF
          have hr := Option.some.inj hG; subst hr
          exact hm
      clear hF
      rcases ite_s hG with ⟨q_46, hF⟩ | ⟨q_46, hF⟩
      · clear hG
        obtain ⟨v144, H145, z143, hG⟩ := bC_s hF; clear hF
        replace hm : Sa H H145 := hm.tr (m_MText_wantsIn hmo z143)
        rcases ite_s hG with ⟨q_48, hF⟩ | ⟨q_48, hF⟩
        · clear hG
          have hr := Option.some.inj hF; subst hr
          exact hm
        · clear hG
          have hr := Option.some.inj hF; subst hr
          exact hm
      clear hG
      rcases ite_s hF with ⟨q_49, hG⟩ | ⟨q_49, hG⟩
      · clear hF
        obtain ⟨v149, H150, z148, hF⟩ := bC_s hG; clear hG
        replace hm : Sa H H150 := hm.tr (m_MText_wantsIn hmo z148)
        have hr := Option.some.inj hF; subst hr
        exact hm
      clear hF
      rcases ite_s hG with ⟨q_51, hF⟩ | ⟨q_51, hF⟩
      · clear hG
        obtain ⟨v153, H154, z152, hG⟩ := bC_s hF; clear hF
        replace hm : Sa H H154 := hm.tr (m_MText_wantsIn hmo z152)
        rcases ite_s hG with ⟨q_53, hF⟩ | ⟨q_53, hF⟩
        · clear hG
          have hr := Option.some.inj hF; subst hr
          exact hm
        · clear hG
          have hr := Option.some.inj hF; subst hr
          exact hm
      clear hG
      rcases ite_s hF with ⟨q_54, hG⟩ | ⟨q_54, hG⟩
      · clear hF
        obtain ⟨v158, H159, z157, hF⟩ := bC_s hG; clear hG
        replace hm : Sa H H159 := hm.tr (m_MText_opens z157)
        obtain ⟨v161, H162, z160, hG⟩ := bC_s hF; clear hF
        replace hm : Sa H H162 := hm.tr (m_MText_wants hmo z160)
        obtain ⟨v164, H165, z163, hF⟩ := bC_s hG; clear hG
        replace hm : Sa H H165 := hm.tr (m_MText_takes z163)
        obtain ⟨v167, H168, z166, hG⟩ := bC_s hF; clear hF
        replace hm : Sa H H168 := hm.tr (m_MText_name z166)
        obtain ⟨v170, H171, z169, hF⟩ := bC_s hG; clear hG
        replace hm : Sa H H171 := hm.tr (m_MText_numberOf z169)
        obtain ⟨v173, H174, z172, hG⟩ := bC_s hF; clear hF
        replace hm : Sa H H174 := hm.tr (m_MText_closes z172)
        have hr := Option.some.inj hG; subst hr
        exact hm
      clear hF
      obtain ⟨H175, eH175, hF⟩ := bnd_g hG; clear hG
      replace hm : Sa H H175 := by rw [eH175]; exact hm
      obtain ⟨v177, H178, z176, hG⟩ := bC_s hF; clear hF
      replace hm : Sa H H178 := hm.tr (m_MText_fails z176)
      have hr := Option.some.inj hG; subst hr
      exact hm
  · clear hF
    have hr := Option.some.inj hG; subst hr
    exact hm
set_option maxRecDepth 20000 in
set_option maxHeartbeats 2000000 in
theorem kB_MText_primary_51 {N : Nat} {o : Orc_TextE} {fr lo : Nat} (ho : ok_TextE o fr lo) (hmo : mo_TextE o) {p0 : Nat} {l1 : Int32} {l2 : Int32} {H : Hp} {r : Int32 × Hp} (hF : B_MText_primary_51 N o p0 l1 l2 H = some r) : ab_V y_MText_primary { frames := fr + 3, cells := 0, slots := 0, locals := lo + 66 } (po (.returned (some (.int r.1))) r.2) 0 0 0 0 51 [some (.ref p0), some (.int l1), some (.int l2), none, none] [] (hpw H) := by
  unfold B_MText_primary_51 at hF
  refine ab_aload_n d_MText_primary_51 rfl rfl rfl ?_
  obtain ⟨q21, hG⟩ := ck_s hF; clear hF
  refine hp_getI (f := 9) d_MText_primary_52 q21 (by decide) rfl (by decide) (k8 172 rfl rfl) rfl ?_
  refine ab_topi (fun x22 ex22 => ?_)
  replace hG := bnd_s ex22 hG
  refine ab_if_le (tgt := 60) d_MText_primary_55 (by decide) (fun q23 => ?_) (fun q23 => ?_)
  · rw [if_pos q23] at hG
    refine ab_iload_n d_MText_primary_60 rfl rfl ?_
    refine ab_iconst (v := 1) d_MText_primary_61 (by decide) ?_
    refine ab_icmp_ne (tgt := 70) d_MText_primary_62 (by decide) (fun q24 => ?_) (fun q24 => ?_)
    · rw [if_neg q24] at hG
      refine ab_aload_n d_MText_primary_70 rfl rfl rfl ?_
      refine ab_dup d_MText_primary_71 rfl ?_
      refine hp_getI (f := 11) d_MText_primary_72 q21 (by decide) rfl (by decide) (k8 175 rfl rfl) rfl ?_
      refine ab_topi (fun x25 ex25 => ?_)
      replace hG := bnd_s ex25 hG
      refine ab_iconst (v := 1) d_MText_primary_75 (by decide) ?_
      refine ab_iadd d_MText_primary_76 ?_
      refine hp_putI (v := x25 + (1 : Int32)) (f := 11) d_MText_primary_77 q21 (by decide) rfl (by decide) (k8 175 rfl rfl) rfl rfl (fun _ => rfl) (fun _ => rfl) rfl ?_
      refine hp_gen (fun H26 eH26 => ?_)
      replace hG := bnd_s eH26 hG
      have s_1 : Sa H H26 := by rw [eH26]; exact Sa.rf _
      refine ab_iload_n d_MText_primary_80 rfl rfl ?_
      by_cases t27 : l2 = 2
      · rw [if_pos t27] at hG
        refine ab_lookup (off := 131) (tgt := 212) d_MText_primary_81 (by decide) (by rw [t27]; decide) (by decide) ?_
        refine ab_iconst (v := 0) d_MText_primary_212 (by decide) ?_
        exact ab_iret d_MText_primary_213 rfl (Nat.le_refl _) (Nat.le_refl _) (by have hr := Option.some.inj hG; subst hr; exact ⟨rfl, rfl⟩)
      rw [if_neg t27] at hG
      have ut27 : ¬ (2 : Int) = (l2).toInt := fun z => t27 (Int32.toInt_inj.mp (z.symm.trans (by decide)))
      by_cases t28 : l2 = 3
      · rw [if_pos t28] at hG
        refine ab_lookup (off := 133) (tgt := 214) d_MText_primary_81 (by decide) (by rw [t28]; decide) (by decide) ?_
        refine ab_iconst (v := 2) d_MText_primary_214 (by decide) ?_
        exact ab_iret d_MText_primary_215 rfl (Nat.le_refl _) (Nat.le_refl _) (by have hr := Option.some.inj hG; subst hr; exact ⟨rfl, rfl⟩)
      rw [if_neg t28] at hG
      have ut28 : ¬ (3 : Int) = (l2).toInt := fun z => t28 (Int32.toInt_inj.mp (z.symm.trans (by decide)))
      by_cases t29 : l2 = 40
      · rw [if_pos t29] at hG
        refine ab_lookup (off := 139) (tgt := 220) d_MText_primary_81 (by decide) (by rw [t29]; decide) (by decide) ?_
        refine ab_aload_n d_MText_primary_220 rfl rfl rfl ?_
        refine ab_iload_n d_MText_primary_221 rfl rfl ?_
        refine hp_putI (v := l1) (f := 11) d_MText_primary_222 (by rw [(s_1).1]; exact q21) (by decide) rfl (by decide) (k8 175 rfl rfl) rfl rfl (fun _ => rfl) (fun _ => rfl) rfl ?_
        refine hp_gen (fun H30 eH30 => ?_)
        replace hG := bnd_s eH30 hG
        have s_2 : Sa H H30 := by rw [eH30]; exact s_1
        refine ab_aload_n d_MText_primary_225 rfl rfl rfl ?_
        obtain ⟨v32, H33, z31, hF⟩ := bC_s hG; clear hG
        refine hp_callV_v (H1 := H33) (As := []) (rest := []) d_MText_primary_226 (k_MText_opens z31) (ab_mkC s_MText_opens (show 3 + 1 ≤ fr + 3 from by have := ho.1; omega) (show 8 + (1 + 11) + 64 ≤ lo + 66 from by have := ho.2.1; omega) (Nat.le_refl 0) (Nat.le_refl 0)) (k11 78 rfl rfl) i_MText_opens v_MText_opens (by rw [(s_2).1]; exact q21) (by decide) rfl rfl (Nat.le_of_ble_eq_true rfl) ?_
        have s_3 : Sa H H33 := (s_2).tr (m_MText_opens z31)
        refine ab_aload_n d_MText_primary_229 rfl rfl rfl ?_
        obtain ⟨v35, H36, z34, hG⟩ := bC_s hF; clear hF
        refine hp_callV_a (v := .int v35) (H1 := H36) (As := []) (rest := []) d_MText_primary_230 (ho.2.2.1 _ _ _ z34) (ab_mkC s_MText_value (show fr + 1 ≤ fr + 3 from by have := ho.1; omega) (show 8 + (3 + 11) + lo ≤ lo + 66 from by have := ho.2.1; omega) (Nat.le_refl 0) (Nat.le_refl 0)) (k11 39 rfl rfl) i_MText_value v_MText_value (by rw [(s_3).1]; exact q21) (by decide) rfl rfl (Nat.le_of_ble_eq_true rfl) ?_
        have s_4 : Sa H H36 := (s_3).tr (hmo.1 _ _ _ z34)
        refine ab_istore_n (lv' := [some (.ref p0), some (.int l1), some (.int l2), some (.int v35), none]) d_MText_primary_233 rfl (by decide) rfl ?_
        refine ab_aload_n d_MText_primary_234 rfl rfl rfl ?_
        obtain ⟨v38, H39, z37, hF⟩ := bC_s hG; clear hG
        refine hp_callV_v (H1 := H39) (As := []) (rest := []) d_MText_primary_235 (k_MText_closes z37) (ab_mkC s_MText_closes (show 3 + 1 ≤ fr + 3 from by have := ho.1; omega) (show 8 + (1 + 11) + 64 ≤ lo + 66 from by have := ho.2.1; omega) (Nat.le_refl 0) (Nat.le_refl 0)) (k11 86 rfl rfl) i_MText_closes v_MText_closes (by rw [(s_4).1]; exact q21) (by decide) rfl rfl (Nat.le_of_ble_eq_true rfl) ?_
        have s_5 : Sa H H39 := (s_4).tr (m_MText_closes z37)
        refine ab_iload_n d_MText_primary_238 rfl rfl ?_
        exact ab_iret d_MText_primary_239 rfl (Nat.le_refl _) (Nat.le_refl _) (by have hr := Option.some.inj hF; subst hr; exact ⟨rfl, rfl⟩)
      rw [if_neg t29] at hG
      have ut29 : ¬ (40 : Int) = (l2).toInt := fun z => t29 (Int32.toInt_inj.mp (z.symm.trans (by decide)))
      by_cases t40 : l2 = 209
      · rw [if_pos t40] at hG
        refine ab_lookup (off := 177) (tgt := 258) d_MText_primary_81 (by decide) (by rw [t40]; decide) (by decide) ?_
        refine ab_aload_n d_MText_primary_258 rfl rfl rfl ?_
        refine ab_iconst (v := 2) d_MText_primary_259 (by decide) ?_
        obtain ⟨v42, H43, z41, hF⟩ := bC_s hG; clear hG
        refine hp_callV_v (H1 := H43) (As := [.int 2]) (rest := []) d_MText_primary_260 (k_MText_wantsIn ho hmo z41) (ab_mkC s_MText_wantsIn (show (fr + 2) + 1 ≤ fr + 3 from by have := ho.1; omega) (show 8 + (2 + 11) + (lo + 45) ≤ lo + 66 from by have := ho.2.1; omega) (Nat.le_refl 0) (Nat.le_refl 0)) (k11 90 rfl rfl) i_MText_wantsIn v_MText_wantsIn (by rw [(s_1).1]; exact q21) (by decide) rfl rfl (Nat.le_of_ble_eq_true rfl) ?_
        have s_6 : Sa H H43 := (s_1).tr (m_MText_wantsIn hmo z41)
        refine ab_iload_n d_MText_primary_263 rfl rfl ?_
        refine ab_sipush (v := 239) d_MText_primary_264 (by decide) ?_
        refine ab_icmp_ne (tgt := 274) d_MText_primary_267 (by decide) (fun q44 => ?_) (fun q44 => ?_)
        · rw [if_neg q44] at hF
          refine ab_iconst (v := 0) d_MText_primary_274 (by decide) ?_
          exact ab_iret d_MText_primary_275 rfl (Nat.le_refl _) (Nat.le_refl _) (by have hr := Option.some.inj hF; subst hr; exact ⟨rfl, rfl⟩)
        · rw [if_pos q44] at hF
          refine ab_iconst (v := 2) d_MText_primary_270 (by decide) ?_
          refine ab_goto (tgt := 275) d_MText_primary_271 (by decide) ?_
          exact ab_iret d_MText_primary_275 rfl (Nat.le_refl _) (Nat.le_refl _) (by have hr := Option.some.inj hF; subst hr; exact ⟨rfl, rfl⟩)
      rw [if_neg t40] at hG
      have ut40 : ¬ (209 : Int) = (l2).toInt := fun z => t40 (Int32.toInt_inj.mp (z.symm.trans (by decide)))
      by_cases t45 : l2 = 211
      · rw [if_pos t45] at hG
        refine ab_lookup (off := 159) (tgt := 240) d_MText_primary_81 (by decide) (by rw [t45]; decide) (by decide) ?_
        refine ab_aload_n d_MText_primary_240 rfl rfl rfl ?_
        refine ab_iconst (v := 0) d_MText_primary_241 (by decide) ?_
        obtain ⟨v47, H48, z46, hF⟩ := bC_s hG; clear hG
        refine hp_callV_v (H1 := H48) (As := [.int 0]) (rest := []) d_MText_primary_242 (k_MText_wantsIn ho hmo z46) (ab_mkC s_MText_wantsIn (show (fr + 2) + 1 ≤ fr + 3 from by have := ho.1; omega) (show 8 + (2 + 11) + (lo + 45) ≤ lo + 66 from by have := ho.2.1; omega) (Nat.le_refl 0) (Nat.le_refl 0)) (k11 90 rfl rfl) i_MText_wantsIn v_MText_wantsIn (by rw [(s_1).1]; exact q21) (by decide) rfl rfl (Nat.le_of_ble_eq_true rfl) ?_
        have s_7 : Sa H H48 := (s_1).tr (m_MText_wantsIn hmo z46)
        refine ab_iload_n d_MText_primary_245 rfl rfl ?_
        refine ab_sipush (v := 211) d_MText_primary_246 (by decide) ?_
        refine ab_icmp_ne (tgt := 256) d_MText_primary_249 (by decide) (fun q49 => ?_) (fun q49 => ?_)
        · rw [if_neg q49] at hF
          refine ab_iconst (v := 0) d_MText_primary_256 (by decide) ?_
          exact ab_iret d_MText_primary_257 rfl (Nat.le_refl _) (Nat.le_refl _) (by have hr := Option.some.inj hF; subst hr; exact ⟨rfl, rfl⟩)
        · rw [if_pos q49] at hF
          refine ab_iconst (v := 2) d_MText_primary_252 (by decide) ?_
          refine ab_goto (tgt := 257) d_MText_primary_253 (by decide) ?_
          exact ab_iret d_MText_primary_257 rfl (Nat.le_refl _) (Nat.le_refl _) (by have hr := Option.some.inj hF; subst hr; exact ⟨rfl, rfl⟩)
      rw [if_neg t45] at hG
      have ut45 : ¬ (211 : Int) = (l2).toInt := fun z => t45 (Int32.toInt_inj.mp (z.symm.trans (by decide)))
      by_cases t50 : l2 = 231
      · rw [if_pos t50] at hG
        refine ab_lookup (off := 135) (tgt := 216) d_MText_primary_81 (by decide) (by rw [t50]; decide) (by decide) ?_
        refine ab_iconst (v := 3) d_MText_primary_216 (by decide) ?_
        exact ab_iret d_MText_primary_217 rfl (Nat.le_refl _) (Nat.le_refl _) (by have hr := Option.some.inj hG; subst hr; exact ⟨rfl, rfl⟩)
      rw [if_neg t50] at hG
      have ut50 : ¬ (231 : Int) = (l2).toInt := fun z => t50 (Int32.toInt_inj.mp (z.symm.trans (by decide)))
      by_cases t51 : l2 = 232
      · rw [if_pos t51] at hG
        refine ab_lookup (off := 135) (tgt := 216) d_MText_primary_81 (by decide) (by rw [t51]; decide) (by decide) ?_
        refine ab_iconst (v := 3) d_MText_primary_216 (by decide) ?_
        exact ab_iret d_MText_primary_217 rfl (Nat.le_refl _) (Nat.le_refl _) (by have hr := Option.some.inj hG; subst hr; exact ⟨rfl, rfl⟩)
      rw [if_neg t51] at hG
      have ut51 : ¬ (232 : Int) = (l2).toInt := fun z => t51 (Int32.toInt_inj.mp (z.symm.trans (by decide)))
      by_cases t52 : l2 = 233
      · rw [if_pos t52] at hG
        refine ab_lookup (off := 137) (tgt := 218) d_MText_primary_81 (by decide) (by rw [t52]; decide) (by decide) ?_
        refine ab_iconst (v := 4) d_MText_primary_218 (by decide) ?_
        exact ab_iret d_MText_primary_219 rfl (Nat.le_refl _) (Nat.le_refl _) (by have hr := Option.some.inj hG; subst hr; exact ⟨rfl, rfl⟩)
      rw [if_neg t52] at hG
      have ut52 : ¬ (233 : Int) = (l2).toInt := fun z => t52 (Int32.toInt_inj.mp (z.symm.trans (by decide)))
      by_cases t53 : l2 = 234
      · rw [if_pos t53] at hG
        refine ab_lookup (off := 137) (tgt := 218) d_MText_primary_81 (by decide) (by rw [t53]; decide) (by decide) ?_
        refine ab_iconst (v := 4) d_MText_primary_218 (by decide) ?_
        exact ab_iret d_MText_primary_219 rfl (Nat.le_refl _) (Nat.le_refl _) (by have hr := Option.some.inj hG; subst hr; exact ⟨rfl, rfl⟩)
      rw [if_neg t53] at hG
      have ut53 : ¬ (234 : Int) = (l2).toInt := fun z => t53 (Int32.toInt_inj.mp (z.symm.trans (by decide)))
      by_cases t54 : l2 = 235
      · rw [if_pos t54] at hG
        refine ab_lookup (off := 131) (tgt := 212) d_MText_primary_81 (by decide) (by rw [t54]; decide) (by decide) ?_
        refine ab_iconst (v := 0) d_MText_primary_212 (by decide) ?_
        exact ab_iret d_MText_primary_213 rfl (Nat.le_refl _) (Nat.le_refl _) (by have hr := Option.some.inj hG; subst hr; exact ⟨rfl, rfl⟩)
      rw [if_neg t54] at hG
      have ut54 : ¬ (235 : Int) = (l2).toInt := fun z => t54 (Int32.toInt_inj.mp (z.symm.trans (by decide)))
      by_cases t55 : l2 = 236
      · rw [if_pos t55] at hG
        refine ab_lookup (off := 159) (tgt := 240) d_MText_primary_81 (by decide) (by rw [t55]; decide) (by decide) ?_
        refine ab_aload_n d_MText_primary_240 rfl rfl rfl ?_
        refine ab_iconst (v := 0) d_MText_primary_241 (by decide) ?_
        obtain ⟨v57, H58, z56, hF⟩ := bC_s hG; clear hG
        refine hp_callV_v (H1 := H58) (As := [.int 0]) (rest := []) d_MText_primary_242 (k_MText_wantsIn ho hmo z56) (ab_mkC s_MText_wantsIn (show (fr + 2) + 1 ≤ fr + 3 from by have := ho.1; omega) (show 8 + (2 + 11) + (lo + 45) ≤ lo + 66 from by have := ho.2.1; omega) (Nat.le_refl 0) (Nat.le_refl 0)) (k11 90 rfl rfl) i_MText_wantsIn v_MText_wantsIn (by rw [(s_1).1]; exact q21) (by decide) rfl rfl (Nat.le_of_ble_eq_true rfl) ?_
        have s_8 : Sa H H58 := (s_1).tr (m_MText_wantsIn hmo z56)
        refine ab_iload_n d_MText_primary_245 rfl rfl ?_
        refine ab_sipush (v := 211) d_MText_primary_246 (by decide) ?_
        refine ab_icmp_ne (tgt := 256) d_MText_primary_249 (by decide) (fun q59 => ?_) (fun q59 => ?_)
        · rw [if_neg q59] at hF
          refine ab_iconst (v := 0) d_MText_primary_256 (by decide) ?_
          exact ab_iret d_MText_primary_257 rfl (Nat.le_refl _) (Nat.le_refl _) (by have hr := Option.some.inj hF; subst hr; exact ⟨rfl, rfl⟩)
        · rw [if_pos q59] at hF
          refine ab_iconst (v := 2) d_MText_primary_252 (by decide) ?_
          refine ab_goto (tgt := 257) d_MText_primary_253 (by decide) ?_
          exact ab_iret d_MText_primary_257 rfl (Nat.le_refl _) (Nat.le_refl _) (by have hr := Option.some.inj hF; subst hr; exact ⟨rfl, rfl⟩)
      rw [if_neg t55] at hG
      have ut55 : ¬ (236 : Int) = (l2).toInt := fun z => t55 (Int32.toInt_inj.mp (z.symm.trans (by decide)))
      by_cases t60 : l2 = 237
      · rw [if_pos t60] at hG
        refine ab_lookup (off := 159) (tgt := 240) d_MText_primary_81 (by decide) (by rw [t60]; decide) (by decide) ?_
        refine ab_aload_n d_MText_primary_240 rfl rfl rfl ?_
        refine ab_iconst (v := 0) d_MText_primary_241 (by decide) ?_
        obtain ⟨v62, H63, z61, hF⟩ := bC_s hG; clear hG
        refine hp_callV_v (H1 := H63) (As := [.int 0]) (rest := []) d_MText_primary_242 (k_MText_wantsIn ho hmo z61) (ab_mkC s_MText_wantsIn (show (fr + 2) + 1 ≤ fr + 3 from by have := ho.1; omega) (show 8 + (2 + 11) + (lo + 45) ≤ lo + 66 from by have := ho.2.1; omega) (Nat.le_refl 0) (Nat.le_refl 0)) (k11 90 rfl rfl) i_MText_wantsIn v_MText_wantsIn (by rw [(s_1).1]; exact q21) (by decide) rfl rfl (Nat.le_of_ble_eq_true rfl) ?_
        have s_9 : Sa H H63 := (s_1).tr (m_MText_wantsIn hmo z61)
        refine ab_iload_n d_MText_primary_245 rfl rfl ?_
        refine ab_sipush (v := 211) d_MText_primary_246 (by decide) ?_
        refine ab_icmp_ne (tgt := 256) d_MText_primary_249 (by decide) (fun q64 => ?_) (fun q64 => ?_)
        · rw [if_neg q64] at hF
          refine ab_iconst (v := 0) d_MText_primary_256 (by decide) ?_
          exact ab_iret d_MText_primary_257 rfl (Nat.le_refl _) (Nat.le_refl _) (by have hr := Option.some.inj hF; subst hr; exact ⟨rfl, rfl⟩)
        · rw [if_pos q64] at hF
          refine ab_iconst (v := 2) d_MText_primary_252 (by decide) ?_
          refine ab_goto (tgt := 257) d_MText_primary_253 (by decide) ?_
          exact ab_iret d_MText_primary_257 rfl (Nat.le_refl _) (Nat.le_refl _) (by have hr := Option.some.inj hF; subst hr; exact ⟨rfl, rfl⟩)
      rw [if_neg t60] at hG
      have ut60 : ¬ (237 : Int) = (l2).toInt := fun z => t60 (Int32.toInt_inj.mp (z.symm.trans (by decide)))
      by_cases t65 : l2 = 238
      · rw [if_pos t65] at hG
        refine ab_lookup (off := 195) (tgt := 276) d_MText_primary_81 (by decide) (by rw [t65]; decide) (by decide) ?_
        refine ab_aload_n d_MText_primary_276 rfl rfl rfl ?_
        refine ab_iconst (v := 4) d_MText_primary_277 (by decide) ?_
        obtain ⟨v67, H68, z66, hF⟩ := bC_s hG; clear hG
        refine hp_callV_v (H1 := H68) (As := [.int 4]) (rest := []) d_MText_primary_278 (k_MText_wantsIn ho hmo z66) (ab_mkC s_MText_wantsIn (show (fr + 2) + 1 ≤ fr + 3 from by have := ho.1; omega) (show 8 + (2 + 11) + (lo + 45) ≤ lo + 66 from by have := ho.2.1; omega) (Nat.le_refl 0) (Nat.le_refl 0)) (k11 90 rfl rfl) i_MText_wantsIn v_MText_wantsIn (by rw [(s_1).1]; exact q21) (by decide) rfl rfl (Nat.le_of_ble_eq_true rfl) ?_
        have s_10 : Sa H H68 := (s_1).tr (m_MText_wantsIn hmo z66)
        refine ab_iconst (v := 3) d_MText_primary_281 (by decide) ?_
        exact ab_iret d_MText_primary_282 rfl (Nat.le_refl _) (Nat.le_refl _) (by have hr := Option.some.inj hF; subst hr; exact ⟨rfl, rfl⟩)
      rw [if_neg t65] at hG
      have ut65 : ¬ (238 : Int) = (l2).toInt := fun z => t65 (Int32.toInt_inj.mp (z.symm.trans (by decide)))
      by_cases t69 : l2 = 239
      · rw [if_pos t69] at hG
        refine ab_lookup (off := 177) (tgt := 258) d_MText_primary_81 (by decide) (by rw [t69]; decide) (by decide) ?_
        refine ab_aload_n d_MText_primary_258 rfl rfl rfl ?_
        refine ab_iconst (v := 2) d_MText_primary_259 (by decide) ?_
        obtain ⟨v71, H72, z70, hF⟩ := bC_s hG; clear hG
        refine hp_callV_v (H1 := H72) (As := [.int 2]) (rest := []) d_MText_primary_260 (k_MText_wantsIn ho hmo z70) (ab_mkC s_MText_wantsIn (show (fr + 2) + 1 ≤ fr + 3 from by have := ho.1; omega) (show 8 + (2 + 11) + (lo + 45) ≤ lo + 66 from by have := ho.2.1; omega) (Nat.le_refl 0) (Nat.le_refl 0)) (k11 90 rfl rfl) i_MText_wantsIn v_MText_wantsIn (by rw [(s_1).1]; exact q21) (by decide) rfl rfl (Nat.le_of_ble_eq_true rfl) ?_
        have s_11 : Sa H H72 := (s_1).tr (m_MText_wantsIn hmo z70)
        refine ab_iload_n d_MText_primary_263 rfl rfl ?_
        refine ab_sipush (v := 239) d_MText_primary_264 (by decide) ?_
        refine ab_icmp_ne (tgt := 274) d_MText_primary_267 (by decide) (fun q73 => ?_) (fun q73 => ?_)
        · rw [if_neg q73] at hF
          refine ab_iconst (v := 0) d_MText_primary_274 (by decide) ?_
          exact ab_iret d_MText_primary_275 rfl (Nat.le_refl _) (Nat.le_refl _) (by have hr := Option.some.inj hF; subst hr; exact ⟨rfl, rfl⟩)
        · rw [if_pos q73] at hF
          refine ab_iconst (v := 2) d_MText_primary_270 (by decide) ?_
          refine ab_goto (tgt := 275) d_MText_primary_271 (by decide) ?_
          exact ab_iret d_MText_primary_275 rfl (Nat.le_refl _) (Nat.le_refl _) (by have hr := Option.some.inj hF; subst hr; exact ⟨rfl, rfl⟩)
      rw [if_neg t69] at hG
      have ut69 : ¬ (239 : Int) = (l2).toInt := fun z => t69 (Int32.toInt_inj.mp (z.symm.trans (by decide)))
      by_cases t74 : l2 = 240
      · rw [if_pos t74] at hG
        refine ab_lookup (off := 202) (tgt := 283) d_MText_primary_81 (by decide) (by rw [t74]; decide) (by decide) ?_
        refine ab_aload_n d_MText_primary_283 rfl rfl rfl ?_
        obtain ⟨v76, H77, z75, hF⟩ := bC_s hG; clear hG
        refine hp_callV_v (H1 := H77) (As := []) (rest := []) d_MText_primary_284 (k_MText_opens z75) (ab_mkC s_MText_opens (show 3 + 1 ≤ fr + 3 from by have := ho.1; omega) (show 8 + (1 + 11) + 64 ≤ lo + 66 from by have := ho.2.1; omega) (Nat.le_refl 0) (Nat.le_refl 0)) (k11 78 rfl rfl) i_MText_opens v_MText_opens (by rw [(s_1).1]; exact q21) (by decide) rfl rfl (Nat.le_of_ble_eq_true rfl) ?_
        have s_12 : Sa H H77 := (s_1).tr (m_MText_opens z75)
        refine ab_aload_n d_MText_primary_287 rfl rfl rfl ?_
        refine ab_iconst (v := 4) d_MText_primary_288 (by decide) ?_
        obtain ⟨v79, H80, z78, hG⟩ := bC_s hF; clear hF
        refine hp_callV_v (H1 := H80) (As := [.int 4]) (rest := []) d_MText_primary_289 (k_MText_wants ho hmo z78) (ab_mkC s_MText_wants (show (fr + 1) + 1 ≤ fr + 3 from by have := ho.1; omega) (show 8 + (4 + 11) + (lo + 22) ≤ lo + 66 from by have := ho.2.1; omega) (Nat.le_refl 0) (Nat.le_refl 0)) (k11 35 rfl rfl) i_MText_wants v_MText_wants (by rw [(s_12).1]; exact q21) (by decide) rfl rfl (Nat.le_of_ble_eq_true rfl) ?_
        have s_13 : Sa H H80 := (s_12).tr (m_MText_wants hmo z78)
        refine ab_aload_n d_MText_primary_292 rfl rfl rfl ?_
        refine ab_bipush (v := 44) d_MText_primary_293 (by decide) ?_
        obtain ⟨v82, H83, z81, hF⟩ := bC_s hG; clear hG
        refine hp_callV_v (H1 := H83) (As := [.int 44]) (rest := []) d_MText_primary_295 (k_MText_takes z81) (ab_mkC s_MText_takes (show 2 + 1 ≤ fr + 3 from by have := ho.1; omega) (show 8 + (2 + 11) + 43 ≤ lo + 66 from by have := ho.2.1; omega) (Nat.le_refl 0) (Nat.le_refl 0)) (k10 172 rfl rfl) i_MText_takes v_MText_takes (by rw [(s_13).1]; exact q21) (by decide) rfl rfl (Nat.le_of_ble_eq_true rfl) ?_
        have s_14 : Sa H H83 := (s_13).tr (m_MText_takes z81)
        refine ab_aload_n d_MText_primary_298 rfl rfl rfl ?_
        refine ab_aload_n d_MText_primary_299 rfl rfl rfl ?_
        obtain ⟨v85, H86, z84, hG⟩ := bC_s hF; clear hF
        refine hp_callV_a (v := .int v85) (H1 := H86) (As := []) (rest := [.ref p0]) d_MText_primary_300 (k_MText_name z84) (ab_mkC s_MText_name (show 3 + 1 ≤ fr + 3 from by have := ho.1; omega) (show 8 + (2 + 11) + 64 ≤ lo + 66 from by have := ho.2.1; omega) (Nat.le_refl 0) (Nat.le_refl 0)) (k10 168 rfl rfl) i_MText_name v_MText_name (by rw [(s_14).1]; exact q21) (by decide) rfl rfl (Nat.le_of_ble_eq_true rfl) ?_
        have s_15 : Sa H H86 := (s_14).tr (m_MText_name z84)
        refine ab_iconst (v := 2) d_MText_primary_303 (by decide) ?_
        obtain ⟨v88, H89, z87, hF⟩ := bC_s hG; clear hG
        refine hp_callV_a (v := .int v88) (H1 := H89) (As := [.int v85, .int 2]) (rest := []) d_MText_primary_304 (k_MText_numberOf z87) (ab_mkC s_MText_numberOf (show 3 + 1 ≤ fr + 3 from by have := ho.1; omega) (show 8 + (4 + 11) + 69 ≤ lo + 66 from by have := ho.2.1; omega) (Nat.le_refl 0) (Nat.le_refl 0)) (k10 225 rfl rfl) i_MText_numberOf v_MText_numberOf (by rw [(s_15).1]; exact q21) (by decide) rfl rfl (Nat.le_of_ble_eq_true rfl) ?_
        have s_16 : Sa H H89 := (s_15).tr (m_MText_numberOf z87)
        refine ab_istore (lv' := [some (.ref p0), some (.int l1), some (.int l2), none, some (.int v88)]) d_MText_primary_307 (by decide) rfl ?_
        refine ab_aload_n d_MText_primary_309 rfl rfl rfl ?_
        obtain ⟨v91, H92, z90, hG⟩ := bC_s hF; clear hF
        refine hp_callV_v (H1 := H92) (As := []) (rest := []) d_MText_primary_310 (k_MText_closes z90) (ab_mkC s_MText_closes (show 3 + 1 ≤ fr + 3 from by have := ho.1; omega) (show 8 + (1 + 11) + 64 ≤ lo + 66 from by have := ho.2.1; omega) (Nat.le_refl 0) (Nat.le_refl 0)) (k11 86 rfl rfl) i_MText_closes v_MText_closes (by rw [(s_16).1]; exact q21) (by decide) rfl rfl (Nat.le_of_ble_eq_true rfl) ?_
        have s_17 : Sa H H92 := (s_16).tr (m_MText_closes z90)
        refine ab_iconst (v := 3) d_MText_primary_313 (by decide) ?_
        exact ab_iret d_MText_primary_314 rfl (Nat.le_refl _) (Nat.le_refl _) (by have hr := Option.some.inj hG; subst hr; exact ⟨rfl, rfl⟩)
      rw [if_neg t74] at hG
      have ut74 : ¬ (240 : Int) = (l2).toInt := fun z => t74 (Int32.toInt_inj.mp (z.symm.trans (by decide)))
      refine ab_lookup (off := 234) (tgt := 315) d_MText_primary_81 (by decide) (by simp [Op.lookupswitch.offset, ut27, ut28, ut29, ut40, ut45, ut50, ut51, ut52, ut53, ut54, ut55, ut60, ut65, ut69, ut74]) (by decide) ?_
      refine ab_aload_n d_MText_primary_315 rfl rfl rfl ?_
      refine ab_iload_n d_MText_primary_316 rfl rfl ?_
      refine hp_putI (v := l1) (f := 11) d_MText_primary_317 (by rw [(s_1).1]; exact q21) (by decide) rfl (by decide) (k8 175 rfl rfl) rfl rfl (fun _ => rfl) (fun _ => rfl) rfl ?_
      refine hp_gen (fun H93 eH93 => ?_)
      replace hG := bnd_s eH93 hG
      have s_18 : Sa H H93 := by rw [eH93]; exact s_1
      refine ab_aload_n d_MText_primary_320 rfl rfl rfl ?_
      refine ab_iconst (v := 1) d_MText_primary_321 (by decide) ?_
      refine ab_iload_n d_MText_primary_322 rfl rfl ?_
      obtain ⟨v95, H96, z94, hF⟩ := bC_s hG; clear hG
      refine hp_callV_v (H1 := H96) (As := [.int 1, .int l1]) (rest := []) d_MText_primary_323 (k_MText_fails z94) (ab_mkC s_MText_fails (show 0 + 1 ≤ fr + 3 from by have := ho.1; omega) (show 8 + (3 + 11) + 0 ≤ lo + 66 from by have := ho.2.1; omega) (Nat.le_refl 0) (Nat.le_refl 0)) (k10 160 rfl rfl) i_MText_fails v_MText_fails (by rw [(s_18).1]; exact q21) (by decide) rfl rfl (Nat.le_of_ble_eq_true rfl) ?_
      have s_19 : Sa H H96 := (s_18).tr (m_MText_fails z94)
      refine ab_iconst (v := 0) d_MText_primary_326 (by decide) ?_
      exact ab_iret d_MText_primary_327 rfl (Nat.le_refl _) (Nat.le_refl _) (by have hr := Option.some.inj hF; subst hr; exact ⟨rfl, rfl⟩)
    · rw [if_pos q24] at hG
      refine ab_aload_n d_MText_primary_65 rfl rfl rfl ?_
      obtain ⟨v98, H99, z97, hF⟩ := bC_s hG; clear hG
      refine hp_callV_a (v := .int v98) (H1 := H99) (As := []) (rest := []) d_MText_primary_66 (k_MText_named z97) (ab_mkC s_MText_named (show 5 + 1 ≤ fr + 3 from by have := ho.1; omega) (show 8 + (9 + 11) + 108 ≤ lo + 66 from by have := ho.2.1; omega) (Nat.le_refl 0) (Nat.le_refl 0)) (k11 67 rfl rfl) i_MText_named v_MText_named q21 (by decide) rfl rfl (Nat.le_of_ble_eq_true rfl) ?_
      have s_20 : Sa H H99 := (m_MText_named z97)
      exact ab_iret d_MText_primary_69 rfl (Nat.le_refl _) (Nat.le_refl _) (by have hr := Option.some.inj hF; subst hr; exact ⟨rfl, rfl⟩)
  · rw [if_neg q23] at hG
    refine ab_iconst (v := 0) d_MText_primary_58 (by decide) ?_
    exact ab_iret d_MText_primary_59 rfl (Nat.le_refl _) (Nat.le_refl _) (by have hr := Option.some.inj hG; subst hr; exact ⟨rfl, rfl⟩)
def B_MText_primary_36 (N : Nat) (o : Orc_TextE) (p0 : Nat) (l1 : Int32) (l2 : Int32) (H : Hp) : Option (Int32 × Hp) :=
    ck (H.sh[p0]? = some (14, 0)) <|
    rf (H.P p0 7) fun a14 =>
    ar H 102 a14 fun n16 =>
    ck (inb l1 n16) <|
    bnd ((H.D a14 (l1).toNatClampNeg)) fun x19 =>
    if x19 = (0 : Int32) then
    B_MText_primary_51 N o p0 l1 l2 H
    else
    bC (F_MText_fails N p0 (2 : Int32) l1 H) fun v180 H181 =>
    B_MText_primary_51 N o p0 l1 l2 H181
set_option maxRecDepth 20000 in
set_option maxHeartbeats 2000000 in
theorem mB_MText_primary_36 {N : Nat} {o : Orc_TextE} (hmo : mo_TextE o) {p0 : Nat} {l1 : Int32} {l2 : Int32} {H : Hp} {r : Int32 × Hp} (hF : B_MText_primary_36 N o p0 l1 l2 H = some r) : Sa H r.2 := by
  unfold B_MText_primary_36 at hF
  have hm := Sa.rf H
  obtain ⟨q182, hG⟩ := ck_s hF; clear hF
  obtain ⟨a183, e184, hF⟩ := rf_s hG; clear hG
  obtain ⟨n185, q186, hG⟩ := ar_s hF; clear hF
  obtain ⟨q187, hF⟩ := ck_s hG; clear hG
  obtain ⟨x188, -, hG⟩ := bnd_g hF; clear hF
  rcases ite_s hG with ⟨q_64, hF⟩ | ⟨q_64, hF⟩
  · clear hG
    exact hm.tr (mB_MText_primary_51 hmo hF)
  · clear hG
    obtain ⟨v191, H192, z190, hG⟩ := bC_s hF; clear hF
    replace hm : Sa H H192 := hm.tr (m_MText_fails z190)
    exact hm.tr (mB_MText_primary_51 hmo hG)
set_option maxRecDepth 20000 in
set_option maxHeartbeats 2000000 in
theorem kB_MText_primary_36 {N : Nat} {o : Orc_TextE} {fr lo : Nat} (ho : ok_TextE o fr lo) (hmo : mo_TextE o) {p0 : Nat} {l1 : Int32} {l2 : Int32} {H : Hp} {r : Int32 × Hp} (hF : B_MText_primary_36 N o p0 l1 l2 H = some r) : ab_V y_MText_primary { frames := fr + 3, cells := 0, slots := 0, locals := lo + 66 } (po (.returned (some (.int r.1))) r.2) 0 0 0 0 36 [some (.ref p0), some (.int l1), some (.int l2), none, none] [] (hpw H) := by
  unfold B_MText_primary_36 at hF
  refine ab_aload_n d_MText_primary_36 rfl rfl rfl ?_
  obtain ⟨q13, hG⟩ := ck_s hF; clear hF
  obtain ⟨a14, e15, hF⟩ := rf_s hG; clear hG
  refine hp_getR (f := 7) d_MText_primary_37 q13 (by decide) rfl (by decide) (k8 168 rfl rfl) rfl e15 ?_
  refine ab_iload_n d_MText_primary_40 rfl rfl ?_
  obtain ⟨n16, q17, hG⟩ := ar_s hF; clear hF
  obtain ⟨q18, hF⟩ := ck_s hG; clear hG
  refine hp_zald d_MText_primary_41 tZ q17 q18 ?_
  refine ab_topi (fun x19 ex19 => ?_)
  replace hF := bnd_s ex19 hF
  refine ab_if_eq (tgt := 51) d_MText_primary_42 (by decide) (fun q20 => ?_) (fun q20 => ?_)
  · rw [if_pos q20] at hF
    exact kB_MText_primary_51 ho hmo hF
  · rw [if_neg q20] at hF
    refine ab_aload_n d_MText_primary_45 rfl rfl rfl ?_
    refine ab_iconst (v := 2) d_MText_primary_46 (by decide) ?_
    refine ab_iload_n d_MText_primary_47 rfl rfl ?_
    obtain ⟨v180, H181, z179, hG⟩ := bC_s hF; clear hF
    refine hp_callV_v (H1 := H181) (As := [.int 2, .int l1]) (rest := []) d_MText_primary_48 (k_MText_fails z179) (ab_mkC s_MText_fails (show 0 + 1 ≤ fr + 3 from by have := ho.1; omega) (show 8 + (3 + 11) + 0 ≤ lo + 66 from by have := ho.2.1; omega) (Nat.le_refl 0) (Nat.le_refl 0)) (k10 160 rfl rfl) i_MText_fails v_MText_fails q13 (by decide) rfl rfl (Nat.le_of_ble_eq_true rfl) ?_
    have s_63 : Sa H H181 := (m_MText_fails z179)
    exact kB_MText_primary_51 ho hmo hG
def B_MText_primary_25 (N : Nat) (o : Orc_TextE) (p0 : Nat) (l1 : Int32) (w0 : Int32) (H : Hp) : Option (Int32 × Hp) :=
    if w0 = (2 : Int32) then
    B_MText_primary_36 N o p0 l1 w0 H
    else
    if w0 = (3 : Int32) then
    B_MText_primary_36 N o p0 l1 w0 H
    else
    B_MText_primary_51 N o p0 l1 w0 H
set_option maxRecDepth 20000 in
set_option maxHeartbeats 2000000 in
theorem mB_MText_primary_25 {N : Nat} {o : Orc_TextE} (hmo : mo_TextE o) {p0 : Nat} {l1 : Int32} {w0 : Int32} {H : Hp} {r : Int32 × Hp} (hF : B_MText_primary_25 N o p0 l1 w0 H = some r) : Sa H r.2 := by
  unfold B_MText_primary_25 at hF
  have hm := Sa.rf H
  rcases ite_s hF with ⟨q_66, hG⟩ | ⟨q_66, hG⟩
  · clear hF
    exact hm.tr (mB_MText_primary_36 hmo hG)
  · clear hF
    rcases ite_s hG with ⟨q_67, hF⟩ | ⟨q_67, hF⟩
    · clear hG
      exact hm.tr (mB_MText_primary_36 hmo hF)
    · clear hG
      exact hm.tr (mB_MText_primary_51 hmo hF)
set_option maxRecDepth 20000 in
set_option maxHeartbeats 2000000 in
theorem kB_MText_primary_25 {N : Nat} {o : Orc_TextE} {fr lo : Nat} (ho : ok_TextE o fr lo) (hmo : mo_TextE o) {p0 : Nat} {l1 : Int32} {w0 : Int32} {H : Hp} {r : Int32 × Hp} (hF : B_MText_primary_25 N o p0 l1 w0 H = some r) : ab_V y_MText_primary { frames := fr + 3, cells := 0, slots := 0, locals := lo + 66 } (po (.returned (some (.int r.1))) r.2) 0 0 0 0 25 [some (.ref p0), some (.int l1), none, none, none] [.int w0] (hpw H) := by
  unfold B_MText_primary_25 at hF
  refine ab_istore_n (lv' := [some (.ref p0), some (.int l1), some (.int w0), none, none]) d_MText_primary_25 rfl (by decide) rfl ?_
  refine ab_iload_n d_MText_primary_26 rfl rfl ?_
  refine ab_iconst (v := 2) d_MText_primary_27 (by decide) ?_
  refine ab_icmp_eq (tgt := 36) d_MText_primary_28 (by decide) (fun q12 => ?_) (fun q12 => ?_)
  · rw [if_pos q12] at hF
    exact kB_MText_primary_36 ho hmo hF
  · rw [if_neg q12] at hF
    refine ab_iload_n d_MText_primary_31 rfl rfl ?_
    refine ab_iconst (v := 3) d_MText_primary_32 (by decide) ?_
    refine ab_icmp_ne (tgt := 51) d_MText_primary_33 (by decide) (fun q193 => ?_) (fun q193 => ?_)
    · rw [if_neg q193] at hF
      exact kB_MText_primary_51 ho hmo hF
    · rw [if_pos q193] at hF
      exact kB_MText_primary_36 ho hmo hF
def F_MText_primary (N : Nat) (o : Orc_TextE) (p0 : Nat) (H : Hp) : Option (Int32 × Hp) :=
    ck (H.sh[p0]? = some (14, 0)) <|
    bnd ((H.D p0 11)) fun x2 =>
    bnd ((H.D p0 9)) fun x3 =>
    if x3 ≤ (0 : Int32) then
    rf (H.P p0 3) fun a5 =>
    bnd ((H.D p0 11)) fun x7 =>
    ar H 100 a5 fun n8 =>
    ck (inb x7 n8) <|
    bnd ((H.D a5 (x7).toNatClampNeg)) fun x11 =>
    B_MText_primary_25 N o p0 x2 x11 H
    else
    B_MText_primary_25 N o p0 x2 0 H
set_option maxRecDepth 20000 in
set_option maxHeartbeats 2000000 in
theorem m_MText_primary {N : Nat} {o : Orc_TextE} (hmo : mo_TextE o) {p0 : Nat} {H : Hp} {r : Int32 × Hp} (hF : F_MText_primary N o p0 H = some r) : Sa H r.2 := by
  unfold F_MText_primary at hF
  have hm := Sa.rf H
  obtain ⟨q196, hG⟩ := ck_s hF; clear hF
  obtain ⟨x197, -, hF⟩ := bnd_g hG; clear hG
  obtain ⟨x198, -, hG⟩ := bnd_g hF; clear hF
  rcases ite_s hG with ⟨q_68, hF⟩ | ⟨q_68, hF⟩
  · clear hG
    obtain ⟨a200, e201, hG⟩ := rf_s hF; clear hF
    obtain ⟨x202, -, hF⟩ := bnd_g hG; clear hG
    obtain ⟨n203, q204, hG⟩ := ar_s hF; clear hF
    obtain ⟨q205, hF⟩ := ck_s hG; clear hG
    obtain ⟨x206, -, hG⟩ := bnd_g hF; clear hF
    exact hm.tr (mB_MText_primary_25 hmo hG)
  · clear hG
    exact hm.tr (mB_MText_primary_25 hmo hF)
set_option maxRecDepth 20000 in
set_option maxHeartbeats 2000000 in
theorem k_MText_primary {N : Nat} {o : Orc_TextE} {fr lo : Nat} (ho : ok_TextE o fr lo) (hmo : mo_TextE o) {p0 : Nat} {H : Hp} {r : Int32 × Hp} (hF : F_MText_primary N o p0 H = some r) : ab_M y_MText_primary { frames := fr + 3, cells := 0, slots := 0, locals := lo + 66 } [.ref p0] (hpw H) (po (.returned (some (.int r.1))) r.2) := by
  unfold F_MText_primary at hF
  refine ab_of2 (lv := [some (.ref p0), none, none, none, none]) 4 rfl rfl (Nat.le_of_ble_eq_true rfl) ?_
  refine ab_aload_n d_MText_primary_0 rfl rfl rfl ?_
  obtain ⟨q1, hG⟩ := ck_s hF; clear hF
  refine hp_getI (f := 11) d_MText_primary_1 q1 (by decide) rfl (by decide) (k8 175 rfl rfl) rfl ?_
  refine ab_topi (fun x2 ex2 => ?_)
  replace hG := bnd_s ex2 hG
  refine ab_istore_n (lv' := [some (.ref p0), some (.int x2), none, none, none]) d_MText_primary_4 rfl (by decide) rfl ?_
  refine ab_aload_n d_MText_primary_5 rfl rfl rfl ?_
  refine hp_getI (f := 9) d_MText_primary_6 q1 (by decide) rfl (by decide) (k8 172 rfl rfl) rfl ?_
  refine ab_topi (fun x3 ex3 => ?_)
  replace hG := bnd_s ex3 hG
  refine ab_if_le (tgt := 16) d_MText_primary_9 (by decide) (fun q4 => ?_) (fun q4 => ?_)
  · rw [if_pos q4] at hG
    refine ab_aload_n d_MText_primary_16 rfl rfl rfl ?_
    obtain ⟨a5, e6, hF⟩ := rf_s hG; clear hG
    refine hp_getR (f := 3) d_MText_primary_17 q1 (by decide) rfl (by decide) (k8 162 rfl rfl) rfl e6 ?_
    refine ab_aload_n d_MText_primary_20 rfl rfl rfl ?_
    refine hp_getI (f := 11) d_MText_primary_21 q1 (by decide) rfl (by decide) (k8 175 rfl rfl) rfl ?_
    refine ab_topi (fun x7 ex7 => ?_)
    replace hF := bnd_s ex7 hF
    obtain ⟨n8, q9, hG⟩ := ar_s hF; clear hF
    obtain ⟨q10, hF⟩ := ck_s hG; clear hG
    refine hp_iald d_MText_primary_24 tI q9 q10 ?_
    refine ab_topi (fun x11 ex11 => ?_)
    replace hF := bnd_s ex11 hF
    exact kB_MText_primary_25 ho hmo hF
  · rw [if_neg q4] at hG
    refine ab_iconst (v := 0) d_MText_primary_12 (by decide) ?_
    refine ab_goto (tgt := 25) d_MText_primary_13 (by decide) ?_
    exact kB_MText_primary_25 ho hmo hG
def B_MText_unary_96 (N : Nat) (o : Orc_TextE) (p0 : Nat) (l1 : Int32) (l2 : Int32) (H : Hp) : Option (Int32 × Hp) :=
    ck (H.sh[p0]? = some (14, 0)) <|
    rf (H.P p0 8) fun a21 =>
    ar H 100 a21 fun n23 =>
    ck (inb l1 n23) <|
    bnd (H.sD a21 (l1).toNatClampNeg l2) fun H26 =>
    some (l2, H26)
set_option maxRecDepth 20000 in
set_option maxHeartbeats 2000000 in
theorem mB_MText_unary_96 {N : Nat} {o : Orc_TextE} (hmo : mo_TextE o) {p0 : Nat} {l1 : Int32} {l2 : Int32} {H : Hp} {r : Int32 × Hp} (hF : B_MText_unary_96 N o p0 l1 l2 H = some r) : Sa H r.2 := by
  unfold B_MText_unary_96 at hF
  have hm := Sa.rf H
  obtain ⟨q27, hG⟩ := ck_s hF; clear hF
  obtain ⟨a28, e29, hF⟩ := rf_s hG; clear hG
  obtain ⟨n30, q31, hG⟩ := ar_s hF; clear hF
  obtain ⟨q32, hF⟩ := ck_s hG; clear hG
  obtain ⟨H33, eH33, hG⟩ := bnd_g hF; clear hF
  replace hm : Sa H H33 := by rw [eH33]; exact hm
  have hr := Option.some.inj hG; subst hr
  exact hm
set_option maxRecDepth 20000 in
set_option maxHeartbeats 2000000 in
theorem kB_MText_unary_96 {N : Nat} {o : Orc_TextE} {fr lo : Nat} (ho : ok_TextE o fr lo) (hmo : mo_TextE o) {p0 : Nat} {l1 : Int32} {l2 : Int32} {H : Hp} {r : Int32 × Hp} (hF : B_MText_unary_96 N o p0 l1 l2 H = some r) : ab_V y_MText_unary { frames := fr + 5, cells := 0, slots := 0, locals := lo + 114 } (po (.returned (some (.int r.1))) r.2) 0 0 0 0 96 [some (.ref p0), some (.int l1), some (.int l2)] [] (hpw H) := by
  unfold B_MText_unary_96 at hF
  refine ab_aload_n d_MText_unary_96 rfl rfl rfl ?_
  obtain ⟨q20, hG⟩ := ck_s hF; clear hF
  obtain ⟨a21, e22, hF⟩ := rf_s hG; clear hG
  refine hp_getR (f := 8) d_MText_unary_97 q20 (by decide) rfl (by decide) (k8 169 rfl rfl) rfl e22 ?_
  refine ab_iload_n d_MText_unary_100 rfl rfl ?_
  refine ab_iload_n d_MText_unary_101 rfl rfl ?_
  obtain ⟨n23, q24, hG⟩ := ar_s hF; clear hF
  obtain ⟨q25, hF⟩ := ck_s hG; clear hG
  refine hp_iast d_MText_unary_102 tI q24 q25 ?_
  refine hp_gen (fun H26 eH26 => ?_)
  replace hF := bnd_s eH26 hF
  have s_6 : Sa H H26 := by rw [eH26]; exact Sa.rf _
  refine ab_iload_n d_MText_unary_103 rfl rfl ?_
  exact ab_iret d_MText_unary_104 rfl (Nat.le_refl _) (Nat.le_refl _) (by have hr := Option.some.inj hF; subst hr; exact ⟨rfl, rfl⟩)
def B_MText_unary_90 (N : Nat) (o : Orc_TextE) (p0 : Nat) (l1 : Int32) (l2 : Int32) (H : Hp) : Option (Int32 × Hp) :=
    ck (H.sh[p0]? = some (14, 0)) <|
    bC (F_MText_fails N p0 (5 : Int32) l1 H) fun v47 H48 =>
    B_MText_unary_96 N o p0 l1 l2 H48
set_option maxRecDepth 20000 in
set_option maxHeartbeats 2000000 in
theorem mB_MText_unary_90 {N : Nat} {o : Orc_TextE} (hmo : mo_TextE o) {p0 : Nat} {l1 : Int32} {l2 : Int32} {H : Hp} {r : Int32 × Hp} (hF : B_MText_unary_90 N o p0 l1 l2 H = some r) : Sa H r.2 := by
  unfold B_MText_unary_90 at hF
  have hm := Sa.rf H
  obtain ⟨q49, hG⟩ := ck_s hF; clear hF
  obtain ⟨v51, H52, z50, hF⟩ := bC_s hG; clear hG
  replace hm : Sa H H52 := hm.tr (m_MText_fails z50)
  exact hm.tr (mB_MText_unary_96 hmo hF)
set_option maxRecDepth 20000 in
set_option maxHeartbeats 2000000 in
theorem kB_MText_unary_90 {N : Nat} {o : Orc_TextE} {fr lo : Nat} (ho : ok_TextE o fr lo) (hmo : mo_TextE o) {p0 : Nat} {l1 : Int32} {l2 : Int32} {H : Hp} {r : Int32 × Hp} (hF : B_MText_unary_90 N o p0 l1 l2 H = some r) : ab_V y_MText_unary { frames := fr + 5, cells := 0, slots := 0, locals := lo + 114 } (po (.returned (some (.int r.1))) r.2) 0 0 0 0 90 [some (.ref p0), some (.int l1), some (.int l2)] [] (hpw H) := by
  unfold B_MText_unary_90 at hF
  refine ab_aload_n d_MText_unary_90 rfl rfl rfl ?_
  refine ab_iconst (v := 5) d_MText_unary_91 (by decide) ?_
  refine ab_iload_n d_MText_unary_92 rfl rfl ?_
  obtain ⟨q45, hG⟩ := ck_s hF; clear hF
  obtain ⟨v47, H48, z46, hF⟩ := bC_s hG; clear hG
  refine hp_callV_v (H1 := H48) (As := [.int 5, .int l1]) (rest := []) d_MText_unary_93 (k_MText_fails z46) (ab_mkC s_MText_fails (show 0 + 1 ≤ fr + 5 from by have := ho.1; omega) (show 8 + (3 + 11) + 0 ≤ lo + 114 from by have := ho.2.1; omega) (Nat.le_refl 0) (Nat.le_refl 0)) (k10 160 rfl rfl) i_MText_fails v_MText_fails q45 (by decide) rfl rfl (Nat.le_of_ble_eq_true rfl) ?_
  have s_9 : Sa H H48 := (m_MText_fails z46)
  exact kB_MText_unary_96 ho hmo hF
def B_MText_unary_23 (N : Nat) (o : Orc_TextE) (p0 : Nat)  (H : Hp) : Option (Int32 × Hp) :=
    ck (H.sh[p0]? = some (14, 0)) <|
    bnd ((H.D p0 11)) fun x7 =>
    bC (F_MText_deeper N p0 H) fun v9 H10 =>
    bnd ((H10.D p0 11)) fun x11 =>
    bnd (H10.sD p0 11 (x11 + (1 : Int32))) fun H12 =>
    bC (o.2 p0 H12) fun v14 H15 =>
    bnd ((H15.D p0 41)) fun x16 =>
    bnd (H15.sD p0 41 (x16 - (1 : Int32))) fun H17 =>
    bnd ((H17.D p0 9)) fun x18 =>
    if x18 = (0 : Int32) then
    rf (H17.P p0 3) fun a34 =>
    ar H17 100 a34 fun n36 =>
    ck (inb x7 n36) <|
    bnd ((H17.D a34 (x7).toNatClampNeg)) fun x39 =>
    if x39 = (33 : Int32) then
    if v14 = (3 : Int32) then
    B_MText_unary_96 N o p0 x7 v14 H17
    else
    B_MText_unary_90 N o p0 x7 v14 H17
    else
    bC (F_MText_reckons N v14 H17) fun v42 H43 =>
    if v42 = (0 : Int32) then
    B_MText_unary_90 N o p0 x7 v14 H43
    else
    B_MText_unary_96 N o p0 x7 v14 H43
    else
    B_MText_unary_96 N o p0 x7 v14 H17
set_option maxRecDepth 20000 in
set_option maxHeartbeats 2000000 in
theorem mB_MText_unary_23 {N : Nat} {o : Orc_TextE} (hmo : mo_TextE o) {p0 : Nat}  {H : Hp} {r : Int32 × Hp} (hF : B_MText_unary_23 N o p0  H = some r) : Sa H r.2 := by
  unfold B_MText_unary_23 at hF
  have hm := Sa.rf H
  obtain ⟨q54, hG⟩ := ck_s hF; clear hF
  obtain ⟨x55, -, hF⟩ := bnd_g hG; clear hG
  obtain ⟨v57, H58, z56, hG⟩ := bC_s hF; clear hF
  replace hm : Sa H H58 := hm.tr (m_MText_deeper z56)
  obtain ⟨x59, -, hF⟩ := bnd_g hG; clear hG
  obtain ⟨H60, eH60, hG⟩ := bnd_g hF; clear hF
  replace hm : Sa H H60 := by rw [eH60]; exact hm
  obtain ⟨v62, H63, z61, hF⟩ := bC_s hG; clear hG
  replace hm : Sa H H63 := hm.tr (hmo.2 _ _ _ z61)
  obtain ⟨x64, -, hG⟩ := bnd_g hF; clear hF
  obtain ⟨H65, eH65, hF⟩ := bnd_g hG; clear hG
  replace hm : Sa H H65 := by rw [eH65]; exact hm
  obtain ⟨x66, -, hG⟩ := bnd_g hF; clear hF
  rcases ite_s hG with ⟨q_15, hF⟩ | ⟨q_15, hF⟩
  · clear hG
    obtain ⟨a68, e69, hG⟩ := rf_s hF; clear hF
    obtain ⟨n70, q71, hF⟩ := ar_s hG; clear hG
    obtain ⟨q72, hG⟩ := ck_s hF; clear hF
    obtain ⟨x73, -, hF⟩ := bnd_g hG; clear hG
    rcases ite_s hF with ⟨q_16, hG⟩ | ⟨q_16, hG⟩
    · clear hF
      rcases ite_s hG with ⟨q_17, hF⟩ | ⟨q_17, hF⟩
      · clear hG
        exact hm.tr (mB_MText_unary_96 hmo hF)
      · clear hG
        exact hm.tr (mB_MText_unary_90 hmo hF)
    · clear hF
      obtain ⟨v77, H78, z76, hF⟩ := bC_s hG; clear hG
      replace hm : Sa H H78 := hm.tr (m_MText_reckons z76)
      rcases ite_s hF with ⟨q_19, hG⟩ | ⟨q_19, hG⟩
      · clear hF
        exact hm.tr (mB_MText_unary_90 hmo hG)
      · clear hF
        exact hm.tr (mB_MText_unary_96 hmo hG)
  · clear hG
    exact hm.tr (mB_MText_unary_96 hmo hF)
set_option maxRecDepth 20000 in
set_option maxHeartbeats 2000000 in
theorem kB_MText_unary_23 {N : Nat} {o : Orc_TextE} {fr lo : Nat} (ho : ok_TextE o fr lo) (hmo : mo_TextE o) {p0 : Nat}  {H : Hp} {r : Int32 × Hp} (hF : B_MText_unary_23 N o p0  H = some r) : ab_V y_MText_unary { frames := fr + 5, cells := 0, slots := 0, locals := lo + 114 } (po (.returned (some (.int r.1))) r.2) 0 0 0 0 23 [some (.ref p0), none, none] [] (hpw H) := by
  unfold B_MText_unary_23 at hF
  refine ab_aload_n d_MText_unary_23 rfl rfl rfl ?_
  obtain ⟨q6, hG⟩ := ck_s hF; clear hF
  refine hp_getI (f := 11) d_MText_unary_24 q6 (by decide) rfl (by decide) (k8 175 rfl rfl) rfl ?_
  refine ab_topi (fun x7 ex7 => ?_)
  replace hG := bnd_s ex7 hG
  refine ab_istore_n (lv' := [some (.ref p0), some (.int x7), none]) d_MText_unary_27 rfl (by decide) rfl ?_
  refine ab_aload_n d_MText_unary_28 rfl rfl rfl ?_
  obtain ⟨v9, H10, z8, hF⟩ := bC_s hG; clear hG
  refine hp_callV_v (H1 := H10) (As := []) (rest := []) d_MText_unary_29 (k_MText_deeper z8) (ab_mkC s_MText_deeper (show 1 + 1 ≤ fr + 5 from by have := ho.1; omega) (show 8 + (1 + 11) + 22 ≤ lo + 114 from by have := ho.2.1; omega) (Nat.le_refl 0) (Nat.le_refl 0)) (k11 82 rfl rfl) i_MText_deeper v_MText_deeper q6 (by decide) rfl rfl (Nat.le_of_ble_eq_true rfl) ?_
  have s_2 : Sa H H10 := (m_MText_deeper z8)
  refine ab_aload_n d_MText_unary_32 rfl rfl rfl ?_
  refine ab_dup d_MText_unary_33 rfl ?_
  refine hp_getI (f := 11) d_MText_unary_34 (by rw [(s_2).1]; exact q6) (by decide) rfl (by decide) (k8 175 rfl rfl) rfl ?_
  refine ab_topi (fun x11 ex11 => ?_)
  replace hF := bnd_s ex11 hF
  refine ab_iconst (v := 1) d_MText_unary_37 (by decide) ?_
  refine ab_iadd d_MText_unary_38 ?_
  refine hp_putI (v := x11 + (1 : Int32)) (f := 11) d_MText_unary_39 (by rw [(s_2).1]; exact q6) (by decide) rfl (by decide) (k8 175 rfl rfl) rfl rfl (fun _ => rfl) (fun _ => rfl) rfl ?_
  refine hp_gen (fun H12 eH12 => ?_)
  replace hF := bnd_s eH12 hF
  have s_3 : Sa H H12 := by rw [eH12]; exact s_2
  refine ab_aload_n d_MText_unary_42 rfl rfl rfl ?_
  obtain ⟨v14, H15, z13, hG⟩ := bC_s hF; clear hF
  refine hp_callV_a (v := .int v14) (H1 := H15) (As := []) (rest := []) d_MText_unary_43 (ho.2.2.2 _ _ _ z13) (ab_mkC s_MText_unary (show fr + 1 ≤ fr + 5 from by have := ho.1; omega) (show 8 + (3 + 11) + lo ≤ lo + 114 from by have := ho.2.1; omega) (Nat.le_refl 0) (Nat.le_refl 0)) (k11 59 rfl rfl) i_MText_unary v_MText_unary (by rw [(s_3).1]; exact q6) (by decide) rfl rfl (Nat.le_of_ble_eq_true rfl) ?_
  have s_4 : Sa H H15 := (s_3).tr (hmo.2 _ _ _ z13)
  refine ab_istore_n (lv' := [some (.ref p0), some (.int x7), some (.int v14)]) d_MText_unary_46 rfl (by decide) rfl ?_
  refine ab_aload_n d_MText_unary_47 rfl rfl rfl ?_
  refine ab_dup d_MText_unary_48 rfl ?_
  refine hp_getI (f := 41) d_MText_unary_49 (by rw [(s_4).1]; exact q6) (by decide) rfl (by decide) (k8 228 rfl rfl) rfl ?_
  refine ab_topi (fun x16 ex16 => ?_)
  replace hG := bnd_s ex16 hG
  refine ab_iconst (v := 1) d_MText_unary_52 (by decide) ?_
  refine ab_isub d_MText_unary_53 ?_
  refine hp_putI (v := x16 - (1 : Int32)) (f := 41) d_MText_unary_54 (by rw [(s_4).1]; exact q6) (by decide) rfl (by decide) (k8 228 rfl rfl) rfl rfl (fun _ => rfl) (fun _ => rfl) rfl ?_
  refine hp_gen (fun H17 eH17 => ?_)
  replace hG := bnd_s eH17 hG
  have s_5 : Sa H H17 := by rw [eH17]; exact s_4
  refine ab_aload_n d_MText_unary_57 rfl rfl rfl ?_
  refine hp_getI (f := 9) d_MText_unary_58 (by rw [(s_5).1]; exact q6) (by decide) rfl (by decide) (k8 172 rfl rfl) rfl ?_
  refine ab_topi (fun x18 ex18 => ?_)
  replace hG := bnd_s ex18 hG
  refine ab_if_ne (tgt := 96) d_MText_unary_61 (by decide) (fun q19 => ?_) (fun q19 => ?_)
  · rw [if_neg q19] at hG
    exact kB_MText_unary_96 ho hmo hG
  · rw [if_pos q19] at hG
    refine ab_aload_n d_MText_unary_64 rfl rfl rfl ?_
    obtain ⟨a34, e35, hF⟩ := rf_s hG; clear hG
    refine hp_getR (f := 3) d_MText_unary_65 (by rw [(s_5).1]; exact q6) (by decide) rfl (by decide) (k8 162 rfl rfl) rfl e35 ?_
    refine ab_iload_n d_MText_unary_68 rfl rfl ?_
    obtain ⟨n36, q37, hG⟩ := ar_s hF; clear hF
    rw [(s_5).1] at q37
    obtain ⟨q38, hF⟩ := ck_s hG; clear hG
    refine hp_iald d_MText_unary_69 tI (by rw [(s_5).1]; exact q37) q38 ?_
    refine ab_topi (fun x39 ex39 => ?_)
    replace hF := bnd_s ex39 hF
    refine ab_bipush (v := 33) d_MText_unary_70 (by decide) ?_
    refine ab_icmp_ne (tgt := 83) d_MText_unary_72 (by decide) (fun q40 => ?_) (fun q40 => ?_)
    · rw [if_neg q40] at hF
      refine ab_iload_n d_MText_unary_83 rfl rfl ?_
      obtain ⟨v42, H43, z41, hG⟩ := bC_s hF; clear hF
      refine hp_callS_a (v := .int v42) (H1 := H43) (As := [.int v14]) (rest := []) d_MText_unary_84 (k_MText_reckons z41) (ab_mkC s_MText_reckons (show 0 + 1 ≤ fr + 5 from by have := ho.1; omega) (show 8 + (1 + 11) + 0 ≤ lo + 114 from by have := ho.2.1; omega) (Nat.le_refl 0) (Nat.le_refl 0)) (k11 94 rfl rfl) t_MText_reckons rfl (Nat.le_of_ble_eq_true rfl) ?_
      have s_8 : Sa H H43 := (s_5).tr (m_MText_reckons z41)
      refine ab_if_ne (tgt := 96) d_MText_unary_87 (by decide) (fun q44 => ?_) (fun q44 => ?_)
      · rw [if_neg q44] at hG
        exact kB_MText_unary_96 ho hmo hG
      · rw [if_pos q44] at hG
        exact kB_MText_unary_90 ho hmo hG
    · rw [if_pos q40] at hF
      refine ab_iload_n d_MText_unary_75 rfl rfl ?_
      refine ab_iconst (v := 3) d_MText_unary_76 (by decide) ?_
      refine ab_icmp_ne (tgt := 90) d_MText_unary_77 (by decide) (fun q53 => ?_) (fun q53 => ?_)
      · rw [if_neg q53] at hF
        exact kB_MText_unary_90 ho hmo hF
      · rw [if_pos q53] at hF
        refine ab_goto (tgt := 96) d_MText_unary_80 (by decide) ?_
        exact kB_MText_unary_96 ho hmo hF
def F_MText_unary (N : Nat) (o : Orc_TextE) (p0 : Nat) (H : Hp) : Option (Int32 × Hp) :=
    ck (H.sh[p0]? = some (14, 0)) <|
    bC (F_MText_is N p0 (45 : Int32) H) fun v3 H4 =>
    if v3 = (0 : Int32) then
    bC (F_MText_is N p0 (33 : Int32) H4) fun v81 H82 =>
    if v81 = (0 : Int32) then
    bC (F_MText_primary N o p0 H82) fun v85 H86 =>
    some (v85, H86)
    else
    B_MText_unary_23 N o p0  H82
    else
    B_MText_unary_23 N o p0  H4
set_option maxRecDepth 20000 in
set_option maxHeartbeats 2000000 in
theorem m_MText_unary {N : Nat} {o : Orc_TextE} (hmo : mo_TextE o) {p0 : Nat} {H : Hp} {r : Int32 × Hp} (hF : F_MText_unary N o p0 H = some r) : Sa H r.2 := by
  unfold F_MText_unary at hF
  have hm := Sa.rf H
  obtain ⟨q87, hG⟩ := ck_s hF; clear hF
  obtain ⟨v89, H90, z88, hF⟩ := bC_s hG; clear hG
  replace hm : Sa H H90 := hm.tr (m_MText_is z88)
  rcases ite_s hF with ⟨q_23, hG⟩ | ⟨q_23, hG⟩
  · clear hF
    obtain ⟨v93, H94, z92, hF⟩ := bC_s hG; clear hG
    replace hm : Sa H H94 := hm.tr (m_MText_is z92)
    rcases ite_s hF with ⟨q_25, hG⟩ | ⟨q_25, hG⟩
    · clear hF
      obtain ⟨v97, H98, z96, hF⟩ := bC_s hG; clear hG
      replace hm : Sa H H98 := hm.tr (m_MText_primary hmo z96)
      have hr := Option.some.inj hF; subst hr
      exact hm
    · clear hF
      exact hm.tr (mB_MText_unary_23 hmo hG)
  · clear hF
    exact hm.tr (mB_MText_unary_23 hmo hG)
set_option maxRecDepth 20000 in
set_option maxHeartbeats 2000000 in
theorem k_MText_unary {N : Nat} {o : Orc_TextE} {fr lo : Nat} (ho : ok_TextE o fr lo) (hmo : mo_TextE o) {p0 : Nat} {H : Hp} {r : Int32 × Hp} (hF : F_MText_unary N o p0 H = some r) : ab_M y_MText_unary { frames := fr + 5, cells := 0, slots := 0, locals := lo + 114 } [.ref p0] (hpw H) (po (.returned (some (.int r.1))) r.2) := by
  unfold F_MText_unary at hF
  refine ab_of2 (lv := [some (.ref p0), none, none]) 2 rfl rfl (Nat.le_of_ble_eq_true rfl) ?_
  refine ab_aload_n d_MText_unary_0 rfl rfl rfl ?_
  refine ab_bipush (v := 45) d_MText_unary_1 (by decide) ?_
  obtain ⟨q1, hG⟩ := ck_s hF; clear hF
  obtain ⟨v3, H4, z2, hF⟩ := bC_s hG; clear hG
  refine hp_callV_a (v := .int v3) (H1 := H4) (As := [.int 45]) (rest := []) d_MText_unary_3 (k_MText_is z2) (ab_mkC s_MText_is (show 0 + 1 ≤ fr + 5 from by have := ho.1; omega) (show 8 + (2 + 11) + 0 ≤ lo + 114 from by have := ho.2.1; omega) (Nat.le_refl 0) (Nat.le_refl 0)) (k10 180 rfl rfl) i_MText_is v_MText_is q1 (by decide) rfl rfl (Nat.le_of_ble_eq_true rfl) ?_
  have s_1 : Sa H H4 := (m_MText_is z2)
  refine ab_if_ne (tgt := 23) d_MText_unary_6 (by decide) (fun q5 => ?_) (fun q5 => ?_)
  · rw [if_neg q5] at hF
    exact kB_MText_unary_23 ho hmo hF
  · rw [if_pos q5] at hF
    refine ab_aload_n d_MText_unary_9 rfl rfl rfl ?_
    refine ab_bipush (v := 33) d_MText_unary_10 (by decide) ?_
    obtain ⟨v81, H82, z80, hG⟩ := bC_s hF; clear hF
    refine hp_callV_a (v := .int v81) (H1 := H82) (As := [.int 33]) (rest := []) d_MText_unary_12 (k_MText_is z80) (ab_mkC s_MText_is (show 0 + 1 ≤ fr + 5 from by have := ho.1; omega) (show 8 + (2 + 11) + 0 ≤ lo + 114 from by have := ho.2.1; omega) (Nat.le_refl 0) (Nat.le_refl 0)) (k10 180 rfl rfl) i_MText_is v_MText_is (by rw [(s_1).1]; exact q1) (by decide) rfl rfl (Nat.le_of_ble_eq_true rfl) ?_
    have s_20 : Sa H H82 := (s_1).tr (m_MText_is z80)
    refine ab_if_ne (tgt := 23) d_MText_unary_15 (by decide) (fun q83 => ?_) (fun q83 => ?_)
    · rw [if_neg q83] at hG
      exact kB_MText_unary_23 ho hmo hG
    · rw [if_pos q83] at hG
      refine ab_aload_n d_MText_unary_18 rfl rfl rfl ?_
      obtain ⟨v85, H86, z84, hF⟩ := bC_s hG; clear hG
      refine hp_callV_a (v := .int v85) (H1 := H86) (As := []) (rest := []) d_MText_unary_19 (k_MText_primary ho hmo z84) (ab_mkC s_MText_primary (show (fr + 3) + 1 ≤ fr + 5 from by have := ho.1; omega) (show 8 + (5 + 11) + (lo + 66) ≤ lo + 114 from by have := ho.2.1; omega) (Nat.le_refl 0) (Nat.le_refl 0)) (k11 63 rfl rfl) i_MText_primary v_MText_primary (by rw [(s_20).1]; exact q1) (by decide) rfl rfl (Nat.le_of_ble_eq_true rfl) ?_
      have s_21 : Sa H H86 := (s_20).tr (m_MText_primary hmo z84)
      exact ab_iret d_MText_unary_22 rfl (Nat.le_refl _) (Nat.le_refl _) (by have hr := Option.some.inj hF; subst hr; exact ⟨rfl, rfl⟩)
def y_MText_product : ab_Y := (⟨"WorldEngineModel$Text", "product", "()I"⟩, prog_16_method_67_code, 3, (some FieldType.int), [])
theorem d_MText_product_0 : decode y_MText_product.2.1 0 = .ok (.aload_n 0, 1) := by decide +kernel
theorem d_MText_product_1 : decode y_MText_product.2.1 1 = .ok (.invokevirtual 385, 3) := by decide +kernel
theorem d_MText_product_4 : decode y_MText_product.2.1 4 = .ok (.istore_n 1, 1) := by decide +kernel
theorem d_MText_product_5 : decode y_MText_product.2.1 5 = .ok (.aload_n 0, 1) := by decide +kernel
theorem d_MText_product_6 : decode y_MText_product.2.1 6 = .ok (.bipush 42, 2) := by decide +kernel
theorem d_MText_product_8 : decode y_MText_product.2.1 8 = .ok (.invokevirtual 194, 3) := by decide +kernel
theorem d_MText_product_11 : decode y_MText_product.2.1 11 = .ok (.ifCond .ne 21, 3) := by decide +kernel
theorem d_MText_product_14 : decode y_MText_product.2.1 14 = .ok (.aload_n 0, 1) := by decide +kernel
theorem d_MText_product_15 : decode y_MText_product.2.1 15 = .ok (.bipush 47, 2) := by decide +kernel
theorem d_MText_product_17 : decode y_MText_product.2.1 17 = .ok (.invokevirtual 194, 3) := by decide +kernel
theorem d_MText_product_20 : decode y_MText_product.2.1 20 = .ok (.ifCond .ne 12, 3) := by decide +kernel
theorem d_MText_product_23 : decode y_MText_product.2.1 23 = .ok (.aload_n 0, 1) := by decide +kernel
theorem d_MText_product_24 : decode y_MText_product.2.1 24 = .ok (.bipush 37, 2) := by decide +kernel
theorem d_MText_product_26 : decode y_MText_product.2.1 26 = .ok (.invokevirtual 194, 3) := by decide +kernel
theorem d_MText_product_29 : decode y_MText_product.2.1 29 = .ok (.ifCond .eq 59, 3) := by decide +kernel
theorem d_MText_product_32 : decode y_MText_product.2.1 32 = .ok (.aload_n 0, 1) := by decide +kernel
theorem d_MText_product_33 : decode y_MText_product.2.1 33 = .ok (.getfield 191, 3) := by decide +kernel
theorem d_MText_product_36 : decode y_MText_product.2.1 36 = .ok (.istore_n 2, 1) := by decide +kernel
theorem d_MText_product_37 : decode y_MText_product.2.1 37 = .ok (.aload_n 0, 1) := by decide +kernel
theorem d_MText_product_38 : decode y_MText_product.2.1 38 = .ok (.dup, 1) := by decide +kernel
theorem d_MText_product_39 : decode y_MText_product.2.1 39 = .ok (.getfield 191, 3) := by decide +kernel
theorem d_MText_product_42 : decode y_MText_product.2.1 42 = .ok (.iconst 1, 1) := by decide +kernel
theorem d_MText_product_43 : decode y_MText_product.2.1 43 = .ok (.iadd, 1) := by decide +kernel
theorem d_MText_product_44 : decode y_MText_product.2.1 44 = .ok (.putfield 191, 3) := by decide +kernel
theorem d_MText_product_47 : decode y_MText_product.2.1 47 = .ok (.aload_n 0, 1) := by decide +kernel
theorem d_MText_product_48 : decode y_MText_product.2.1 48 = .ok (.iload_n 2, 1) := by decide +kernel
theorem d_MText_product_49 : decode y_MText_product.2.1 49 = .ok (.iload_n 1, 1) := by decide +kernel
theorem d_MText_product_50 : decode y_MText_product.2.1 50 = .ok (.aload_n 0, 1) := by decide +kernel
theorem d_MText_product_51 : decode y_MText_product.2.1 51 = .ok (.invokevirtual 385, 3) := by decide +kernel
theorem d_MText_product_54 : decode y_MText_product.2.1 54 = .ok (.aload_n 0, 1) := by decide +kernel
theorem d_MText_product_55 : decode y_MText_product.2.1 55 = .ok (.getfield 15, 3) := by decide +kernel
theorem d_MText_product_58 : decode y_MText_product.2.1 58 = .ok (.iload_n 2, 1) := by decide +kernel
theorem d_MText_product_59 : decode y_MText_product.2.1 59 = .ok (.iaload, 1) := by decide +kernel
theorem d_MText_product_60 : decode y_MText_product.2.1 60 = .ok (.bipush 37, 2) := by decide +kernel
theorem d_MText_product_62 : decode y_MText_product.2.1 62 = .ok (.if_icmp .ne 15, 3) := by decide +kernel
theorem d_MText_product_65 : decode y_MText_product.2.1 65 = .ok (.iload_n 1, 1) := by decide +kernel
theorem d_MText_product_66 : decode y_MText_product.2.1 66 = .ok (.ifCond .ne 7, 3) := by decide +kernel
theorem d_MText_product_69 : decode y_MText_product.2.1 69 = .ok (.iconst 1, 1) := by decide +kernel
theorem d_MText_product_70 : decode y_MText_product.2.1 70 = .ok (.goto 11, 3) := by decide +kernel
theorem d_MText_product_73 : decode y_MText_product.2.1 73 = .ok (.iconst 0, 1) := by decide +kernel
theorem d_MText_product_74 : decode y_MText_product.2.1 74 = .ok (.goto 7, 3) := by decide +kernel
theorem d_MText_product_77 : decode y_MText_product.2.1 77 = .ok (.iload_n 1, 1) := by decide +kernel
theorem d_MText_product_78 : decode y_MText_product.2.1 78 = .ok (.invokestatic 379, 3) := by decide +kernel
theorem d_MText_product_81 : decode y_MText_product.2.1 81 = .ok (.invokevirtual 366, 3) := by decide +kernel
theorem d_MText_product_84 : decode y_MText_product.2.1 84 = .ok (.istore_n 1, 1) := by decide +kernel
theorem d_MText_product_85 : decode y_MText_product.2.1 85 = .ok (.goto (-80), 3) := by decide +kernel
theorem d_MText_product_88 : decode y_MText_product.2.1 88 = .ok (.iload_n 1, 1) := by decide +kernel
theorem d_MText_product_89 : decode y_MText_product.2.1 89 = .ok (.ireturn, 1) := by decide +kernel
theorem s_MText_product : ab_Stat y_MText_product 0 := ⟨(k11 58 rfl rfl), (k1 20 rfl rfl), ⟨by decide, by decide⟩, by decide +kernel⟩
theorem i_MText_product : Cond.instanceMethod y_MText_product.1 ∈ ab_T := (k11 57 rfl rfl)
theorem v_MText_product : Cond.selects "WorldEngineModel$Text" y_MText_product.1 y_MText_product.1 ∈ ab_T := ab_s (List.mem_of_getElem? (i := 146) rfl) rfl
def B_MText_product_81 (N : Nat) (o : Orc_TextE) (p0 : Nat) (kq5 : Int32 → Hp → Option (Int32 × Hp)) (w0 : Nat) (w1 : Int32) (w2 : Int32) (w3 : Int32) (w4 : Int32) (H : Hp) : Option (Int32 × Hp) :=
    ck (H.sh[w0]? = some (14, 0)) <|
    bC (F_MText_goTogether N w0 w1 w2 w3 w4 H) fun v29 H30 =>
    kq5 v29 H30
set_option maxRecDepth 20000 in
set_option maxHeartbeats 2000000 in
theorem mB_MText_product_81 {N : Nat} {o : Orc_TextE} (hmo : mo_TextE o) {p0 : Nat} {kq5 : Int32 → Hp → Option (Int32 × Hp)} (hm5 : ∀ (l1 : Int32) (H : Hp) (r : Int32 × Hp), kq5 l1 H = some r → Sa H r.2) {w0 : Nat} {w1 : Int32} {w2 : Int32} {w3 : Int32} {w4 : Int32} {H : Hp} {r : Int32 × Hp} (hF : B_MText_product_81 N o p0 kq5 w0 w1 w2 w3 w4 H = some r) : Sa H r.2 := by
  unfold B_MText_product_81 at hF
  have hm := Sa.rf H
  obtain ⟨q31, hG⟩ := ck_s hF; clear hF
  obtain ⟨v33, H34, z32, hF⟩ := bC_s hG; clear hG
  replace hm : Sa H H34 := hm.tr (m_MText_goTogether z32)
  exact hm.tr (hm5 v33 H34 r hF)
set_option maxRecDepth 20000 in
set_option maxHeartbeats 2000000 in
theorem kB_MText_product_81 {N : Nat} {o : Orc_TextE} {fr lo : Nat} (ho : ok_TextE o fr lo) (hmo : mo_TextE o) {p0 : Nat} {kq5 : Int32 → Hp → Option (Int32 × Hp)} (hm5 : ∀ (l1 : Int32) (H : Hp) (r : Int32 × Hp), kq5 l1 H = some r → Sa H r.2) (hk5 : ∀ (l1 : Int32) (H : Hp) (r : Int32 × Hp), kq5 l1 H = some r → ab_V y_MText_product { frames := fr + 1, cells := 0, slots := 0, locals := lo + 24 } (po (.returned (some (.int r.1))) r.2) 0 0 0 0 5 [some (.ref p0), some (.int l1), none] [] (hpw H)) {w0 : Nat} {w1 : Int32} {w2 : Int32} {w3 : Int32} {w4 : Int32} {H : Hp} {r : Int32 × Hp} (hF : B_MText_product_81 N o p0 kq5 w0 w1 w2 w3 w4 H = some r) : ab_V y_MText_product { frames := fr + 1, cells := 0, slots := 0, locals := lo + 24 } (po (.returned (some (.int r.1))) r.2) 0 0 0 0 81 [some (.ref p0), none, none] [.int w4, .int w3, .int w2, .int w1, .ref w0] (hpw H) := by
  unfold B_MText_product_81 at hF
  obtain ⟨q27, hG⟩ := ck_s hF; clear hF
  obtain ⟨v29, H30, z28, hF⟩ := bC_s hG; clear hG
  refine hp_callV_a (v := .int v29) (H1 := H30) (As := [.int w1, .int w2, .int w3, .int w4]) (rest := []) d_MText_product_81 (k_MText_goTogether z28) (ab_mkC s_MText_goTogether (show 1 + 1 ≤ fr + 1 from by have := ho.1; omega) (show 8 + (5 + 11) + 22 ≤ lo + 24 from by have := ho.2.1; omega) (Nat.le_refl 0) (Nat.le_refl 0)) (k11 97 rfl rfl) i_MText_goTogether v_MText_goTogether q27 (by decide) rfl rfl (Nat.le_of_ble_eq_true rfl) ?_
  have s_6 : Sa H H30 := (m_MText_goTogether z28)
  refine ab_istore_n (lv' := [some (.ref p0), some (.int v29), none]) d_MText_product_84 rfl (by decide) rfl ?_
  refine ab_goto (tgt := 5) d_MText_product_85 (by decide) ?_
  exact hk5 v29 H30 r hF
def B_MText_product_32 (N : Nat) (o : Orc_TextE) (p0 : Nat) (kq5 : Int32 → Hp → Option (Int32 × Hp)) (l1 : Int32) (H : Hp) : Option (Int32 × Hp) :=
    ck (H.sh[p0]? = some (14, 0)) <|
    bnd ((H.D p0 11)) fun x11 =>
    bnd ((H.D p0 11)) fun x12 =>
    bnd (H.sD p0 11 (x12 + (1 : Int32))) fun H13 =>
    bC (o.2 p0 H13) fun v15 H16 =>
    rf (H16.P p0 3) fun a17 =>
    ar H16 100 a17 fun n19 =>
    ck (inb x11 n19) <|
    bnd ((H16.D a17 (x11).toNatClampNeg)) fun x22 =>
    if x22 = (37 : Int32) then
    if l1 = (0 : Int32) then
    B_MText_product_81 N o p0 kq5 p0 x11 l1 v15 1 H16
    else
    B_MText_product_81 N o p0 kq5 p0 x11 l1 v15 0 H16
    else
    bC (F_MText_reckons N l1 H16) fun v25 H26 =>
    B_MText_product_81 N o p0 kq5 p0 x11 l1 v15 v25 H26
set_option maxRecDepth 20000 in
set_option maxHeartbeats 2000000 in
theorem mB_MText_product_32 {N : Nat} {o : Orc_TextE} (hmo : mo_TextE o) {p0 : Nat} {kq5 : Int32 → Hp → Option (Int32 × Hp)} (hm5 : ∀ (l1 : Int32) (H : Hp) (r : Int32 × Hp), kq5 l1 H = some r → Sa H r.2) {l1 : Int32} {H : Hp} {r : Int32 × Hp} (hF : B_MText_product_32 N o p0 kq5 l1 H = some r) : Sa H r.2 := by
  unfold B_MText_product_32 at hF
  have hm := Sa.rf H
  obtain ⟨q36, hG⟩ := ck_s hF; clear hF
  obtain ⟨x37, -, hF⟩ := bnd_g hG; clear hG
  obtain ⟨x38, -, hG⟩ := bnd_g hF; clear hF
  obtain ⟨H39, eH39, hF⟩ := bnd_g hG; clear hG
  replace hm : Sa H H39 := by rw [eH39]; exact hm
  obtain ⟨v41, H42, z40, hG⟩ := bC_s hF; clear hF
  replace hm : Sa H H42 := hm.tr (hmo.2 _ _ _ z40)
  obtain ⟨a43, e44, hF⟩ := rf_s hG; clear hG
  obtain ⟨n45, q46, hG⟩ := ar_s hF; clear hF
  obtain ⟨q47, hF⟩ := ck_s hG; clear hG
  obtain ⟨x48, -, hG⟩ := bnd_g hF; clear hF
  rcases ite_s hG with ⟨q_10, hF⟩ | ⟨q_10, hF⟩
  · clear hG
    rcases ite_s hF with ⟨q_11, hG⟩ | ⟨q_11, hG⟩
    · clear hF
      exact hm.tr (mB_MText_product_81 hmo hm5 hG)
    · clear hF
      exact hm.tr (mB_MText_product_81 hmo hm5 hG)
  · clear hG
    obtain ⟨v52, H53, z51, hG⟩ := bC_s hF; clear hF
    replace hm : Sa H H53 := hm.tr (m_MText_reckons z51)
    exact hm.tr (mB_MText_product_81 hmo hm5 hG)
set_option maxRecDepth 20000 in
set_option maxHeartbeats 2000000 in
theorem kB_MText_product_32 {N : Nat} {o : Orc_TextE} {fr lo : Nat} (ho : ok_TextE o fr lo) (hmo : mo_TextE o) {p0 : Nat} {kq5 : Int32 → Hp → Option (Int32 × Hp)} (hm5 : ∀ (l1 : Int32) (H : Hp) (r : Int32 × Hp), kq5 l1 H = some r → Sa H r.2) (hk5 : ∀ (l1 : Int32) (H : Hp) (r : Int32 × Hp), kq5 l1 H = some r → ab_V y_MText_product { frames := fr + 1, cells := 0, slots := 0, locals := lo + 24 } (po (.returned (some (.int r.1))) r.2) 0 0 0 0 5 [some (.ref p0), some (.int l1), none] [] (hpw H)) {l1 : Int32} {H : Hp} {r : Int32 × Hp} (hF : B_MText_product_32 N o p0 kq5 l1 H = some r) : ab_V y_MText_product { frames := fr + 1, cells := 0, slots := 0, locals := lo + 24 } (po (.returned (some (.int r.1))) r.2) 0 0 0 0 32 [some (.ref p0), some (.int l1), none] [] (hpw H) := by
  unfold B_MText_product_32 at hF
  refine ab_aload_n d_MText_product_32 rfl rfl rfl ?_
  obtain ⟨q10, hG⟩ := ck_s hF; clear hF
  refine hp_getI (f := 11) d_MText_product_33 q10 (by decide) rfl (by decide) (k8 175 rfl rfl) rfl ?_
  refine ab_topi (fun x11 ex11 => ?_)
  replace hG := bnd_s ex11 hG
  refine ab_istore_n (lv' := [some (.ref p0), some (.int l1), some (.int x11)]) d_MText_product_36 rfl (by decide) rfl ?_
  refine ab_aload_n d_MText_product_37 rfl rfl rfl ?_
  refine ab_dup d_MText_product_38 rfl ?_
  refine hp_getI (f := 11) d_MText_product_39 q10 (by decide) rfl (by decide) (k8 175 rfl rfl) rfl ?_
  refine ab_topi (fun x12 ex12 => ?_)
  replace hG := bnd_s ex12 hG
  refine ab_iconst (v := 1) d_MText_product_42 (by decide) ?_
  refine ab_iadd d_MText_product_43 ?_
  refine hp_putI (v := x12 + (1 : Int32)) (f := 11) d_MText_product_44 q10 (by decide) rfl (by decide) (k8 175 rfl rfl) rfl rfl (fun _ => rfl) (fun _ => rfl) rfl ?_
  refine hp_gen (fun H13 eH13 => ?_)
  replace hG := bnd_s eH13 hG
  have s_3 : Sa H H13 := by rw [eH13]; exact Sa.rf _
  refine ab_aload_n d_MText_product_47 rfl rfl rfl ?_
  refine ab_iload_n d_MText_product_48 rfl rfl ?_
  refine ab_iload_n d_MText_product_49 rfl rfl ?_
  refine ab_aload_n d_MText_product_50 rfl rfl rfl ?_
  obtain ⟨v15, H16, z14, hF⟩ := bC_s hG; clear hG
  refine hp_callV_a (v := .int v15) (H1 := H16) (As := []) (rest := [.int l1, .int x11, .ref p0]) d_MText_product_51 (ho.2.2.2 _ _ _ z14) (ab_mkC s_MText_unary (show fr + 1 ≤ fr + 1 from by have := ho.1; omega) (show 8 + (3 + 11) + lo ≤ lo + 24 from by have := ho.2.1; omega) (Nat.le_refl 0) (Nat.le_refl 0)) (k11 59 rfl rfl) i_MText_unary v_MText_unary (by rw [(s_3).1]; exact q10) (by decide) rfl rfl (Nat.le_of_ble_eq_true rfl) ?_
  have s_4 : Sa H H16 := (s_3).tr (hmo.2 _ _ _ z14)
  refine ab_aload_n d_MText_product_54 rfl rfl rfl ?_
  obtain ⟨a17, e18, hG⟩ := rf_s hF; clear hF
  refine hp_getR (f := 3) d_MText_product_55 (by rw [(s_4).1]; exact q10) (by decide) rfl (by decide) (k8 162 rfl rfl) rfl e18 ?_
  refine ab_iload_n d_MText_product_58 rfl rfl ?_
  obtain ⟨n19, q20, hF⟩ := ar_s hG; clear hG
  rw [(s_4).1] at q20
  obtain ⟨q21, hG⟩ := ck_s hF; clear hF
  refine hp_iald d_MText_product_59 tI (by rw [(s_4).1]; exact q20) q21 ?_
  refine ab_topi (fun x22 ex22 => ?_)
  replace hG := bnd_s ex22 hG
  refine ab_bipush (v := 37) d_MText_product_60 (by decide) ?_
  refine ab_icmp_ne (tgt := 77) d_MText_product_62 (by decide) (fun q23 => ?_) (fun q23 => ?_)
  · rw [if_neg q23] at hG
    refine ab_iload_n d_MText_product_77 rfl rfl ?_
    obtain ⟨v25, H26, z24, hF⟩ := bC_s hG; clear hG
    refine hp_callS_a (v := .int v25) (H1 := H26) (As := [.int l1]) (rest := [.int v15, .int l1, .int x11, .ref p0]) d_MText_product_78 (k_MText_reckons z24) (ab_mkC s_MText_reckons (show 0 + 1 ≤ fr + 1 from by have := ho.1; omega) (show 8 + (1 + 11) + 0 ≤ lo + 24 from by have := ho.2.1; omega) (Nat.le_refl 0) (Nat.le_refl 0)) (k11 94 rfl rfl) t_MText_reckons rfl (Nat.le_of_ble_eq_true rfl) ?_
    have s_5 : Sa H H26 := (s_4).tr (m_MText_reckons z24)
    refine ab_le (lv' := [some (.ref p0), none, none]) ⟨rfl, trivial⟩ ?_
    exact kB_MText_product_81 ho hmo hm5 hk5 hF
  · rw [if_pos q23] at hG
    refine ab_iload_n d_MText_product_65 rfl rfl ?_
    refine ab_if_ne (tgt := 73) d_MText_product_66 (by decide) (fun q35 => ?_) (fun q35 => ?_)
    · rw [if_neg q35] at hG
      refine ab_iconst (v := 0) d_MText_product_73 (by decide) ?_
      refine ab_goto (tgt := 81) d_MText_product_74 (by decide) ?_
      refine ab_le (lv' := [some (.ref p0), none, none]) ⟨rfl, trivial⟩ ?_
      exact kB_MText_product_81 ho hmo hm5 hk5 hG
    · rw [if_pos q35] at hG
      refine ab_iconst (v := 1) d_MText_product_69 (by decide) ?_
      refine ab_goto (tgt := 81) d_MText_product_70 (by decide) ?_
      refine ab_le (lv' := [some (.ref p0), none, none]) ⟨rfl, trivial⟩ ?_
      exact kB_MText_product_81 ho hmo hm5 hk5 hG
def B_MText_product_5 (N : Nat) (o : Orc_TextE) (p0 : Nat) : Nat → Int32 → Hp → Option (Int32 × Hp)
  | 0, _, _ => none
  | n + 1, l1, H =>
    ck (H.sh[p0]? = some (14, 0)) <|
    bC (F_MText_is N p0 (42 : Int32) H) fun v7 H8 =>
    if v7 = (0 : Int32) then
    bC (F_MText_is N p0 (47 : Int32) H8) fun v55 H56 =>
    if v55 = (0 : Int32) then
    bC (F_MText_is N p0 (37 : Int32) H56) fun v59 H60 =>
    if v59 = (0 : Int32) then
    some (l1, H60)
    else
    B_MText_product_32 N o p0 (fun l1 H => B_MText_product_5 N o p0 n l1 H) l1 H60
    else
    B_MText_product_32 N o p0 (fun l1 H => B_MText_product_5 N o p0 n l1 H) l1 H56
    else
    B_MText_product_32 N o p0 (fun l1 H => B_MText_product_5 N o p0 n l1 H) l1 H8
termination_by structural n => n
set_option maxRecDepth 20000 in
set_option maxHeartbeats 2000000 in
theorem mB_MText_product_5 {N : Nat} {o : Orc_TextE} (hmo : mo_TextE o) {p0 : Nat} : ∀ (n : Nat) (l1 : Int32) (H : Hp) (r : Int32 × Hp), B_MText_product_5 N o p0 n l1 H = some r → Sa H r.2 := by
  intro n
  induction n with
  | zero => intro l1 H r hF; rw [B_MText_product_5] at hF; cases hF
  | succ n ih =>
    intro l1 H r hF
    rw [B_MText_product_5] at hF
    have hm := Sa.rf H
    obtain ⟨q62, hG⟩ := ck_s hF; clear hF
    obtain ⟨v64, H65, z63, hF⟩ := bC_s hG; clear hG
    replace hm : Sa H H65 := hm.tr (m_MText_is z63)
    rcases ite_s hF with ⟨q_16, hG⟩ | ⟨q_16, hG⟩
    · clear hF
      obtain ⟨v68, H69, z67, hF⟩ := bC_s hG; clear hG
      replace hm : Sa H H69 := hm.tr (m_MText_is z67)
      rcases ite_s hF with ⟨q_18, hG⟩ | ⟨q_18, hG⟩
      · clear hF
        obtain ⟨v72, H73, z71, hF⟩ := bC_s hG; clear hG
        replace hm : Sa H H73 := hm.tr (m_MText_is z71)
        rcases ite_s hF with ⟨q_20, hG⟩ | ⟨q_20, hG⟩
        · clear hF
          have hr := Option.some.inj hG; subst hr
          exact hm
        · clear hF
          exact hm.tr (mB_MText_product_32 hmo ih hG)
      · clear hF
        exact hm.tr (mB_MText_product_32 hmo ih hG)
    · clear hF
      exact hm.tr (mB_MText_product_32 hmo ih hG)
set_option maxRecDepth 20000 in
set_option maxHeartbeats 2000000 in
theorem kB_MText_product_5 {N : Nat} {o : Orc_TextE} {fr lo : Nat} (ho : ok_TextE o fr lo) (hmo : mo_TextE o) {p0 : Nat} : ∀ (n : Nat) (l1 : Int32) (H : Hp) (r : Int32 × Hp), B_MText_product_5 N o p0 n l1 H = some r → ab_V y_MText_product { frames := fr + 1, cells := 0, slots := 0, locals := lo + 24 } (po (.returned (some (.int r.1))) r.2) 0 0 0 0 5 [some (.ref p0), some (.int l1), none] [] (hpw H) := by
  intro n
  induction n with
  | zero => intro l1 H r hF; rw [B_MText_product_5] at hF; cases hF
  | succ n ih =>
    intro l1 H r hF
    rw [B_MText_product_5] at hF
    refine ab_aload_n d_MText_product_5 rfl rfl rfl ?_
    refine ab_bipush (v := 42) d_MText_product_6 (by decide) ?_
    obtain ⟨q5, hG⟩ := ck_s hF; clear hF
    obtain ⟨v7, H8, z6, hF⟩ := bC_s hG; clear hG
    refine hp_callV_a (v := .int v7) (H1 := H8) (As := [.int 42]) (rest := []) d_MText_product_8 (k_MText_is z6) (ab_mkC s_MText_is (show 0 + 1 ≤ fr + 1 from by have := ho.1; omega) (show 8 + (2 + 11) + 0 ≤ lo + 24 from by have := ho.2.1; omega) (Nat.le_refl 0) (Nat.le_refl 0)) (k10 180 rfl rfl) i_MText_is v_MText_is q5 (by decide) rfl rfl (Nat.le_of_ble_eq_true rfl) ?_
    have s_2 : Sa H H8 := (m_MText_is z6)
    refine ab_if_ne (tgt := 32) d_MText_product_11 (by decide) (fun q9 => ?_) (fun q9 => ?_)
    · rw [if_neg q9] at hF
      exact kB_MText_product_32 ho hmo (mB_MText_product_5 hmo n) ih hF
    · rw [if_pos q9] at hF
      refine ab_aload_n d_MText_product_14 rfl rfl rfl ?_
      refine ab_bipush (v := 47) d_MText_product_15 (by decide) ?_
      obtain ⟨v55, H56, z54, hG⟩ := bC_s hF; clear hF
      refine hp_callV_a (v := .int v55) (H1 := H56) (As := [.int 47]) (rest := []) d_MText_product_17 (k_MText_is z54) (ab_mkC s_MText_is (show 0 + 1 ≤ fr + 1 from by have := ho.1; omega) (show 8 + (2 + 11) + 0 ≤ lo + 24 from by have := ho.2.1; omega) (Nat.le_refl 0) (Nat.le_refl 0)) (k10 180 rfl rfl) i_MText_is v_MText_is (by rw [(s_2).1]; exact q5) (by decide) rfl rfl (Nat.le_of_ble_eq_true rfl) ?_
      have s_13 : Sa H H56 := (s_2).tr (m_MText_is z54)
      refine ab_if_ne (tgt := 32) d_MText_product_20 (by decide) (fun q57 => ?_) (fun q57 => ?_)
      · rw [if_neg q57] at hG
        exact kB_MText_product_32 ho hmo (mB_MText_product_5 hmo n) ih hG
      · rw [if_pos q57] at hG
        refine ab_aload_n d_MText_product_23 rfl rfl rfl ?_
        refine ab_bipush (v := 37) d_MText_product_24 (by decide) ?_
        obtain ⟨v59, H60, z58, hF⟩ := bC_s hG; clear hG
        refine hp_callV_a (v := .int v59) (H1 := H60) (As := [.int 37]) (rest := []) d_MText_product_26 (k_MText_is z58) (ab_mkC s_MText_is (show 0 + 1 ≤ fr + 1 from by have := ho.1; omega) (show 8 + (2 + 11) + 0 ≤ lo + 24 from by have := ho.2.1; omega) (Nat.le_refl 0) (Nat.le_refl 0)) (k10 180 rfl rfl) i_MText_is v_MText_is (by rw [(s_13).1]; exact q5) (by decide) rfl rfl (Nat.le_of_ble_eq_true rfl) ?_
        have s_14 : Sa H H60 := (s_13).tr (m_MText_is z58)
        refine ab_if_eq (tgt := 88) d_MText_product_29 (by decide) (fun q61 => ?_) (fun q61 => ?_)
        · rw [if_pos q61] at hF
          refine ab_iload_n d_MText_product_88 rfl rfl ?_
          exact ab_iret d_MText_product_89 rfl (Nat.le_refl _) (Nat.le_refl _) (by have hr := Option.some.inj hF; subst hr; exact ⟨rfl, rfl⟩)
        · rw [if_neg q61] at hF
          exact kB_MText_product_32 ho hmo (mB_MText_product_5 hmo n) ih hF
def F_MText_product (N : Nat) (o : Orc_TextE) (p0 : Nat) (H : Hp) : Option (Int32 × Hp) :=
    ck (H.sh[p0]? = some (14, 0)) <|
    bC (o.2 p0 H) fun v3 H4 =>
    B_MText_product_5 N o p0 N v3 H4
set_option maxRecDepth 20000 in
set_option maxHeartbeats 2000000 in
theorem m_MText_product {N : Nat} {o : Orc_TextE} (hmo : mo_TextE o) {p0 : Nat} {H : Hp} {r : Int32 × Hp} (hF : F_MText_product N o p0 H = some r) : Sa H r.2 := by
  unfold F_MText_product at hF
  have hm := Sa.rf H
  obtain ⟨q75, hG⟩ := ck_s hF; clear hF
  obtain ⟨v77, H78, z76, hF⟩ := bC_s hG; clear hG
  replace hm : Sa H H78 := hm.tr (hmo.2 _ _ _ z76)
  exact hm.tr (mB_MText_product_5 hmo N v77 H78 r hF)
set_option maxRecDepth 20000 in
set_option maxHeartbeats 2000000 in
theorem k_MText_product {N : Nat} {o : Orc_TextE} {fr lo : Nat} (ho : ok_TextE o fr lo) (hmo : mo_TextE o) {p0 : Nat} {H : Hp} {r : Int32 × Hp} (hF : F_MText_product N o p0 H = some r) : ab_M y_MText_product { frames := fr + 1, cells := 0, slots := 0, locals := lo + 24 } [.ref p0] (hpw H) (po (.returned (some (.int r.1))) r.2) := by
  unfold F_MText_product at hF
  refine ab_of2 (lv := [some (.ref p0), none, none]) 2 rfl rfl (Nat.le_of_ble_eq_true rfl) ?_
  refine ab_aload_n d_MText_product_0 rfl rfl rfl ?_
  obtain ⟨q1, hG⟩ := ck_s hF; clear hF
  obtain ⟨v3, H4, z2, hF⟩ := bC_s hG; clear hG
  refine hp_callV_a (v := .int v3) (H1 := H4) (As := []) (rest := []) d_MText_product_1 (ho.2.2.2 _ _ _ z2) (ab_mkC s_MText_unary (show fr + 1 ≤ fr + 1 from by have := ho.1; omega) (show 8 + (3 + 11) + lo ≤ lo + 24 from by have := ho.2.1; omega) (Nat.le_refl 0) (Nat.le_refl 0)) (k11 59 rfl rfl) i_MText_unary v_MText_unary q1 (by decide) rfl rfl (Nat.le_of_ble_eq_true rfl) ?_
  have s_1 : Sa H H4 := (hmo.2 _ _ _ z2)
  refine ab_istore_n (lv' := [some (.ref p0), some (.int v3), none]) d_MText_product_4 rfl (by decide) rfl ?_
  exact kB_MText_product_5 ho hmo N v3 H4 r hF
