def y_W_fault : ab_Y := (⟨"WorldEngine", "fault", "(I)I"⟩, prog_1_method_5_code, 2, (some FieldType.int), [])
theorem d_W_fault_0 : decode y_W_fault.2.1 0 = .ok (.aload_n 0, 1) := by decide +kernel
theorem d_W_fault_1 : decode y_W_fault.2.1 1 = .ok (.getfield 10, 3) := by decide +kernel
theorem d_W_fault_4 : decode y_W_fault.2.1 4 = .ok (.getfield 84, 3) := by decide +kernel
theorem d_W_fault_7 : decode y_W_fault.2.1 7 = .ok (.ifCond .ne 5, 3) := by decide +kernel
theorem d_W_fault_10 : decode y_W_fault.2.1 10 = .ok (.iconst (-1), 1) := by decide +kernel
theorem d_W_fault_11 : decode y_W_fault.2.1 11 = .ok (.ireturn, 1) := by decide +kernel
theorem d_W_fault_12 : decode y_W_fault.2.1 12 = .ok (.iload_n 1, 1) := by decide +kernel
theorem d_W_fault_13 : decode y_W_fault.2.1 13 = .ok (.ifCond .ne 11, 3) := by decide +kernel
theorem d_W_fault_16 : decode y_W_fault.2.1 16 = .ok (.aload_n 0, 1) := by decide +kernel
theorem d_W_fault_17 : decode y_W_fault.2.1 17 = .ok (.getfield 10, 3) := by decide +kernel
theorem d_W_fault_20 : decode y_W_fault.2.1 20 = .ok (.getfield 107, 3) := by decide +kernel
theorem d_W_fault_23 : decode y_W_fault.2.1 23 = .ok (.ireturn, 1) := by decide +kernel
theorem d_W_fault_24 : decode y_W_fault.2.1 24 = .ok (.iload_n 1, 1) := by decide +kernel
theorem d_W_fault_25 : decode y_W_fault.2.1 25 = .ok (.iconst 1, 1) := by decide +kernel
theorem d_W_fault_26 : decode y_W_fault.2.1 26 = .ok (.if_icmp .ne 13, 3) := by decide +kernel
theorem d_W_fault_29 : decode y_W_fault.2.1 29 = .ok (.aload_n 0, 1) := by decide +kernel
theorem d_W_fault_30 : decode y_W_fault.2.1 30 = .ok (.getfield 10, 3) := by decide +kernel
theorem d_W_fault_33 : decode y_W_fault.2.1 33 = .ok (.getfield 84, 3) := by decide +kernel
theorem d_W_fault_36 : decode y_W_fault.2.1 36 = .ok (.goto 4, 3) := by decide +kernel
theorem d_W_fault_39 : decode y_W_fault.2.1 39 = .ok (.iconst (-1), 1) := by decide +kernel
theorem d_W_fault_40 : decode y_W_fault.2.1 40 = .ok (.ireturn, 1) := by decide +kernel
theorem s_W_fault : ab_Stat y_W_fault 1 := ⟨(k6 90 rfl rfl), (k1 1 rfl rfl), ⟨by decide, by decide⟩, by decide +kernel⟩
theorem i_W_fault : Cond.instanceMethod y_W_fault.1 ∈ ab_T := (k6 88 rfl rfl)
theorem v_W_fault : Cond.selects "WorldEngine" y_W_fault.1 y_W_fault.1 ∈ ab_T := (k6 89 rfl rfl)
def F_W_fault (N : Nat) (p0 : Nat) (p1 : Int32) (H : Hp) : Option (Int32 × Hp) :=
    ck (H.sh[p0]? = some (0, 0)) <|
    rf (H.P p0 0) fun a2 =>
    ck (H.sh[a2]? = some (1, 0)) <|
    bnd ((H.D a2 4)) fun x5 =>
    if x5 = (0 : Int32) then
    some ((-1), H)
    else
    if p1 = (0 : Int32) then
    rf (H.P p0 0) fun a13 =>
    ck (H.sh[a13]? = some (1, 0)) <|
    bnd ((H.D a13 5)) fun x16 =>
    some (x16, H)
    else
    if p1 = (1 : Int32) then
    rf (H.P p0 0) fun a9 =>
    ck (H.sh[a9]? = some (1, 0)) <|
    bnd ((H.D a9 4)) fun x12 =>
    some (x12, H)
    else
    some ((-1), H)
set_option maxRecDepth 20000 in
set_option maxHeartbeats 2000000 in
theorem m_W_fault {N : Nat} {p0 : Nat} {p1 : Int32} {H : Hp} {r : Int32 × Hp} (hF : F_W_fault N p0 p1 H = some r) : Sa H r.2 := by
  unfold F_W_fault at hF
  have hm := Sa.rf H
  obtain ⟨q17, hG⟩ := ck_s hF; clear hF
  obtain ⟨a18, e19, hF⟩ := rf_s hG; clear hG
  obtain ⟨q20, hG⟩ := ck_s hF; clear hF
  obtain ⟨x21, -, hF⟩ := bnd_g hG; clear hG
  rcases ite_s hF with ⟨q_1, hG⟩ | ⟨q_1, hG⟩
  · clear hF
    have hr := Option.some.inj hG; subst hr
    exact hm
  · clear hF
    rcases ite_s hG with ⟨q_2, hF⟩ | ⟨q_2, hF⟩
    · clear hG
      obtain ⟨a24, e25, hG⟩ := rf_s hF; clear hF
      obtain ⟨q26, hF⟩ := ck_s hG; clear hG
      obtain ⟨x27, -, hG⟩ := bnd_g hF; clear hF
      have hr := Option.some.inj hG; subst hr
      exact hm
    · clear hG
      rcases ite_s hF with ⟨q_3, hG⟩ | ⟨q_3, hG⟩
      · clear hF
        obtain ⟨a29, e30, hF⟩ := rf_s hG; clear hG
        obtain ⟨q31, hG⟩ := ck_s hF; clear hF
        obtain ⟨x32, -, hF⟩ := bnd_g hG; clear hG
        have hr := Option.some.inj hF; subst hr
        exact hm
      · clear hF
        have hr := Option.some.inj hG; subst hr
        exact hm
set_option maxRecDepth 20000 in
set_option maxHeartbeats 2000000 in
theorem k_W_fault {N : Nat} {p0 : Nat} {p1 : Int32} {H : Hp} {r : Int32 × Hp} (hF : F_W_fault N p0 p1 H = some r) : ab_M y_W_fault { frames := 0, cells := 0, slots := 0, locals := 0 } [.ref p0, .int p1] (hpw H) (po (.returned (some (.int r.1))) r.2) := by
  unfold F_W_fault at hF
  refine ab_of2 (lv := [some (.ref p0), some (.int p1)]) 0 rfl rfl (Nat.le_of_ble_eq_true rfl) ?_
  refine ab_aload_n d_W_fault_0 rfl rfl rfl ?_
  obtain ⟨q1, hG⟩ := ck_s hF; clear hF
  obtain ⟨a2, e3, hF⟩ := rf_s hG; clear hG
  refine hp_getR (f := 0) d_W_fault_1 q1 (by decide) rfl (by decide) (k3 157 rfl rfl) rfl e3 ?_
  obtain ⟨q4, hG⟩ := ck_s hF; clear hF
  refine hp_getI (f := 4) d_W_fault_4 q4 (by decide) rfl (by decide) (k1 105 rfl rfl) rfl ?_
  refine ab_topi (fun x5 ex5 => ?_)
  replace hG := bnd_s ex5 hG
  refine ab_if_ne (tgt := 12) d_W_fault_7 (by decide) (fun q6 => ?_) (fun q6 => ?_)
  · rw [if_neg q6] at hG
    refine ab_iload_n d_W_fault_12 rfl rfl ?_
    refine ab_if_ne (tgt := 24) d_W_fault_13 (by decide) (fun q7 => ?_) (fun q7 => ?_)
    · rw [if_neg q7] at hG
      refine ab_iload_n d_W_fault_24 rfl rfl ?_
      refine ab_iconst (v := 1) d_W_fault_25 (by decide) ?_
      refine ab_icmp_ne (tgt := 39) d_W_fault_26 (by decide) (fun q8 => ?_) (fun q8 => ?_)
      · rw [if_neg q8] at hG
        refine ab_iconst (v := (-1)) d_W_fault_39 (by decide) ?_
        exact ab_iret d_W_fault_40 rfl (Nat.le_refl _) (Nat.le_refl _) (by have hr := Option.some.inj hG; subst hr; exact ⟨rfl, rfl⟩)
      · rw [if_pos q8] at hG
        refine ab_aload_n d_W_fault_29 rfl rfl rfl ?_
        obtain ⟨a9, e10, hF⟩ := rf_s hG; clear hG
        refine hp_getR (f := 0) d_W_fault_30 q1 (by decide) rfl (by decide) (k3 157 rfl rfl) rfl e10 ?_
        obtain ⟨q11, hG⟩ := ck_s hF; clear hF
        refine hp_getI (f := 4) d_W_fault_33 q11 (by decide) rfl (by decide) (k1 105 rfl rfl) rfl ?_
        refine ab_topi (fun x12 ex12 => ?_)
        replace hG := bnd_s ex12 hG
        refine ab_goto (tgt := 40) d_W_fault_36 (by decide) ?_
        exact ab_iret d_W_fault_40 rfl (Nat.le_refl _) (Nat.le_refl _) (by have hr := Option.some.inj hG; subst hr; exact ⟨rfl, rfl⟩)
    · rw [if_pos q7] at hG
      refine ab_aload_n d_W_fault_16 rfl rfl rfl ?_
      obtain ⟨a13, e14, hF⟩ := rf_s hG; clear hG
      refine hp_getR (f := 0) d_W_fault_17 q1 (by decide) rfl (by decide) (k3 157 rfl rfl) rfl e14 ?_
      obtain ⟨q15, hG⟩ := ck_s hF; clear hF
      refine hp_getI (f := 5) d_W_fault_20 q15 (by decide) rfl (by decide) (k1 107 rfl rfl) rfl ?_
      refine ab_topi (fun x16 ex16 => ?_)
      replace hG := bnd_s ex16 hG
      exact ab_iret d_W_fault_23 rfl (Nat.le_refl _) (Nat.le_refl _) (by have hr := Option.some.inj hG; subst hr; exact ⟨rfl, rfl⟩)
  · rw [if_pos q6] at hG
    refine ab_iconst (v := (-1)) d_W_fault_10 (by decide) ?_
    exact ab_iret d_W_fault_11 rfl (Nat.le_refl _) (Nat.le_refl _) (by have hr := Option.some.inj hG; subst hr; exact ⟨rfl, rfl⟩)
def y_Play_isQuiet : ab_Y := (⟨"WorldEngine$Play", "isQuiet", "()Z"⟩, prog_5_method_2_code, 1, (some FieldType.boolean), [])
theorem d_Play_isQuiet_0 : decode y_Play_isQuiet.2.1 0 = .ok (.aload_n 0, 1) := by decide +kernel
theorem d_Play_isQuiet_1 : decode y_Play_isQuiet.2.1 1 = .ok (.getfield 10, 3) := by decide +kernel
theorem d_Play_isQuiet_4 : decode y_Play_isQuiet.2.1 4 = .ok (.getfield 54, 3) := by decide +kernel
theorem d_Play_isQuiet_7 : decode y_Play_isQuiet.2.1 7 = .ok (.aload_n 0, 1) := by decide +kernel
theorem d_Play_isQuiet_8 : decode y_Play_isQuiet.2.1 8 = .ok (.getfield 57, 3) := by decide +kernel
theorem d_Play_isQuiet_11 : decode y_Play_isQuiet.2.1 11 = .ok (.if_icmp .ne 7, 3) := by decide +kernel
theorem d_Play_isQuiet_14 : decode y_Play_isQuiet.2.1 14 = .ok (.iconst 1, 1) := by decide +kernel
theorem d_Play_isQuiet_15 : decode y_Play_isQuiet.2.1 15 = .ok (.goto 4, 3) := by decide +kernel
theorem d_Play_isQuiet_18 : decode y_Play_isQuiet.2.1 18 = .ok (.iconst 0, 1) := by decide +kernel
theorem d_Play_isQuiet_19 : decode y_Play_isQuiet.2.1 19 = .ok (.ireturn, 1) := by decide +kernel
theorem s_Play_isQuiet : ab_Stat y_Play_isQuiet 0 := ⟨(k6 98 rfl rfl), (k1 9 rfl rfl), ⟨by decide, by decide⟩, by decide +kernel⟩
theorem i_Play_isQuiet : Cond.instanceMethod y_Play_isQuiet.1 ∈ ab_T := (k6 96 rfl rfl)
theorem v_Play_isQuiet : Cond.selects "WorldEngine$Play" y_Play_isQuiet.1 y_Play_isQuiet.1 ∈ ab_T := (k6 97 rfl rfl)
def F_Play_isQuiet (N : Nat) (p0 : Nat) (H : Hp) : Option (Int32 × Hp) :=
    ck (H.sh[p0]? = some (10, 0)) <|
    rf (H.P p0 0) fun a2 =>
    ck (H.sh[a2]? = some (7, 0)) <|
    bnd ((H.D a2 0)) fun x5 =>
    bnd ((H.D p0 1)) fun x6 =>
    if x5 = x6 then
    some (1, H)
    else
    some (0, H)
set_option maxRecDepth 20000 in
set_option maxHeartbeats 2000000 in
theorem m_Play_isQuiet {N : Nat} {p0 : Nat} {H : Hp} {r : Int32 × Hp} (hF : F_Play_isQuiet N p0 H = some r) : Sa H r.2 := by
  unfold F_Play_isQuiet at hF
  have hm := Sa.rf H
  obtain ⟨q8, hG⟩ := ck_s hF; clear hF
  obtain ⟨a9, e10, hF⟩ := rf_s hG; clear hG
  obtain ⟨q11, hG⟩ := ck_s hF; clear hF
  obtain ⟨x12, -, hF⟩ := bnd_g hG; clear hG
  obtain ⟨x13, -, hG⟩ := bnd_g hF; clear hF
  rcases ite_s hG with ⟨q_1, hF⟩ | ⟨q_1, hF⟩
  · clear hG
    have hr := Option.some.inj hF; subst hr
    exact hm
  · clear hG
    have hr := Option.some.inj hF; subst hr
    exact hm
set_option maxRecDepth 20000 in
set_option maxHeartbeats 2000000 in
theorem k_Play_isQuiet {N : Nat} {p0 : Nat} {H : Hp} {r : Int32 × Hp} (hF : F_Play_isQuiet N p0 H = some r) : ab_M y_Play_isQuiet { frames := 0, cells := 0, slots := 0, locals := 0 } [.ref p0] (hpw H) (po (.returned (some (.int r.1))) r.2) := by
  unfold F_Play_isQuiet at hF
  refine ab_of2 (lv := [some (.ref p0)]) 0 rfl rfl (Nat.le_of_ble_eq_true rfl) ?_
  refine ab_aload_n d_Play_isQuiet_0 rfl rfl rfl ?_
  obtain ⟨q1, hG⟩ := ck_s hF; clear hF
  obtain ⟨a2, e3, hF⟩ := rf_s hG; clear hG
  refine hp_getR (f := 0) d_Play_isQuiet_1 q1 (by decide) rfl (by decide) (k2 130 rfl rfl) rfl e3 ?_
  obtain ⟨q4, hG⟩ := ck_s hF; clear hF
  refine hp_getI (f := 0) d_Play_isQuiet_4 q4 (by decide) rfl (by decide) (k1 205 rfl rfl) rfl ?_
  refine ab_topi (fun x5 ex5 => ?_)
  replace hG := bnd_s ex5 hG
  refine ab_aload_n d_Play_isQuiet_7 rfl rfl rfl ?_
  refine hp_getI (f := 1) d_Play_isQuiet_8 q1 (by decide) rfl (by decide) (k2 132 rfl rfl) rfl ?_
  refine ab_topi (fun x6 ex6 => ?_)
  replace hG := bnd_s ex6 hG
  refine ab_icmp_ne (tgt := 18) d_Play_isQuiet_11 (by decide) (fun q7 => ?_) (fun q7 => ?_)
  · rw [if_neg q7] at hG
    refine ab_iconst (v := 0) d_Play_isQuiet_18 (by decide) ?_
    exact ab_zret d_Play_isQuiet_19 rfl rfl (Nat.le_refl _) (Nat.le_refl _) (by have hr := Option.some.inj hG; subst hr; exact ⟨rfl, rfl⟩)
  · rw [if_pos q7] at hG
    refine ab_iconst (v := 1) d_Play_isQuiet_14 (by decide) ?_
    refine ab_goto (tgt := 19) d_Play_isQuiet_15 (by decide) ?_
    exact ab_zret d_Play_isQuiet_19 rfl rfl (Nat.le_refl _) (Nat.le_refl _) (by have hr := Option.some.inj hG; subst hr; exact ⟨rfl, rfl⟩)
def y_Play_scratch : ab_Y := (⟨"WorldEngine$Play", "scratch", "()LWorldEngine$World;"⟩, prog_5_method_6_code, 1, (some (FieldType.object "WorldEngine$World")), [])
theorem d_Play_scratch_0 : decode y_Play_scratch.2.1 0 = .ok (.aload_n 0, 1) := by decide +kernel
theorem d_Play_scratch_1 : decode y_Play_scratch.2.1 1 = .ok (.getfield 16, 3) := by decide +kernel
theorem d_Play_scratch_4 : decode y_Play_scratch.2.1 4 = .ok (.iconst 0, 1) := by decide +kernel
theorem d_Play_scratch_5 : decode y_Play_scratch.2.1 5 = .ok (.aaload, 1) := by decide +kernel
theorem d_Play_scratch_6 : decode y_Play_scratch.2.1 6 = .ok (.areturn, 1) := by decide +kernel
theorem s_Play_scratch : ab_Stat y_Play_scratch 0 := ⟨(k6 106 rfl rfl), (k1 9 rfl rfl), ⟨by decide, by decide⟩, by decide +kernel⟩
theorem i_Play_scratch : Cond.instanceMethod y_Play_scratch.1 ∈ ab_T := (k6 104 rfl rfl)
theorem v_Play_scratch : Cond.selects "WorldEngine$Play" y_Play_scratch.1 y_Play_scratch.1 ∈ ab_T := (k6 105 rfl rfl)
def F_Play_scratch (N : Nat) (p0 : Nat) (H : Hp) : Option ((Option Nat) × Hp) :=
    ck (H.sh[p0]? = some (10, 0)) <|
    rf (H.P p0 6) fun a2 =>
    ar H 105 a2 fun n4 =>
    ck (inb (0 : Int32) n4) <|
    rf (H.P a2 ((0 : Int32)).toNatClampNeg) fun a7 =>
    some (some a7, H)
set_option maxRecDepth 20000 in
set_option maxHeartbeats 2000000 in
theorem m_Play_scratch {N : Nat} {p0 : Nat} {H : Hp} {r : (Option Nat) × Hp} (hF : F_Play_scratch N p0 H = some r) : Sa H r.2 := by
  unfold F_Play_scratch at hF
  have hm := Sa.rf H
  obtain ⟨q9, hG⟩ := ck_s hF; clear hF
  obtain ⟨a10, e11, hF⟩ := rf_s hG; clear hG
  obtain ⟨n12, q13, hG⟩ := ar_s hF; clear hF
  obtain ⟨q14, hF⟩ := ck_s hG; clear hG
  obtain ⟨a15, e16, hG⟩ := rf_s hF; clear hF
  have hr := Option.some.inj hG; subst hr
  exact hm
set_option maxRecDepth 20000 in
set_option maxHeartbeats 2000000 in
theorem k_Play_scratch {N : Nat} {p0 : Nat} {H : Hp} {r : (Option Nat) × Hp} (hF : F_Play_scratch N p0 H = some r) : ab_M y_Play_scratch { frames := 0, cells := 0, slots := 0, locals := 0 } [.ref p0] (hpw H) (po (.returned (some (ab_rf r.1))) r.2) := by
  unfold F_Play_scratch at hF
  refine ab_of2 (lv := [some (.ref p0)]) 0 rfl rfl (Nat.le_of_ble_eq_true rfl) ?_
  refine ab_aload_n d_Play_scratch_0 rfl rfl rfl ?_
  obtain ⟨q1, hG⟩ := ck_s hF; clear hF
  obtain ⟨a2, e3, hF⟩ := rf_s hG; clear hG
  refine hp_getR (f := 6) d_Play_scratch_1 q1 (by decide) rfl (by decide) (k2 142 rfl rfl) rfl e3 ?_
  refine ab_iconst (v := 0) d_Play_scratch_4 (by decide) ?_
  obtain ⟨n4, q5, hG⟩ := ar_s hF; clear hF
  obtain ⟨q6, hF⟩ := ck_s hG; clear hG
  obtain ⟨a7, e8, hG⟩ := rf_s hF; clear hF
  refine hp_aald (q := 105) d_Play_scratch_5 (by decide) tW q5 q6 e8 ?_
  exact ab_aret d_Play_scratch_6 rfl (Or.inl ⟨_, rfl⟩) rfl (Nat.le_refl _) (Nat.le_refl _) (by have hr := Option.some.inj hG; subst hr; exact ⟨rfl, rfl⟩)
def y_World_copyFrom : ab_Y := (⟨"WorldEngine$World", "copyFrom", "(LWorldEngine$World;)V"⟩, prog_12_method_3_code, 2, none, [])
theorem d_World_copyFrom_0 : decode y_World_copyFrom.2.1 0 = .ok (.aload_n 0, 1) := by decide +kernel
theorem d_World_copyFrom_1 : decode y_World_copyFrom.2.1 1 = .ok (.aload_n 1, 1) := by decide +kernel
theorem d_World_copyFrom_2 : decode y_World_copyFrom.2.1 2 = .ok (.getfield 33, 3) := by decide +kernel
theorem d_World_copyFrom_5 : decode y_World_copyFrom.2.1 5 = .ok (.putfield 33, 3) := by decide +kernel
theorem d_World_copyFrom_8 : decode y_World_copyFrom.2.1 8 = .ok (.aload_n 0, 1) := by decide +kernel
theorem d_World_copyFrom_9 : decode y_World_copyFrom.2.1 9 = .ok (.aload_n 1, 1) := by decide +kernel
theorem d_World_copyFrom_10 : decode y_World_copyFrom.2.1 10 = .ok (.getfield 37, 3) := by decide +kernel
theorem d_World_copyFrom_13 : decode y_World_copyFrom.2.1 13 = .ok (.putfield 37, 3) := by decide +kernel
theorem d_World_copyFrom_16 : decode y_World_copyFrom.2.1 16 = .ok (.aload_n 0, 1) := by decide +kernel
theorem d_World_copyFrom_17 : decode y_World_copyFrom.2.1 17 = .ok (.aload_n 1, 1) := by decide +kernel
theorem d_World_copyFrom_18 : decode y_World_copyFrom.2.1 18 = .ok (.getfield 40, 3) := by decide +kernel
theorem d_World_copyFrom_21 : decode y_World_copyFrom.2.1 21 = .ok (.putfield 40, 3) := by decide +kernel
theorem d_World_copyFrom_24 : decode y_World_copyFrom.2.1 24 = .ok (.aload_n 0, 1) := by decide +kernel
theorem d_World_copyFrom_25 : decode y_World_copyFrom.2.1 25 = .ok (.aload_n 1, 1) := by decide +kernel
theorem d_World_copyFrom_26 : decode y_World_copyFrom.2.1 26 = .ok (.getfield 43, 3) := by decide +kernel
theorem d_World_copyFrom_29 : decode y_World_copyFrom.2.1 29 = .ok (.putfield 43, 3) := by decide +kernel
theorem d_World_copyFrom_32 : decode y_World_copyFrom.2.1 32 = .ok (.aload_n 0, 1) := by decide +kernel
theorem d_World_copyFrom_33 : decode y_World_copyFrom.2.1 33 = .ok (.aload_n 1, 1) := by decide +kernel
theorem d_World_copyFrom_34 : decode y_World_copyFrom.2.1 34 = .ok (.getfield 61, 3) := by decide +kernel
theorem d_World_copyFrom_37 : decode y_World_copyFrom.2.1 37 = .ok (.putfield 61, 3) := by decide +kernel
theorem d_World_copyFrom_40 : decode y_World_copyFrom.2.1 40 = .ok (.aload_n 0, 1) := by decide +kernel
theorem d_World_copyFrom_41 : decode y_World_copyFrom.2.1 41 = .ok (.aload_n 1, 1) := by decide +kernel
theorem d_World_copyFrom_42 : decode y_World_copyFrom.2.1 42 = .ok (.getfield 64, 3) := by decide +kernel
theorem d_World_copyFrom_45 : decode y_World_copyFrom.2.1 45 = .ok (.putfield 64, 3) := by decide +kernel
theorem d_World_copyFrom_48 : decode y_World_copyFrom.2.1 48 = .ok (.aload_n 0, 1) := by decide +kernel
theorem d_World_copyFrom_49 : decode y_World_copyFrom.2.1 49 = .ok (.aload_n 1, 1) := by decide +kernel
theorem d_World_copyFrom_50 : decode y_World_copyFrom.2.1 50 = .ok (.getfield 46, 3) := by decide +kernel
theorem d_World_copyFrom_53 : decode y_World_copyFrom.2.1 53 = .ok (.putfield 46, 3) := by decide +kernel
theorem d_World_copyFrom_56 : decode y_World_copyFrom.2.1 56 = .ok (.aload_n 1, 1) := by decide +kernel
theorem d_World_copyFrom_57 : decode y_World_copyFrom.2.1 57 = .ok (.getfield 9, 3) := by decide +kernel
theorem d_World_copyFrom_60 : decode y_World_copyFrom.2.1 60 = .ok (.iconst 0, 1) := by decide +kernel
theorem d_World_copyFrom_61 : decode y_World_copyFrom.2.1 61 = .ok (.aload_n 0, 1) := by decide +kernel
theorem d_World_copyFrom_62 : decode y_World_copyFrom.2.1 62 = .ok (.getfield 9, 3) := by decide +kernel
theorem d_World_copyFrom_65 : decode y_World_copyFrom.2.1 65 = .ok (.iconst 0, 1) := by decide +kernel
theorem d_World_copyFrom_66 : decode y_World_copyFrom.2.1 66 = .ok (.sipush 256, 3) := by decide +kernel
theorem d_World_copyFrom_69 : decode y_World_copyFrom.2.1 69 = .ok (.invokestatic 67, 3) := by decide +kernel
theorem d_World_copyFrom_72 : decode y_World_copyFrom.2.1 72 = .ok (.aload_n 1, 1) := by decide +kernel
theorem d_World_copyFrom_73 : decode y_World_copyFrom.2.1 73 = .ok (.getfield 13, 3) := by decide +kernel
theorem d_World_copyFrom_76 : decode y_World_copyFrom.2.1 76 = .ok (.iconst 0, 1) := by decide +kernel
theorem d_World_copyFrom_77 : decode y_World_copyFrom.2.1 77 = .ok (.aload_n 0, 1) := by decide +kernel
theorem d_World_copyFrom_78 : decode y_World_copyFrom.2.1 78 = .ok (.getfield 13, 3) := by decide +kernel
theorem d_World_copyFrom_81 : decode y_World_copyFrom.2.1 81 = .ok (.iconst 0, 1) := by decide +kernel
theorem d_World_copyFrom_82 : decode y_World_copyFrom.2.1 82 = .ok (.sipush 256, 3) := by decide +kernel
theorem d_World_copyFrom_85 : decode y_World_copyFrom.2.1 85 = .ok (.invokestatic 67, 3) := by decide +kernel
theorem d_World_copyFrom_88 : decode y_World_copyFrom.2.1 88 = .ok (.aload_n 0, 1) := by decide +kernel
theorem d_World_copyFrom_89 : decode y_World_copyFrom.2.1 89 = .ok (.aload_n 1, 1) := by decide +kernel
theorem d_World_copyFrom_90 : decode y_World_copyFrom.2.1 90 = .ok (.getfield 49, 3) := by decide +kernel
theorem d_World_copyFrom_93 : decode y_World_copyFrom.2.1 93 = .ok (.putfield 49, 3) := by decide +kernel
theorem d_World_copyFrom_96 : decode y_World_copyFrom.2.1 96 = .ok (.aload_n 0, 1) := by decide +kernel
theorem d_World_copyFrom_97 : decode y_World_copyFrom.2.1 97 = .ok (.aload_n 1, 1) := by decide +kernel
theorem d_World_copyFrom_98 : decode y_World_copyFrom.2.1 98 = .ok (.getfield 52, 3) := by decide +kernel
theorem d_World_copyFrom_101 : decode y_World_copyFrom.2.1 101 = .ok (.putfield 52, 3) := by decide +kernel
theorem d_World_copyFrom_104 : decode y_World_copyFrom.2.1 104 = .ok (.aload_n 1, 1) := by decide +kernel
theorem d_World_copyFrom_105 : decode y_World_copyFrom.2.1 105 = .ok (.getfield 24, 3) := by decide +kernel
theorem d_World_copyFrom_108 : decode y_World_copyFrom.2.1 108 = .ok (.iconst 0, 1) := by decide +kernel
theorem d_World_copyFrom_109 : decode y_World_copyFrom.2.1 109 = .ok (.aload_n 0, 1) := by decide +kernel
theorem d_World_copyFrom_110 : decode y_World_copyFrom.2.1 110 = .ok (.getfield 24, 3) := by decide +kernel
theorem d_World_copyFrom_113 : decode y_World_copyFrom.2.1 113 = .ok (.iconst 0, 1) := by decide +kernel
theorem d_World_copyFrom_114 : decode y_World_copyFrom.2.1 114 = .ok (.aload_n 0, 1) := by decide +kernel
theorem d_World_copyFrom_115 : decode y_World_copyFrom.2.1 115 = .ok (.getfield 49, 3) := by decide +kernel
theorem d_World_copyFrom_118 : decode y_World_copyFrom.2.1 118 = .ok (.aload_n 0, 1) := by decide +kernel
theorem d_World_copyFrom_119 : decode y_World_copyFrom.2.1 119 = .ok (.getfield 52, 3) := by decide +kernel
theorem d_World_copyFrom_122 : decode y_World_copyFrom.2.1 122 = .ok (.imul, 1) := by decide +kernel
theorem d_World_copyFrom_123 : decode y_World_copyFrom.2.1 123 = .ok (.invokestatic 67, 3) := by decide +kernel
theorem d_World_copyFrom_126 : decode y_World_copyFrom.2.1 126 = .ok (.aload_n 1, 1) := by decide +kernel
theorem d_World_copyFrom_127 : decode y_World_copyFrom.2.1 127 = .ok (.getfield 27, 3) := by decide +kernel
theorem d_World_copyFrom_130 : decode y_World_copyFrom.2.1 130 = .ok (.iconst 0, 1) := by decide +kernel
theorem d_World_copyFrom_131 : decode y_World_copyFrom.2.1 131 = .ok (.aload_n 0, 1) := by decide +kernel
theorem d_World_copyFrom_132 : decode y_World_copyFrom.2.1 132 = .ok (.getfield 27, 3) := by decide +kernel
theorem d_World_copyFrom_135 : decode y_World_copyFrom.2.1 135 = .ok (.iconst 0, 1) := by decide +kernel
theorem d_World_copyFrom_136 : decode y_World_copyFrom.2.1 136 = .ok (.aload_n 1, 1) := by decide +kernel
theorem d_World_copyFrom_137 : decode y_World_copyFrom.2.1 137 = .ok (.getfield 55, 3) := by decide +kernel
theorem d_World_copyFrom_140 : decode y_World_copyFrom.2.1 140 = .ok (.bipush 7, 2) := by decide +kernel
theorem d_World_copyFrom_142 : decode y_World_copyFrom.2.1 142 = .ok (.imul, 1) := by decide +kernel
theorem d_World_copyFrom_143 : decode y_World_copyFrom.2.1 143 = .ok (.invokestatic 67, 3) := by decide +kernel
theorem d_World_copyFrom_146 : decode y_World_copyFrom.2.1 146 = .ok (.aload_n 0, 1) := by decide +kernel
theorem d_World_copyFrom_147 : decode y_World_copyFrom.2.1 147 = .ok (.aload_n 1, 1) := by decide +kernel
theorem d_World_copyFrom_148 : decode y_World_copyFrom.2.1 148 = .ok (.getfield 55, 3) := by decide +kernel
theorem d_World_copyFrom_151 : decode y_World_copyFrom.2.1 151 = .ok (.putfield 55, 3) := by decide +kernel
theorem d_World_copyFrom_154 : decode y_World_copyFrom.2.1 154 = .ok (.aload_n 1, 1) := by decide +kernel
theorem d_World_copyFrom_155 : decode y_World_copyFrom.2.1 155 = .ok (.getfield 30, 3) := by decide +kernel
theorem d_World_copyFrom_158 : decode y_World_copyFrom.2.1 158 = .ok (.iconst 0, 1) := by decide +kernel
theorem d_World_copyFrom_159 : decode y_World_copyFrom.2.1 159 = .ok (.aload_n 0, 1) := by decide +kernel
theorem d_World_copyFrom_160 : decode y_World_copyFrom.2.1 160 = .ok (.getfield 30, 3) := by decide +kernel
theorem d_World_copyFrom_163 : decode y_World_copyFrom.2.1 163 = .ok (.iconst 0, 1) := by decide +kernel
theorem d_World_copyFrom_164 : decode y_World_copyFrom.2.1 164 = .ok (.aload_n 1, 1) := by decide +kernel
theorem d_World_copyFrom_165 : decode y_World_copyFrom.2.1 165 = .ok (.getfield 58, 3) := by decide +kernel
theorem d_World_copyFrom_168 : decode y_World_copyFrom.2.1 168 = .ok (.invokestatic 67, 3) := by decide +kernel
theorem d_World_copyFrom_171 : decode y_World_copyFrom.2.1 171 = .ok (.aload_n 0, 1) := by decide +kernel
theorem d_World_copyFrom_172 : decode y_World_copyFrom.2.1 172 = .ok (.aload_n 1, 1) := by decide +kernel
theorem d_World_copyFrom_173 : decode y_World_copyFrom.2.1 173 = .ok (.getfield 58, 3) := by decide +kernel
theorem d_World_copyFrom_176 : decode y_World_copyFrom.2.1 176 = .ok (.putfield 58, 3) := by decide +kernel
theorem d_World_copyFrom_179 : decode y_World_copyFrom.2.1 179 = .ok (.return_, 1) := by decide +kernel
theorem s_World_copyFrom : ab_Stat y_World_copyFrom 1 := ⟨(k6 110 rfl rfl), (k1 10 rfl rfl), ⟨by decide, by decide⟩, by decide +kernel⟩
theorem i_World_copyFrom : Cond.instanceMethod y_World_copyFrom.1 ∈ ab_T := (k6 108 rfl rfl)
theorem v_World_copyFrom : Cond.selects "WorldEngine$World" y_World_copyFrom.1 y_World_copyFrom.1 ∈ ab_T := (k6 109 rfl rfl)
def F_World_copyFrom (N : Nat) (p0 : Nat) (p1 : Nat) (H : Hp) : Option (Unit × Hp) :=
    ck (H.sh[p1]? = some (7, 0)) <|
    bnd ((H.D p1 0)) fun x2 =>
    ck (H.sh[p0]? = some (7, 0)) <|
    bnd (H.sD p0 0 x2) fun H4 =>
    bnd ((H4.D p1 1)) fun x5 =>
    bnd (H4.sD p0 1 x5) fun H6 =>
    bnd ((H6.D p1 2)) fun x7 =>
    bnd (H6.sD p0 2 x7) fun H8 =>
    bnd ((H8.D p1 3)) fun x9 =>
    bnd (H8.sD p0 3 x9) fun H10 =>
    bnd ((H10.D p1 4)) fun x11 =>
    bnd (H10.sD p0 4 x11) fun H12 =>
    bnd ((H12.D p1 5)) fun x13 =>
    bnd (H12.sD p0 5 x13) fun H14 =>
    bnd ((H14.D p1 6)) fun x15 =>
    bnd (H14.sD p0 6 x15) fun H16 =>
    rf (H16.P p1 7) fun a17 =>
    rf (H16.P p0 7) fun a19 =>
    ar H16 100 a17 fun n21 =>
    ar H16 100 a19 fun n23 =>
    ck (¬ (0 : Int32) < 0) <|
    ck (¬ (0 : Int32) < 0) <|
    ck (¬ (256 : Int32) < 0) <|
    ck (((0 : Int32)).toNatClampNeg + ((256 : Int32)).toNatClampNeg ≤ n21) <|
    ck (((0 : Int32)).toNatClampNeg + ((256 : Int32)).toNatClampNeg ≤ n23) <|
    bnd (H16.cpy a17 a19 ((0 : Int32)).toNatClampNeg ((0 : Int32)).toNatClampNeg ((256 : Int32)).toNatClampNeg) fun H30 =>
    rf (H30.P p1 8) fun a31 =>
    rf (H30.P p0 8) fun a33 =>
    ar H30 100 a31 fun n35 =>
    ar H30 100 a33 fun n37 =>
    ck (¬ (0 : Int32) < 0) <|
    ck (¬ (0 : Int32) < 0) <|
    ck (¬ (256 : Int32) < 0) <|
    ck (((0 : Int32)).toNatClampNeg + ((256 : Int32)).toNatClampNeg ≤ n35) <|
    ck (((0 : Int32)).toNatClampNeg + ((256 : Int32)).toNatClampNeg ≤ n37) <|
    bnd (H30.cpy a31 a33 ((0 : Int32)).toNatClampNeg ((0 : Int32)).toNatClampNeg ((256 : Int32)).toNatClampNeg) fun H44 =>
    bnd ((H44.D p1 9)) fun x45 =>
    bnd (H44.sD p0 9 x45) fun H46 =>
    bnd ((H46.D p1 10)) fun x47 =>
    bnd (H46.sD p0 10 x47) fun H48 =>
    rf (H48.P p1 11) fun a49 =>
    rf (H48.P p0 11) fun a51 =>
    bnd ((H48.D p0 9)) fun x53 =>
    bnd ((H48.D p0 10)) fun x54 =>
    ar H48 100 a49 fun n55 =>
    ar H48 100 a51 fun n57 =>
    ck (¬ (0 : Int32) < 0) <|
    ck (¬ (0 : Int32) < 0) <|
    ck (¬ (x53 * x54) < 0) <|
    ck (((0 : Int32)).toNatClampNeg + ((x53 * x54)).toNatClampNeg ≤ n55) <|
    ck (((0 : Int32)).toNatClampNeg + ((x53 * x54)).toNatClampNeg ≤ n57) <|
    bnd (H48.cpy a49 a51 ((0 : Int32)).toNatClampNeg ((0 : Int32)).toNatClampNeg ((x53 * x54)).toNatClampNeg) fun H64 =>
    rf (H64.P p1 12) fun a65 =>
    rf (H64.P p0 12) fun a67 =>
    bnd ((H64.D p1 13)) fun x69 =>
    ar H64 100 a65 fun n70 =>
    ar H64 100 a67 fun n72 =>
    ck (¬ (0 : Int32) < 0) <|
    ck (¬ (0 : Int32) < 0) <|
    ck (¬ (x69 * (7 : Int32)) < 0) <|
    ck (((0 : Int32)).toNatClampNeg + ((x69 * (7 : Int32))).toNatClampNeg ≤ n70) <|
    ck (((0 : Int32)).toNatClampNeg + ((x69 * (7 : Int32))).toNatClampNeg ≤ n72) <|
    bnd (H64.cpy a65 a67 ((0 : Int32)).toNatClampNeg ((0 : Int32)).toNatClampNeg ((x69 * (7 : Int32))).toNatClampNeg) fun H79 =>
    bnd ((H79.D p1 13)) fun x80 =>
    bnd (H79.sD p0 13 x80) fun H81 =>
    rf (H81.P p1 14) fun a82 =>
    rf (H81.P p0 14) fun a84 =>
    bnd ((H81.D p1 15)) fun x86 =>
    ar H81 100 a82 fun n87 =>
    ar H81 100 a84 fun n89 =>
    ck (¬ (0 : Int32) < 0) <|
    ck (¬ (0 : Int32) < 0) <|
    ck (¬ x86 < 0) <|
    ck (((0 : Int32)).toNatClampNeg + (x86).toNatClampNeg ≤ n87) <|
    ck (((0 : Int32)).toNatClampNeg + (x86).toNatClampNeg ≤ n89) <|
    bnd (H81.cpy a82 a84 ((0 : Int32)).toNatClampNeg ((0 : Int32)).toNatClampNeg (x86).toNatClampNeg) fun H96 =>
    bnd ((H96.D p1 15)) fun x97 =>
    bnd (H96.sD p0 15 x97) fun H98 =>
    some ((), H98)
set_option maxRecDepth 20000 in
set_option maxHeartbeats 2000000 in
theorem m_World_copyFrom {N : Nat} {p0 : Nat} {p1 : Nat} {H : Hp} {r : Unit × Hp} (hF : F_World_copyFrom N p0 p1 H = some r) : Sa H r.2 := by
  unfold F_World_copyFrom at hF
  have hm := Sa.rf H
  obtain ⟨q99, hG⟩ := ck_s hF; clear hF
  obtain ⟨x100, -, hF⟩ := bnd_g hG; clear hG
  obtain ⟨q101, hG⟩ := ck_s hF; clear hF
  obtain ⟨H102, eH102, hF⟩ := bnd_g hG; clear hG
  replace hm : Sa H H102 := by rw [eH102]; exact hm
  obtain ⟨x103, -, hG⟩ := bnd_g hF; clear hF
  obtain ⟨H104, eH104, hF⟩ := bnd_g hG; clear hG
  replace hm : Sa H H104 := by rw [eH104]; exact hm
  obtain ⟨x105, -, hG⟩ := bnd_g hF; clear hF
  obtain ⟨H106, eH106, hF⟩ := bnd_g hG; clear hG
  replace hm : Sa H H106 := by rw [eH106]; exact hm
  obtain ⟨x107, -, hG⟩ := bnd_g hF; clear hF
  obtain ⟨H108, eH108, hF⟩ := bnd_g hG; clear hG
  replace hm : Sa H H108 := by rw [eH108]; exact hm
  obtain ⟨x109, -, hG⟩ := bnd_g hF; clear hF
  obtain ⟨H110, eH110, hF⟩ := bnd_g hG; clear hG
  replace hm : Sa H H110 := by rw [eH110]; exact hm
  obtain ⟨x111, -, hG⟩ := bnd_g hF; clear hF
  obtain ⟨H112, eH112, hF⟩ := bnd_g hG; clear hG
  replace hm : Sa H H112 := by rw [eH112]; exact hm
  obtain ⟨x113, -, hG⟩ := bnd_g hF; clear hF
  obtain ⟨H114, eH114, hF⟩ := bnd_g hG; clear hG
  replace hm : Sa H H114 := by rw [eH114]; exact hm
  obtain ⟨a115, e116, hG⟩ := rf_s hF; clear hF
  obtain ⟨a117, e118, hF⟩ := rf_s hG; clear hG
  obtain ⟨n119, q120, hG⟩ := ar_s hF; clear hF
  obtain ⟨n121, q122, hF⟩ := ar_s hG; clear hG
  obtain ⟨q123, hG⟩ := ck_s hF; clear hF
  obtain ⟨q124, hF⟩ := ck_s hG; clear hG
  obtain ⟨q125, hG⟩ := ck_s hF; clear hF
  obtain ⟨q126, hF⟩ := ck_s hG; clear hG
  obtain ⟨q127, hG⟩ := ck_s hF; clear hF
  obtain ⟨H128, eH128, hF⟩ := bnd_g hG; clear hG
  replace hm : Sa H H128 := by rw [eH128]; exact hm
  obtain ⟨a129, e130, hG⟩ := rf_s hF; clear hF
  obtain ⟨a131, e132, hF⟩ := rf_s hG; clear hG
  obtain ⟨n133, q134, hG⟩ := ar_s hF; clear hF
  obtain ⟨n135, q136, hF⟩ := ar_s hG; clear hG
  obtain ⟨q137, hG⟩ := ck_s hF; clear hF
  obtain ⟨q138, hF⟩ := ck_s hG; clear hG
  obtain ⟨q139, hG⟩ := ck_s hF; clear hF
  obtain ⟨q140, hF⟩ := ck_s hG; clear hG
  obtain ⟨q141, hG⟩ := ck_s hF; clear hF
  obtain ⟨H142, eH142, hF⟩ := bnd_g hG; clear hG
  replace hm : Sa H H142 := by rw [eH142]; exact hm
  obtain ⟨x143, -, hG⟩ := bnd_g hF; clear hF
  obtain ⟨H144, eH144, hF⟩ := bnd_g hG; clear hG
  replace hm : Sa H H144 := by rw [eH144]; exact hm
  obtain ⟨x145, -, hG⟩ := bnd_g hF; clear hF
  obtain ⟨H146, eH146, hF⟩ := bnd_g hG; clear hG
  replace hm : Sa H H146 := by rw [eH146]; exact hm
  obtain ⟨a147, e148, hG⟩ := rf_s hF; clear hF
  obtain ⟨a149, e150, hF⟩ := rf_s hG; clear hG
  obtain ⟨x151, -, hG⟩ := bnd_g hF; clear hF
  obtain ⟨x152, -, hF⟩ := bnd_g hG; clear hG
  obtain ⟨n153, q154, hG⟩ := ar_s hF; clear hF
  obtain ⟨n155, q156, hF⟩ := ar_s hG; clear hG
  obtain ⟨q157, hG⟩ := ck_s hF; clear hF
  obtain ⟨q158, hF⟩ := ck_s hG; clear hG
  obtain ⟨q159, hG⟩ := ck_s hF; clear hF
  obtain ⟨q160, hF⟩ := ck_s hG; clear hG
  obtain ⟨q161, hG⟩ := ck_s hF; clear hF
  obtain ⟨H162, eH162, hF⟩ := bnd_g hG; clear hG
  replace hm : Sa H H162 := by rw [eH162]; exact hm
  obtain ⟨a163, e164, hG⟩ := rf_s hF; clear hF
  obtain ⟨a165, e166, hF⟩ := rf_s hG; clear hG
  obtain ⟨x167, -, hG⟩ := bnd_g hF; clear hF
  obtain ⟨n168, q169, hF⟩ := ar_s hG; clear hG
  obtain ⟨n170, q171, hG⟩ := ar_s hF; clear hF
  obtain ⟨q172, hF⟩ := ck_s hG; clear hG
  obtain ⟨q173, hG⟩ := ck_s hF; clear hF
  obtain ⟨q174, hF⟩ := ck_s hG; clear hG
  obtain ⟨q175, hG⟩ := ck_s hF; clear hF
  obtain ⟨q176, hF⟩ := ck_s hG; clear hG
  obtain ⟨H177, eH177, hG⟩ := bnd_g hF; clear hF
  replace hm : Sa H H177 := by rw [eH177]; exact hm
  obtain ⟨x178, -, hF⟩ := bnd_g hG; clear hG
  obtain ⟨H179, eH179, hG⟩ := bnd_g hF; clear hF
  replace hm : Sa H H179 := by rw [eH179]; exact hm
  obtain ⟨a180, e181, hF⟩ := rf_s hG; clear hG
  obtain ⟨a182, e183, hG⟩ := rf_s hF; clear hF
  obtain ⟨x184, -, hF⟩ := bnd_g hG; clear hG
  obtain ⟨n185, q186, hG⟩ := ar_s hF; clear hF
  obtain ⟨n187, q188, hF⟩ := ar_s hG; clear hG
  obtain ⟨q189, hG⟩ := ck_s hF; clear hF
  obtain ⟨q190, hF⟩ := ck_s hG; clear hG
  obtain ⟨q191, hG⟩ := ck_s hF; clear hF
  obtain ⟨q192, hF⟩ := ck_s hG; clear hG
  obtain ⟨q193, hG⟩ := ck_s hF; clear hF
  obtain ⟨H194, eH194, hF⟩ := bnd_g hG; clear hG
  replace hm : Sa H H194 := by rw [eH194]; exact hm
  obtain ⟨x195, -, hG⟩ := bnd_g hF; clear hF
  obtain ⟨H196, eH196, hF⟩ := bnd_g hG; clear hG
  replace hm : Sa H H196 := by rw [eH196]; exact hm
  have hr := Option.some.inj hF; subst hr
  exact hm
set_option maxRecDepth 20000 in
set_option maxHeartbeats 2000000 in
theorem k_World_copyFrom {N : Nat} {p0 : Nat} {p1 : Nat} {H : Hp} {r : Unit × Hp} (hF : F_World_copyFrom N p0 p1 H = some r) : ab_M y_World_copyFrom { frames := 1, cells := 0, slots := 0, locals := 60 } [.ref p0, .ref p1] (hpw H) (po (.returned none) r.2) := by
  unfold F_World_copyFrom at hF
  refine ab_of2 (lv := [some (.ref p0), some (.ref p1)]) 0 rfl rfl (Nat.le_of_ble_eq_true rfl) ?_
  refine ab_aload_n d_World_copyFrom_0 rfl rfl rfl ?_
  refine ab_aload_n d_World_copyFrom_1 rfl rfl rfl ?_
  obtain ⟨q1, hG⟩ := ck_s hF; clear hF
  refine hp_getI (f := 0) d_World_copyFrom_2 q1 (by decide) rfl (by decide) (k1 204 rfl rfl) rfl ?_
  refine ab_topi (fun x2 ex2 => ?_)
  replace hG := bnd_s ex2 hG
  obtain ⟨q3, hF⟩ := ck_s hG; clear hG
  refine hp_putI (v := x2) (f := 0) d_World_copyFrom_5 q3 (by decide) rfl (by decide) (k1 204 rfl rfl) rfl rfl (fun _ => rfl) (fun _ => rfl) rfl ?_
  refine hp_gen (fun H4 eH4 => ?_)
  replace hF := bnd_s eH4 hF
  have s_1 : Sa H H4 := by rw [eH4]; exact Sa.rf _
  refine ab_aload_n d_World_copyFrom_8 rfl rfl rfl ?_
  refine ab_aload_n d_World_copyFrom_9 rfl rfl rfl ?_
  refine hp_getI (f := 1) d_World_copyFrom_10 (by rw [(s_1).1]; exact q1) (by decide) rfl (by decide) (k1 210 rfl rfl) rfl ?_
  refine ab_topi (fun x5 ex5 => ?_)
  replace hF := bnd_s ex5 hF
  refine hp_putI (v := x5) (f := 1) d_World_copyFrom_13 (by rw [(s_1).1]; exact q3) (by decide) rfl (by decide) (k1 210 rfl rfl) rfl rfl (fun _ => rfl) (fun _ => rfl) rfl ?_
  refine hp_gen (fun H6 eH6 => ?_)
  replace hF := bnd_s eH6 hF
  have s_2 : Sa H H6 := by rw [eH6]; exact s_1
  refine ab_aload_n d_World_copyFrom_16 rfl rfl rfl ?_
  refine ab_aload_n d_World_copyFrom_17 rfl rfl rfl ?_
  refine hp_getI (f := 2) d_World_copyFrom_18 (by rw [(s_2).1]; exact q1) (by decide) rfl (by decide) (k1 213 rfl rfl) rfl ?_
  refine ab_topi (fun x7 ex7 => ?_)
  replace hF := bnd_s ex7 hF
  refine hp_putI (v := x7) (f := 2) d_World_copyFrom_21 (by rw [(s_2).1]; exact q3) (by decide) rfl (by decide) (k1 213 rfl rfl) rfl rfl (fun _ => rfl) (fun _ => rfl) rfl ?_
  refine hp_gen (fun H8 eH8 => ?_)
  replace hF := bnd_s eH8 hF
  have s_3 : Sa H H8 := by rw [eH8]; exact s_2
  refine ab_aload_n d_World_copyFrom_24 rfl rfl rfl ?_
  refine ab_aload_n d_World_copyFrom_25 rfl rfl rfl ?_
  refine hp_getI (f := 3) d_World_copyFrom_26 (by rw [(s_3).1]; exact q1) (by decide) rfl (by decide) (k1 216 rfl rfl) rfl ?_
  refine ab_topi (fun x9 ex9 => ?_)
  replace hF := bnd_s ex9 hF
  refine hp_putI (v := x9) (f := 3) d_World_copyFrom_29 (by rw [(s_3).1]; exact q3) (by decide) rfl (by decide) (k1 216 rfl rfl) rfl rfl (fun _ => rfl) (fun _ => rfl) rfl ?_
  refine hp_gen (fun H10 eH10 => ?_)
  replace hF := bnd_s eH10 hF
  have s_4 : Sa H H10 := by rw [eH10]; exact s_3
  refine ab_aload_n d_World_copyFrom_32 rfl rfl rfl ?_
  refine ab_aload_n d_World_copyFrom_33 rfl rfl rfl ?_
  refine hp_getI (f := 4) d_World_copyFrom_34 (by rw [(s_4).1]; exact q1) (by decide) rfl (by decide) (k1 220 rfl rfl) rfl ?_
  refine ab_topi (fun x11 ex11 => ?_)
  replace hF := bnd_s ex11 hF
  refine hp_putI (v := x11) (f := 4) d_World_copyFrom_37 (by rw [(s_4).1]; exact q3) (by decide) rfl (by decide) (k1 220 rfl rfl) rfl rfl (fun _ => rfl) (fun _ => rfl) rfl ?_
  refine hp_gen (fun H12 eH12 => ?_)
  replace hF := bnd_s eH12 hF
  have s_5 : Sa H H12 := by rw [eH12]; exact s_4
  refine ab_aload_n d_World_copyFrom_40 rfl rfl rfl ?_
  refine ab_aload_n d_World_copyFrom_41 rfl rfl rfl ?_
  refine hp_getI (f := 5) d_World_copyFrom_42 (by rw [(s_5).1]; exact q1) (by decide) rfl (by decide) (k1 222 rfl rfl) rfl ?_
  refine ab_topi (fun x13 ex13 => ?_)
  replace hF := bnd_s ex13 hF
  refine hp_putI (v := x13) (f := 5) d_World_copyFrom_45 (by rw [(s_5).1]; exact q3) (by decide) rfl (by decide) (k1 222 rfl rfl) rfl rfl (fun _ => rfl) (fun _ => rfl) rfl ?_
  refine hp_gen (fun H14 eH14 => ?_)
  replace hF := bnd_s eH14 hF
  have s_6 : Sa H H14 := by rw [eH14]; exact s_5
  refine ab_aload_n d_World_copyFrom_48 rfl rfl rfl ?_
  refine ab_aload_n d_World_copyFrom_49 rfl rfl rfl ?_
  refine hp_getI (f := 6) d_World_copyFrom_50 (by rw [(s_6).1]; exact q1) (by decide) rfl (by decide) (k1 224 rfl rfl) rfl ?_
  refine ab_topi (fun x15 ex15 => ?_)
  replace hF := bnd_s ex15 hF
  refine hp_putI (v := x15) (f := 6) d_World_copyFrom_53 (by rw [(s_6).1]; exact q3) (by decide) rfl (by decide) (k1 224 rfl rfl) rfl rfl (fun _ => rfl) (fun _ => rfl) rfl ?_
  refine hp_gen (fun H16 eH16 => ?_)
  replace hF := bnd_s eH16 hF
  have s_7 : Sa H H16 := by rw [eH16]; exact s_6
  refine ab_aload_n d_World_copyFrom_56 rfl rfl rfl ?_
  obtain ⟨a17, e18, hG⟩ := rf_s hF; clear hF
  refine hp_getR (f := 7) d_World_copyFrom_57 (by rw [(s_7).1]; exact q1) (by decide) rfl (by decide) (k1 227 rfl rfl) rfl e18 ?_
  refine ab_iconst (v := 0) d_World_copyFrom_60 (by decide) ?_
  refine ab_aload_n d_World_copyFrom_61 rfl rfl rfl ?_
  obtain ⟨a19, e20, hF⟩ := rf_s hG; clear hG
  refine hp_getR (f := 7) d_World_copyFrom_62 (by rw [(s_7).1]; exact q3) (by decide) rfl (by decide) (k1 227 rfl rfl) rfl e20 ?_
  refine ab_iconst (v := 0) d_World_copyFrom_65 (by decide) ?_
  refine ab_sipush (v := 256) d_World_copyFrom_66 (by decide) ?_
  obtain ⟨n21, q22, hG⟩ := ar_s hF; clear hF
  rw [(s_7).1] at q22
  obtain ⟨n23, q24, hF⟩ := ar_s hG; clear hG
  rw [(s_7).1] at q24
  obtain ⟨q25, hG⟩ := ck_s hF; clear hF
  obtain ⟨q26, hF⟩ := ck_s hG; clear hG
  obtain ⟨q27, hG⟩ := ck_s hF; clear hF
  obtain ⟨q28, hF⟩ := ck_s hG; clear hG
  obtain ⟨q29, hG⟩ := ck_s hF; clear hF
  refine hp_acopy d_World_copyFrom_69 (k6 111 rfl rfl) (k6 113 rfl rfl) (k6 112 rfl rfl) (k1 29 rfl rfl) (by rw [(s_7).1]; exact q22) (by rw [(s_7).1]; exact q24) q25 q26 q27 q28 q29 (Nat.le_of_ble_eq_true rfl) (Nat.le_of_ble_eq_true rfl) ?_
  refine hp_gen (fun H30 eH30 => ?_)
  replace hG := bnd_s eH30 hG
  have s_8 : Sa H H30 := by rw [eH30]; exact s_7
  refine ab_aload_n d_World_copyFrom_72 rfl rfl rfl ?_
  obtain ⟨a31, e32, hF⟩ := rf_s hG; clear hG
  refine hp_getR (f := 8) d_World_copyFrom_73 (by rw [(s_8).1]; exact q1) (by decide) rfl (by decide) (k1 229 rfl rfl) rfl e32 ?_
  refine ab_iconst (v := 0) d_World_copyFrom_76 (by decide) ?_
  refine ab_aload_n d_World_copyFrom_77 rfl rfl rfl ?_
  obtain ⟨a33, e34, hG⟩ := rf_s hF; clear hF
  refine hp_getR (f := 8) d_World_copyFrom_78 (by rw [(s_8).1]; exact q3) (by decide) rfl (by decide) (k1 229 rfl rfl) rfl e34 ?_
  refine ab_iconst (v := 0) d_World_copyFrom_81 (by decide) ?_
  refine ab_sipush (v := 256) d_World_copyFrom_82 (by decide) ?_
  obtain ⟨n35, q36, hF⟩ := ar_s hG; clear hG
  rw [(s_8).1] at q36
  obtain ⟨n37, q38, hG⟩ := ar_s hF; clear hF
  rw [(s_8).1] at q38
  obtain ⟨q39, hF⟩ := ck_s hG; clear hG
  obtain ⟨q40, hG⟩ := ck_s hF; clear hF
  obtain ⟨q41, hF⟩ := ck_s hG; clear hG
  obtain ⟨q42, hG⟩ := ck_s hF; clear hF
  obtain ⟨q43, hF⟩ := ck_s hG; clear hG
  refine hp_acopy d_World_copyFrom_85 (k6 111 rfl rfl) (k6 113 rfl rfl) (k6 112 rfl rfl) (k1 29 rfl rfl) (by rw [(s_8).1]; exact q36) (by rw [(s_8).1]; exact q38) q39 q40 q41 q42 q43 (Nat.le_of_ble_eq_true rfl) (Nat.le_of_ble_eq_true rfl) ?_
  refine hp_gen (fun H44 eH44 => ?_)
  replace hF := bnd_s eH44 hF
  have s_9 : Sa H H44 := by rw [eH44]; exact s_8
  refine ab_aload_n d_World_copyFrom_88 rfl rfl rfl ?_
  refine ab_aload_n d_World_copyFrom_89 rfl rfl rfl ?_
  refine hp_getI (f := 9) d_World_copyFrom_90 (by rw [(s_9).1]; exact q1) (by decide) rfl (by decide) (k1 231 rfl rfl) rfl ?_
  refine ab_topi (fun x45 ex45 => ?_)
  replace hF := bnd_s ex45 hF
  refine hp_putI (v := x45) (f := 9) d_World_copyFrom_93 (by rw [(s_9).1]; exact q3) (by decide) rfl (by decide) (k1 231 rfl rfl) rfl rfl (fun _ => rfl) (fun _ => rfl) rfl ?_
  refine hp_gen (fun H46 eH46 => ?_)
  replace hF := bnd_s eH46 hF
  have s_10 : Sa H H46 := by rw [eH46]; exact s_9
  refine ab_aload_n d_World_copyFrom_96 rfl rfl rfl ?_
  refine ab_aload_n d_World_copyFrom_97 rfl rfl rfl ?_
  refine hp_getI (f := 10) d_World_copyFrom_98 (by rw [(s_10).1]; exact q1) (by decide) rfl (by decide) (k1 234 rfl rfl) rfl ?_
  refine ab_topi (fun x47 ex47 => ?_)
  replace hF := bnd_s ex47 hF
  refine hp_putI (v := x47) (f := 10) d_World_copyFrom_101 (by rw [(s_10).1]; exact q3) (by decide) rfl (by decide) (k1 234 rfl rfl) rfl rfl (fun _ => rfl) (fun _ => rfl) rfl ?_
  refine hp_gen (fun H48 eH48 => ?_)
  replace hF := bnd_s eH48 hF
  have s_11 : Sa H H48 := by rw [eH48]; exact s_10
  refine ab_aload_n d_World_copyFrom_104 rfl rfl rfl ?_
  obtain ⟨a49, e50, hG⟩ := rf_s hF; clear hF
  refine hp_getR (f := 11) d_World_copyFrom_105 (by rw [(s_11).1]; exact q1) (by decide) rfl (by decide) (k1 236 rfl rfl) rfl e50 ?_
  refine ab_iconst (v := 0) d_World_copyFrom_108 (by decide) ?_
  refine ab_aload_n d_World_copyFrom_109 rfl rfl rfl ?_
  obtain ⟨a51, e52, hF⟩ := rf_s hG; clear hG
  refine hp_getR (f := 11) d_World_copyFrom_110 (by rw [(s_11).1]; exact q3) (by decide) rfl (by decide) (k1 236 rfl rfl) rfl e52 ?_
  refine ab_iconst (v := 0) d_World_copyFrom_113 (by decide) ?_
  refine ab_aload_n d_World_copyFrom_114 rfl rfl rfl ?_
  refine hp_getI (f := 9) d_World_copyFrom_115 (by rw [(s_11).1]; exact q3) (by decide) rfl (by decide) (k1 231 rfl rfl) rfl ?_
  refine ab_topi (fun x53 ex53 => ?_)
  replace hF := bnd_s ex53 hF
  refine ab_aload_n d_World_copyFrom_118 rfl rfl rfl ?_
  refine hp_getI (f := 10) d_World_copyFrom_119 (by rw [(s_11).1]; exact q3) (by decide) rfl (by decide) (k1 234 rfl rfl) rfl ?_
  refine ab_topi (fun x54 ex54 => ?_)
  replace hF := bnd_s ex54 hF
  refine ab_imul d_World_copyFrom_122 ?_
  obtain ⟨n55, q56, hG⟩ := ar_s hF; clear hF
  rw [(s_11).1] at q56
  obtain ⟨n57, q58, hF⟩ := ar_s hG; clear hG
  rw [(s_11).1] at q58
  obtain ⟨q59, hG⟩ := ck_s hF; clear hF
  obtain ⟨q60, hF⟩ := ck_s hG; clear hG
  obtain ⟨q61, hG⟩ := ck_s hF; clear hF
  obtain ⟨q62, hF⟩ := ck_s hG; clear hG
  obtain ⟨q63, hG⟩ := ck_s hF; clear hF
  refine hp_acopy d_World_copyFrom_123 (k6 111 rfl rfl) (k6 113 rfl rfl) (k6 112 rfl rfl) (k1 29 rfl rfl) (by rw [(s_11).1]; exact q56) (by rw [(s_11).1]; exact q58) q59 q60 q61 q62 q63 (Nat.le_of_ble_eq_true rfl) (Nat.le_of_ble_eq_true rfl) ?_
  refine hp_gen (fun H64 eH64 => ?_)
  replace hG := bnd_s eH64 hG
  have s_12 : Sa H H64 := by rw [eH64]; exact s_11
  refine ab_aload_n d_World_copyFrom_126 rfl rfl rfl ?_
  obtain ⟨a65, e66, hF⟩ := rf_s hG; clear hG
  refine hp_getR (f := 12) d_World_copyFrom_127 (by rw [(s_12).1]; exact q1) (by decide) rfl (by decide) (k1 238 rfl rfl) rfl e66 ?_
  refine ab_iconst (v := 0) d_World_copyFrom_130 (by decide) ?_
  refine ab_aload_n d_World_copyFrom_131 rfl rfl rfl ?_
  obtain ⟨a67, e68, hG⟩ := rf_s hF; clear hF
  refine hp_getR (f := 12) d_World_copyFrom_132 (by rw [(s_12).1]; exact q3) (by decide) rfl (by decide) (k1 238 rfl rfl) rfl e68 ?_
  refine ab_iconst (v := 0) d_World_copyFrom_135 (by decide) ?_
  refine ab_aload_n d_World_copyFrom_136 rfl rfl rfl ?_
  refine hp_getI (f := 13) d_World_copyFrom_137 (by rw [(s_12).1]; exact q1) (by decide) rfl (by decide) (k2 3 rfl rfl) rfl ?_
  refine ab_topi (fun x69 ex69 => ?_)
  replace hG := bnd_s ex69 hG
  refine ab_bipush (v := 7) d_World_copyFrom_140 (by decide) ?_
  refine ab_imul d_World_copyFrom_142 ?_
  obtain ⟨n70, q71, hF⟩ := ar_s hG; clear hG
  rw [(s_12).1] at q71
  obtain ⟨n72, q73, hG⟩ := ar_s hF; clear hF
  rw [(s_12).1] at q73
  obtain ⟨q74, hF⟩ := ck_s hG; clear hG
  obtain ⟨q75, hG⟩ := ck_s hF; clear hF
  obtain ⟨q76, hF⟩ := ck_s hG; clear hG
  obtain ⟨q77, hG⟩ := ck_s hF; clear hF
  obtain ⟨q78, hF⟩ := ck_s hG; clear hG
  refine hp_acopy d_World_copyFrom_143 (k6 111 rfl rfl) (k6 113 rfl rfl) (k6 112 rfl rfl) (k1 29 rfl rfl) (by rw [(s_12).1]; exact q71) (by rw [(s_12).1]; exact q73) q74 q75 q76 q77 q78 (Nat.le_of_ble_eq_true rfl) (Nat.le_of_ble_eq_true rfl) ?_
  refine hp_gen (fun H79 eH79 => ?_)
  replace hF := bnd_s eH79 hF
  have s_13 : Sa H H79 := by rw [eH79]; exact s_12
  refine ab_aload_n d_World_copyFrom_146 rfl rfl rfl ?_
  refine ab_aload_n d_World_copyFrom_147 rfl rfl rfl ?_
  refine hp_getI (f := 13) d_World_copyFrom_148 (by rw [(s_13).1]; exact q1) (by decide) rfl (by decide) (k2 3 rfl rfl) rfl ?_
  refine ab_topi (fun x80 ex80 => ?_)
  replace hF := bnd_s ex80 hF
  refine hp_putI (v := x80) (f := 13) d_World_copyFrom_151 (by rw [(s_13).1]; exact q3) (by decide) rfl (by decide) (k2 3 rfl rfl) rfl rfl (fun _ => rfl) (fun _ => rfl) rfl ?_
  refine hp_gen (fun H81 eH81 => ?_)
  replace hF := bnd_s eH81 hF
  have s_14 : Sa H H81 := by rw [eH81]; exact s_13
  refine ab_aload_n d_World_copyFrom_154 rfl rfl rfl ?_
  obtain ⟨a82, e83, hG⟩ := rf_s hF; clear hF
  refine hp_getR (f := 14) d_World_copyFrom_155 (by rw [(s_14).1]; exact q1) (by decide) rfl (by decide) (k2 8 rfl rfl) rfl e83 ?_
  refine ab_iconst (v := 0) d_World_copyFrom_158 (by decide) ?_
  refine ab_aload_n d_World_copyFrom_159 rfl rfl rfl ?_
  obtain ⟨a84, e85, hF⟩ := rf_s hG; clear hG
  refine hp_getR (f := 14) d_World_copyFrom_160 (by rw [(s_14).1]; exact q3) (by decide) rfl (by decide) (k2 8 rfl rfl) rfl e85 ?_
  refine ab_iconst (v := 0) d_World_copyFrom_163 (by decide) ?_
  refine ab_aload_n d_World_copyFrom_164 rfl rfl rfl ?_
  refine hp_getI (f := 15) d_World_copyFrom_165 (by rw [(s_14).1]; exact q1) (by decide) rfl (by decide) (k2 12 rfl rfl) rfl ?_
  refine ab_topi (fun x86 ex86 => ?_)
  replace hF := bnd_s ex86 hF
  obtain ⟨n87, q88, hG⟩ := ar_s hF; clear hF
  rw [(s_14).1] at q88
  obtain ⟨n89, q90, hF⟩ := ar_s hG; clear hG
  rw [(s_14).1] at q90
  obtain ⟨q91, hG⟩ := ck_s hF; clear hF
  obtain ⟨q92, hF⟩ := ck_s hG; clear hG
  obtain ⟨q93, hG⟩ := ck_s hF; clear hF
  obtain ⟨q94, hF⟩ := ck_s hG; clear hG
  obtain ⟨q95, hG⟩ := ck_s hF; clear hF
  refine hp_acopy d_World_copyFrom_168 (k6 111 rfl rfl) (k6 113 rfl rfl) (k6 112 rfl rfl) (k1 29 rfl rfl) (by rw [(s_14).1]; exact q88) (by rw [(s_14).1]; exact q90) q91 q92 q93 q94 q95 (Nat.le_of_ble_eq_true rfl) (Nat.le_of_ble_eq_true rfl) ?_
  refine hp_gen (fun H96 eH96 => ?_)
  replace hG := bnd_s eH96 hG
  have s_15 : Sa H H96 := by rw [eH96]; exact s_14
  refine ab_aload_n d_World_copyFrom_171 rfl rfl rfl ?_
  refine ab_aload_n d_World_copyFrom_172 rfl rfl rfl ?_
  refine hp_getI (f := 15) d_World_copyFrom_173 (by rw [(s_15).1]; exact q1) (by decide) rfl (by decide) (k2 12 rfl rfl) rfl ?_
  refine ab_topi (fun x97 ex97 => ?_)
  replace hG := bnd_s ex97 hG
  refine hp_putI (v := x97) (f := 15) d_World_copyFrom_176 (by rw [(s_15).1]; exact q3) (by decide) rfl (by decide) (k2 12 rfl rfl) rfl rfl (fun _ => rfl) (fun _ => rfl) rfl ?_
  refine hp_gen (fun H98 eH98 => ?_)
  replace hG := bnd_s eH98 hG
  have s_16 : Sa H H98 := by rw [eH98]; exact s_15
  exact ab_vret d_World_copyFrom_179 rfl (Nat.le_refl _) (Nat.le_refl _) (by have hr := Option.some.inj hG; subst hr; exact ⟨rfl, rfl⟩)
def y_Shapes_headNamed : ab_Y := (⟨"WorldEngine$Shapes", "headNamed", "(Ljava/lang/String;)I"⟩, prog_9_method_7_code, 3, (some FieldType.int), [])
theorem d_Shapes_headNamed_0 : decode y_Shapes_headNamed.2.1 0 = .ok (.iconst 0, 1) := by decide +kernel
theorem d_Shapes_headNamed_1 : decode y_Shapes_headNamed.2.1 1 = .ok (.istore_n 2, 1) := by decide +kernel
theorem d_Shapes_headNamed_2 : decode y_Shapes_headNamed.2.1 2 = .ok (.iload_n 2, 1) := by decide +kernel
theorem d_Shapes_headNamed_3 : decode y_Shapes_headNamed.2.1 3 = .ok (.aload_n 0, 1) := by decide +kernel
theorem d_Shapes_headNamed_4 : decode y_Shapes_headNamed.2.1 4 = .ok (.getfield 32, 3) := by decide +kernel
theorem d_Shapes_headNamed_7 : decode y_Shapes_headNamed.2.1 7 = .ok (.if_icmp .ge 27, 3) := by decide +kernel
theorem d_Shapes_headNamed_10 : decode y_Shapes_headNamed.2.1 10 = .ok (.aload_n 0, 1) := by decide +kernel
theorem d_Shapes_headNamed_11 : decode y_Shapes_headNamed.2.1 11 = .ok (.getfield 13, 3) := by decide +kernel
theorem d_Shapes_headNamed_14 : decode y_Shapes_headNamed.2.1 14 = .ok (.iload_n 2, 1) := by decide +kernel
theorem d_Shapes_headNamed_15 : decode y_Shapes_headNamed.2.1 15 = .ok (.aaload, 1) := by decide +kernel
theorem d_Shapes_headNamed_16 : decode y_Shapes_headNamed.2.1 16 = .ok (.getfield 40, 3) := by decide +kernel
theorem d_Shapes_headNamed_19 : decode y_Shapes_headNamed.2.1 19 = .ok (.aload_n 1, 1) := by decide +kernel
theorem d_Shapes_headNamed_20 : decode y_Shapes_headNamed.2.1 20 = .ok (.invokevirtual 44, 3) := by decide +kernel
theorem d_Shapes_headNamed_23 : decode y_Shapes_headNamed.2.1 23 = .ok (.ifCond .eq 5, 3) := by decide +kernel
theorem d_Shapes_headNamed_26 : decode y_Shapes_headNamed.2.1 26 = .ok (.iload_n 2, 1) := by decide +kernel
theorem d_Shapes_headNamed_27 : decode y_Shapes_headNamed.2.1 27 = .ok (.ireturn, 1) := by decide +kernel
theorem d_Shapes_headNamed_28 : decode y_Shapes_headNamed.2.1 28 = .ok (.iinc 2 1, 3) := by decide +kernel
theorem d_Shapes_headNamed_31 : decode y_Shapes_headNamed.2.1 31 = .ok (.goto (-29), 3) := by decide +kernel
theorem d_Shapes_headNamed_34 : decode y_Shapes_headNamed.2.1 34 = .ok (.iconst (-1), 1) := by decide +kernel
theorem d_Shapes_headNamed_35 : decode y_Shapes_headNamed.2.1 35 = .ok (.ireturn, 1) := by decide +kernel
theorem s_Shapes_headNamed : ab_Stat y_Shapes_headNamed 1 := ⟨(k6 122 rfl rfl), (k1 18 rfl rfl), ⟨by decide, by decide⟩, by decide +kernel⟩
theorem i_Shapes_headNamed : Cond.instanceMethod y_Shapes_headNamed.1 ∈ ab_T := (k6 120 rfl rfl)
theorem v_Shapes_headNamed : Cond.selects "WorldEngine$Shapes" y_Shapes_headNamed.1 y_Shapes_headNamed.1 ∈ ab_T := (k6 121 rfl rfl)
def B_Shapes_headNamed_2 (N : Nat) (p0 : Nat) (p1 : Nat) : Nat → Int32 → Hp → Option (Int32 × Hp)
  | 0, _, _ => none
  | n + 1, l2, H =>
    ck (H.sh[p0]? = some (3, 0)) <|
    bnd ((H.D p0 3)) fun x2 =>
    if x2 ≤ l2 then
    some ((-1), H)
    else
    rf (H.P p0 0) fun a4 =>
    ar H 106 a4 fun n6 =>
    ck (inb l2 n6) <|
    rf (H.P a4 (l2).toNatClampNeg) fun a9 =>
    ck (H.sh[a9]? = some (2, 0)) <|
    rf (H.P a9 0) fun a12 =>
    ck (H.sh[a12]? = some (16, 0)) <|
    bC (F_Str_equals N a12 p1 H) fun v16 H17 =>
    if v16 = (0 : Int32) then
    B_Shapes_headNamed_2 N p0 p1 n (l2 + 1) H17
    else
    some (l2, H17)
termination_by structural n => n
set_option maxRecDepth 20000 in
set_option maxHeartbeats 2000000 in
theorem mB_Shapes_headNamed_2 {N : Nat} {p0 : Nat} {p1 : Nat} : ∀ (n : Nat) (l2 : Int32) (H : Hp) (r : Int32 × Hp), B_Shapes_headNamed_2 N p0 p1 n l2 H = some r → Sa H r.2 := by
  intro n
  induction n with
  | zero => intro l2 H r hF; rw [B_Shapes_headNamed_2] at hF; cases hF
  | succ n ih =>
    intro l2 H r hF
    rw [B_Shapes_headNamed_2] at hF
    have hm := Sa.rf H
    obtain ⟨q19, hG⟩ := ck_s hF; clear hF
    obtain ⟨x20, -, hF⟩ := bnd_g hG; clear hG
    rcases ite_s hF with ⟨q_2, hG⟩ | ⟨q_2, hG⟩
    · clear hF
      have hr := Option.some.inj hG; subst hr
      exact hm
    · clear hF
      obtain ⟨a22, e23, hF⟩ := rf_s hG; clear hG
      obtain ⟨n24, q25, hG⟩ := ar_s hF; clear hF
      obtain ⟨q26, hF⟩ := ck_s hG; clear hG
      obtain ⟨a27, e28, hG⟩ := rf_s hF; clear hF
      obtain ⟨q29, hF⟩ := ck_s hG; clear hG
      obtain ⟨a30, e31, hG⟩ := rf_s hF; clear hF
      obtain ⟨q32, hF⟩ := ck_s hG; clear hG
      obtain ⟨v34, H35, z33, hG⟩ := bC_s hF; clear hF
      replace hm : Sa H H35 := hm.tr (m_Str_equals z33)
      rcases ite_s hG with ⟨q_4, hF⟩ | ⟨q_4, hF⟩
      · clear hG
        exact hm.tr (ih (l2 + 1) H35 r hF)
      · clear hG
        have hr := Option.some.inj hF; subst hr
        exact hm
set_option maxRecDepth 20000 in
set_option maxHeartbeats 2000000 in
theorem kB_Shapes_headNamed_2 {N : Nat} {p0 : Nat} {p1 : Nat} : ∀ (n : Nat) (l2 : Int32) (H : Hp) (r : Int32 × Hp), B_Shapes_headNamed_2 N p0 p1 n l2 H = some r → ab_V y_Shapes_headNamed { frames := 2, cells := 0, slots := 0, locals := 44 } (po (.returned (some (.int r.1))) r.2) 0 0 0 0 2 [some (.ref p0), some (.ref p1), some (.int l2)] [] (hpw H) := by
  intro n
  induction n with
  | zero => intro l2 H r hF; rw [B_Shapes_headNamed_2] at hF; cases hF
  | succ n ih =>
    intro l2 H r hF
    rw [B_Shapes_headNamed_2] at hF
    refine ab_iload_n d_Shapes_headNamed_2 rfl rfl ?_
    refine ab_aload_n d_Shapes_headNamed_3 rfl rfl rfl ?_
    obtain ⟨q1, hG⟩ := ck_s hF; clear hF
    refine hp_getI (f := 3) d_Shapes_headNamed_4 q1 (by decide) rfl (by decide) (k3 39 rfl rfl) rfl ?_
    refine ab_topi (fun x2 ex2 => ?_)
    replace hG := bnd_s ex2 hG
    refine ab_icmp_ge (tgt := 34) d_Shapes_headNamed_7 (by decide) (fun q3 => ?_) (fun q3 => ?_)
    · rw [if_pos q3] at hG
      refine ab_iconst (v := (-1)) d_Shapes_headNamed_34 (by decide) ?_
      exact ab_iret d_Shapes_headNamed_35 rfl (Nat.le_refl _) (Nat.le_refl _) (by have hr := Option.some.inj hG; subst hr; exact ⟨rfl, rfl⟩)
    · rw [if_neg q3] at hG
      refine ab_aload_n d_Shapes_headNamed_10 rfl rfl rfl ?_
      obtain ⟨a4, e5, hF⟩ := rf_s hG; clear hG
      refine hp_getR (f := 0) d_Shapes_headNamed_11 q1 (by decide) rfl (by decide) (k3 23 rfl rfl) rfl e5 ?_
      refine ab_iload_n d_Shapes_headNamed_14 rfl rfl ?_
      obtain ⟨n6, q7, hG⟩ := ar_s hF; clear hF
      obtain ⟨q8, hF⟩ := ck_s hG; clear hG
      obtain ⟨a9, e10, hG⟩ := rf_s hF; clear hF
      refine hp_aald (q := 106) d_Shapes_headNamed_15 (by decide) tN q7 q8 e10 ?_
      obtain ⟨q11, hF⟩ := ck_s hG; clear hG
      obtain ⟨a12, e13, hG⟩ := rf_s hF; clear hF
      refine hp_getR (f := 0) d_Shapes_headNamed_16 q11 (by decide) rfl (by decide) (k2 230 rfl rfl) rfl e13 ?_
      refine ab_aload_n d_Shapes_headNamed_19 rfl rfl rfl ?_
      obtain ⟨q14, hF⟩ := ck_s hG; clear hG
      obtain ⟨v16, H17, z15, hG⟩ := bC_s hF; clear hF
      refine hp_callV_a (v := .int v16) (H1 := H17) (As := [.ref p1]) (rest := []) d_Shapes_headNamed_20 (k_Str_equals z15) (ab_mkC s_Str_equals (Nat.le_of_ble_eq_true rfl) (Nat.le_of_ble_eq_true rfl) (Nat.le_refl 0) (Nat.le_refl 0)) (k5 46 rfl rfl) i_Str_equals v_Str_equals q14 (by decide) rfl rfl (Nat.le_of_ble_eq_true rfl) ?_
      have s_1 : Sa H H17 := (m_Str_equals z15)
      refine ab_if_eq (tgt := 28) d_Shapes_headNamed_23 (by decide) (fun q18 => ?_) (fun q18 => ?_)
      · rw [if_pos q18] at hG
        refine ab_iinc (v := l2 + 1) (lv' := [some (.ref p0), some (.ref p1), some (.int (l2 + 1))]) d_Shapes_headNamed_28 rfl rfl (by decide) rfl ?_
        refine ab_goto (tgt := 2) d_Shapes_headNamed_31 (by decide) ?_
        exact ih (l2 + 1) H17 r hG
      · rw [if_neg q18] at hG
        refine ab_iload_n d_Shapes_headNamed_26 rfl rfl ?_
        exact ab_iret d_Shapes_headNamed_27 rfl (Nat.le_refl _) (Nat.le_refl _) (by have hr := Option.some.inj hG; subst hr; exact ⟨rfl, rfl⟩)
def F_Shapes_headNamed (N : Nat) (p0 : Nat) (p1 : Nat) (H : Hp) : Option (Int32 × Hp) :=
    B_Shapes_headNamed_2 N p0 p1 N 0 H
set_option maxRecDepth 20000 in
set_option maxHeartbeats 2000000 in
theorem m_Shapes_headNamed {N : Nat} {p0 : Nat} {p1 : Nat} {H : Hp} {r : Int32 × Hp} (hF : F_Shapes_headNamed N p0 p1 H = some r) : Sa H r.2 := by
  unfold F_Shapes_headNamed at hF
  have hm := Sa.rf H
  exact hm.tr (mB_Shapes_headNamed_2 N 0 H r hF)
set_option maxRecDepth 20000 in
set_option maxHeartbeats 2000000 in
theorem k_Shapes_headNamed {N : Nat} {p0 : Nat} {p1 : Nat} {H : Hp} {r : Int32 × Hp} (hF : F_Shapes_headNamed N p0 p1 H = some r) : ab_M y_Shapes_headNamed { frames := 2, cells := 0, slots := 0, locals := 44 } [.ref p0, .ref p1] (hpw H) (po (.returned (some (.int r.1))) r.2) := by
  unfold F_Shapes_headNamed at hF
  refine ab_of2 (lv := [some (.ref p0), some (.ref p1), none]) 1 rfl rfl (Nat.le_of_ble_eq_true rfl) ?_
  refine ab_iconst (v := 0) d_Shapes_headNamed_0 (by decide) ?_
  refine ab_istore_n (lv' := [some (.ref p0), some (.ref p1), some (.int 0)]) d_Shapes_headNamed_1 rfl (by decide) rfl ?_
  exact kB_Shapes_headNamed_2 N 0 H r hF
def y_World_owns : ab_Y := (⟨"WorldEngine$World", "owns", "(II)Z"⟩, prog_12_method_6_code, 3, (some FieldType.boolean), [])
theorem d_World_owns_0 : decode y_World_owns.2.1 0 = .ok (.iload_n 1, 1) := by decide +kernel
theorem d_World_owns_1 : decode y_World_owns.2.1 1 = .ok (.ifCond .lt 37, 3) := by decide +kernel
theorem d_World_owns_4 : decode y_World_owns.2.1 4 = .ok (.iload_n 1, 1) := by decide +kernel
theorem d_World_owns_5 : decode y_World_owns.2.1 5 = .ok (.sipush 256, 3) := by decide +kernel
theorem d_World_owns_8 : decode y_World_owns.2.1 8 = .ok (.if_icmp .ge 30, 3) := by decide +kernel
theorem d_World_owns_11 : decode y_World_owns.2.1 11 = .ok (.aload_n 0, 1) := by decide +kernel
theorem d_World_owns_12 : decode y_World_owns.2.1 12 = .ok (.getfield 13, 3) := by decide +kernel
theorem d_World_owns_15 : decode y_World_owns.2.1 15 = .ok (.iload_n 1, 1) := by decide +kernel
theorem d_World_owns_16 : decode y_World_owns.2.1 16 = .ok (.iaload, 1) := by decide +kernel
theorem d_World_owns_17 : decode y_World_owns.2.1 17 = .ok (.ifCond .lt 21, 3) := by decide +kernel
theorem d_World_owns_20 : decode y_World_owns.2.1 20 = .ok (.aload_n 0, 1) := by decide +kernel
theorem d_World_owns_21 : decode y_World_owns.2.1 21 = .ok (.getfield 13, 3) := by decide +kernel
theorem d_World_owns_24 : decode y_World_owns.2.1 24 = .ok (.iload_n 1, 1) := by decide +kernel
theorem d_World_owns_25 : decode y_World_owns.2.1 25 = .ok (.iaload, 1) := by decide +kernel
theorem d_World_owns_26 : decode y_World_owns.2.1 26 = .ok (.iload_n 2, 1) := by decide +kernel
theorem d_World_owns_27 : decode y_World_owns.2.1 27 = .ok (.ishr, 1) := by decide +kernel
theorem d_World_owns_28 : decode y_World_owns.2.1 28 = .ok (.iconst 1, 1) := by decide +kernel
theorem d_World_owns_29 : decode y_World_owns.2.1 29 = .ok (.iand, 1) := by decide +kernel
theorem d_World_owns_30 : decode y_World_owns.2.1 30 = .ok (.iconst 1, 1) := by decide +kernel
theorem d_World_owns_31 : decode y_World_owns.2.1 31 = .ok (.if_icmp .ne 7, 3) := by decide +kernel
theorem d_World_owns_34 : decode y_World_owns.2.1 34 = .ok (.iconst 1, 1) := by decide +kernel
theorem d_World_owns_35 : decode y_World_owns.2.1 35 = .ok (.goto 4, 3) := by decide +kernel
theorem d_World_owns_38 : decode y_World_owns.2.1 38 = .ok (.iconst 0, 1) := by decide +kernel
theorem d_World_owns_39 : decode y_World_owns.2.1 39 = .ok (.ireturn, 1) := by decide +kernel
theorem s_World_owns : ab_Stat y_World_owns 2 := ⟨(k6 126 rfl rfl), (k1 10 rfl rfl), ⟨by decide, by decide⟩, by decide +kernel⟩
theorem i_World_owns : Cond.instanceMethod y_World_owns.1 ∈ ab_T := (k6 124 rfl rfl)
theorem v_World_owns : Cond.selects "WorldEngine$World" y_World_owns.1 y_World_owns.1 ∈ ab_T := (k6 125 rfl rfl)
def F_World_owns (N : Nat) (p0 : Nat) (p1 : Int32) (p2 : Int32) (H : Hp) : Option (Int32 × Hp) :=
    if p1 < (0 : Int32) then
    some (0, H)
    else
    if (256 : Int32) ≤ p1 then
    some (0, H)
    else
    ck (H.sh[p0]? = some (7, 0)) <|
    rf (H.P p0 8) fun a4 =>
    ar H 100 a4 fun n6 =>
    ck (inb p1 n6) <|
    bnd ((H.D a4 (p1).toNatClampNeg)) fun x9 =>
    if x9 < (0 : Int32) then
    some (0, H)
    else
    rf (H.P p0 8) fun a11 =>
    ar H 100 a11 fun n13 =>
    ck (inb p1 n13) <|
    bnd ((H.D a11 (p1).toNatClampNeg)) fun x16 =>
    if ((x16 >>> (p2 &&& 31)) &&& (1 : Int32)) = (1 : Int32) then
    some (1, H)
    else
    some (0, H)
set_option maxRecDepth 20000 in
set_option maxHeartbeats 2000000 in
theorem m_World_owns {N : Nat} {p0 : Nat} {p1 : Int32} {p2 : Int32} {H : Hp} {r : Int32 × Hp} (hF : F_World_owns N p0 p1 p2 H = some r) : Sa H r.2 := by
  unfold F_World_owns at hF
  have hm := Sa.rf H
  rcases ite_s hF with ⟨q_1, hG⟩ | ⟨q_1, hG⟩
  · clear hF
    have hr := Option.some.inj hG; subst hr
    exact hm
  · clear hF
    rcases ite_s hG with ⟨q_2, hF⟩ | ⟨q_2, hF⟩
    · clear hG
      have hr := Option.some.inj hF; subst hr
      exact hm
    · clear hG
      obtain ⟨q20, hG⟩ := ck_s hF; clear hF
      obtain ⟨a21, e22, hF⟩ := rf_s hG; clear hG
      obtain ⟨n23, q24, hG⟩ := ar_s hF; clear hF
      obtain ⟨q25, hF⟩ := ck_s hG; clear hG
      obtain ⟨x26, -, hG⟩ := bnd_g hF; clear hF
      rcases ite_s hG with ⟨q_3, hF⟩ | ⟨q_3, hF⟩
      · clear hG
        have hr := Option.some.inj hF; subst hr
        exact hm
      · clear hG
        obtain ⟨a28, e29, hG⟩ := rf_s hF; clear hF
        obtain ⟨n30, q31, hF⟩ := ar_s hG; clear hG
        obtain ⟨q32, hG⟩ := ck_s hF; clear hF
        obtain ⟨x33, -, hF⟩ := bnd_g hG; clear hG
        rcases ite_s hF with ⟨q_4, hG⟩ | ⟨q_4, hG⟩
        · clear hF
          have hr := Option.some.inj hG; subst hr
          exact hm
        · clear hF
          have hr := Option.some.inj hG; subst hr
          exact hm
set_option maxRecDepth 20000 in
set_option maxHeartbeats 2000000 in
theorem k_World_owns {N : Nat} {p0 : Nat} {p1 : Int32} {p2 : Int32} {H : Hp} {r : Int32 × Hp} (hF : F_World_owns N p0 p1 p2 H = some r) : ab_M y_World_owns { frames := 0, cells := 0, slots := 0, locals := 0 } [.ref p0, .int p1, .int p2] (hpw H) (po (.returned (some (.int r.1))) r.2) := by
  unfold F_World_owns at hF
  refine ab_of2 (lv := [some (.ref p0), some (.int p1), some (.int p2)]) 0 rfl rfl (Nat.le_of_ble_eq_true rfl) ?_
  refine ab_iload_n d_World_owns_0 rfl rfl ?_
  refine ab_if_lt (tgt := 38) d_World_owns_1 (by decide) (fun q1 => ?_) (fun q1 => ?_)
  · rw [if_pos q1] at hF
    refine ab_iconst (v := 0) d_World_owns_38 (by decide) ?_
    exact ab_zret d_World_owns_39 rfl rfl (Nat.le_refl _) (Nat.le_refl _) (by have hr := Option.some.inj hF; subst hr; exact ⟨rfl, rfl⟩)
  · rw [if_neg q1] at hF
    refine ab_iload_n d_World_owns_4 rfl rfl ?_
    refine ab_sipush (v := 256) d_World_owns_5 (by decide) ?_
    refine ab_icmp_ge (tgt := 38) d_World_owns_8 (by decide) (fun q2 => ?_) (fun q2 => ?_)
    · rw [if_pos q2] at hF
      refine ab_iconst (v := 0) d_World_owns_38 (by decide) ?_
      exact ab_zret d_World_owns_39 rfl rfl (Nat.le_refl _) (Nat.le_refl _) (by have hr := Option.some.inj hF; subst hr; exact ⟨rfl, rfl⟩)
    · rw [if_neg q2] at hF
      refine ab_aload_n d_World_owns_11 rfl rfl rfl ?_
      obtain ⟨q3, hG⟩ := ck_s hF; clear hF
      obtain ⟨a4, e5, hF⟩ := rf_s hG; clear hG
      refine hp_getR (f := 8) d_World_owns_12 q3 (by decide) rfl (by decide) (k1 229 rfl rfl) rfl e5 ?_
      refine ab_iload_n d_World_owns_15 rfl rfl ?_
      obtain ⟨n6, q7, hG⟩ := ar_s hF; clear hF
      obtain ⟨q8, hF⟩ := ck_s hG; clear hG
      refine hp_iald d_World_owns_16 tI q7 q8 ?_
      refine ab_topi (fun x9 ex9 => ?_)
      replace hF := bnd_s ex9 hF
      refine ab_if_lt (tgt := 38) d_World_owns_17 (by decide) (fun q10 => ?_) (fun q10 => ?_)
      · rw [if_pos q10] at hF
        refine ab_iconst (v := 0) d_World_owns_38 (by decide) ?_
        exact ab_zret d_World_owns_39 rfl rfl (Nat.le_refl _) (Nat.le_refl _) (by have hr := Option.some.inj hF; subst hr; exact ⟨rfl, rfl⟩)
      · rw [if_neg q10] at hF
        refine ab_aload_n d_World_owns_20 rfl rfl rfl ?_
        obtain ⟨a11, e12, hG⟩ := rf_s hF; clear hF
        refine hp_getR (f := 8) d_World_owns_21 q3 (by decide) rfl (by decide) (k1 229 rfl rfl) rfl e12 ?_
        refine ab_iload_n d_World_owns_24 rfl rfl ?_
        obtain ⟨n13, q14, hF⟩ := ar_s hG; clear hG
        obtain ⟨q15, hG⟩ := ck_s hF; clear hF
        refine hp_iald d_World_owns_25 tI q14 q15 ?_
        refine ab_topi (fun x16 ex16 => ?_)
        replace hG := bnd_s ex16 hG
        refine ab_iload_n d_World_owns_26 rfl rfl ?_
        refine ab_ishr d_World_owns_27 ?_
        refine ab_iconst (v := 1) d_World_owns_28 (by decide) ?_
        refine ab_iand d_World_owns_29 ?_
        refine ab_iconst (v := 1) d_World_owns_30 (by decide) ?_
        refine ab_icmp_ne (tgt := 38) d_World_owns_31 (by decide) (fun q17 => ?_) (fun q17 => ?_)
        · rw [if_neg q17] at hG
          refine ab_iconst (v := 0) d_World_owns_38 (by decide) ?_
          exact ab_zret d_World_owns_39 rfl rfl (Nat.le_refl _) (Nat.le_refl _) (by have hr := Option.some.inj hG; subst hr; exact ⟨rfl, rfl⟩)
        · rw [if_pos q17] at hG
          refine ab_iconst (v := 1) d_World_owns_34 (by decide) ?_
          refine ab_goto (tgt := 39) d_World_owns_35 (by decide) ?_
          exact ab_zret d_World_owns_39 rfl rfl (Nat.le_refl _) (Nat.le_refl _) (by have hr := Option.some.inj hG; subst hr; exact ⟨rfl, rfl⟩)
def y_World_read : ab_Y := (⟨"WorldEngine$World", "read", "(II)I"⟩, prog_12_method_10_code, 4, (some FieldType.int), [])
theorem d_World_read_0 : decode y_World_read.2.1 0 = .ok (.iload_n 1, 1) := by decide +kernel
theorem d_World_read_1 : decode y_World_read.2.1 1 = .ok (.aload_n 0, 1) := by decide +kernel
theorem d_World_read_2 : decode y_World_read.2.1 2 = .ok (.getfield 52, 3) := by decide +kernel
theorem d_World_read_5 : decode y_World_read.2.1 5 = .ok (.imul, 1) := by decide +kernel
theorem d_World_read_6 : decode y_World_read.2.1 6 = .ok (.iload_n 2, 1) := by decide +kernel
theorem d_World_read_7 : decode y_World_read.2.1 7 = .ok (.iadd, 1) := by decide +kernel
theorem d_World_read_8 : decode y_World_read.2.1 8 = .ok (.istore_n 3, 1) := by decide +kernel
theorem d_World_read_9 : decode y_World_read.2.1 9 = .ok (.iload_n 1, 1) := by decide +kernel
theorem d_World_read_10 : decode y_World_read.2.1 10 = .ok (.ifCond .lt 25, 3) := by decide +kernel
theorem d_World_read_13 : decode y_World_read.2.1 13 = .ok (.iload_n 3, 1) := by decide +kernel
theorem d_World_read_14 : decode y_World_read.2.1 14 = .ok (.ifCond .lt 21, 3) := by decide +kernel
theorem d_World_read_17 : decode y_World_read.2.1 17 = .ok (.iload_n 3, 1) := by decide +kernel
theorem d_World_read_18 : decode y_World_read.2.1 18 = .ok (.aload_n 0, 1) := by decide +kernel
theorem d_World_read_19 : decode y_World_read.2.1 19 = .ok (.getfield 24, 3) := by decide +kernel
theorem d_World_read_22 : decode y_World_read.2.1 22 = .ok (.arraylength, 1) := by decide +kernel
theorem d_World_read_23 : decode y_World_read.2.1 23 = .ok (.if_icmp .ge 12, 3) := by decide +kernel
theorem d_World_read_26 : decode y_World_read.2.1 26 = .ok (.aload_n 0, 1) := by decide +kernel
theorem d_World_read_27 : decode y_World_read.2.1 27 = .ok (.getfield 24, 3) := by decide +kernel
theorem d_World_read_30 : decode y_World_read.2.1 30 = .ok (.iload_n 3, 1) := by decide +kernel
theorem d_World_read_31 : decode y_World_read.2.1 31 = .ok (.iaload, 1) := by decide +kernel
theorem d_World_read_32 : decode y_World_read.2.1 32 = .ok (.goto 4, 3) := by decide +kernel
theorem d_World_read_35 : decode y_World_read.2.1 35 = .ok (.iconst 0, 1) := by decide +kernel
theorem d_World_read_36 : decode y_World_read.2.1 36 = .ok (.ireturn, 1) := by decide +kernel
theorem s_World_read : ab_Stat y_World_read 2 := ⟨(k6 136 rfl rfl), (k1 10 rfl rfl), ⟨by decide, by decide⟩, by decide +kernel⟩
theorem i_World_read : Cond.instanceMethod y_World_read.1 ∈ ab_T := (k6 134 rfl rfl)
theorem v_World_read : Cond.selects "WorldEngine$World" y_World_read.1 y_World_read.1 ∈ ab_T := (k6 135 rfl rfl)
def F_World_read (N : Nat) (p0 : Nat) (p1 : Int32) (p2 : Int32) (H : Hp) : Option (Int32 × Hp) :=
    ck (H.sh[p0]? = some (7, 0)) <|
    bnd ((H.D p0 10)) fun x2 =>
    bnd (((p1 * x2) + p2)) fun x3 =>
    if p1 < (0 : Int32) then
    some (0, H)
    else
    if x3 < (0 : Int32) then
    some (0, H)
    else
    rf (H.P p0 11) fun a6 =>
    ar H 100 a6 fun n8 =>
    if (Int32.ofNat n8) ≤ x3 then
    some (0, H)
    else
    rf (H.P p0 11) fun a11 =>
    ar H 100 a11 fun n13 =>
    ck (inb x3 n13) <|
    bnd ((H.D a11 (x3).toNatClampNeg)) fun x16 =>
    some (x16, H)
set_option maxRecDepth 20000 in
set_option maxHeartbeats 2000000 in
theorem m_World_read {N : Nat} {p0 : Nat} {p1 : Int32} {p2 : Int32} {H : Hp} {r : Int32 × Hp} (hF : F_World_read N p0 p1 p2 H = some r) : Sa H r.2 := by
  unfold F_World_read at hF
  have hm := Sa.rf H
  obtain ⟨q17, hG⟩ := ck_s hF; clear hF
  obtain ⟨x18, -, hF⟩ := bnd_g hG; clear hG
  obtain ⟨x19, -, hG⟩ := bnd_g hF; clear hF
  rcases ite_s hG with ⟨q_1, hF⟩ | ⟨q_1, hF⟩
  · clear hG
    have hr := Option.some.inj hF; subst hr
    exact hm
  · clear hG
    rcases ite_s hF with ⟨q_2, hG⟩ | ⟨q_2, hG⟩
    · clear hF
      have hr := Option.some.inj hG; subst hr
      exact hm
    · clear hF
      obtain ⟨a22, e23, hF⟩ := rf_s hG; clear hG
      obtain ⟨n24, q25, hG⟩ := ar_s hF; clear hF
      rcases ite_s hG with ⟨q_3, hF⟩ | ⟨q_3, hF⟩
      · clear hG
        have hr := Option.some.inj hF; subst hr
        exact hm
      · clear hG
        obtain ⟨a27, e28, hG⟩ := rf_s hF; clear hF
        obtain ⟨n29, q30, hF⟩ := ar_s hG; clear hG
        obtain ⟨q31, hG⟩ := ck_s hF; clear hF
        obtain ⟨x32, -, hF⟩ := bnd_g hG; clear hG
        have hr := Option.some.inj hF; subst hr
        exact hm
set_option maxRecDepth 20000 in
set_option maxHeartbeats 2000000 in
theorem k_World_read {N : Nat} {p0 : Nat} {p1 : Int32} {p2 : Int32} {H : Hp} {r : Int32 × Hp} (hF : F_World_read N p0 p1 p2 H = some r) : ab_M y_World_read { frames := 0, cells := 0, slots := 0, locals := 0 } [.ref p0, .int p1, .int p2] (hpw H) (po (.returned (some (.int r.1))) r.2) := by
  unfold F_World_read at hF
  refine ab_of2 (lv := [some (.ref p0), some (.int p1), some (.int p2), none]) 1 rfl rfl (Nat.le_of_ble_eq_true rfl) ?_
  refine ab_iload_n d_World_read_0 rfl rfl ?_
  refine ab_aload_n d_World_read_1 rfl rfl rfl ?_
  obtain ⟨q1, hG⟩ := ck_s hF; clear hF
  refine hp_getI (f := 10) d_World_read_2 q1 (by decide) rfl (by decide) (k1 234 rfl rfl) rfl ?_
  refine ab_topi (fun x2 ex2 => ?_)
  replace hG := bnd_s ex2 hG
  refine ab_imul d_World_read_5 ?_
  refine ab_iload_n d_World_read_6 rfl rfl ?_
  refine ab_iadd d_World_read_7 ?_
  refine ab_topi (fun x3 ex3 => ?_)
  replace hG := bnd_s ex3 hG
  refine ab_istore_n (lv' := [some (.ref p0), some (.int p1), some (.int p2), some (.int x3)]) d_World_read_8 rfl (by decide) rfl ?_
  refine ab_iload_n d_World_read_9 rfl rfl ?_
  refine ab_if_lt (tgt := 35) d_World_read_10 (by decide) (fun q4 => ?_) (fun q4 => ?_)
  · rw [if_pos q4] at hG
    refine ab_iconst (v := 0) d_World_read_35 (by decide) ?_
    exact ab_iret d_World_read_36 rfl (Nat.le_refl _) (Nat.le_refl _) (by have hr := Option.some.inj hG; subst hr; exact ⟨rfl, rfl⟩)
  · rw [if_neg q4] at hG
    refine ab_iload_n d_World_read_13 rfl rfl ?_
    refine ab_if_lt (tgt := 35) d_World_read_14 (by decide) (fun q5 => ?_) (fun q5 => ?_)
    · rw [if_pos q5] at hG
      refine ab_iconst (v := 0) d_World_read_35 (by decide) ?_
      exact ab_iret d_World_read_36 rfl (Nat.le_refl _) (Nat.le_refl _) (by have hr := Option.some.inj hG; subst hr; exact ⟨rfl, rfl⟩)
    · rw [if_neg q5] at hG
      refine ab_iload_n d_World_read_17 rfl rfl ?_
      refine ab_aload_n d_World_read_18 rfl rfl rfl ?_
      obtain ⟨a6, e7, hF⟩ := rf_s hG; clear hG
      refine hp_getR (f := 11) d_World_read_19 q1 (by decide) rfl (by decide) (k1 236 rfl rfl) rfl e7 ?_
      obtain ⟨n8, q9, hG⟩ := ar_s hF; clear hF
      refine hp_alen (q := 100) d_World_read_22 q9 (Or.inl ⟨by decide, by decide, rfl⟩) tI ?_
      refine ab_icmp_ge (tgt := 35) d_World_read_23 (by decide) (fun q10 => ?_) (fun q10 => ?_)
      · rw [if_pos q10] at hG
        refine ab_iconst (v := 0) d_World_read_35 (by decide) ?_
        exact ab_iret d_World_read_36 rfl (Nat.le_refl _) (Nat.le_refl _) (by have hr := Option.some.inj hG; subst hr; exact ⟨rfl, rfl⟩)
      · rw [if_neg q10] at hG
        refine ab_aload_n d_World_read_26 rfl rfl rfl ?_
        obtain ⟨a11, e12, hF⟩ := rf_s hG; clear hG
        refine hp_getR (f := 11) d_World_read_27 q1 (by decide) rfl (by decide) (k1 236 rfl rfl) rfl e12 ?_
        refine ab_iload_n d_World_read_30 rfl rfl ?_
        obtain ⟨n13, q14, hG⟩ := ar_s hF; clear hF
        obtain ⟨q15, hF⟩ := ck_s hG; clear hG
        refine hp_iald d_World_read_31 tI q14 q15 ?_
        refine ab_topi (fun x16 ex16 => ?_)
        replace hF := bnd_s ex16 hF
        refine ab_goto (tgt := 36) d_World_read_32 (by decide) ?_
        exact ab_iret d_World_read_36 rfl (Nat.le_refl _) (Nat.le_refl _) (by have hr := Option.some.inj hF; subst hr; exact ⟨rfl, rfl⟩)
def y_World_turned : ab_Y := (⟨"WorldEngine$World", "turned", "(III)I"⟩, prog_12_method_21_code, 6, (some FieldType.int), [])
theorem d_World_turned_0 : decode y_World_turned.2.1 0 = .ok (.iload_n 1, 1) := by decide +kernel
theorem d_World_turned_1 : decode y_World_turned.2.1 1 = .ok (.iload_n 2, 1) := by decide +kernel
theorem d_World_turned_2 : decode y_World_turned.2.1 2 = .ok (.if_icmp .ne 5, 3) := by decide +kernel
theorem d_World_turned_5 : decode y_World_turned.2.1 5 = .ok (.iload_n 0, 1) := by decide +kernel
theorem d_World_turned_6 : decode y_World_turned.2.1 6 = .ok (.ireturn, 1) := by decide +kernel
theorem d_World_turned_7 : decode y_World_turned.2.1 7 = .ok (.iload_n 1, 1) := by decide +kernel
theorem d_World_turned_8 : decode y_World_turned.2.1 8 = .ok (.iconst 4, 1) := by decide +kernel
theorem d_World_turned_9 : decode y_World_turned.2.1 9 = .ok (.if_icmp .eq 8, 3) := by decide +kernel
theorem d_World_turned_12 : decode y_World_turned.2.1 12 = .ok (.iload_n 2, 1) := by decide +kernel
theorem d_World_turned_13 : decode y_World_turned.2.1 13 = .ok (.iconst 4, 1) := by decide +kernel
theorem d_World_turned_14 : decode y_World_turned.2.1 14 = .ok (.if_icmp .ne 14, 3) := by decide +kernel
theorem d_World_turned_17 : decode y_World_turned.2.1 17 = .ok (.iload_n 2, 1) := by decide +kernel
theorem d_World_turned_18 : decode y_World_turned.2.1 18 = .ok (.iconst 4, 1) := by decide +kernel
theorem d_World_turned_19 : decode y_World_turned.2.1 19 = .ok (.if_icmp .ne 7, 3) := by decide +kernel
theorem d_World_turned_22 : decode y_World_turned.2.1 22 = .ok (.iconst (-1), 1) := by decide +kernel
theorem d_World_turned_23 : decode y_World_turned.2.1 23 = .ok (.goto 4, 3) := by decide +kernel
theorem d_World_turned_26 : decode y_World_turned.2.1 26 = .ok (.iconst 0, 1) := by decide +kernel
theorem d_World_turned_27 : decode y_World_turned.2.1 27 = .ok (.ireturn, 1) := by decide +kernel
theorem d_World_turned_28 : decode y_World_turned.2.1 28 = .ok (.iload_n 1, 1) := by decide +kernel
theorem d_World_turned_29 : decode y_World_turned.2.1 29 = .ok (.iconst 2, 1) := by decide +kernel
theorem d_World_turned_30 : decode y_World_turned.2.1 30 = .ok (.if_icmp .ne 10, 3) := by decide +kernel
theorem d_World_turned_33 : decode y_World_turned.2.1 33 = .ok (.iload_n 0, 1) := by decide +kernel
theorem d_World_turned_34 : decode y_World_turned.2.1 34 = .ok (.bipush 16, 2) := by decide +kernel
theorem d_World_turned_36 : decode y_World_turned.2.1 36 = .ok (.ishr, 1) := by decide +kernel
theorem d_World_turned_37 : decode y_World_turned.2.1 37 = .ok (.goto 4, 3) := by decide +kernel
theorem d_World_turned_40 : decode y_World_turned.2.1 40 = .ok (.iload_n 0, 1) := by decide +kernel
theorem d_World_turned_41 : decode y_World_turned.2.1 41 = .ok (.istore_n 3, 1) := by decide +kernel
theorem d_World_turned_42 : decode y_World_turned.2.1 42 = .ok (.iload_n 2, 1) := by decide +kernel
theorem d_World_turned_43 : decode y_World_turned.2.1 43 = .ok (.tableswitch 71 1 3 #[25, 37, 61], 25) := by decide +kernel
theorem d_World_turned_68 : decode y_World_turned.2.1 68 = .ok (.bipush (-128), 2) := by decide +kernel
theorem d_World_turned_70 : decode y_World_turned.2.1 70 = .ok (.bipush 127, 2) := by decide +kernel
theorem d_World_turned_72 : decode y_World_turned.2.1 72 = .ok (.iload_n 3, 1) := by decide +kernel
theorem d_World_turned_73 : decode y_World_turned.2.1 73 = .ok (.invokestatic 165, 3) := by decide +kernel
theorem d_World_turned_76 : decode y_World_turned.2.1 76 = .ok (.invokestatic 83, 3) := by decide +kernel
theorem d_World_turned_79 : decode y_World_turned.2.1 79 = .ok (.ireturn, 1) := by decide +kernel
theorem d_World_turned_80 : decode y_World_turned.2.1 80 = .ok (.ldc2_w 168, 3) := by decide +kernel
theorem d_World_turned_83 : decode y_World_turned.2.1 83 = .ok (.iload_n 0, 1) := by decide +kernel
theorem d_World_turned_84 : decode y_World_turned.2.1 84 = .ok (.i2l, 1) := by decide +kernel
theorem d_World_turned_85 : decode y_World_turned.2.1 85 = .ok (.lmul, 1) := by decide +kernel
theorem d_World_turned_86 : decode y_World_turned.2.1 86 = .ok (.lstore 4, 2) := by decide +kernel
theorem d_World_turned_88 : decode y_World_turned.2.1 88 = .ok (.ldc2_w 172, 3) := by decide +kernel
theorem d_World_turned_91 : decode y_World_turned.2.1 91 = .ok (.ldc2_w 174, 3) := by decide +kernel
theorem d_World_turned_94 : decode y_World_turned.2.1 94 = .ok (.lload 4, 2) := by decide +kernel
theorem d_World_turned_96 : decode y_World_turned.2.1 96 = .ok (.invokestatic 176, 3) := by decide +kernel
theorem d_World_turned_99 : decode y_World_turned.2.1 99 = .ok (.invokestatic 179, 3) := by decide +kernel
theorem d_World_turned_102 : decode y_World_turned.2.1 102 = .ok (.l2i, 1) := by decide +kernel
theorem d_World_turned_103 : decode y_World_turned.2.1 103 = .ok (.ireturn, 1) := by decide +kernel
theorem d_World_turned_104 : decode y_World_turned.2.1 104 = .ok (.iload_n 0, 1) := by decide +kernel
theorem d_World_turned_105 : decode y_World_turned.2.1 105 = .ok (.ifCond .eq 7, 3) := by decide +kernel
theorem d_World_turned_108 : decode y_World_turned.2.1 108 = .ok (.iconst 1, 1) := by decide +kernel
theorem d_World_turned_109 : decode y_World_turned.2.1 109 = .ok (.goto 4, 3) := by decide +kernel
theorem d_World_turned_112 : decode y_World_turned.2.1 112 = .ok (.iconst 0, 1) := by decide +kernel
theorem d_World_turned_113 : decode y_World_turned.2.1 113 = .ok (.ireturn, 1) := by decide +kernel
theorem d_World_turned_114 : decode y_World_turned.2.1 114 = .ok (.iload_n 3, 1) := by decide +kernel
theorem d_World_turned_115 : decode y_World_turned.2.1 115 = .ok (.ireturn, 1) := by decide +kernel
theorem s_World_turned : ab_Stat y_World_turned 3 := ⟨(k6 139 rfl rfl), (k1 10 rfl rfl), ⟨by decide, by decide⟩, by decide +kernel⟩
theorem t_World_turned : Cond.static y_World_turned.1 ∈ ab_T := (k6 138 rfl rfl)
def B_World_turned_17 (N : Nat) (p0 : Int32) (p1 : Int32) (p2 : Int32)  (H : Hp) : Option (Int32 × Hp) :=
    if p2 = (4 : Int32) then
    some ((-1), H)
    else
    some (0, H)
set_option maxRecDepth 20000 in
set_option maxHeartbeats 2000000 in
theorem mB_World_turned_17 {N : Nat} {p0 : Int32} {p1 : Int32} {p2 : Int32}  {H : Hp} {r : Int32 × Hp} (hF : B_World_turned_17 N p0 p1 p2  H = some r) : Sa H r.2 := by
  unfold B_World_turned_17 at hF
  have hm := Sa.rf H
  rcases ite_s hF with ⟨q_1, hG⟩ | ⟨q_1, hG⟩
  · clear hF
    have hr := Option.some.inj hG; subst hr
    exact hm
  · clear hF
    have hr := Option.some.inj hG; subst hr
    exact hm
set_option maxRecDepth 20000 in
set_option maxHeartbeats 2000000 in
theorem kB_World_turned_17 {N : Nat} {p0 : Int32} {p1 : Int32} {p2 : Int32}  {H : Hp} {r : Int32 × Hp} (hF : B_World_turned_17 N p0 p1 p2  H = some r) : ab_V y_World_turned { frames := 1, cells := 0, slots := 0, locals := 23 } (po (.returned (some (.int r.1))) r.2) 0 0 0 0 17 [some (.int p0), some (.int p1), some (.int p2), none, none, none] [] (hpw H) := by
  unfold B_World_turned_17 at hF
  refine ab_iload_n d_World_turned_17 rfl rfl ?_
  refine ab_iconst (v := 4) d_World_turned_18 (by decide) ?_
  refine ab_icmp_ne (tgt := 26) d_World_turned_19 (by decide) (fun q3 => ?_) (fun q3 => ?_)
  · rw [if_neg q3] at hF
    refine ab_iconst (v := 0) d_World_turned_26 (by decide) ?_
    exact ab_iret d_World_turned_27 rfl (Nat.le_refl _) (Nat.le_refl _) (by have hr := Option.some.inj hF; subst hr; exact ⟨rfl, rfl⟩)
  · rw [if_pos q3] at hF
    refine ab_iconst (v := (-1)) d_World_turned_22 (by decide) ?_
    refine ab_goto (tgt := 27) d_World_turned_23 (by decide) ?_
    exact ab_iret d_World_turned_27 rfl (Nat.le_refl _) (Nat.le_refl _) (by have hr := Option.some.inj hF; subst hr; exact ⟨rfl, rfl⟩)
def B_World_turned_41 (N : Nat) (p0 : Int32) (p1 : Int32) (p2 : Int32) (w0 : Int32) (H : Hp) : Option (Int32 × Hp) :=
    if p2 = 1 then
    bC (F_Math_min N (127 : Int32) w0 H) fun v9 H10 =>
    bC (F_Math_max N ((-128) : Int32) v9 H10) fun v12 H13 =>
    some (v12, H13)
    else if p2 = 2 then
    bnd ((65536 : Int64) * ((p0 : Int32).toInt64)) fun x15 =>
    bC (F_Math_min2 N (2147483647 : Int64) x15 H) fun v17 H18 =>
    bC (F_Math_max2 N ((-2147483648) : Int64) v17 H18) fun v20 H21 =>
    some ((v20 : Int64).toInt32, H21)
    else if p2 = 3 then
    if p0 = (0 : Int32) then
    some (0, H)
    else
    some (1, H)
    else some (w0, H)
set_option maxRecDepth 20000 in
set_option maxHeartbeats 2000000 in
theorem mB_World_turned_41 {N : Nat} {p0 : Int32} {p1 : Int32} {p2 : Int32} {w0 : Int32} {H : Hp} {r : Int32 × Hp} (hF : B_World_turned_41 N p0 p1 p2 w0 H = some r) : Sa H r.2 := by
  unfold B_World_turned_41 at hF
  have hm := Sa.rf H
  rcases ite_s hF with ⟨q_6, hG⟩ | ⟨q_6, hG⟩
  · clear hF
    obtain ⟨v26, H27, z25, hF⟩ := bC_s hG; clear hG
    replace hm : Sa H H27 := hm.tr (m_Math_min z25)
    obtain ⟨v29, H30, z28, hG⟩ := bC_s hF; clear hF
    replace hm : Sa H H30 := hm.tr (m_Math_max z28)
    have hr := Option.some.inj hG; subst hr
    exact hm
  clear hF
  rcases ite_s hG with ⟨q_9, hF⟩ | ⟨q_9, hF⟩
  · clear hG
    obtain ⟨x32, -, hG⟩ := bnd_g hF; clear hF
    obtain ⟨v34, H35, z33, hF⟩ := bC_s hG; clear hG
    replace hm : Sa H H35 := hm.tr (m_Math_min2 z33)
    obtain ⟨v37, H38, z36, hG⟩ := bC_s hF; clear hF
    replace hm : Sa H H38 := hm.tr (m_Math_max2 z36)
    have hr := Option.some.inj hG; subst hr
    exact hm
  clear hG
  rcases ite_s hF with ⟨q_12, hG⟩ | ⟨q_12, hG⟩
  · clear hF
    rcases ite_s hG with ⟨q_13, hF⟩ | ⟨q_13, hF⟩
    · clear hG
      have hr := Option.some.inj hF; subst hr
      exact hm
    · clear hG
      have hr := Option.some.inj hF; subst hr
      exact hm
  clear hF
  have hr := Option.some.inj hG; subst hr
  exact hm
set_option maxRecDepth 20000 in
set_option maxHeartbeats 2000000 in
theorem kB_World_turned_41 {N : Nat} {p0 : Int32} {p1 : Int32} {p2 : Int32} {w0 : Int32} {H : Hp} {r : Int32 × Hp} (hF : B_World_turned_41 N p0 p1 p2 w0 H = some r) : ab_V y_World_turned { frames := 1, cells := 0, slots := 0, locals := 23 } (po (.returned (some (.int r.1))) r.2) 0 0 0 0 41 [some (.int p0), some (.int p1), some (.int p2), none, none, none] [.int w0] (hpw H) := by
  unfold B_World_turned_41 at hF
  refine ab_istore_n (lv' := [some (.int p0), some (.int p1), some (.int p2), some (.int w0), none, none]) d_World_turned_41 rfl (by decide) rfl ?_
  refine ab_iload_n d_World_turned_42 rfl rfl ?_
  by_cases t7 : p2 = 1
  · rw [if_pos t7] at hF
    refine ab_tableIn (off := 25) (tgt := 68) d_World_turned_43 (by rw [t7]; decide) (by rw [t7]; decide) (by rw [t7]; decide) (by decide) ?_
    refine ab_bipush (v := (-128)) d_World_turned_68 (by decide) ?_
    refine ab_bipush (v := 127) d_World_turned_70 (by decide) ?_
    refine ab_iload_n d_World_turned_72 rfl rfl ?_
    obtain ⟨v9, H10, z8, hG⟩ := bC_s hF; clear hF
    refine hp_callS_a (v := .int v9) (H1 := H10) (As := [.int 127, .int w0]) (rest := [.int (-128)]) d_World_turned_73 (k_Math_min z8) (ab_mkC s_Math_min (Nat.le_of_ble_eq_true rfl) (Nat.le_of_ble_eq_true rfl) (Nat.le_refl 0) (Nat.le_refl 0)) (k6 140 rfl rfl) t_Math_min rfl (Nat.le_of_ble_eq_true rfl) ?_
    have s_2 : Sa H H10 := (m_Math_min z8)
    obtain ⟨v12, H13, z11, hF⟩ := bC_s hG; clear hG
    refine hp_callS_a (v := .int v12) (H1 := H13) (As := [.int (-128), .int v9]) (rest := []) d_World_turned_76 (k_Math_max z11) (ab_mkC s_Math_max (Nat.le_of_ble_eq_true rfl) (Nat.le_of_ble_eq_true rfl) (Nat.le_refl 0) (Nat.le_refl 0)) (k6 141 rfl rfl) t_Math_max rfl (Nat.le_of_ble_eq_true rfl) ?_
    have s_3 : Sa H H13 := (s_2).tr (m_Math_max z11)
    exact ab_iret d_World_turned_79 rfl (Nat.le_refl _) (Nat.le_refl _) (by have hr := Option.some.inj hF; subst hr; exact ⟨rfl, rfl⟩)
  rw [if_neg t7] at hF
  have ut7 : ¬ (1 : Int) = (p2).toInt := fun z => t7 (Int32.toInt_inj.mp (z.symm.trans (by decide)))
  by_cases t14 : p2 = 2
  · rw [if_pos t14] at hF
    refine ab_tableIn (off := 37) (tgt := 80) d_World_turned_43 (by rw [t14]; decide) (by rw [t14]; decide) (by rw [t14]; decide) (by decide) ?_
    refine ab_ldc2 d_World_turned_80 (k6 142 rfl rfl) ?_
    refine ab_iload_n d_World_turned_83 rfl rfl ?_
    refine ab_i2l d_World_turned_84 ?_
    refine ab_lmul d_World_turned_85 ?_
    refine ab_topl (fun x15 ex15 => ?_)
    replace hF := bnd_s ex15 hF
    refine ab_lstore (lv' := [some (.int p0), some (.int p1), some (.int p2), some (.int w0), some (.long x15), none]) d_World_turned_86 (by decide) rfl ?_
    refine ab_ldc2 d_World_turned_88 (k6 143 rfl rfl) ?_
    refine ab_ldc2 d_World_turned_91 (k6 144 rfl rfl) ?_
    refine ab_lload d_World_turned_94 rfl ?_
    obtain ⟨v17, H18, z16, hG⟩ := bC_s hF; clear hF
    refine hp_callS_a (v := .long v17) (H1 := H18) (As := [.long 2147483647, .long x15]) (rest := [.long (-2147483648)]) d_World_turned_96 (k_Math_min2 z16) (ab_mkC s_Math_min2 (Nat.le_of_ble_eq_true rfl) (Nat.le_of_ble_eq_true rfl) (Nat.le_refl 0) (Nat.le_refl 0)) (k6 145 rfl rfl) t_Math_min2 rfl (Nat.le_of_ble_eq_true rfl) ?_
    have s_4 : Sa H H18 := (m_Math_min2 z16)
    obtain ⟨v20, H21, z19, hF⟩ := bC_s hG; clear hG
    refine hp_callS_a (v := .long v20) (H1 := H21) (As := [.long (-2147483648), .long v17]) (rest := []) d_World_turned_99 (k_Math_max2 z19) (ab_mkC s_Math_max2 (Nat.le_of_ble_eq_true rfl) (Nat.le_of_ble_eq_true rfl) (Nat.le_refl 0) (Nat.le_refl 0)) (k6 146 rfl rfl) t_Math_max2 rfl (Nat.le_of_ble_eq_true rfl) ?_
    have s_5 : Sa H H21 := (s_4).tr (m_Math_max2 z19)
    refine ab_l2i d_World_turned_102 ?_
    exact ab_iret d_World_turned_103 rfl (Nat.le_refl _) (Nat.le_refl _) (by have hr := Option.some.inj hF; subst hr; exact ⟨rfl, rfl⟩)
  rw [if_neg t14] at hF
  have ut14 : ¬ (2 : Int) = (p2).toInt := fun z => t14 (Int32.toInt_inj.mp (z.symm.trans (by decide)))
  by_cases t22 : p2 = 3
  · rw [if_pos t22] at hF
    refine ab_tableIn (off := 61) (tgt := 104) d_World_turned_43 (by rw [t22]; decide) (by rw [t22]; decide) (by rw [t22]; decide) (by decide) ?_
    refine ab_iload_n d_World_turned_104 rfl rfl ?_
    refine ab_if_eq (tgt := 112) d_World_turned_105 (by decide) (fun q23 => ?_) (fun q23 => ?_)
    · rw [if_pos q23] at hF
      refine ab_iconst (v := 0) d_World_turned_112 (by decide) ?_
      exact ab_iret d_World_turned_113 rfl (Nat.le_refl _) (Nat.le_refl _) (by have hr := Option.some.inj hF; subst hr; exact ⟨rfl, rfl⟩)
    · rw [if_neg q23] at hF
      refine ab_iconst (v := 1) d_World_turned_108 (by decide) ?_
      refine ab_goto (tgt := 113) d_World_turned_109 (by decide) ?_
      exact ab_iret d_World_turned_113 rfl (Nat.le_refl _) (Nat.le_refl _) (by have hr := Option.some.inj hF; subst hr; exact ⟨rfl, rfl⟩)
  rw [if_neg t22] at hF
  have ut22 : ¬ (3 : Int) = (p2).toInt := fun z => t22 (Int32.toInt_inj.mp (z.symm.trans (by decide)))
  refine ab_tableOut (tgt := 114) d_World_turned_43 (by omega) (by decide) ?_
  refine ab_iload_n d_World_turned_114 rfl rfl ?_
  exact ab_iret d_World_turned_115 rfl (Nat.le_refl _) (Nat.le_refl _) (by have hr := Option.some.inj hF; subst hr; exact ⟨rfl, rfl⟩)
def F_World_turned (N : Nat) (p0 : Int32) (p1 : Int32) (p2 : Int32) (H : Hp) : Option (Int32 × Hp) :=
    if p1 = p2 then
    some (p0, H)
    else
    if p1 = (4 : Int32) then
    B_World_turned_17 N p0 p1 p2  H
    else
    if p2 = (4 : Int32) then
    B_World_turned_17 N p0 p1 p2  H
    else
    if p1 = (2 : Int32) then
    B_World_turned_41 N p0 p1 p2 (p0 >>> ((16 : Int32) &&& 31)) H
    else
    B_World_turned_41 N p0 p1 p2 p0 H
set_option maxRecDepth 20000 in
set_option maxHeartbeats 2000000 in
theorem m_World_turned {N : Nat} {p0 : Int32} {p1 : Int32} {p2 : Int32} {H : Hp} {r : Int32 × Hp} (hF : F_World_turned N p0 p1 p2 H = some r) : Sa H r.2 := by
  unfold F_World_turned at hF
  have hm := Sa.rf H
  rcases ite_s hF with ⟨q_14, hG⟩ | ⟨q_14, hG⟩
  · clear hF
    have hr := Option.some.inj hG; subst hr
    exact hm
  · clear hF
    rcases ite_s hG with ⟨q_15, hF⟩ | ⟨q_15, hF⟩
    · clear hG
      exact hm.tr (mB_World_turned_17 hF)
    · clear hG
      rcases ite_s hF with ⟨q_16, hG⟩ | ⟨q_16, hG⟩
      · clear hF
        exact hm.tr (mB_World_turned_17 hG)
      · clear hF
        rcases ite_s hG with ⟨q_17, hF⟩ | ⟨q_17, hF⟩
        · clear hG
          exact hm.tr (mB_World_turned_41 hF)
        · clear hG
          exact hm.tr (mB_World_turned_41 hF)
set_option maxRecDepth 20000 in
set_option maxHeartbeats 2000000 in
theorem k_World_turned {N : Nat} {p0 : Int32} {p1 : Int32} {p2 : Int32} {H : Hp} {r : Int32 × Hp} (hF : F_World_turned N p0 p1 p2 H = some r) : ab_M y_World_turned { frames := 1, cells := 0, slots := 0, locals := 23 } [.int p0, .int p1, .int p2] (hpw H) (po (.returned (some (.int r.1))) r.2) := by
  unfold F_World_turned at hF
  refine ab_of2 (lv := [some (.int p0), some (.int p1), some (.int p2), none, none, none]) 3 rfl rfl (Nat.le_of_ble_eq_true rfl) ?_
  refine ab_iload_n d_World_turned_0 rfl rfl ?_
  refine ab_iload_n d_World_turned_1 rfl rfl ?_
  refine ab_icmp_ne (tgt := 7) d_World_turned_2 (by decide) (fun q1 => ?_) (fun q1 => ?_)
  · rw [if_neg q1] at hF
    refine ab_iload_n d_World_turned_7 rfl rfl ?_
    refine ab_iconst (v := 4) d_World_turned_8 (by decide) ?_
    refine ab_icmp_eq (tgt := 17) d_World_turned_9 (by decide) (fun q2 => ?_) (fun q2 => ?_)
    · rw [if_pos q2] at hF
      exact kB_World_turned_17 hF
    · rw [if_neg q2] at hF
      refine ab_iload_n d_World_turned_12 rfl rfl ?_
      refine ab_iconst (v := 4) d_World_turned_13 (by decide) ?_
      refine ab_icmp_ne (tgt := 28) d_World_turned_14 (by decide) (fun q5 => ?_) (fun q5 => ?_)
      · rw [if_neg q5] at hF
        refine ab_iload_n d_World_turned_28 rfl rfl ?_
        refine ab_iconst (v := 2) d_World_turned_29 (by decide) ?_
        refine ab_icmp_ne (tgt := 40) d_World_turned_30 (by decide) (fun q6 => ?_) (fun q6 => ?_)
        · rw [if_neg q6] at hF
          refine ab_iload_n d_World_turned_40 rfl rfl ?_
          exact kB_World_turned_41 hF
        · rw [if_pos q6] at hF
          refine ab_iload_n d_World_turned_33 rfl rfl ?_
          refine ab_bipush (v := 16) d_World_turned_34 (by decide) ?_
          refine ab_ishr d_World_turned_36 ?_
          refine ab_goto (tgt := 41) d_World_turned_37 (by decide) ?_
          exact kB_World_turned_41 hF
      · rw [if_pos q5] at hF
        exact kB_World_turned_17 hF
  · rw [if_pos q1] at hF
    refine ab_iload_n d_World_turned_5 rfl rfl ?_
    exact ab_iret d_World_turned_6 rfl (Nat.le_refl _) (Nat.le_refl _) (by have hr := Option.some.inj hF; subst hr; exact ⟨rfl, rfl⟩)
def y_World_write : ab_Y := (⟨"WorldEngine$World", "write", "(III)V"⟩, prog_12_method_11_code, 5, none, [])
theorem d_World_write_0 : decode y_World_write.2.1 0 = .ok (.iload_n 1, 1) := by decide +kernel
theorem d_World_write_1 : decode y_World_write.2.1 1 = .ok (.aload_n 0, 1) := by decide +kernel
theorem d_World_write_2 : decode y_World_write.2.1 2 = .ok (.getfield 52, 3) := by decide +kernel
theorem d_World_write_5 : decode y_World_write.2.1 5 = .ok (.imul, 1) := by decide +kernel
theorem d_World_write_6 : decode y_World_write.2.1 6 = .ok (.iload_n 2, 1) := by decide +kernel
theorem d_World_write_7 : decode y_World_write.2.1 7 = .ok (.iadd, 1) := by decide +kernel
theorem d_World_write_8 : decode y_World_write.2.1 8 = .ok (.istore 4, 2) := by decide +kernel
theorem d_World_write_10 : decode y_World_write.2.1 10 = .ok (.iload_n 1, 1) := by decide +kernel
theorem d_World_write_11 : decode y_World_write.2.1 11 = .ok (.ifCond .lt 26, 3) := by decide +kernel
theorem d_World_write_14 : decode y_World_write.2.1 14 = .ok (.iload 4, 2) := by decide +kernel
theorem d_World_write_16 : decode y_World_write.2.1 16 = .ok (.ifCond .lt 21, 3) := by decide +kernel
theorem d_World_write_19 : decode y_World_write.2.1 19 = .ok (.iload 4, 2) := by decide +kernel
theorem d_World_write_21 : decode y_World_write.2.1 21 = .ok (.aload_n 0, 1) := by decide +kernel
theorem d_World_write_22 : decode y_World_write.2.1 22 = .ok (.getfield 24, 3) := by decide +kernel
theorem d_World_write_25 : decode y_World_write.2.1 25 = .ok (.arraylength, 1) := by decide +kernel
theorem d_World_write_26 : decode y_World_write.2.1 26 = .ok (.if_icmp .ge 11, 3) := by decide +kernel
theorem d_World_write_29 : decode y_World_write.2.1 29 = .ok (.aload_n 0, 1) := by decide +kernel
theorem d_World_write_30 : decode y_World_write.2.1 30 = .ok (.getfield 24, 3) := by decide +kernel
theorem d_World_write_33 : decode y_World_write.2.1 33 = .ok (.iload 4, 2) := by decide +kernel
theorem d_World_write_35 : decode y_World_write.2.1 35 = .ok (.iload_n 3, 1) := by decide +kernel
theorem d_World_write_36 : decode y_World_write.2.1 36 = .ok (.iastore, 1) := by decide +kernel
theorem d_World_write_37 : decode y_World_write.2.1 37 = .ok (.return_, 1) := by decide +kernel
theorem s_World_write : ab_Stat y_World_write 3 := ⟨(k6 150 rfl rfl), (k1 10 rfl rfl), ⟨by decide, by decide⟩, by decide +kernel⟩
theorem i_World_write : Cond.instanceMethod y_World_write.1 ∈ ab_T := (k6 148 rfl rfl)
theorem v_World_write : Cond.selects "WorldEngine$World" y_World_write.1 y_World_write.1 ∈ ab_T := (k6 149 rfl rfl)
def F_World_write (N : Nat) (p0 : Nat) (p1 : Int32) (p2 : Int32) (p3 : Int32) (H : Hp) : Option (Unit × Hp) :=
    ck (H.sh[p0]? = some (7, 0)) <|
    bnd ((H.D p0 10)) fun x2 =>
    bnd (((p1 * x2) + p2)) fun x3 =>
    if p1 < (0 : Int32) then
    some ((), H)
    else
    if x3 < (0 : Int32) then
    some ((), H)
    else
    rf (H.P p0 11) fun a6 =>
    ar H 100 a6 fun n8 =>
    if (Int32.ofNat n8) ≤ x3 then
    some ((), H)
    else
    rf (H.P p0 11) fun a11 =>
    ar H 100 a11 fun n13 =>
    ck (inb x3 n13) <|
    bnd (H.sD a11 (x3).toNatClampNeg p3) fun H16 =>
    some ((), H16)
set_option maxRecDepth 20000 in
set_option maxHeartbeats 2000000 in
theorem m_World_write {N : Nat} {p0 : Nat} {p1 : Int32} {p2 : Int32} {p3 : Int32} {H : Hp} {r : Unit × Hp} (hF : F_World_write N p0 p1 p2 p3 H = some r) : Sa H r.2 := by
  unfold F_World_write at hF
  have hm := Sa.rf H
  obtain ⟨q17, hG⟩ := ck_s hF; clear hF
  obtain ⟨x18, -, hF⟩ := bnd_g hG; clear hG
  obtain ⟨x19, -, hG⟩ := bnd_g hF; clear hF
  rcases ite_s hG with ⟨q_2, hF⟩ | ⟨q_2, hF⟩
  · clear hG
    have hr := Option.some.inj hF; subst hr
    exact hm
  · clear hG
    rcases ite_s hF with ⟨q_3, hG⟩ | ⟨q_3, hG⟩
    · clear hF
      have hr := Option.some.inj hG; subst hr
      exact hm
    · clear hF
      obtain ⟨a22, e23, hF⟩ := rf_s hG; clear hG
      obtain ⟨n24, q25, hG⟩ := ar_s hF; clear hF
      rcases ite_s hG with ⟨q_4, hF⟩ | ⟨q_4, hF⟩
      · clear hG
        have hr := Option.some.inj hF; subst hr
        exact hm
      · clear hG
        obtain ⟨a27, e28, hG⟩ := rf_s hF; clear hF
        obtain ⟨n29, q30, hF⟩ := ar_s hG; clear hG
        obtain ⟨q31, hG⟩ := ck_s hF; clear hF
        obtain ⟨H32, eH32, hF⟩ := bnd_g hG; clear hG
        replace hm : Sa H H32 := by rw [eH32]; exact hm
        have hr := Option.some.inj hF; subst hr
        exact hm
set_option maxRecDepth 20000 in
set_option maxHeartbeats 2000000 in
theorem k_World_write {N : Nat} {p0 : Nat} {p1 : Int32} {p2 : Int32} {p3 : Int32} {H : Hp} {r : Unit × Hp} (hF : F_World_write N p0 p1 p2 p3 H = some r) : ab_M y_World_write { frames := 0, cells := 0, slots := 0, locals := 0 } [.ref p0, .int p1, .int p2, .int p3] (hpw H) (po (.returned none) r.2) := by
  unfold F_World_write at hF
  refine ab_of2 (lv := [some (.ref p0), some (.int p1), some (.int p2), some (.int p3), none]) 1 rfl rfl (Nat.le_of_ble_eq_true rfl) ?_
  refine ab_iload_n d_World_write_0 rfl rfl ?_
  refine ab_aload_n d_World_write_1 rfl rfl rfl ?_
  obtain ⟨q1, hG⟩ := ck_s hF; clear hF
  refine hp_getI (f := 10) d_World_write_2 q1 (by decide) rfl (by decide) (k1 234 rfl rfl) rfl ?_
  refine ab_topi (fun x2 ex2 => ?_)
  replace hG := bnd_s ex2 hG
  refine ab_imul d_World_write_5 ?_
  refine ab_iload_n d_World_write_6 rfl rfl ?_
  refine ab_iadd d_World_write_7 ?_
  refine ab_topi (fun x3 ex3 => ?_)
  replace hG := bnd_s ex3 hG
  refine ab_istore (lv' := [some (.ref p0), some (.int p1), some (.int p2), some (.int p3), some (.int x3)]) d_World_write_8 (by decide) rfl ?_
  refine ab_iload_n d_World_write_10 rfl rfl ?_
  refine ab_if_lt (tgt := 37) d_World_write_11 (by decide) (fun q4 => ?_) (fun q4 => ?_)
  · rw [if_pos q4] at hG
    exact ab_vret d_World_write_37 rfl (Nat.le_refl _) (Nat.le_refl _) (by have hr := Option.some.inj hG; subst hr; exact ⟨rfl, rfl⟩)
  · rw [if_neg q4] at hG
    refine ab_iload d_World_write_14 rfl ?_
    refine ab_if_lt (tgt := 37) d_World_write_16 (by decide) (fun q5 => ?_) (fun q5 => ?_)
    · rw [if_pos q5] at hG
      exact ab_vret d_World_write_37 rfl (Nat.le_refl _) (Nat.le_refl _) (by have hr := Option.some.inj hG; subst hr; exact ⟨rfl, rfl⟩)
    · rw [if_neg q5] at hG
      refine ab_iload d_World_write_19 rfl ?_
      refine ab_aload_n d_World_write_21 rfl rfl rfl ?_
      obtain ⟨a6, e7, hF⟩ := rf_s hG; clear hG
      refine hp_getR (f := 11) d_World_write_22 q1 (by decide) rfl (by decide) (k1 236 rfl rfl) rfl e7 ?_
      obtain ⟨n8, q9, hG⟩ := ar_s hF; clear hF
      refine hp_alen (q := 100) d_World_write_25 q9 (Or.inl ⟨by decide, by decide, rfl⟩) tI ?_
      refine ab_icmp_ge (tgt := 37) d_World_write_26 (by decide) (fun q10 => ?_) (fun q10 => ?_)
      · rw [if_pos q10] at hG
        exact ab_vret d_World_write_37 rfl (Nat.le_refl _) (Nat.le_refl _) (by have hr := Option.some.inj hG; subst hr; exact ⟨rfl, rfl⟩)
      · rw [if_neg q10] at hG
        refine ab_aload_n d_World_write_29 rfl rfl rfl ?_
        obtain ⟨a11, e12, hF⟩ := rf_s hG; clear hG
        refine hp_getR (f := 11) d_World_write_30 q1 (by decide) rfl (by decide) (k1 236 rfl rfl) rfl e12 ?_
        refine ab_iload d_World_write_33 rfl ?_
        refine ab_iload_n d_World_write_35 rfl rfl ?_
        obtain ⟨n13, q14, hG⟩ := ar_s hF; clear hF
        obtain ⟨q15, hF⟩ := ck_s hG; clear hG
        refine hp_iast d_World_write_36 tI q14 q15 ?_
        refine hp_gen (fun H16 eH16 => ?_)
        replace hF := bnd_s eH16 hF
        have s_1 : Sa H H16 := by rw [eH16]; exact Sa.rf _
        exact ab_vret d_World_write_37 rfl (Nat.le_refl _) (Nat.le_refl _) (by have hr := Option.some.inj hF; subst hr; exact ⟨rfl, rfl⟩)
def y_World_carryMember : ab_Y := (⟨"WorldEngine$World", "carryMember", "(LWorldEngine$World;LWorldEngine$Program;ILWorldEngine$Program;I)V"⟩, prog_12_method_20_code, 9, none, [])
theorem d_World_carryMember_0 : decode y_World_carryMember.2.1 0 = .ok (.aload 4, 2) := by decide +kernel
theorem d_World_carryMember_2 : decode y_World_carryMember.2.1 2 = .ok (.getfield 99, 3) := by decide +kernel
theorem d_World_carryMember_5 : decode y_World_carryMember.2.1 5 = .ok (.getfield 140, 3) := by decide +kernel
theorem d_World_carryMember_8 : decode y_World_carryMember.2.1 8 = .ok (.iload 5, 2) := by decide +kernel
theorem d_World_carryMember_10 : decode y_World_carryMember.2.1 10 = .ok (.aaload, 1) := by decide +kernel
theorem d_World_carryMember_11 : decode y_World_carryMember.2.1 11 = .ok (.getfield 155, 3) := by decide +kernel
theorem d_World_carryMember_14 : decode y_World_carryMember.2.1 14 = .ok (.istore 6, 2) := by decide +kernel
theorem d_World_carryMember_16 : decode y_World_carryMember.2.1 16 = .ok (.iconst 0, 1) := by decide +kernel
theorem d_World_carryMember_17 : decode y_World_carryMember.2.1 17 = .ok (.istore 7, 2) := by decide +kernel
theorem d_World_carryMember_19 : decode y_World_carryMember.2.1 19 = .ok (.iload 7, 2) := by decide +kernel
theorem d_World_carryMember_21 : decode y_World_carryMember.2.1 21 = .ok (.aload_n 0, 1) := by decide +kernel
theorem d_World_carryMember_22 : decode y_World_carryMember.2.1 22 = .ok (.getfield 49, 3) := by decide +kernel
theorem d_World_carryMember_25 : decode y_World_carryMember.2.1 25 = .ok (.if_icmp .ge 58, 3) := by decide +kernel
theorem d_World_carryMember_28 : decode y_World_carryMember.2.1 28 = .ok (.aload 4, 2) := by decide +kernel
theorem d_World_carryMember_30 : decode y_World_carryMember.2.1 30 = .ok (.iload 5, 2) := by decide +kernel
theorem d_World_carryMember_32 : decode y_World_carryMember.2.1 32 = .ok (.invokevirtual 108, 3) := by decide +kernel
theorem d_World_carryMember_35 : decode y_World_carryMember.2.1 35 = .ok (.istore 8, 2) := by decide +kernel
theorem d_World_carryMember_37 : decode y_World_carryMember.2.1 37 = .ok (.iload_n 3, 1) := by decide +kernel
theorem d_World_carryMember_38 : decode y_World_carryMember.2.1 38 = .ok (.ifCond .lt 29, 3) := by decide +kernel
theorem d_World_carryMember_41 : decode y_World_carryMember.2.1 41 = .ok (.aload_n 1, 1) := by decide +kernel
theorem d_World_carryMember_42 : decode y_World_carryMember.2.1 42 = .ok (.iload 7, 2) := by decide +kernel
theorem d_World_carryMember_44 : decode y_World_carryMember.2.1 44 = .ok (.iload_n 3, 1) := by decide +kernel
theorem d_World_carryMember_45 : decode y_World_carryMember.2.1 45 = .ok (.invokevirtual 158, 3) := by decide +kernel
theorem d_World_carryMember_48 : decode y_World_carryMember.2.1 48 = .ok (.aload_n 2, 1) := by decide +kernel
theorem d_World_carryMember_49 : decode y_World_carryMember.2.1 49 = .ok (.getfield 99, 3) := by decide +kernel
theorem d_World_carryMember_52 : decode y_World_carryMember.2.1 52 = .ok (.getfield 140, 3) := by decide +kernel
theorem d_World_carryMember_55 : decode y_World_carryMember.2.1 55 = .ok (.iload_n 3, 1) := by decide +kernel
theorem d_World_carryMember_56 : decode y_World_carryMember.2.1 56 = .ok (.aaload, 1) := by decide +kernel
theorem d_World_carryMember_57 : decode y_World_carryMember.2.1 57 = .ok (.getfield 155, 3) := by decide +kernel
theorem d_World_carryMember_60 : decode y_World_carryMember.2.1 60 = .ok (.iload 6, 2) := by decide +kernel
theorem d_World_carryMember_62 : decode y_World_carryMember.2.1 62 = .ok (.invokestatic 161, 3) := by decide +kernel
theorem d_World_carryMember_65 : decode y_World_carryMember.2.1 65 = .ok (.istore 8, 2) := by decide +kernel
theorem d_World_carryMember_67 : decode y_World_carryMember.2.1 67 = .ok (.aload_n 0, 1) := by decide +kernel
theorem d_World_carryMember_68 : decode y_World_carryMember.2.1 68 = .ok (.iload 7, 2) := by decide +kernel
theorem d_World_carryMember_70 : decode y_World_carryMember.2.1 70 = .ok (.iload 5, 2) := by decide +kernel
theorem d_World_carryMember_72 : decode y_World_carryMember.2.1 72 = .ok (.iload 8, 2) := by decide +kernel
theorem d_World_carryMember_74 : decode y_World_carryMember.2.1 74 = .ok (.invokevirtual 111, 3) := by decide +kernel
theorem d_World_carryMember_77 : decode y_World_carryMember.2.1 77 = .ok (.iinc 7 1, 3) := by decide +kernel
theorem d_World_carryMember_80 : decode y_World_carryMember.2.1 80 = .ok (.goto (-61), 3) := by decide +kernel
theorem d_World_carryMember_83 : decode y_World_carryMember.2.1 83 = .ok (.return_, 1) := by decide +kernel
theorem s_World_carryMember : ab_Stat y_World_carryMember 5 := ⟨(k6 131 rfl rfl), (k1 10 rfl rfl), ⟨by decide, by decide⟩, by decide +kernel⟩
theorem i_World_carryMember : Cond.instanceMethod y_World_carryMember.1 ∈ ab_T := (k6 130 rfl rfl)
theorem v_World_carryMember : Cond.selects "WorldEngine$World" y_World_carryMember.1 y_World_carryMember.1 ∈ ab_T := ab_s (List.mem_of_getElem? (i := 63) rfl) rfl
def B_World_carryMember_67 (N : Nat) (p0 : Nat) (p1 : Nat) (p2 : Nat) (p3 : Int32) (p4 : Nat) (p5 : Int32) (kq19 : Int32 → Int32 → Hp → Option (Unit × Hp)) (l6 : Int32) (l7 : Int32) (l8 : Int32) (H : Hp) : Option (Unit × Hp) :=
    ck (H.sh[p0]? = some (7, 0)) <|
    bC (F_World_write N p0 l7 p5 l8 H) fun v24 H25 =>
    kq19 l6 (l7 + 1) H25
set_option maxRecDepth 20000 in
set_option maxHeartbeats 2000000 in
theorem mB_World_carryMember_67 {N : Nat} {p0 : Nat} {p1 : Nat} {p2 : Nat} {p3 : Int32} {p4 : Nat} {p5 : Int32} {kq19 : Int32 → Int32 → Hp → Option (Unit × Hp)} (hm19 : ∀ (l6 : Int32) (l7 : Int32) (H : Hp) (r : Unit × Hp), kq19 l6 l7 H = some r → Sa H r.2) {l6 : Int32} {l7 : Int32} {l8 : Int32} {H : Hp} {r : Unit × Hp} (hF : B_World_carryMember_67 N p0 p1 p2 p3 p4 p5 kq19 l6 l7 l8 H = some r) : Sa H r.2 := by
  unfold B_World_carryMember_67 at hF
  have hm := Sa.rf H
  obtain ⟨q26, hG⟩ := ck_s hF; clear hF
  obtain ⟨v28, H29, z27, hF⟩ := bC_s hG; clear hG
  replace hm : Sa H H29 := hm.tr (m_World_write z27)
  exact hm.tr (hm19 l6 (l7 + 1) H29 r hF)
set_option maxRecDepth 20000 in
set_option maxHeartbeats 2000000 in
theorem kB_World_carryMember_67 {N : Nat} {p0 : Nat} {p1 : Nat} {p2 : Nat} {p3 : Int32} {p4 : Nat} {p5 : Int32} {kq19 : Int32 → Int32 → Hp → Option (Unit × Hp)} (hm19 : ∀ (l6 : Int32) (l7 : Int32) (H : Hp) (r : Unit × Hp), kq19 l6 l7 H = some r → Sa H r.2) (hk19 : ∀ (l6 : Int32) (l7 : Int32) (H : Hp) (r : Unit × Hp), kq19 l6 l7 H = some r → ab_V y_World_carryMember { frames := 2, cells := 0, slots := 0, locals := 48 } (po (.returned none) r.2) 0 0 0 0 19 [some (.ref p0), some (.ref p1), some (.ref p2), some (.int p3), some (.ref p4), some (.int p5), some (.int l6), some (.int l7), none] [] (hpw H)) {l6 : Int32} {l7 : Int32} {l8 : Int32} {H : Hp} {r : Unit × Hp} (hF : B_World_carryMember_67 N p0 p1 p2 p3 p4 p5 kq19 l6 l7 l8 H = some r) : ab_V y_World_carryMember { frames := 2, cells := 0, slots := 0, locals := 48 } (po (.returned none) r.2) 0 0 0 0 67 [some (.ref p0), some (.ref p1), some (.ref p2), some (.int p3), some (.ref p4), some (.int p5), some (.int l6), some (.int l7), some (.int l8)] [] (hpw H) := by
  unfold B_World_carryMember_67 at hF
  refine ab_aload_n d_World_carryMember_67 rfl rfl rfl ?_
  refine ab_iload d_World_carryMember_68 rfl ?_
  refine ab_iload d_World_carryMember_70 rfl ?_
  refine ab_iload d_World_carryMember_72 rfl ?_
  obtain ⟨q22, hG⟩ := ck_s hF; clear hF
  obtain ⟨v24, H25, z23, hF⟩ := bC_s hG; clear hG
  refine hp_callV_v (H1 := H25) (As := [.int l7, .int p5, .int l8]) (rest := []) d_World_carryMember_74 (k_World_write z23) (ab_mkC s_World_write (Nat.le_of_ble_eq_true rfl) (Nat.le_of_ble_eq_true rfl) (Nat.le_refl 0) (Nat.le_refl 0)) (k6 147 rfl rfl) i_World_write v_World_write q22 (by decide) rfl rfl (Nat.le_of_ble_eq_true rfl) ?_
  have s_2 : Sa H H25 := (m_World_write z23)
  refine ab_iinc (v := l7 + 1) (lv' := [some (.ref p0), some (.ref p1), some (.ref p2), some (.int p3), some (.ref p4), some (.int p5), some (.int l6), some (.int (l7 + 1)), some (.int l8)]) d_World_carryMember_77 rfl rfl (by decide) rfl ?_
  refine ab_goto (tgt := 19) d_World_carryMember_80 (by decide) ?_
  refine ab_le (lv' := [some (.ref p0), some (.ref p1), some (.ref p2), some (.int p3), some (.ref p4), some (.int p5), some (.int l6), some (.int (l7 + 1)), none]) ⟨rfl, ⟨rfl, ⟨rfl, ⟨rfl, ⟨rfl, ⟨rfl, ⟨rfl, ⟨rfl, trivial⟩⟩⟩⟩⟩⟩⟩⟩ ?_
  exact hk19 l6 (l7 + 1) H25 r hF
def B_World_carryMember_19 (N : Nat) (p0 : Nat) (p1 : Nat) (p2 : Nat) (p3 : Int32) (p4 : Nat) (p5 : Int32) : Nat → Int32 → Int32 → Hp → Option (Unit × Hp)
  | 0, _, _, _ => none
  | n + 1, l6, l7, H =>
    ck (H.sh[p0]? = some (7, 0)) <|
    bnd ((H.D p0 9)) fun x15 =>
    if x15 ≤ l7 then
    some ((), H)
    else
    ck (H.sh[p4]? = some (4, 0)) <|
    bC (F_Program_firstValue N p4 p5 H) fun v19 H20 =>
    if p3 < (0 : Int32) then
    B_World_carryMember_67 N p0 p1 p2 p3 p4 p5 (fun l6 l7 H => B_World_carryMember_19 N p0 p1 p2 p3 p4 p5 n l6 l7 H) l6 l7 v19 H20
    else
    ck (H20.sh[p1]? = some (7, 0)) <|
    bC (F_World_read N p1 l7 p3 H20) fun v32 H33 =>
    ck (H33.sh[p2]? = some (4, 0)) <|
    rf (H33.P p2 2) fun a35 =>
    ck (H33.sh[a35]? = some (3, 0)) <|
    rf (H33.P a35 1) fun a38 =>
    ar H33 106 a38 fun n40 =>
    ck (inb p3 n40) <|
    rf (H33.P a38 (p3).toNatClampNeg) fun a43 =>
    ck (H33.sh[a43]? = some (2, 0)) <|
    bnd ((H33.D a43 3)) fun x46 =>
    bC (F_World_turned N v32 x46 l6 H33) fun v48 H49 =>
    B_World_carryMember_67 N p0 p1 p2 p3 p4 p5 (fun l6 l7 H => B_World_carryMember_19 N p0 p1 p2 p3 p4 p5 n l6 l7 H) l6 l7 v48 H49
termination_by structural n => n
set_option maxRecDepth 20000 in
set_option maxHeartbeats 2000000 in
theorem mB_World_carryMember_19 {N : Nat} {p0 : Nat} {p1 : Nat} {p2 : Nat} {p3 : Int32} {p4 : Nat} {p5 : Int32} : ∀ (n : Nat) (l6 : Int32) (l7 : Int32) (H : Hp) (r : Unit × Hp), B_World_carryMember_19 N p0 p1 p2 p3 p4 p5 n l6 l7 H = some r → Sa H r.2 := by
  intro n
  induction n with
  | zero => intro l6 l7 H r hF; rw [B_World_carryMember_19] at hF; cases hF
  | succ n ih =>
    intro l6 l7 H r hF
    rw [B_World_carryMember_19] at hF
    have hm := Sa.rf H
    obtain ⟨q50, hG⟩ := ck_s hF; clear hF
    obtain ⟨x51, -, hF⟩ := bnd_g hG; clear hG
    rcases ite_s hF with ⟨q_6, hG⟩ | ⟨q_6, hG⟩
    · clear hF
      have hr := Option.some.inj hG; subst hr
      exact hm
    · clear hF
      obtain ⟨q53, hF⟩ := ck_s hG; clear hG
      obtain ⟨v55, H56, z54, hG⟩ := bC_s hF; clear hF
      replace hm : Sa H H56 := hm.tr (m_Program_firstValue z54)
      rcases ite_s hG with ⟨q_8, hF⟩ | ⟨q_8, hF⟩
      · clear hG
        exact hm.tr (mB_World_carryMember_67 ih hF)
      · clear hG
        obtain ⟨q58, hG⟩ := ck_s hF; clear hF
        obtain ⟨v60, H61, z59, hF⟩ := bC_s hG; clear hG
        replace hm : Sa H H61 := hm.tr (m_World_read z59)
        obtain ⟨q62, hG⟩ := ck_s hF; clear hF
        obtain ⟨a63, e64, hF⟩ := rf_s hG; clear hG
        obtain ⟨q65, hG⟩ := ck_s hF; clear hF
        obtain ⟨a66, e67, hF⟩ := rf_s hG; clear hG
        obtain ⟨n68, q69, hG⟩ := ar_s hF; clear hF
        obtain ⟨q70, hF⟩ := ck_s hG; clear hG
        obtain ⟨a71, e72, hG⟩ := rf_s hF; clear hF
        obtain ⟨q73, hF⟩ := ck_s hG; clear hG
        obtain ⟨x74, -, hG⟩ := bnd_g hF; clear hF
        obtain ⟨v76, H77, z75, hF⟩ := bC_s hG; clear hG
        replace hm : Sa H H77 := hm.tr (m_World_turned z75)
        exact hm.tr (mB_World_carryMember_67 ih hF)
set_option maxRecDepth 20000 in
set_option maxHeartbeats 2000000 in
theorem kB_World_carryMember_19 {N : Nat} {p0 : Nat} {p1 : Nat} {p2 : Nat} {p3 : Int32} {p4 : Nat} {p5 : Int32} : ∀ (n : Nat) (l6 : Int32) (l7 : Int32) (H : Hp) (r : Unit × Hp), B_World_carryMember_19 N p0 p1 p2 p3 p4 p5 n l6 l7 H = some r → ab_V y_World_carryMember { frames := 2, cells := 0, slots := 0, locals := 48 } (po (.returned none) r.2) 0 0 0 0 19 [some (.ref p0), some (.ref p1), some (.ref p2), some (.int p3), some (.ref p4), some (.int p5), some (.int l6), some (.int l7), none] [] (hpw H) := by
  intro n
  induction n with
  | zero => intro l6 l7 H r hF; rw [B_World_carryMember_19] at hF; cases hF
  | succ n ih =>
    intro l6 l7 H r hF
    rw [B_World_carryMember_19] at hF
    refine ab_iload d_World_carryMember_19 rfl ?_
    refine ab_aload_n d_World_carryMember_21 rfl rfl rfl ?_
    obtain ⟨q14, hG⟩ := ck_s hF; clear hF
    refine hp_getI (f := 9) d_World_carryMember_22 q14 (by decide) rfl (by decide) (k1 231 rfl rfl) rfl ?_
    refine ab_topi (fun x15 ex15 => ?_)
    replace hG := bnd_s ex15 hG
    refine ab_icmp_ge (tgt := 83) d_World_carryMember_25 (by decide) (fun q16 => ?_) (fun q16 => ?_)
    · rw [if_pos q16] at hG
      exact ab_vret d_World_carryMember_83 rfl (Nat.le_refl _) (Nat.le_refl _) (by have hr := Option.some.inj hG; subst hr; exact ⟨rfl, rfl⟩)
    · rw [if_neg q16] at hG
      refine ab_aload d_World_carryMember_28 rfl rfl ?_
      refine ab_iload d_World_carryMember_30 rfl ?_
      obtain ⟨q17, hF⟩ := ck_s hG; clear hG
      obtain ⟨v19, H20, z18, hG⟩ := bC_s hF; clear hF
      refine hp_callV_a (v := .int v19) (H1 := H20) (As := [.int p5]) (rest := []) d_World_carryMember_32 (k_Program_firstValue z18) (ab_mkC s_Program_firstValue (Nat.le_of_ble_eq_true rfl) (Nat.le_of_ble_eq_true rfl) (Nat.le_refl 0) (Nat.le_refl 0)) (k6 132 rfl rfl) i_Program_firstValue v_Program_firstValue q17 (by decide) rfl rfl (Nat.le_of_ble_eq_true rfl) ?_
      have s_1 : Sa H H20 := (m_Program_firstValue z18)
      refine ab_istore (lv' := [some (.ref p0), some (.ref p1), some (.ref p2), some (.int p3), some (.ref p4), some (.int p5), some (.int l6), some (.int l7), some (.int v19)]) d_World_carryMember_35 (by decide) rfl ?_
      refine ab_iload_n d_World_carryMember_37 rfl rfl ?_
      refine ab_if_lt (tgt := 67) d_World_carryMember_38 (by decide) (fun q21 => ?_) (fun q21 => ?_)
      · rw [if_pos q21] at hG
        exact kB_World_carryMember_67 (mB_World_carryMember_19 n) ih hG
      · rw [if_neg q21] at hG
        refine ab_aload_n d_World_carryMember_41 rfl rfl rfl ?_
        refine ab_iload d_World_carryMember_42 rfl ?_
        refine ab_iload_n d_World_carryMember_44 rfl rfl ?_
        obtain ⟨q30, hF⟩ := ck_s hG; clear hG
        rw [(s_1).1] at q30
        obtain ⟨v32, H33, z31, hG⟩ := bC_s hF; clear hF
        refine hp_callV_a (v := .int v32) (H1 := H33) (As := [.int l7, .int p3]) (rest := []) d_World_carryMember_45 (k_World_read z31) (ab_mkC s_World_read (Nat.le_of_ble_eq_true rfl) (Nat.le_of_ble_eq_true rfl) (Nat.le_refl 0) (Nat.le_refl 0)) (k6 133 rfl rfl) i_World_read v_World_read (by rw [(s_1).1]; exact q30) (by decide) rfl rfl (Nat.le_of_ble_eq_true rfl) ?_
        have s_4 : Sa H H33 := (s_1).tr (m_World_read z31)
        refine ab_aload_n d_World_carryMember_48 rfl rfl rfl ?_
        obtain ⟨q34, hF⟩ := ck_s hG; clear hG
        rw [(s_4).1] at q34
        obtain ⟨a35, e36, hG⟩ := rf_s hF; clear hF
        refine hp_getR (f := 2) d_World_carryMember_49 (by rw [(s_4).1]; exact q34) (by decide) rfl (by decide) (k3 61 rfl rfl) rfl e36 ?_
        obtain ⟨q37, hF⟩ := ck_s hG; clear hG
        rw [(s_4).1] at q37
        obtain ⟨a38, e39, hG⟩ := rf_s hF; clear hF
        refine hp_getR (f := 1) d_World_carryMember_52 (by rw [(s_4).1]; exact q37) (by decide) rfl (by decide) (k3 31 rfl rfl) rfl e39 ?_
        refine ab_iload_n d_World_carryMember_55 rfl rfl ?_
        obtain ⟨n40, q41, hF⟩ := ar_s hG; clear hG
        rw [(s_4).1] at q41
        obtain ⟨q42, hG⟩ := ck_s hF; clear hF
        obtain ⟨a43, e44, hF⟩ := rf_s hG; clear hG
        refine hp_aald (q := 106) d_World_carryMember_56 (by decide) tN (by rw [(s_4).1]; exact q41) q42 e44 ?_
        obtain ⟨q45, hG⟩ := ck_s hF; clear hF
        rw [(s_4).1] at q45
        refine hp_getI (f := 3) d_World_carryMember_57 (by rw [(s_4).1]; exact q45) (by decide) rfl (by decide) (k3 5 rfl rfl) rfl ?_
        refine ab_topi (fun x46 ex46 => ?_)
        replace hG := bnd_s ex46 hG
        refine ab_iload d_World_carryMember_60 rfl ?_
        obtain ⟨v48, H49, z47, hF⟩ := bC_s hG; clear hG
        refine hp_callS_a (v := .int v48) (H1 := H49) (As := [.int v32, .int x46, .int l6]) (rest := []) d_World_carryMember_62 (k_World_turned z47) (ab_mkC s_World_turned (Nat.le_of_ble_eq_true rfl) (Nat.le_of_ble_eq_true rfl) (Nat.le_refl 0) (Nat.le_refl 0)) (k6 137 rfl rfl) t_World_turned rfl (Nat.le_of_ble_eq_true rfl) ?_
        have s_5 : Sa H H49 := (s_4).tr (m_World_turned z47)
        refine ab_istore (lv' := [some (.ref p0), some (.ref p1), some (.ref p2), some (.int p3), some (.ref p4), some (.int p5), some (.int l6), some (.int l7), some (.int v48)]) d_World_carryMember_65 (by decide) rfl ?_
        exact kB_World_carryMember_67 (mB_World_carryMember_19 n) ih hF
def F_World_carryMember (N : Nat) (p0 : Nat) (p1 : Nat) (p2 : Nat) (p3 : Int32) (p4 : Nat) (p5 : Int32) (H : Hp) : Option (Unit × Hp) :=
    ck (H.sh[p4]? = some (4, 0)) <|
    rf (H.P p4 2) fun a2 =>
    ck (H.sh[a2]? = some (3, 0)) <|
    rf (H.P a2 1) fun a5 =>
    ar H 106 a5 fun n7 =>
    ck (inb p5 n7) <|
    rf (H.P a5 (p5).toNatClampNeg) fun a10 =>
    ck (H.sh[a10]? = some (2, 0)) <|
    bnd ((H.D a10 3)) fun x13 =>
    B_World_carryMember_19 N p0 p1 p2 p3 p4 p5 N x13 0 H
set_option maxRecDepth 20000 in
set_option maxHeartbeats 2000000 in
theorem m_World_carryMember {N : Nat} {p0 : Nat} {p1 : Nat} {p2 : Nat} {p3 : Int32} {p4 : Nat} {p5 : Int32} {H : Hp} {r : Unit × Hp} (hF : F_World_carryMember N p0 p1 p2 p3 p4 p5 H = some r) : Sa H r.2 := by
  unfold F_World_carryMember at hF
  have hm := Sa.rf H
  obtain ⟨q78, hG⟩ := ck_s hF; clear hF
  obtain ⟨a79, e80, hF⟩ := rf_s hG; clear hG
  obtain ⟨q81, hG⟩ := ck_s hF; clear hF
  obtain ⟨a82, e83, hF⟩ := rf_s hG; clear hG
  obtain ⟨n84, q85, hG⟩ := ar_s hF; clear hF
  obtain ⟨q86, hF⟩ := ck_s hG; clear hG
  obtain ⟨a87, e88, hG⟩ := rf_s hF; clear hF
  obtain ⟨q89, hF⟩ := ck_s hG; clear hG
  obtain ⟨x90, -, hG⟩ := bnd_g hF; clear hF
  exact hm.tr (mB_World_carryMember_19 N x90 0 H r hG)
set_option maxRecDepth 20000 in
set_option maxHeartbeats 2000000 in
theorem k_World_carryMember {N : Nat} {p0 : Nat} {p1 : Nat} {p2 : Nat} {p3 : Int32} {p4 : Nat} {p5 : Int32} {H : Hp} {r : Unit × Hp} (hF : F_World_carryMember N p0 p1 p2 p3 p4 p5 H = some r) : ab_M y_World_carryMember { frames := 2, cells := 0, slots := 0, locals := 48 } [.ref p0, .ref p1, .ref p2, .int p3, .ref p4, .int p5] (hpw H) (po (.returned none) r.2) := by
  unfold F_World_carryMember at hF
  refine ab_of2 (lv := [some (.ref p0), some (.ref p1), some (.ref p2), some (.int p3), some (.ref p4), some (.int p5), none, none, none]) 3 rfl rfl (Nat.le_of_ble_eq_true rfl) ?_
  refine ab_aload d_World_carryMember_0 rfl rfl ?_
  obtain ⟨q1, hG⟩ := ck_s hF; clear hF
  obtain ⟨a2, e3, hF⟩ := rf_s hG; clear hG
  refine hp_getR (f := 2) d_World_carryMember_2 q1 (by decide) rfl (by decide) (k3 61 rfl rfl) rfl e3 ?_
  obtain ⟨q4, hG⟩ := ck_s hF; clear hF
  obtain ⟨a5, e6, hF⟩ := rf_s hG; clear hG
  refine hp_getR (f := 1) d_World_carryMember_5 q4 (by decide) rfl (by decide) (k3 31 rfl rfl) rfl e6 ?_
  refine ab_iload d_World_carryMember_8 rfl ?_
  obtain ⟨n7, q8, hG⟩ := ar_s hF; clear hF
  obtain ⟨q9, hF⟩ := ck_s hG; clear hG
  obtain ⟨a10, e11, hG⟩ := rf_s hF; clear hF
  refine hp_aald (q := 106) d_World_carryMember_10 (by decide) tN q8 q9 e11 ?_
  obtain ⟨q12, hF⟩ := ck_s hG; clear hG
  refine hp_getI (f := 3) d_World_carryMember_11 q12 (by decide) rfl (by decide) (k3 5 rfl rfl) rfl ?_
  refine ab_topi (fun x13 ex13 => ?_)
  replace hF := bnd_s ex13 hF
  refine ab_istore (lv' := [some (.ref p0), some (.ref p1), some (.ref p2), some (.int p3), some (.ref p4), some (.int p5), some (.int x13), none, none]) d_World_carryMember_14 (by decide) rfl ?_
  refine ab_iconst (v := 0) d_World_carryMember_16 (by decide) ?_
  refine ab_istore (lv' := [some (.ref p0), some (.ref p1), some (.ref p2), some (.int p3), some (.ref p4), some (.int p5), some (.int x13), some (.int 0), none]) d_World_carryMember_17 (by decide) rfl ?_
  exact kB_World_carryMember_19 N x13 0 H r hF
