def y_W_failure : ab_Y := (⟨"WorldEngine", "failure", "(I)I"⟩, prog_1_method_21_code, 3, (some FieldType.int), [])
theorem d_W_failure_0 : decode y_W_failure.2.1 0 = .ok (.aload_n 0, 1) := by decide +kernel
theorem d_W_failure_1 : decode y_W_failure.2.1 1 = .ok (.getfield 28, 3) := by decide +kernel
theorem d_W_failure_4 : decode y_W_failure.2.1 4 = .ok (.getfield 121, 3) := by decide +kernel
theorem d_W_failure_7 : decode y_W_failure.2.1 7 = .ok (.astore_n 2, 1) := by decide +kernel
theorem d_W_failure_8 : decode y_W_failure.2.1 8 = .ok (.aload_n 2, 1) := by decide +kernel
theorem d_W_failure_9 : decode y_W_failure.2.1 9 = .ok (.getfield 234, 3) := by decide +kernel
theorem d_W_failure_12 : decode y_W_failure.2.1 12 = .ok (.ifCond .ne 5, 3) := by decide +kernel
theorem d_W_failure_15 : decode y_W_failure.2.1 15 = .ok (.iconst (-1), 1) := by decide +kernel
theorem d_W_failure_16 : decode y_W_failure.2.1 16 = .ok (.ireturn, 1) := by decide +kernel
theorem d_W_failure_17 : decode y_W_failure.2.1 17 = .ok (.iload_n 1, 1) := by decide +kernel
theorem d_W_failure_18 : decode y_W_failure.2.1 18 = .ok (.tableswitch 41 0 2 #[26, 31, 36], 26) := by decide +kernel
theorem d_W_failure_44 : decode y_W_failure.2.1 44 = .ok (.aload_n 2, 1) := by decide +kernel
theorem d_W_failure_45 : decode y_W_failure.2.1 45 = .ok (.getfield 237, 3) := by decide +kernel
theorem d_W_failure_48 : decode y_W_failure.2.1 48 = .ok (.ireturn, 1) := by decide +kernel
theorem d_W_failure_49 : decode y_W_failure.2.1 49 = .ok (.aload_n 2, 1) := by decide +kernel
theorem d_W_failure_50 : decode y_W_failure.2.1 50 = .ok (.getfield 240, 3) := by decide +kernel
theorem d_W_failure_53 : decode y_W_failure.2.1 53 = .ok (.ireturn, 1) := by decide +kernel
theorem d_W_failure_54 : decode y_W_failure.2.1 54 = .ok (.aload_n 2, 1) := by decide +kernel
theorem d_W_failure_55 : decode y_W_failure.2.1 55 = .ok (.getfield 234, 3) := by decide +kernel
theorem d_W_failure_58 : decode y_W_failure.2.1 58 = .ok (.ireturn, 1) := by decide +kernel
theorem d_W_failure_59 : decode y_W_failure.2.1 59 = .ok (.iconst (-1), 1) := by decide +kernel
theorem d_W_failure_60 : decode y_W_failure.2.1 60 = .ok (.ireturn, 1) := by decide +kernel
theorem s_W_failure : ab_Stat y_W_failure 1 := ⟨(k7 218 rfl rfl), (k1 1 rfl rfl), ⟨by decide, by decide⟩, by decide +kernel⟩
theorem i_W_failure : Cond.instanceMethod y_W_failure.1 ∈ ab_T := (k7 216 rfl rfl)
theorem v_W_failure : Cond.selects "WorldEngine" y_W_failure.1 y_W_failure.1 ∈ ab_T := (k7 217 rfl rfl)
def F_W_failure (N : Nat) (p0 : Nat) (p1 : Int32) (H : Hp) : Option (Int32 × Hp) :=
    ck (H.sh[p0]? = some (0, 0)) <|
    rf (H.P p0 2) fun a2 =>
    ck (H.sh[a2]? = some (10, 0)) <|
    rf (H.P a2 0) fun a5 =>
    ck (H.sh[a5]? = some (7, 0)) <|
    bnd ((H.D a5 6)) fun x8 =>
    if x8 = (0 : Int32) then
    some ((-1), H)
    else
    if p1 = 0 then
    bnd ((H.D a5 4)) fun x11 =>
    some (x11, H)
    else if p1 = 1 then
    bnd ((H.D a5 5)) fun x13 =>
    some (x13, H)
    else if p1 = 2 then
    bnd ((H.D a5 6)) fun x15 =>
    some (x15, H)
    else some ((-1), H)
set_option maxRecDepth 20000 in
set_option maxHeartbeats 2000000 in
theorem m_W_failure {N : Nat} {p0 : Nat} {p1 : Int32} {H : Hp} {r : Int32 × Hp} (hF : F_W_failure N p0 p1 H = some r) : Sa H r.2 := by
  unfold F_W_failure at hF
  have hm := Sa.rf H
  obtain ⟨q16, hG⟩ := ck_s hF; clear hF
  obtain ⟨a17, e18, hF⟩ := rf_s hG; clear hG
  obtain ⟨q19, hG⟩ := ck_s hF; clear hF
  obtain ⟨a20, e21, hF⟩ := rf_s hG; clear hG
  obtain ⟨q22, hG⟩ := ck_s hF; clear hF
  obtain ⟨x23, -, hF⟩ := bnd_g hG; clear hG
  rcases ite_s hF with ⟨q_1, hG⟩ | ⟨q_1, hG⟩
  · clear hF
    have hr := Option.some.inj hG; subst hr
    exact hm
  · clear hF
    rcases ite_s hG with ⟨q_2, hF⟩ | ⟨q_2, hF⟩
    · clear hG
      obtain ⟨x26, -, hG⟩ := bnd_g hF; clear hF
      have hr := Option.some.inj hG; subst hr
      exact hm
    clear hG
    rcases ite_s hF with ⟨q_3, hG⟩ | ⟨q_3, hG⟩
    · clear hF
      obtain ⟨x28, -, hF⟩ := bnd_g hG; clear hG
      have hr := Option.some.inj hF; subst hr
      exact hm
    clear hF
    rcases ite_s hG with ⟨q_4, hF⟩ | ⟨q_4, hF⟩
    · clear hG
      obtain ⟨x30, -, hG⟩ := bnd_g hF; clear hF
      have hr := Option.some.inj hG; subst hr
      exact hm
    clear hG
    have hr := Option.some.inj hF; subst hr
    exact hm
set_option maxRecDepth 20000 in
set_option maxHeartbeats 2000000 in
theorem k_W_failure {N : Nat} {p0 : Nat} {p1 : Int32} {H : Hp} {r : Int32 × Hp} (hF : F_W_failure N p0 p1 H = some r) : ab_M y_W_failure { frames := 0, cells := 0, slots := 0, locals := 0 } [.ref p0, .int p1] (hpw H) (po (.returned (some (.int r.1))) r.2) := by
  unfold F_W_failure at hF
  refine ab_of2 (lv := [some (.ref p0), some (.int p1), none]) 1 rfl rfl (Nat.le_of_ble_eq_true rfl) ?_
  refine ab_aload_n d_W_failure_0 rfl rfl rfl ?_
  obtain ⟨q1, hG⟩ := ck_s hF; clear hF
  obtain ⟨a2, e3, hF⟩ := rf_s hG; clear hG
  refine hp_getR (f := 2) d_W_failure_1 q1 (by decide) rfl (by decide) (k3 159 rfl rfl) rfl e3 ?_
  obtain ⟨q4, hG⟩ := ck_s hF; clear hF
  obtain ⟨a5, e6, hF⟩ := rf_s hG; clear hG
  refine hp_getR (f := 0) d_W_failure_4 q4 (by decide) rfl (by decide) (k2 131 rfl rfl) rfl e6 ?_
  refine ab_astore_n (lv' := [some (.ref p0), some (.int p1), some (.ref a5)]) d_W_failure_7 rfl (by decide) rfl rfl ?_
  refine ab_aload_n d_W_failure_8 rfl rfl rfl ?_
  obtain ⟨q7, hG⟩ := ck_s hF; clear hF
  refine hp_getI (f := 6) d_W_failure_9 q7 (by decide) rfl (by decide) (k1 226 rfl rfl) rfl ?_
  refine ab_topi (fun x8 ex8 => ?_)
  replace hG := bnd_s ex8 hG
  refine ab_if_ne (tgt := 17) d_W_failure_12 (by decide) (fun q9 => ?_) (fun q9 => ?_)
  · rw [if_neg q9] at hG
    refine ab_iload_n d_W_failure_17 rfl rfl ?_
    by_cases t10 : p1 = 0
    · rw [if_pos t10] at hG
      refine ab_tableIn (off := 26) (tgt := 44) d_W_failure_18 (by rw [t10]; decide) (by rw [t10]; decide) (by rw [t10]; decide) (by decide) ?_
      refine ab_aload_n d_W_failure_44 rfl rfl rfl ?_
      refine hp_getI (f := 4) d_W_failure_45 q7 (by decide) rfl (by decide) (k1 221 rfl rfl) rfl ?_
      refine ab_topi (fun x11 ex11 => ?_)
      replace hG := bnd_s ex11 hG
      exact ab_iret d_W_failure_48 rfl (Nat.le_refl _) (Nat.le_refl _) (by have hr := Option.some.inj hG; subst hr; exact ⟨rfl, rfl⟩)
    rw [if_neg t10] at hG
    have ut10 : ¬ (0 : Int) = (p1).toInt := fun z => t10 (Int32.toInt_inj.mp (z.symm.trans (by decide)))
    by_cases t12 : p1 = 1
    · rw [if_pos t12] at hG
      refine ab_tableIn (off := 31) (tgt := 49) d_W_failure_18 (by rw [t12]; decide) (by rw [t12]; decide) (by rw [t12]; decide) (by decide) ?_
      refine ab_aload_n d_W_failure_49 rfl rfl rfl ?_
      refine hp_getI (f := 5) d_W_failure_50 q7 (by decide) rfl (by decide) (k1 223 rfl rfl) rfl ?_
      refine ab_topi (fun x13 ex13 => ?_)
      replace hG := bnd_s ex13 hG
      exact ab_iret d_W_failure_53 rfl (Nat.le_refl _) (Nat.le_refl _) (by have hr := Option.some.inj hG; subst hr; exact ⟨rfl, rfl⟩)
    rw [if_neg t12] at hG
    have ut12 : ¬ (1 : Int) = (p1).toInt := fun z => t12 (Int32.toInt_inj.mp (z.symm.trans (by decide)))
    by_cases t14 : p1 = 2
    · rw [if_pos t14] at hG
      refine ab_tableIn (off := 36) (tgt := 54) d_W_failure_18 (by rw [t14]; decide) (by rw [t14]; decide) (by rw [t14]; decide) (by decide) ?_
      refine ab_aload_n d_W_failure_54 rfl rfl rfl ?_
      refine hp_getI (f := 6) d_W_failure_55 q7 (by decide) rfl (by decide) (k1 226 rfl rfl) rfl ?_
      refine ab_topi (fun x15 ex15 => ?_)
      replace hG := bnd_s ex15 hG
      exact ab_iret d_W_failure_58 rfl (Nat.le_refl _) (Nat.le_refl _) (by have hr := Option.some.inj hG; subst hr; exact ⟨rfl, rfl⟩)
    rw [if_neg t14] at hG
    have ut14 : ¬ (2 : Int) = (p1).toInt := fun z => t14 (Int32.toInt_inj.mp (z.symm.trans (by decide)))
    refine ab_tableOut (tgt := 59) d_W_failure_18 (by omega) (by decide) ?_
    refine ab_iconst (v := (-1)) d_W_failure_59 (by decide) ?_
    exact ab_iret d_W_failure_60 rfl (Nat.le_refl _) (Nat.le_refl _) (by have hr := Option.some.inj hG; subst hr; exact ⟨rfl, rfl⟩)
  · rw [if_pos q9] at hG
    refine ab_iconst (v := (-1)) d_W_failure_15 (by decide) ?_
    exact ab_iret d_W_failure_16 rfl (Nat.le_refl _) (Nat.le_refl _) (by have hr := Option.some.inj hG; subst hr; exact ⟨rfl, rfl⟩)
def y_W_pending : ab_Y := (⟨"WorldEngine", "pending", "(II)I"⟩, prog_1_method_22_code, 5, (some FieldType.int), [])
theorem d_W_pending_0 : decode y_W_pending.2.1 0 = .ok (.aload_n 0, 1) := by decide +kernel
theorem d_W_pending_1 : decode y_W_pending.2.1 1 = .ok (.getfield 28, 3) := by decide +kernel
theorem d_W_pending_4 : decode y_W_pending.2.1 4 = .ok (.getfield 121, 3) := by decide +kernel
theorem d_W_pending_7 : decode y_W_pending.2.1 7 = .ok (.astore_n 3, 1) := by decide +kernel
theorem d_W_pending_8 : decode y_W_pending.2.1 8 = .ok (.iload_n 1, 1) := by decide +kernel
theorem d_W_pending_9 : decode y_W_pending.2.1 9 = .ok (.ifCond .lt 21, 3) := by decide +kernel
theorem d_W_pending_12 : decode y_W_pending.2.1 12 = .ok (.iload_n 1, 1) := by decide +kernel
theorem d_W_pending_13 : decode y_W_pending.2.1 13 = .ok (.aload_n 3, 1) := by decide +kernel
theorem d_W_pending_14 : decode y_W_pending.2.1 14 = .ok (.getfield 243, 3) := by decide +kernel
theorem d_W_pending_17 : decode y_W_pending.2.1 17 = .ok (.if_icmp .ge 13, 3) := by decide +kernel
theorem d_W_pending_20 : decode y_W_pending.2.1 20 = .ok (.iload_n 2, 1) := by decide +kernel
theorem d_W_pending_21 : decode y_W_pending.2.1 21 = .ok (.ifCond .lt 9, 3) := by decide +kernel
theorem d_W_pending_24 : decode y_W_pending.2.1 24 = .ok (.iload_n 2, 1) := by decide +kernel
theorem d_W_pending_25 : decode y_W_pending.2.1 25 = .ok (.bipush 7, 2) := by decide +kernel
theorem d_W_pending_27 : decode y_W_pending.2.1 27 = .ok (.if_icmp .lt 5, 3) := by decide +kernel
theorem d_W_pending_30 : decode y_W_pending.2.1 30 = .ok (.iconst (-1), 1) := by decide +kernel
theorem d_W_pending_31 : decode y_W_pending.2.1 31 = .ok (.ireturn, 1) := by decide +kernel
theorem d_W_pending_32 : decode y_W_pending.2.1 32 = .ok (.aload_n 3, 1) := by decide +kernel
theorem d_W_pending_33 : decode y_W_pending.2.1 33 = .ok (.getfield 246, 3) := by decide +kernel
theorem d_W_pending_36 : decode y_W_pending.2.1 36 = .ok (.iload_n 1, 1) := by decide +kernel
theorem d_W_pending_37 : decode y_W_pending.2.1 37 = .ok (.bipush 7, 2) := by decide +kernel
theorem d_W_pending_39 : decode y_W_pending.2.1 39 = .ok (.imul, 1) := by decide +kernel
theorem d_W_pending_40 : decode y_W_pending.2.1 40 = .ok (.iaload, 1) := by decide +kernel
theorem d_W_pending_41 : decode y_W_pending.2.1 41 = .ok (.istore 4, 2) := by decide +kernel
theorem d_W_pending_43 : decode y_W_pending.2.1 43 = .ok (.iload_n 2, 1) := by decide +kernel
theorem d_W_pending_44 : decode y_W_pending.2.1 44 = .ok (.iconst 3, 1) := by decide +kernel
theorem d_W_pending_45 : decode y_W_pending.2.1 45 = .ok (.if_icmp .lt 23, 3) := by decide +kernel
theorem d_W_pending_48 : decode y_W_pending.2.1 48 = .ok (.iload_n 2, 1) := by decide +kernel
theorem d_W_pending_49 : decode y_W_pending.2.1 49 = .ok (.iconst 3, 1) := by decide +kernel
theorem d_W_pending_50 : decode y_W_pending.2.1 50 = .ok (.isub, 1) := by decide +kernel
theorem d_W_pending_51 : decode y_W_pending.2.1 51 = .ok (.aload_n 0, 1) := by decide +kernel
theorem d_W_pending_52 : decode y_W_pending.2.1 52 = .ok (.getfield 42, 3) := by decide +kernel
theorem d_W_pending_55 : decode y_W_pending.2.1 55 = .ok (.getfield 249, 3) := by decide +kernel
theorem d_W_pending_58 : decode y_W_pending.2.1 58 = .ok (.iload 4, 2) := by decide +kernel
theorem d_W_pending_60 : decode y_W_pending.2.1 60 = .ok (.invokevirtual 207, 3) := by decide +kernel
theorem d_W_pending_63 : decode y_W_pending.2.1 63 = .ok (.if_icmp .lt 5, 3) := by decide +kernel
theorem d_W_pending_66 : decode y_W_pending.2.1 66 = .ok (.iconst (-1), 1) := by decide +kernel
theorem d_W_pending_67 : decode y_W_pending.2.1 67 = .ok (.ireturn, 1) := by decide +kernel
theorem d_W_pending_68 : decode y_W_pending.2.1 68 = .ok (.aload_n 3, 1) := by decide +kernel
theorem d_W_pending_69 : decode y_W_pending.2.1 69 = .ok (.getfield 246, 3) := by decide +kernel
theorem d_W_pending_72 : decode y_W_pending.2.1 72 = .ok (.iload_n 1, 1) := by decide +kernel
theorem d_W_pending_73 : decode y_W_pending.2.1 73 = .ok (.bipush 7, 2) := by decide +kernel
theorem d_W_pending_75 : decode y_W_pending.2.1 75 = .ok (.imul, 1) := by decide +kernel
theorem d_W_pending_76 : decode y_W_pending.2.1 76 = .ok (.iload_n 2, 1) := by decide +kernel
theorem d_W_pending_77 : decode y_W_pending.2.1 77 = .ok (.iadd, 1) := by decide +kernel
theorem d_W_pending_78 : decode y_W_pending.2.1 78 = .ok (.iaload, 1) := by decide +kernel
theorem d_W_pending_79 : decode y_W_pending.2.1 79 = .ok (.ireturn, 1) := by decide +kernel
theorem s_W_pending : ab_Stat y_W_pending 2 := ⟨(k7 222 rfl rfl), (k1 1 rfl rfl), ⟨by decide, by decide⟩, by decide +kernel⟩
theorem i_W_pending : Cond.instanceMethod y_W_pending.1 ∈ ab_T := (k7 220 rfl rfl)
theorem v_W_pending : Cond.selects "WorldEngine" y_W_pending.1 y_W_pending.1 ∈ ab_T := (k7 221 rfl rfl)
def B_W_pending_68 (N : Nat) (p0 : Nat) (p1 : Int32) (p2 : Int32) (l3 : Nat) (H : Hp) : Option (Int32 × Hp) :=
    ck (H.sh[l3]? = some (7, 0)) <|
    rf (H.P l3 12) fun a21 =>
    ar H 100 a21 fun n23 =>
    ck (inb ((p1 * (7 : Int32)) + p2) n23) <|
    bnd ((H.D a21 (((p1 * (7 : Int32)) + p2)).toNatClampNeg)) fun x26 =>
    some (x26, H)
set_option maxRecDepth 20000 in
set_option maxHeartbeats 2000000 in
theorem mB_W_pending_68 {N : Nat} {p0 : Nat} {p1 : Int32} {p2 : Int32} {l3 : Nat} {H : Hp} {r : Int32 × Hp} (hF : B_W_pending_68 N p0 p1 p2 l3 H = some r) : Sa H r.2 := by
  unfold B_W_pending_68 at hF
  have hm := Sa.rf H
  obtain ⟨q27, hG⟩ := ck_s hF; clear hF
  obtain ⟨a28, e29, hF⟩ := rf_s hG; clear hG
  obtain ⟨n30, q31, hG⟩ := ar_s hF; clear hF
  obtain ⟨q32, hF⟩ := ck_s hG; clear hG
  obtain ⟨x33, -, hG⟩ := bnd_g hF; clear hF
  have hr := Option.some.inj hG; subst hr
  exact hm
set_option maxRecDepth 20000 in
set_option maxHeartbeats 2000000 in
theorem kB_W_pending_68 {N : Nat} {p0 : Nat} {p1 : Int32} {p2 : Int32} {l3 : Nat} {H : Hp} {r : Int32 × Hp} (hF : B_W_pending_68 N p0 p1 p2 l3 H = some r) : ab_V y_W_pending { frames := 1, cells := 0, slots := 0, locals := 21 } (po (.returned (some (.int r.1))) r.2) 0 0 0 0 68 [some (.ref p0), some (.int p1), some (.int p2), some (.ref l3), none] [] (hpw H) := by
  unfold B_W_pending_68 at hF
  refine ab_aload_n d_W_pending_68 rfl rfl rfl ?_
  obtain ⟨q20, hG⟩ := ck_s hF; clear hF
  obtain ⟨a21, e22, hF⟩ := rf_s hG; clear hG
  refine hp_getR (f := 12) d_W_pending_69 q20 (by decide) rfl (by decide) (k2 2 rfl rfl) rfl e22 ?_
  refine ab_iload_n d_W_pending_72 rfl rfl ?_
  refine ab_bipush (v := 7) d_W_pending_73 (by decide) ?_
  refine ab_imul d_W_pending_75 ?_
  refine ab_iload_n d_W_pending_76 rfl rfl ?_
  refine ab_iadd d_W_pending_77 ?_
  obtain ⟨n23, q24, hG⟩ := ar_s hF; clear hF
  obtain ⟨q25, hF⟩ := ck_s hG; clear hG
  refine hp_iald d_W_pending_78 tI q24 q25 ?_
  refine ab_topi (fun x26 ex26 => ?_)
  replace hF := bnd_s ex26 hF
  exact ab_iret d_W_pending_79 rfl (Nat.le_refl _) (Nat.le_refl _) (by have hr := Option.some.inj hF; subst hr; exact ⟨rfl, rfl⟩)
def F_W_pending (N : Nat) (p0 : Nat) (p1 : Int32) (p2 : Int32) (H : Hp) : Option (Int32 × Hp) :=
    ck (H.sh[p0]? = some (0, 0)) <|
    rf (H.P p0 2) fun a2 =>
    ck (H.sh[a2]? = some (10, 0)) <|
    rf (H.P a2 0) fun a5 =>
    if p1 < (0 : Int32) then
    some ((-1), H)
    else
    ck (H.sh[a5]? = some (7, 0)) <|
    bnd ((H.D a5 13)) fun x9 =>
    if x9 ≤ p1 then
    some ((-1), H)
    else
    if p2 < (0 : Int32) then
    some ((-1), H)
    else
    if p2 < (7 : Int32) then
    rf (H.P a5 12) fun a13 =>
    ar H 100 a13 fun n15 =>
    ck (inb (p1 * (7 : Int32)) n15) <|
    bnd ((H.D a13 ((p1 * (7 : Int32))).toNatClampNeg)) fun x18 =>
    if p2 < (3 : Int32) then
    B_W_pending_68 N p0 p1 p2 a5 H
    else
    rf (H.P p0 4) fun a34 =>
    ck (H.sh[a34]? = some (4, 0)) <|
    rf (H.P a34 3) fun a37 =>
    ck (H.sh[a37]? = some (3, 0)) <|
    bC (F_Shapes_sizeOf N a37 x18 H) fun v41 H42 =>
    if (p2 - (3 : Int32)) < v41 then
    B_W_pending_68 N p0 p1 p2 a5 H42
    else
    some ((-1), H42)
    else
    some ((-1), H)
set_option maxRecDepth 20000 in
set_option maxHeartbeats 2000000 in
theorem m_W_pending {N : Nat} {p0 : Nat} {p1 : Int32} {p2 : Int32} {H : Hp} {r : Int32 × Hp} (hF : F_W_pending N p0 p1 p2 H = some r) : Sa H r.2 := by
  unfold F_W_pending at hF
  have hm := Sa.rf H
  obtain ⟨q44, hG⟩ := ck_s hF; clear hF
  obtain ⟨a45, e46, hF⟩ := rf_s hG; clear hG
  obtain ⟨q47, hG⟩ := ck_s hF; clear hF
  obtain ⟨a48, e49, hF⟩ := rf_s hG; clear hG
  rcases ite_s hF with ⟨q_2, hG⟩ | ⟨q_2, hG⟩
  · clear hF
    have hr := Option.some.inj hG; subst hr
    exact hm
  · clear hF
    obtain ⟨q51, hF⟩ := ck_s hG; clear hG
    obtain ⟨x52, -, hG⟩ := bnd_g hF; clear hF
    rcases ite_s hG with ⟨q_3, hF⟩ | ⟨q_3, hF⟩
    · clear hG
      have hr := Option.some.inj hF; subst hr
      exact hm
    · clear hG
      rcases ite_s hF with ⟨q_4, hG⟩ | ⟨q_4, hG⟩
      · clear hF
        have hr := Option.some.inj hG; subst hr
        exact hm
      · clear hF
        rcases ite_s hG with ⟨q_5, hF⟩ | ⟨q_5, hF⟩
        · clear hG
          obtain ⟨a56, e57, hG⟩ := rf_s hF; clear hF
          obtain ⟨n58, q59, hF⟩ := ar_s hG; clear hG
          obtain ⟨q60, hG⟩ := ck_s hF; clear hF
          obtain ⟨x61, -, hF⟩ := bnd_g hG; clear hG
          rcases ite_s hF with ⟨q_6, hG⟩ | ⟨q_6, hG⟩
          · clear hF
            exact hm.tr (mB_W_pending_68 hG)
          · clear hF
            obtain ⟨a63, e64, hF⟩ := rf_s hG; clear hG
            obtain ⟨q65, hG⟩ := ck_s hF; clear hF
            obtain ⟨a66, e67, hF⟩ := rf_s hG; clear hG
            obtain ⟨q68, hG⟩ := ck_s hF; clear hF
            obtain ⟨v70, H71, z69, hF⟩ := bC_s hG; clear hG
            replace hm : Sa H H71 := hm.tr (m_Shapes_sizeOf z69)
            rcases ite_s hF with ⟨q_8, hG⟩ | ⟨q_8, hG⟩
            · clear hF
              exact hm.tr (mB_W_pending_68 hG)
            · clear hF
              have hr := Option.some.inj hG; subst hr
              exact hm
        · clear hG
          have hr := Option.some.inj hF; subst hr
          exact hm
set_option maxRecDepth 20000 in
set_option maxHeartbeats 2000000 in
theorem k_W_pending {N : Nat} {p0 : Nat} {p1 : Int32} {p2 : Int32} {H : Hp} {r : Int32 × Hp} (hF : F_W_pending N p0 p1 p2 H = some r) : ab_M y_W_pending { frames := 1, cells := 0, slots := 0, locals := 21 } [.ref p0, .int p1, .int p2] (hpw H) (po (.returned (some (.int r.1))) r.2) := by
  unfold F_W_pending at hF
  refine ab_of2 (lv := [some (.ref p0), some (.int p1), some (.int p2), none, none]) 2 rfl rfl (Nat.le_of_ble_eq_true rfl) ?_
  refine ab_aload_n d_W_pending_0 rfl rfl rfl ?_
  obtain ⟨q1, hG⟩ := ck_s hF; clear hF
  obtain ⟨a2, e3, hF⟩ := rf_s hG; clear hG
  refine hp_getR (f := 2) d_W_pending_1 q1 (by decide) rfl (by decide) (k3 159 rfl rfl) rfl e3 ?_
  obtain ⟨q4, hG⟩ := ck_s hF; clear hF
  obtain ⟨a5, e6, hF⟩ := rf_s hG; clear hG
  refine hp_getR (f := 0) d_W_pending_4 q4 (by decide) rfl (by decide) (k2 131 rfl rfl) rfl e6 ?_
  refine ab_astore_n (lv' := [some (.ref p0), some (.int p1), some (.int p2), some (.ref a5), none]) d_W_pending_7 rfl (by decide) rfl rfl ?_
  refine ab_iload_n d_W_pending_8 rfl rfl ?_
  refine ab_if_lt (tgt := 30) d_W_pending_9 (by decide) (fun q7 => ?_) (fun q7 => ?_)
  · rw [if_pos q7] at hF
    refine ab_iconst (v := (-1)) d_W_pending_30 (by decide) ?_
    exact ab_iret d_W_pending_31 rfl (Nat.le_refl _) (Nat.le_refl _) (by have hr := Option.some.inj hF; subst hr; exact ⟨rfl, rfl⟩)
  · rw [if_neg q7] at hF
    refine ab_iload_n d_W_pending_12 rfl rfl ?_
    refine ab_aload_n d_W_pending_13 rfl rfl rfl ?_
    obtain ⟨q8, hG⟩ := ck_s hF; clear hF
    refine hp_getI (f := 13) d_W_pending_14 q8 (by decide) rfl (by decide) (k2 7 rfl rfl) rfl ?_
    refine ab_topi (fun x9 ex9 => ?_)
    replace hG := bnd_s ex9 hG
    refine ab_icmp_ge (tgt := 30) d_W_pending_17 (by decide) (fun q10 => ?_) (fun q10 => ?_)
    · rw [if_pos q10] at hG
      refine ab_iconst (v := (-1)) d_W_pending_30 (by decide) ?_
      exact ab_iret d_W_pending_31 rfl (Nat.le_refl _) (Nat.le_refl _) (by have hr := Option.some.inj hG; subst hr; exact ⟨rfl, rfl⟩)
    · rw [if_neg q10] at hG
      refine ab_iload_n d_W_pending_20 rfl rfl ?_
      refine ab_if_lt (tgt := 30) d_W_pending_21 (by decide) (fun q11 => ?_) (fun q11 => ?_)
      · rw [if_pos q11] at hG
        refine ab_iconst (v := (-1)) d_W_pending_30 (by decide) ?_
        exact ab_iret d_W_pending_31 rfl (Nat.le_refl _) (Nat.le_refl _) (by have hr := Option.some.inj hG; subst hr; exact ⟨rfl, rfl⟩)
      · rw [if_neg q11] at hG
        refine ab_iload_n d_W_pending_24 rfl rfl ?_
        refine ab_bipush (v := 7) d_W_pending_25 (by decide) ?_
        refine ab_icmp_lt (tgt := 32) d_W_pending_27 (by decide) (fun q12 => ?_) (fun q12 => ?_)
        · rw [if_pos q12] at hG
          refine ab_aload_n d_W_pending_32 rfl rfl rfl ?_
          obtain ⟨a13, e14, hF⟩ := rf_s hG; clear hG
          refine hp_getR (f := 12) d_W_pending_33 q8 (by decide) rfl (by decide) (k2 2 rfl rfl) rfl e14 ?_
          refine ab_iload_n d_W_pending_36 rfl rfl ?_
          refine ab_bipush (v := 7) d_W_pending_37 (by decide) ?_
          refine ab_imul d_W_pending_39 ?_
          obtain ⟨n15, q16, hG⟩ := ar_s hF; clear hF
          obtain ⟨q17, hF⟩ := ck_s hG; clear hG
          refine hp_iald d_W_pending_40 tI q16 q17 ?_
          refine ab_topi (fun x18 ex18 => ?_)
          replace hF := bnd_s ex18 hF
          refine ab_istore (lv' := [some (.ref p0), some (.int p1), some (.int p2), some (.ref a5), some (.int x18)]) d_W_pending_41 (by decide) rfl ?_
          refine ab_iload_n d_W_pending_43 rfl rfl ?_
          refine ab_iconst (v := 3) d_W_pending_44 (by decide) ?_
          refine ab_icmp_lt (tgt := 68) d_W_pending_45 (by decide) (fun q19 => ?_) (fun q19 => ?_)
          · rw [if_pos q19] at hF
            refine ab_le (lv' := [some (.ref p0), some (.int p1), some (.int p2), some (.ref a5), none]) ⟨rfl, ⟨rfl, ⟨rfl, ⟨rfl, trivial⟩⟩⟩⟩ ?_
            exact kB_W_pending_68 hF
          · rw [if_neg q19] at hF
            refine ab_iload_n d_W_pending_48 rfl rfl ?_
            refine ab_iconst (v := 3) d_W_pending_49 (by decide) ?_
            refine ab_isub d_W_pending_50 ?_
            refine ab_aload_n d_W_pending_51 rfl rfl rfl ?_
            obtain ⟨a34, e35, hG⟩ := rf_s hF; clear hF
            refine hp_getR (f := 4) d_W_pending_52 q1 (by decide) rfl (by decide) (k3 161 rfl rfl) rfl e35 ?_
            obtain ⟨q36, hF⟩ := ck_s hG; clear hG
            obtain ⟨a37, e38, hG⟩ := rf_s hF; clear hF
            refine hp_getR (f := 3) d_W_pending_55 q36 (by decide) rfl (by decide) (k3 67 rfl rfl) rfl e38 ?_
            refine ab_iload d_W_pending_58 rfl ?_
            obtain ⟨q39, hF⟩ := ck_s hG; clear hG
            obtain ⟨v41, H42, z40, hG⟩ := bC_s hF; clear hF
            refine hp_callV_a (v := .int v41) (H1 := H42) (As := [.int x18]) (rest := [.int (p2 - (3 : Int32))]) d_W_pending_60 (k_Shapes_sizeOf z40) (ab_mkC s_Shapes_sizeOf (Nat.le_of_ble_eq_true rfl) (Nat.le_of_ble_eq_true rfl) (Nat.le_refl 0) (Nat.le_refl 0)) (k7 194 rfl rfl) i_Shapes_sizeOf v_Shapes_sizeOf q39 (by decide) rfl rfl (Nat.le_of_ble_eq_true rfl) ?_
            have s_1 : Sa H H42 := (m_Shapes_sizeOf z40)
            refine ab_icmp_lt (tgt := 68) d_W_pending_63 (by decide) (fun q43 => ?_) (fun q43 => ?_)
            · rw [if_pos q43] at hG
              refine ab_le (lv' := [some (.ref p0), some (.int p1), some (.int p2), some (.ref a5), none]) ⟨rfl, ⟨rfl, ⟨rfl, ⟨rfl, trivial⟩⟩⟩⟩ ?_
              exact kB_W_pending_68 hG
            · rw [if_neg q43] at hG
              refine ab_iconst (v := (-1)) d_W_pending_66 (by decide) ?_
              exact ab_iret d_W_pending_67 rfl (Nat.le_refl _) (Nat.le_refl _) (by have hr := Option.some.inj hG; subst hr; exact ⟨rfl, rfl⟩)
        · rw [if_neg q12] at hG
          refine ab_iconst (v := (-1)) d_W_pending_30 (by decide) ?_
          exact ab_iret d_W_pending_31 rfl (Nat.le_refl _) (Nat.le_refl _) (by have hr := Option.some.inj hG; subst hr; exact ⟨rfl, rfl⟩)
def y_World_entityCount : ab_Y := (⟨"WorldEngine$World", "entityCount", "()I"⟩, prog_12_method_9_code, 3, (some FieldType.int), [])
theorem d_World_entityCount_0 : decode y_World_entityCount.2.1 0 = .ok (.iconst 0, 1) := by decide +kernel
theorem d_World_entityCount_1 : decode y_World_entityCount.2.1 1 = .ok (.istore_n 1, 1) := by decide +kernel
theorem d_World_entityCount_2 : decode y_World_entityCount.2.1 2 = .ok (.iconst 0, 1) := by decide +kernel
theorem d_World_entityCount_3 : decode y_World_entityCount.2.1 3 = .ok (.istore_n 2, 1) := by decide +kernel
theorem d_World_entityCount_4 : decode y_World_entityCount.2.1 4 = .ok (.iload_n 2, 1) := by decide +kernel
theorem d_World_entityCount_5 : decode y_World_entityCount.2.1 5 = .ok (.aload_n 0, 1) := by decide +kernel
theorem d_World_entityCount_6 : decode y_World_entityCount.2.1 6 = .ok (.getfield 49, 3) := by decide +kernel
theorem d_World_entityCount_9 : decode y_World_entityCount.2.1 9 = .ok (.if_icmp .ge 21, 3) := by decide +kernel
theorem d_World_entityCount_12 : decode y_World_entityCount.2.1 12 = .ok (.aload_n 0, 1) := by decide +kernel
theorem d_World_entityCount_13 : decode y_World_entityCount.2.1 13 = .ok (.getfield 13, 3) := by decide +kernel
theorem d_World_entityCount_16 : decode y_World_entityCount.2.1 16 = .ok (.iload_n 2, 1) := by decide +kernel
theorem d_World_entityCount_17 : decode y_World_entityCount.2.1 17 = .ok (.iaload, 1) := by decide +kernel
theorem d_World_entityCount_18 : decode y_World_entityCount.2.1 18 = .ok (.ifCond .lt 6, 3) := by decide +kernel
theorem d_World_entityCount_21 : decode y_World_entityCount.2.1 21 = .ok (.iinc 1 1, 3) := by decide +kernel
theorem d_World_entityCount_24 : decode y_World_entityCount.2.1 24 = .ok (.iinc 2 1, 3) := by decide +kernel
theorem d_World_entityCount_27 : decode y_World_entityCount.2.1 27 = .ok (.goto (-23), 3) := by decide +kernel
theorem d_World_entityCount_30 : decode y_World_entityCount.2.1 30 = .ok (.iload_n 1, 1) := by decide +kernel
theorem d_World_entityCount_31 : decode y_World_entityCount.2.1 31 = .ok (.ireturn, 1) := by decide +kernel
theorem s_World_entityCount : ab_Stat y_World_entityCount 0 := ⟨(k7 230 rfl rfl), (k1 10 rfl rfl), ⟨by decide, by decide⟩, by decide +kernel⟩
theorem i_World_entityCount : Cond.instanceMethod y_World_entityCount.1 ∈ ab_T := (k7 228 rfl rfl)
theorem v_World_entityCount : Cond.selects "WorldEngine$World" y_World_entityCount.1 y_World_entityCount.1 ∈ ab_T := (k7 229 rfl rfl)
def B_World_entityCount_24 (N : Nat) (p0 : Nat) (kq4 : Int32 → Int32 → Hp → Option (Int32 × Hp)) (l1 : Int32) (l2 : Int32) (H : Hp) : Option (Int32 × Hp) :=
    kq4 l1 (l2 + 1) H
set_option maxRecDepth 20000 in
set_option maxHeartbeats 2000000 in
theorem mB_World_entityCount_24 {N : Nat} {p0 : Nat} {kq4 : Int32 → Int32 → Hp → Option (Int32 × Hp)} (hm4 : ∀ (l1 : Int32) (l2 : Int32) (H : Hp) (r : Int32 × Hp), kq4 l1 l2 H = some r → Sa H r.2) {l1 : Int32} {l2 : Int32} {H : Hp} {r : Int32 × Hp} (hF : B_World_entityCount_24 N p0 kq4 l1 l2 H = some r) : Sa H r.2 := by
  unfold B_World_entityCount_24 at hF
  have hm := Sa.rf H
  exact hm.tr (hm4 l1 (l2 + 1) H r hF)
set_option maxRecDepth 20000 in
set_option maxHeartbeats 2000000 in
theorem kB_World_entityCount_24 {N : Nat} {p0 : Nat} {kq4 : Int32 → Int32 → Hp → Option (Int32 × Hp)} (hm4 : ∀ (l1 : Int32) (l2 : Int32) (H : Hp) (r : Int32 × Hp), kq4 l1 l2 H = some r → Sa H r.2) (hk4 : ∀ (l1 : Int32) (l2 : Int32) (H : Hp) (r : Int32 × Hp), kq4 l1 l2 H = some r → ab_V y_World_entityCount { frames := 0, cells := 0, slots := 0, locals := 0 } (po (.returned (some (.int r.1))) r.2) 0 0 0 0 4 [some (.ref p0), some (.int l1), some (.int l2)] [] (hpw H)) {l1 : Int32} {l2 : Int32} {H : Hp} {r : Int32 × Hp} (hF : B_World_entityCount_24 N p0 kq4 l1 l2 H = some r) : ab_V y_World_entityCount { frames := 0, cells := 0, slots := 0, locals := 0 } (po (.returned (some (.int r.1))) r.2) 0 0 0 0 24 [some (.ref p0), some (.int l1), some (.int l2)] [] (hpw H) := by
  unfold B_World_entityCount_24 at hF
  refine ab_iinc (v := l2 + 1) (lv' := [some (.ref p0), some (.int l1), some (.int (l2 + 1))]) d_World_entityCount_24 rfl rfl (by decide) rfl ?_
  refine ab_goto (tgt := 4) d_World_entityCount_27 (by decide) ?_
  exact hk4 l1 (l2 + 1) H r hF
def B_World_entityCount_4 (N : Nat) (p0 : Nat) : Nat → Int32 → Int32 → Hp → Option (Int32 × Hp)
  | 0, _, _, _ => none
  | n + 1, l1, l2, H =>
    ck (H.sh[p0]? = some (7, 0)) <|
    bnd ((H.D p0 9)) fun x2 =>
    if x2 ≤ l2 then
    some (l1, H)
    else
    rf (H.P p0 8) fun a4 =>
    ar H 100 a4 fun n6 =>
    ck (inb l2 n6) <|
    bnd ((H.D a4 (l2).toNatClampNeg)) fun x9 =>
    if x9 < (0 : Int32) then
    B_World_entityCount_24 N p0 (fun l1 l2 H => B_World_entityCount_4 N p0 n l1 l2 H) l1 l2 H
    else
    B_World_entityCount_24 N p0 (fun l1 l2 H => B_World_entityCount_4 N p0 n l1 l2 H) (l1 + 1) l2 H
termination_by structural n => n
set_option maxRecDepth 20000 in
set_option maxHeartbeats 2000000 in
theorem mB_World_entityCount_4 {N : Nat} {p0 : Nat} : ∀ (n : Nat) (l1 : Int32) (l2 : Int32) (H : Hp) (r : Int32 × Hp), B_World_entityCount_4 N p0 n l1 l2 H = some r → Sa H r.2 := by
  intro n
  induction n with
  | zero => intro l1 l2 H r hF; rw [B_World_entityCount_4] at hF; cases hF
  | succ n ih =>
    intro l1 l2 H r hF
    rw [B_World_entityCount_4] at hF
    have hm := Sa.rf H
    obtain ⟨q11, hG⟩ := ck_s hF; clear hF
    obtain ⟨x12, -, hF⟩ := bnd_g hG; clear hG
    rcases ite_s hF with ⟨q_1, hG⟩ | ⟨q_1, hG⟩
    · clear hF
      have hr := Option.some.inj hG; subst hr
      exact hm
    · clear hF
      obtain ⟨a14, e15, hF⟩ := rf_s hG; clear hG
      obtain ⟨n16, q17, hG⟩ := ar_s hF; clear hF
      obtain ⟨q18, hF⟩ := ck_s hG; clear hG
      obtain ⟨x19, -, hG⟩ := bnd_g hF; clear hF
      rcases ite_s hG with ⟨q_2, hF⟩ | ⟨q_2, hF⟩
      · clear hG
        exact hm.tr (mB_World_entityCount_24 ih hF)
      · clear hG
        exact hm.tr (mB_World_entityCount_24 ih hF)
set_option maxRecDepth 20000 in
set_option maxHeartbeats 2000000 in
theorem kB_World_entityCount_4 {N : Nat} {p0 : Nat} : ∀ (n : Nat) (l1 : Int32) (l2 : Int32) (H : Hp) (r : Int32 × Hp), B_World_entityCount_4 N p0 n l1 l2 H = some r → ab_V y_World_entityCount { frames := 0, cells := 0, slots := 0, locals := 0 } (po (.returned (some (.int r.1))) r.2) 0 0 0 0 4 [some (.ref p0), some (.int l1), some (.int l2)] [] (hpw H) := by
  intro n
  induction n with
  | zero => intro l1 l2 H r hF; rw [B_World_entityCount_4] at hF; cases hF
  | succ n ih =>
    intro l1 l2 H r hF
    rw [B_World_entityCount_4] at hF
    refine ab_iload_n d_World_entityCount_4 rfl rfl ?_
    refine ab_aload_n d_World_entityCount_5 rfl rfl rfl ?_
    obtain ⟨q1, hG⟩ := ck_s hF; clear hF
    refine hp_getI (f := 9) d_World_entityCount_6 q1 (by decide) rfl (by decide) (k1 231 rfl rfl) rfl ?_
    refine ab_topi (fun x2 ex2 => ?_)
    replace hG := bnd_s ex2 hG
    refine ab_icmp_ge (tgt := 30) d_World_entityCount_9 (by decide) (fun q3 => ?_) (fun q3 => ?_)
    · rw [if_pos q3] at hG
      refine ab_iload_n d_World_entityCount_30 rfl rfl ?_
      exact ab_iret d_World_entityCount_31 rfl (Nat.le_refl _) (Nat.le_refl _) (by have hr := Option.some.inj hG; subst hr; exact ⟨rfl, rfl⟩)
    · rw [if_neg q3] at hG
      refine ab_aload_n d_World_entityCount_12 rfl rfl rfl ?_
      obtain ⟨a4, e5, hF⟩ := rf_s hG; clear hG
      refine hp_getR (f := 8) d_World_entityCount_13 q1 (by decide) rfl (by decide) (k1 229 rfl rfl) rfl e5 ?_
      refine ab_iload_n d_World_entityCount_16 rfl rfl ?_
      obtain ⟨n6, q7, hG⟩ := ar_s hF; clear hF
      obtain ⟨q8, hF⟩ := ck_s hG; clear hG
      refine hp_iald d_World_entityCount_17 tI q7 q8 ?_
      refine ab_topi (fun x9 ex9 => ?_)
      replace hF := bnd_s ex9 hF
      refine ab_if_lt (tgt := 24) d_World_entityCount_18 (by decide) (fun q10 => ?_) (fun q10 => ?_)
      · rw [if_pos q10] at hF
        exact kB_World_entityCount_24 (mB_World_entityCount_4 n) ih hF
      · rw [if_neg q10] at hF
        refine ab_iinc (v := l1 + 1) (lv' := [some (.ref p0), some (.int (l1 + 1)), some (.int l2)]) d_World_entityCount_21 rfl rfl (by decide) rfl ?_
        exact kB_World_entityCount_24 (mB_World_entityCount_4 n) ih hF
def F_World_entityCount (N : Nat) (p0 : Nat) (H : Hp) : Option (Int32 × Hp) :=
    B_World_entityCount_4 N p0 N 0 0 H
set_option maxRecDepth 20000 in
set_option maxHeartbeats 2000000 in
theorem m_World_entityCount {N : Nat} {p0 : Nat} {H : Hp} {r : Int32 × Hp} (hF : F_World_entityCount N p0 H = some r) : Sa H r.2 := by
  unfold F_World_entityCount at hF
  have hm := Sa.rf H
  exact hm.tr (mB_World_entityCount_4 N 0 0 H r hF)
set_option maxRecDepth 20000 in
set_option maxHeartbeats 2000000 in
theorem k_World_entityCount {N : Nat} {p0 : Nat} {H : Hp} {r : Int32 × Hp} (hF : F_World_entityCount N p0 H = some r) : ab_M y_World_entityCount { frames := 0, cells := 0, slots := 0, locals := 0 } [.ref p0] (hpw H) (po (.returned (some (.int r.1))) r.2) := by
  unfold F_World_entityCount at hF
  refine ab_of2 (lv := [some (.ref p0), none, none]) 2 rfl rfl (Nat.le_of_ble_eq_true rfl) ?_
  refine ab_iconst (v := 0) d_World_entityCount_0 (by decide) ?_
  refine ab_istore_n (lv' := [some (.ref p0), some (.int 0), none]) d_World_entityCount_1 rfl (by decide) rfl ?_
  refine ab_iconst (v := 0) d_World_entityCount_2 (by decide) ?_
  refine ab_istore_n (lv' := [some (.ref p0), some (.int 0), some (.int 0)]) d_World_entityCount_3 rfl (by decide) rfl ?_
  exact kB_World_entityCount_4 N 0 0 H r hF
def y_W_look : ab_Y := (⟨"WorldEngine", "look", "(I)I"⟩, prog_1_method_23_code, 2, (some FieldType.int), [])
theorem d_W_look_0 : decode y_W_look.2.1 0 = .ok (.iload_n 1, 1) := by decide +kernel
theorem d_W_look_1 : decode y_W_look.2.1 1 = .ok (.tableswitch 213 0 14 #[75, 83, 94, 105, 113, 124, 135, 146, 157, 165, 173, 181, 189, 197, 205], 75) := by decide +kernel
theorem d_W_look_76 : decode y_W_look.2.1 76 = .ok (.aload_n 0, 1) := by decide +kernel
theorem d_W_look_77 : decode y_W_look.2.1 77 = .ok (.getfield 42, 3) := by decide +kernel
theorem d_W_look_80 : decode y_W_look.2.1 80 = .ok (.getfield 104, 3) := by decide +kernel
theorem d_W_look_83 : decode y_W_look.2.1 83 = .ok (.ireturn, 1) := by decide +kernel
theorem d_W_look_84 : decode y_W_look.2.1 84 = .ok (.aload_n 0, 1) := by decide +kernel
theorem d_W_look_85 : decode y_W_look.2.1 85 = .ok (.getfield 42, 3) := by decide +kernel
theorem d_W_look_88 : decode y_W_look.2.1 88 = .ok (.getfield 90, 3) := by decide +kernel
theorem d_W_look_91 : decode y_W_look.2.1 91 = .ok (.getfield 163, 3) := by decide +kernel
theorem d_W_look_94 : decode y_W_look.2.1 94 = .ok (.ireturn, 1) := by decide +kernel
theorem d_W_look_95 : decode y_W_look.2.1 95 = .ok (.aload_n 0, 1) := by decide +kernel
theorem d_W_look_96 : decode y_W_look.2.1 96 = .ok (.getfield 28, 3) := by decide +kernel
theorem d_W_look_99 : decode y_W_look.2.1 99 = .ok (.getfield 121, 3) := by decide +kernel
theorem d_W_look_102 : decode y_W_look.2.1 102 = .ok (.getfield 125, 3) := by decide +kernel
theorem d_W_look_105 : decode y_W_look.2.1 105 = .ok (.ireturn, 1) := by decide +kernel
theorem d_W_look_106 : decode y_W_look.2.1 106 = .ok (.aload_n 0, 1) := by decide +kernel
theorem d_W_look_107 : decode y_W_look.2.1 107 = .ok (.getfield 28, 3) := by decide +kernel
theorem d_W_look_110 : decode y_W_look.2.1 110 = .ok (.getfield 252, 3) := by decide +kernel
theorem d_W_look_113 : decode y_W_look.2.1 113 = .ok (.ireturn, 1) := by decide +kernel
theorem d_W_look_114 : decode y_W_look.2.1 114 = .ok (.aload_n 0, 1) := by decide +kernel
theorem d_W_look_115 : decode y_W_look.2.1 115 = .ok (.getfield 28, 3) := by decide +kernel
theorem d_W_look_118 : decode y_W_look.2.1 118 = .ok (.getfield 121, 3) := by decide +kernel
theorem d_W_look_121 : decode y_W_look.2.1 121 = .ok (.invokevirtual 255, 3) := by decide +kernel
theorem d_W_look_124 : decode y_W_look.2.1 124 = .ok (.ireturn, 1) := by decide +kernel
theorem d_W_look_125 : decode y_W_look.2.1 125 = .ok (.aload_n 0, 1) := by decide +kernel
theorem d_W_look_126 : decode y_W_look.2.1 126 = .ok (.getfield 28, 3) := by decide +kernel
theorem d_W_look_129 : decode y_W_look.2.1 129 = .ok (.getfield 121, 3) := by decide +kernel
theorem d_W_look_132 : decode y_W_look.2.1 132 = .ok (.getfield 243, 3) := by decide +kernel
theorem d_W_look_135 : decode y_W_look.2.1 135 = .ok (.ireturn, 1) := by decide +kernel
theorem d_W_look_136 : decode y_W_look.2.1 136 = .ok (.aload_n 0, 1) := by decide +kernel
theorem d_W_look_137 : decode y_W_look.2.1 137 = .ok (.getfield 28, 3) := by decide +kernel
theorem d_W_look_140 : decode y_W_look.2.1 140 = .ok (.getfield 121, 3) := by decide +kernel
theorem d_W_look_143 : decode y_W_look.2.1 143 = .ok (.getfield 258, 3) := by decide +kernel
theorem d_W_look_146 : decode y_W_look.2.1 146 = .ok (.ireturn, 1) := by decide +kernel
theorem d_W_look_147 : decode y_W_look.2.1 147 = .ok (.aload_n 0, 1) := by decide +kernel
theorem d_W_look_148 : decode y_W_look.2.1 148 = .ok (.getfield 28, 3) := by decide +kernel
theorem d_W_look_151 : decode y_W_look.2.1 151 = .ok (.getfield 121, 3) := by decide +kernel
theorem d_W_look_154 : decode y_W_look.2.1 154 = .ok (.getfield 261, 3) := by decide +kernel
theorem d_W_look_157 : decode y_W_look.2.1 157 = .ok (.ireturn, 1) := by decide +kernel
theorem d_W_look_158 : decode y_W_look.2.1 158 = .ok (.aload_n 0, 1) := by decide +kernel
theorem d_W_look_159 : decode y_W_look.2.1 159 = .ok (.getfield 28, 3) := by decide +kernel
theorem d_W_look_162 : decode y_W_look.2.1 162 = .ok (.getfield 226, 3) := by decide +kernel
theorem d_W_look_165 : decode y_W_look.2.1 165 = .ok (.ireturn, 1) := by decide +kernel
theorem d_W_look_166 : decode y_W_look.2.1 166 = .ok (.aload_n 0, 1) := by decide +kernel
theorem d_W_look_167 : decode y_W_look.2.1 167 = .ok (.getfield 35, 3) := by decide +kernel
theorem d_W_look_170 : decode y_W_look.2.1 170 = .ok (.getfield 264, 3) := by decide +kernel
theorem d_W_look_173 : decode y_W_look.2.1 173 = .ok (.ireturn, 1) := by decide +kernel
theorem d_W_look_174 : decode y_W_look.2.1 174 = .ok (.aload_n 0, 1) := by decide +kernel
theorem d_W_look_175 : decode y_W_look.2.1 175 = .ok (.getfield 42, 3) := by decide +kernel
theorem d_W_look_178 : decode y_W_look.2.1 178 = .ok (.getfield 265, 3) := by decide +kernel
theorem d_W_look_181 : decode y_W_look.2.1 181 = .ok (.ireturn, 1) := by decide +kernel
theorem d_W_look_182 : decode y_W_look.2.1 182 = .ok (.aload_n 0, 1) := by decide +kernel
theorem d_W_look_183 : decode y_W_look.2.1 183 = .ok (.getfield 62, 3) := by decide +kernel
theorem d_W_look_186 : decode y_W_look.2.1 186 = .ok (.invokestatic 268, 3) := by decide +kernel
theorem d_W_look_189 : decode y_W_look.2.1 189 = .ok (.ireturn, 1) := by decide +kernel
theorem d_W_look_190 : decode y_W_look.2.1 190 = .ok (.aload_n 0, 1) := by decide +kernel
theorem d_W_look_191 : decode y_W_look.2.1 191 = .ok (.getfield 28, 3) := by decide +kernel
theorem d_W_look_194 : decode y_W_look.2.1 194 = .ok (.getfield 273, 3) := by decide +kernel
theorem d_W_look_197 : decode y_W_look.2.1 197 = .ok (.ireturn, 1) := by decide +kernel
theorem d_W_look_198 : decode y_W_look.2.1 198 = .ok (.aload_n 0, 1) := by decide +kernel
theorem d_W_look_199 : decode y_W_look.2.1 199 = .ok (.getfield 10, 3) := by decide +kernel
theorem d_W_look_202 : decode y_W_look.2.1 202 = .ok (.getfield 77, 3) := by decide +kernel
theorem d_W_look_205 : decode y_W_look.2.1 205 = .ok (.ireturn, 1) := by decide +kernel
theorem d_W_look_206 : decode y_W_look.2.1 206 = .ok (.aload_n 0, 1) := by decide +kernel
theorem d_W_look_207 : decode y_W_look.2.1 207 = .ok (.getfield 28, 3) := by decide +kernel
theorem d_W_look_210 : decode y_W_look.2.1 210 = .ok (.getfield 276, 3) := by decide +kernel
theorem d_W_look_213 : decode y_W_look.2.1 213 = .ok (.ireturn, 1) := by decide +kernel
theorem d_W_look_214 : decode y_W_look.2.1 214 = .ok (.iconst (-1), 1) := by decide +kernel
theorem d_W_look_215 : decode y_W_look.2.1 215 = .ok (.ireturn, 1) := by decide +kernel
theorem s_W_look : ab_Stat y_W_look 1 := ⟨(k7 226 rfl rfl), (k1 1 rfl rfl), ⟨by decide, by decide⟩, by decide +kernel⟩
theorem i_W_look : Cond.instanceMethod y_W_look.1 ∈ ab_T := (k7 224 rfl rfl)
theorem v_W_look : Cond.selects "WorldEngine" y_W_look.1 y_W_look.1 ∈ ab_T := (k7 225 rfl rfl)
def F_W_look (N : Nat) (p0 : Nat) (p1 : Int32) (H : Hp) : Option (Int32 × Hp) :=
    if p1 = 0 then
    ck (H.sh[p0]? = some (0, 0)) <|
    rf (H.P p0 4) fun a3 =>
    ck (H.sh[a3]? = some (4, 0)) <|
    bnd ((H.D a3 7)) fun x6 =>
    some (x6, H)
    else if p1 = 1 then
    ck (H.sh[p0]? = some (0, 0)) <|
    rf (H.P p0 4) fun a9 =>
    ck (H.sh[a9]? = some (4, 0)) <|
    rf (H.P a9 2) fun a12 =>
    ck (H.sh[a12]? = some (3, 0)) <|
    bnd ((H.D a12 3)) fun x15 =>
    some (x15, H)
    else if p1 = 2 then
    ck (H.sh[p0]? = some (0, 0)) <|
    rf (H.P p0 2) fun a18 =>
    ck (H.sh[a18]? = some (10, 0)) <|
    rf (H.P a18 0) fun a21 =>
    ck (H.sh[a21]? = some (7, 0)) <|
    bnd ((H.D a21 0)) fun x24 =>
    some (x24, H)
    else if p1 = 3 then
    ck (H.sh[p0]? = some (0, 0)) <|
    rf (H.P p0 2) fun a27 =>
    ck (H.sh[a27]? = some (10, 0)) <|
    bnd ((H.D a27 1)) fun x30 =>
    some (x30, H)
    else if p1 = 4 then
    ck (H.sh[p0]? = some (0, 0)) <|
    rf (H.P p0 2) fun a33 =>
    ck (H.sh[a33]? = some (10, 0)) <|
    rf (H.P a33 0) fun a36 =>
    ck (H.sh[a36]? = some (7, 0)) <|
    bC (F_World_entityCount N a36 H) fun v40 H41 =>
    some (v40, H41)
    else if p1 = 5 then
    ck (H.sh[p0]? = some (0, 0)) <|
    rf (H.P p0 2) fun a44 =>
    ck (H.sh[a44]? = some (10, 0)) <|
    rf (H.P a44 0) fun a47 =>
    ck (H.sh[a47]? = some (7, 0)) <|
    bnd ((H.D a47 13)) fun x50 =>
    some (x50, H)
    else if p1 = 6 then
    ck (H.sh[p0]? = some (0, 0)) <|
    rf (H.P p0 2) fun a53 =>
    ck (H.sh[a53]? = some (10, 0)) <|
    rf (H.P a53 0) fun a56 =>
    ck (H.sh[a56]? = some (7, 0)) <|
    bnd ((H.D a56 2)) fun x59 =>
    some (x59, H)
    else if p1 = 7 then
    ck (H.sh[p0]? = some (0, 0)) <|
    rf (H.P p0 2) fun a62 =>
    ck (H.sh[a62]? = some (10, 0)) <|
    rf (H.P a62 0) fun a65 =>
    ck (H.sh[a65]? = some (7, 0)) <|
    bnd ((H.D a65 3)) fun x68 =>
    some (x68, H)
    else if p1 = 8 then
    ck (H.sh[p0]? = some (0, 0)) <|
    rf (H.P p0 2) fun a71 =>
    ck (H.sh[a71]? = some (10, 0)) <|
    bnd ((H.D a71 5)) fun x74 =>
    some (x74, H)
    else if p1 = 9 then
    ck (H.sh[p0]? = some (0, 0)) <|
    rf (H.P p0 3) fun a77 =>
    ck (H.sh[a77]? = some (11, 0)) <|
    bnd ((H.D a77 1)) fun x80 =>
    some (x80, H)
    else if p1 = 10 then
    ck (H.sh[p0]? = some (0, 0)) <|
    rf (H.P p0 4) fun a83 =>
    ck (H.sh[a83]? = some (4, 0)) <|
    bnd ((H.D a83 15)) fun x86 =>
    some (x86, H)
    else if p1 = 11 then
    ck (H.sh[p0]? = some (0, 0)) <|
    bnd ((H.D p0 7)) fun x89 =>
    bC (F_Integer_bitCount N x89 H) fun v91 H92 =>
    some (v91, H92)
    else if p1 = 12 then
    ck (H.sh[p0]? = some (0, 0)) <|
    rf (H.P p0 2) fun a95 =>
    ck (H.sh[a95]? = some (10, 0)) <|
    bnd ((H.D a95 3)) fun x98 =>
    some (x98, H)
    else if p1 = 13 then
    ck (H.sh[p0]? = some (0, 0)) <|
    rf (H.P p0 0) fun a101 =>
    ck (H.sh[a101]? = some (1, 0)) <|
    bnd ((H.D a101 1)) fun x104 =>
    some (x104, H)
    else if p1 = 14 then
    ck (H.sh[p0]? = some (0, 0)) <|
    rf (H.P p0 2) fun a107 =>
    ck (H.sh[a107]? = some (10, 0)) <|
    bnd ((H.D a107 2)) fun x110 =>
    some (x110, H)
    else some ((-1), H)
set_option maxRecDepth 20000 in
set_option maxHeartbeats 2000000 in
theorem m_W_look {N : Nat} {p0 : Nat} {p1 : Int32} {H : Hp} {r : Int32 × Hp} (hF : F_W_look N p0 p1 H = some r) : Sa H r.2 := by
  unfold F_W_look at hF
  have hm := Sa.rf H
  rcases ite_s hF with ⟨q_3, hG⟩ | ⟨q_3, hG⟩
  · clear hF
    obtain ⟨q112, hF⟩ := ck_s hG; clear hG
    obtain ⟨a113, e114, hG⟩ := rf_s hF; clear hF
    obtain ⟨q115, hF⟩ := ck_s hG; clear hG
    obtain ⟨x116, -, hG⟩ := bnd_g hF; clear hF
    have hr := Option.some.inj hG; subst hr
    exact hm
  clear hF
  rcases ite_s hG with ⟨q_4, hF⟩ | ⟨q_4, hF⟩
  · clear hG
    obtain ⟨q118, hG⟩ := ck_s hF; clear hF
    obtain ⟨a119, e120, hF⟩ := rf_s hG; clear hG
    obtain ⟨q121, hG⟩ := ck_s hF; clear hF
    obtain ⟨a122, e123, hF⟩ := rf_s hG; clear hG
    obtain ⟨q124, hG⟩ := ck_s hF; clear hF
    obtain ⟨x125, -, hF⟩ := bnd_g hG; clear hG
    have hr := Option.some.inj hF; subst hr
    exact hm
  clear hG
  rcases ite_s hF with ⟨q_5, hG⟩ | ⟨q_5, hG⟩
  · clear hF
    obtain ⟨q127, hF⟩ := ck_s hG; clear hG
    obtain ⟨a128, e129, hG⟩ := rf_s hF; clear hF
    obtain ⟨q130, hF⟩ := ck_s hG; clear hG
    obtain ⟨a131, e132, hG⟩ := rf_s hF; clear hF
    obtain ⟨q133, hF⟩ := ck_s hG; clear hG
    obtain ⟨x134, -, hG⟩ := bnd_g hF; clear hF
    have hr := Option.some.inj hG; subst hr
    exact hm
  clear hF
  rcases ite_s hG with ⟨q_6, hF⟩ | ⟨q_6, hF⟩
  · clear hG
    obtain ⟨q136, hG⟩ := ck_s hF; clear hF
    obtain ⟨a137, e138, hF⟩ := rf_s hG; clear hG
    obtain ⟨q139, hG⟩ := ck_s hF; clear hF
    obtain ⟨x140, -, hF⟩ := bnd_g hG; clear hG
    have hr := Option.some.inj hF; subst hr
    exact hm
  clear hG
  rcases ite_s hF with ⟨q_7, hG⟩ | ⟨q_7, hG⟩
  · clear hF
    obtain ⟨q142, hF⟩ := ck_s hG; clear hG
    obtain ⟨a143, e144, hG⟩ := rf_s hF; clear hF
    obtain ⟨q145, hF⟩ := ck_s hG; clear hG
    obtain ⟨a146, e147, hG⟩ := rf_s hF; clear hF
    obtain ⟨q148, hF⟩ := ck_s hG; clear hG
    obtain ⟨v150, H151, z149, hG⟩ := bC_s hF; clear hF
    replace hm : Sa H H151 := hm.tr (m_World_entityCount z149)
    have hr := Option.some.inj hG; subst hr
    exact hm
  clear hF
  rcases ite_s hG with ⟨q_9, hF⟩ | ⟨q_9, hF⟩
  · clear hG
    obtain ⟨q153, hG⟩ := ck_s hF; clear hF
    obtain ⟨a154, e155, hF⟩ := rf_s hG; clear hG
    obtain ⟨q156, hG⟩ := ck_s hF; clear hF
    obtain ⟨a157, e158, hF⟩ := rf_s hG; clear hG
    obtain ⟨q159, hG⟩ := ck_s hF; clear hF
    obtain ⟨x160, -, hF⟩ := bnd_g hG; clear hG
    have hr := Option.some.inj hF; subst hr
    exact hm
  clear hG
  rcases ite_s hF with ⟨q_10, hG⟩ | ⟨q_10, hG⟩
  · clear hF
    obtain ⟨q162, hF⟩ := ck_s hG; clear hG
    obtain ⟨a163, e164, hG⟩ := rf_s hF; clear hF
    obtain ⟨q165, hF⟩ := ck_s hG; clear hG
    obtain ⟨a166, e167, hG⟩ := rf_s hF; clear hF
    obtain ⟨q168, hF⟩ := ck_s hG; clear hG
    obtain ⟨x169, -, hG⟩ := bnd_g hF; clear hF
    have hr := Option.some.inj hG; subst hr
    exact hm
  clear hF
  rcases ite_s hG with ⟨q_11, hF⟩ | ⟨q_11, hF⟩
  · clear hG
    obtain ⟨q171, hG⟩ := ck_s hF; clear hF
    obtain ⟨a172, e173, hF⟩ := rf_s hG; clear hG
    obtain ⟨q174, hG⟩ := ck_s hF; clear hF
    obtain ⟨a175, e176, hF⟩ := rf_s hG; clear hG
    obtain ⟨q177, hG⟩ := ck_s hF; clear hF
    obtain ⟨x178, -, hF⟩ := bnd_g hG; clear hG
    have hr := Option.some.inj hF; subst hr
    exact hm
  clear hG
  rcases ite_s hF with ⟨q_12, hG⟩ | ⟨q_12, hG⟩
  · clear hF
    obtain ⟨q180, hF⟩ := ck_s hG; clear hG
    obtain ⟨a181, e182, hG⟩ := rf_s hF; clear hF
    obtain ⟨q183, hF⟩ := ck_s hG; clear hG
    obtain ⟨x184, -, hG⟩ := bnd_g hF; clear hF
    have hr := Option.some.inj hG; subst hr
    exact hm
  clear hF
  rcases ite_s hG with ⟨q_13, hF⟩ | ⟨q_13, hF⟩
  · clear hG
    obtain ⟨q186, hG⟩ := ck_s hF; clear hF
    obtain ⟨a187, e188, hF⟩ := rf_s hG; clear hG
    obtain ⟨q189, hG⟩ := ck_s hF; clear hF
    obtain ⟨x190, -, hF⟩ := bnd_g hG; clear hG
    have hr := Option.some.inj hF; subst hr
    exact hm
  clear hG
  rcases ite_s hF with ⟨q_14, hG⟩ | ⟨q_14, hG⟩
  · clear hF
    obtain ⟨q192, hF⟩ := ck_s hG; clear hG
    obtain ⟨a193, e194, hG⟩ := rf_s hF; clear hF
    obtain ⟨q195, hF⟩ := ck_s hG; clear hG
    obtain ⟨x196, -, hG⟩ := bnd_g hF; clear hF
    have hr := Option.some.inj hG; subst hr
    exact hm
  clear hF
  rcases ite_s hG with ⟨q_15, hF⟩ | ⟨q_15, hF⟩
  · clear hG
    obtain ⟨q198, hG⟩ := ck_s hF; clear hF
    obtain ⟨x199, -, hF⟩ := bnd_g hG; clear hG
    obtain ⟨v201, H202, z200, hG⟩ := bC_s hF; clear hF
    replace hm : Sa H H202 := hm.tr (m_Integer_bitCount z200)
    have hr := Option.some.inj hG; subst hr
    exact hm
  clear hG
  rcases ite_s hF with ⟨q_17, hG⟩ | ⟨q_17, hG⟩
  · clear hF
    obtain ⟨q204, hF⟩ := ck_s hG; clear hG
    obtain ⟨a205, e206, hG⟩ := rf_s hF; clear hF
    obtain ⟨q207, hF⟩ := ck_s hG; clear hG
    obtain ⟨x208, -, hG⟩ := bnd_g hF; clear hF
    have hr := Option.some.inj hG; subst hr
    exact hm
  clear hF
  rcases ite_s hG with ⟨q_18, hF⟩ | ⟨q_18, hF⟩
  · clear hG
    obtain ⟨q210, hG⟩ := ck_s hF; clear hF
    obtain ⟨a211, e212, hF⟩ := rf_s hG; clear hG
    obtain ⟨q213, hG⟩ := ck_s hF; clear hF
    obtain ⟨x214, -, hF⟩ := bnd_g hG; clear hG
    have hr := Option.some.inj hF; subst hr
    exact hm
  clear hG
  rcases ite_s hF with ⟨q_19, hG⟩ | ⟨q_19, hG⟩
  · clear hF
    obtain ⟨q216, hF⟩ := ck_s hG; clear hG
    obtain ⟨a217, e218, hG⟩ := rf_s hF; clear hF
    obtain ⟨q219, hF⟩ := ck_s hG; clear hG
    obtain ⟨x220, -, hG⟩ := bnd_g hF; clear hF
    have hr := Option.some.inj hG; subst hr
    exact hm
  clear hF
  have hr := Option.some.inj hG; subst hr
  exact hm
set_option maxRecDepth 20000 in
set_option maxHeartbeats 2000000 in
theorem k_W_look {N : Nat} {p0 : Nat} {p1 : Int32} {H : Hp} {r : Int32 × Hp} (hF : F_W_look N p0 p1 H = some r) : ab_M y_W_look { frames := 1, cells := 0, slots := 0, locals := 22 } [.ref p0, .int p1] (hpw H) (po (.returned (some (.int r.1))) r.2) := by
  unfold F_W_look at hF
  refine ab_of2 (lv := [some (.ref p0), some (.int p1)]) 0 rfl rfl (Nat.le_of_ble_eq_true rfl) ?_
  refine ab_iload_n d_W_look_0 rfl rfl ?_
  by_cases t1 : p1 = 0
  · rw [if_pos t1] at hF
    refine ab_tableIn (off := 75) (tgt := 76) d_W_look_1 (by rw [t1]; decide) (by rw [t1]; decide) (by rw [t1]; decide) (by decide) ?_
    refine ab_aload_n d_W_look_76 rfl rfl rfl ?_
    obtain ⟨q2, hG⟩ := ck_s hF; clear hF
    obtain ⟨a3, e4, hF⟩ := rf_s hG; clear hG
    refine hp_getR (f := 4) d_W_look_77 q2 (by decide) rfl (by decide) (k3 161 rfl rfl) rfl e4 ?_
    obtain ⟨q5, hG⟩ := ck_s hF; clear hF
    refine hp_getI (f := 7) d_W_look_80 q5 (by decide) rfl (by decide) (k3 82 rfl rfl) rfl ?_
    refine ab_topi (fun x6 ex6 => ?_)
    replace hG := bnd_s ex6 hG
    exact ab_iret d_W_look_83 rfl (Nat.le_refl _) (Nat.le_refl _) (by have hr := Option.some.inj hG; subst hr; exact ⟨rfl, rfl⟩)
  rw [if_neg t1] at hF
  have ut1 : ¬ (0 : Int) = (p1).toInt := fun z => t1 (Int32.toInt_inj.mp (z.symm.trans (by decide)))
  by_cases t7 : p1 = 1
  · rw [if_pos t7] at hF
    refine ab_tableIn (off := 83) (tgt := 84) d_W_look_1 (by rw [t7]; decide) (by rw [t7]; decide) (by rw [t7]; decide) (by decide) ?_
    refine ab_aload_n d_W_look_84 rfl rfl rfl ?_
    obtain ⟨q8, hG⟩ := ck_s hF; clear hF
    obtain ⟨a9, e10, hF⟩ := rf_s hG; clear hG
    refine hp_getR (f := 4) d_W_look_85 q8 (by decide) rfl (by decide) (k3 161 rfl rfl) rfl e10 ?_
    obtain ⟨q11, hG⟩ := ck_s hF; clear hF
    obtain ⟨a12, e13, hF⟩ := rf_s hG; clear hG
    refine hp_getR (f := 2) d_W_look_88 q11 (by decide) rfl (by decide) (k3 57 rfl rfl) rfl e13 ?_
    obtain ⟨q14, hG⟩ := ck_s hF; clear hF
    refine hp_getI (f := 3) d_W_look_91 q14 (by decide) rfl (by decide) (k3 42 rfl rfl) rfl ?_
    refine ab_topi (fun x15 ex15 => ?_)
    replace hG := bnd_s ex15 hG
    exact ab_iret d_W_look_94 rfl (Nat.le_refl _) (Nat.le_refl _) (by have hr := Option.some.inj hG; subst hr; exact ⟨rfl, rfl⟩)
  rw [if_neg t7] at hF
  have ut7 : ¬ (1 : Int) = (p1).toInt := fun z => t7 (Int32.toInt_inj.mp (z.symm.trans (by decide)))
  by_cases t16 : p1 = 2
  · rw [if_pos t16] at hF
    refine ab_tableIn (off := 94) (tgt := 95) d_W_look_1 (by rw [t16]; decide) (by rw [t16]; decide) (by rw [t16]; decide) (by decide) ?_
    refine ab_aload_n d_W_look_95 rfl rfl rfl ?_
    obtain ⟨q17, hG⟩ := ck_s hF; clear hF
    obtain ⟨a18, e19, hF⟩ := rf_s hG; clear hG
    refine hp_getR (f := 2) d_W_look_96 q17 (by decide) rfl (by decide) (k3 159 rfl rfl) rfl e19 ?_
    obtain ⟨q20, hG⟩ := ck_s hF; clear hF
    obtain ⟨a21, e22, hF⟩ := rf_s hG; clear hG
    refine hp_getR (f := 0) d_W_look_99 q20 (by decide) rfl (by decide) (k2 131 rfl rfl) rfl e22 ?_
    obtain ⟨q23, hG⟩ := ck_s hF; clear hF
    refine hp_getI (f := 0) d_W_look_102 q23 (by decide) rfl (by decide) (k1 208 rfl rfl) rfl ?_
    refine ab_topi (fun x24 ex24 => ?_)
    replace hG := bnd_s ex24 hG
    exact ab_iret d_W_look_105 rfl (Nat.le_refl _) (Nat.le_refl _) (by have hr := Option.some.inj hG; subst hr; exact ⟨rfl, rfl⟩)
  rw [if_neg t16] at hF
  have ut16 : ¬ (2 : Int) = (p1).toInt := fun z => t16 (Int32.toInt_inj.mp (z.symm.trans (by decide)))
  by_cases t25 : p1 = 3
  · rw [if_pos t25] at hF
    refine ab_tableIn (off := 105) (tgt := 106) d_W_look_1 (by rw [t25]; decide) (by rw [t25]; decide) (by rw [t25]; decide) (by decide) ?_
    refine ab_aload_n d_W_look_106 rfl rfl rfl ?_
    obtain ⟨q26, hG⟩ := ck_s hF; clear hF
    obtain ⟨a27, e28, hF⟩ := rf_s hG; clear hG
    refine hp_getR (f := 2) d_W_look_107 q26 (by decide) rfl (by decide) (k3 159 rfl rfl) rfl e28 ?_
    obtain ⟨q29, hG⟩ := ck_s hF; clear hF
    refine hp_getI (f := 1) d_W_look_110 q29 (by decide) rfl (by decide) (k2 133 rfl rfl) rfl ?_
    refine ab_topi (fun x30 ex30 => ?_)
    replace hG := bnd_s ex30 hG
    exact ab_iret d_W_look_113 rfl (Nat.le_refl _) (Nat.le_refl _) (by have hr := Option.some.inj hG; subst hr; exact ⟨rfl, rfl⟩)
  rw [if_neg t25] at hF
  have ut25 : ¬ (3 : Int) = (p1).toInt := fun z => t25 (Int32.toInt_inj.mp (z.symm.trans (by decide)))
  by_cases t31 : p1 = 4
  · rw [if_pos t31] at hF
    refine ab_tableIn (off := 113) (tgt := 114) d_W_look_1 (by rw [t31]; decide) (by rw [t31]; decide) (by rw [t31]; decide) (by decide) ?_
    refine ab_aload_n d_W_look_114 rfl rfl rfl ?_
    obtain ⟨q32, hG⟩ := ck_s hF; clear hF
    obtain ⟨a33, e34, hF⟩ := rf_s hG; clear hG
    refine hp_getR (f := 2) d_W_look_115 q32 (by decide) rfl (by decide) (k3 159 rfl rfl) rfl e34 ?_
    obtain ⟨q35, hG⟩ := ck_s hF; clear hF
    obtain ⟨a36, e37, hF⟩ := rf_s hG; clear hG
    refine hp_getR (f := 0) d_W_look_118 q35 (by decide) rfl (by decide) (k2 131 rfl rfl) rfl e37 ?_
    obtain ⟨q38, hG⟩ := ck_s hF; clear hF
    obtain ⟨v40, H41, z39, hF⟩ := bC_s hG; clear hG
    refine hp_callV_a (v := .int v40) (H1 := H41) (As := []) (rest := []) d_W_look_121 (k_World_entityCount z39) (ab_mkC s_World_entityCount (Nat.le_of_ble_eq_true rfl) (Nat.le_of_ble_eq_true rfl) (Nat.le_refl 0) (Nat.le_refl 0)) (k7 227 rfl rfl) i_World_entityCount v_World_entityCount q38 (by decide) rfl rfl (Nat.le_of_ble_eq_true rfl) ?_
    have s_1 : Sa H H41 := (m_World_entityCount z39)
    exact ab_iret d_W_look_124 rfl (Nat.le_refl _) (Nat.le_refl _) (by have hr := Option.some.inj hF; subst hr; exact ⟨rfl, rfl⟩)
  rw [if_neg t31] at hF
  have ut31 : ¬ (4 : Int) = (p1).toInt := fun z => t31 (Int32.toInt_inj.mp (z.symm.trans (by decide)))
  by_cases t42 : p1 = 5
  · rw [if_pos t42] at hF
    refine ab_tableIn (off := 124) (tgt := 125) d_W_look_1 (by rw [t42]; decide) (by rw [t42]; decide) (by rw [t42]; decide) (by decide) ?_
    refine ab_aload_n d_W_look_125 rfl rfl rfl ?_
    obtain ⟨q43, hG⟩ := ck_s hF; clear hF
    obtain ⟨a44, e45, hF⟩ := rf_s hG; clear hG
    refine hp_getR (f := 2) d_W_look_126 q43 (by decide) rfl (by decide) (k3 159 rfl rfl) rfl e45 ?_
    obtain ⟨q46, hG⟩ := ck_s hF; clear hF
    obtain ⟨a47, e48, hF⟩ := rf_s hG; clear hG
    refine hp_getR (f := 0) d_W_look_129 q46 (by decide) rfl (by decide) (k2 131 rfl rfl) rfl e48 ?_
    obtain ⟨q49, hG⟩ := ck_s hF; clear hF
    refine hp_getI (f := 13) d_W_look_132 q49 (by decide) rfl (by decide) (k2 7 rfl rfl) rfl ?_
    refine ab_topi (fun x50 ex50 => ?_)
    replace hG := bnd_s ex50 hG
    exact ab_iret d_W_look_135 rfl (Nat.le_refl _) (Nat.le_refl _) (by have hr := Option.some.inj hG; subst hr; exact ⟨rfl, rfl⟩)
  rw [if_neg t42] at hF
  have ut42 : ¬ (5 : Int) = (p1).toInt := fun z => t42 (Int32.toInt_inj.mp (z.symm.trans (by decide)))
  by_cases t51 : p1 = 6
  · rw [if_pos t51] at hF
    refine ab_tableIn (off := 135) (tgt := 136) d_W_look_1 (by rw [t51]; decide) (by rw [t51]; decide) (by rw [t51]; decide) (by decide) ?_
    refine ab_aload_n d_W_look_136 rfl rfl rfl ?_
    obtain ⟨q52, hG⟩ := ck_s hF; clear hF
    obtain ⟨a53, e54, hF⟩ := rf_s hG; clear hG
    refine hp_getR (f := 2) d_W_look_137 q52 (by decide) rfl (by decide) (k3 159 rfl rfl) rfl e54 ?_
    obtain ⟨q55, hG⟩ := ck_s hF; clear hF
    obtain ⟨a56, e57, hF⟩ := rf_s hG; clear hG
    refine hp_getR (f := 0) d_W_look_140 q55 (by decide) rfl (by decide) (k2 131 rfl rfl) rfl e57 ?_
    obtain ⟨q58, hG⟩ := ck_s hF; clear hF
    refine hp_getI (f := 2) d_W_look_143 q58 (by decide) rfl (by decide) (k1 215 rfl rfl) rfl ?_
    refine ab_topi (fun x59 ex59 => ?_)
    replace hG := bnd_s ex59 hG
    exact ab_iret d_W_look_146 rfl (Nat.le_refl _) (Nat.le_refl _) (by have hr := Option.some.inj hG; subst hr; exact ⟨rfl, rfl⟩)
  rw [if_neg t51] at hF
  have ut51 : ¬ (6 : Int) = (p1).toInt := fun z => t51 (Int32.toInt_inj.mp (z.symm.trans (by decide)))
  by_cases t60 : p1 = 7
  · rw [if_pos t60] at hF
    refine ab_tableIn (off := 146) (tgt := 147) d_W_look_1 (by rw [t60]; decide) (by rw [t60]; decide) (by rw [t60]; decide) (by decide) ?_
    refine ab_aload_n d_W_look_147 rfl rfl rfl ?_
    obtain ⟨q61, hG⟩ := ck_s hF; clear hF
    obtain ⟨a62, e63, hF⟩ := rf_s hG; clear hG
    refine hp_getR (f := 2) d_W_look_148 q61 (by decide) rfl (by decide) (k3 159 rfl rfl) rfl e63 ?_
    obtain ⟨q64, hG⟩ := ck_s hF; clear hF
    obtain ⟨a65, e66, hF⟩ := rf_s hG; clear hG
    refine hp_getR (f := 0) d_W_look_151 q64 (by decide) rfl (by decide) (k2 131 rfl rfl) rfl e66 ?_
    obtain ⟨q67, hG⟩ := ck_s hF; clear hF
    refine hp_getI (f := 3) d_W_look_154 q67 (by decide) rfl (by decide) (k1 219 rfl rfl) rfl ?_
    refine ab_topi (fun x68 ex68 => ?_)
    replace hG := bnd_s ex68 hG
    exact ab_iret d_W_look_157 rfl (Nat.le_refl _) (Nat.le_refl _) (by have hr := Option.some.inj hG; subst hr; exact ⟨rfl, rfl⟩)
  rw [if_neg t60] at hF
  have ut60 : ¬ (7 : Int) = (p1).toInt := fun z => t60 (Int32.toInt_inj.mp (z.symm.trans (by decide)))
  by_cases t69 : p1 = 8
  · rw [if_pos t69] at hF
    refine ab_tableIn (off := 157) (tgt := 158) d_W_look_1 (by rw [t69]; decide) (by rw [t69]; decide) (by rw [t69]; decide) (by decide) ?_
    refine ab_aload_n d_W_look_158 rfl rfl rfl ?_
    obtain ⟨q70, hG⟩ := ck_s hF; clear hF
    obtain ⟨a71, e72, hF⟩ := rf_s hG; clear hG
    refine hp_getR (f := 2) d_W_look_159 q70 (by decide) rfl (by decide) (k3 159 rfl rfl) rfl e72 ?_
    obtain ⟨q73, hG⟩ := ck_s hF; clear hF
    refine hp_getI (f := 5) d_W_look_162 q73 (by decide) rfl (by decide) (k2 141 rfl rfl) rfl ?_
    refine ab_topi (fun x74 ex74 => ?_)
    replace hG := bnd_s ex74 hG
    exact ab_iret d_W_look_165 rfl (Nat.le_refl _) (Nat.le_refl _) (by have hr := Option.some.inj hG; subst hr; exact ⟨rfl, rfl⟩)
  rw [if_neg t69] at hF
  have ut69 : ¬ (8 : Int) = (p1).toInt := fun z => t69 (Int32.toInt_inj.mp (z.symm.trans (by decide)))
  by_cases t75 : p1 = 9
  · rw [if_pos t75] at hF
    refine ab_tableIn (off := 165) (tgt := 166) d_W_look_1 (by rw [t75]; decide) (by rw [t75]; decide) (by rw [t75]; decide) (by decide) ?_
    refine ab_aload_n d_W_look_166 rfl rfl rfl ?_
    obtain ⟨q76, hG⟩ := ck_s hF; clear hF
    obtain ⟨a77, e78, hF⟩ := rf_s hG; clear hG
    refine hp_getR (f := 3) d_W_look_167 q76 (by decide) rfl (by decide) (k3 160 rfl rfl) rfl e78 ?_
    obtain ⟨q79, hG⟩ := ck_s hF; clear hF
    refine hp_getI (f := 1) d_W_look_170 q79 (by decide) rfl (by decide) (k2 189 rfl rfl) rfl ?_
    refine ab_topi (fun x80 ex80 => ?_)
    replace hG := bnd_s ex80 hG
    exact ab_iret d_W_look_173 rfl (Nat.le_refl _) (Nat.le_refl _) (by have hr := Option.some.inj hG; subst hr; exact ⟨rfl, rfl⟩)
  rw [if_neg t75] at hF
  have ut75 : ¬ (9 : Int) = (p1).toInt := fun z => t75 (Int32.toInt_inj.mp (z.symm.trans (by decide)))
  by_cases t81 : p1 = 10
  · rw [if_pos t81] at hF
    refine ab_tableIn (off := 173) (tgt := 174) d_W_look_1 (by rw [t81]; decide) (by rw [t81]; decide) (by rw [t81]; decide) (by decide) ?_
    refine ab_aload_n d_W_look_174 rfl rfl rfl ?_
    obtain ⟨q82, hG⟩ := ck_s hF; clear hF
    obtain ⟨a83, e84, hF⟩ := rf_s hG; clear hG
    refine hp_getR (f := 4) d_W_look_175 q82 (by decide) rfl (by decide) (k3 161 rfl rfl) rfl e84 ?_
    obtain ⟨q85, hG⟩ := ck_s hF; clear hF
    refine hp_getI (f := 15) d_W_look_178 q85 (by decide) rfl (by decide) (k3 109 rfl rfl) rfl ?_
    refine ab_topi (fun x86 ex86 => ?_)
    replace hG := bnd_s ex86 hG
    exact ab_iret d_W_look_181 rfl (Nat.le_refl _) (Nat.le_refl _) (by have hr := Option.some.inj hG; subst hr; exact ⟨rfl, rfl⟩)
  rw [if_neg t81] at hF
  have ut81 : ¬ (10 : Int) = (p1).toInt := fun z => t81 (Int32.toInt_inj.mp (z.symm.trans (by decide)))
  by_cases t87 : p1 = 11
  · rw [if_pos t87] at hF
    refine ab_tableIn (off := 181) (tgt := 182) d_W_look_1 (by rw [t87]; decide) (by rw [t87]; decide) (by rw [t87]; decide) (by decide) ?_
    refine ab_aload_n d_W_look_182 rfl rfl rfl ?_
    obtain ⟨q88, hG⟩ := ck_s hF; clear hF
    refine hp_getI (f := 7) d_W_look_183 q88 (by decide) rfl (by decide) (k3 164 rfl rfl) rfl ?_
    refine ab_topi (fun x89 ex89 => ?_)
    replace hG := bnd_s ex89 hG
    obtain ⟨v91, H92, z90, hF⟩ := bC_s hG; clear hG
    refine hp_callS_a (v := .int v91) (H1 := H92) (As := [.int x89]) (rest := []) d_W_look_186 (k_Integer_bitCount z90) (ab_mkC s_Integer_bitCount (Nat.le_of_ble_eq_true rfl) (Nat.le_of_ble_eq_true rfl) (Nat.le_refl 0) (Nat.le_refl 0)) (k7 231 rfl rfl) t_Integer_bitCount rfl (Nat.le_of_ble_eq_true rfl) ?_
    have s_2 : Sa H H92 := (m_Integer_bitCount z90)
    exact ab_iret d_W_look_189 rfl (Nat.le_refl _) (Nat.le_refl _) (by have hr := Option.some.inj hF; subst hr; exact ⟨rfl, rfl⟩)
  rw [if_neg t87] at hF
  have ut87 : ¬ (11 : Int) = (p1).toInt := fun z => t87 (Int32.toInt_inj.mp (z.symm.trans (by decide)))
  by_cases t93 : p1 = 12
  · rw [if_pos t93] at hF
    refine ab_tableIn (off := 189) (tgt := 190) d_W_look_1 (by rw [t93]; decide) (by rw [t93]; decide) (by rw [t93]; decide) (by decide) ?_
    refine ab_aload_n d_W_look_190 rfl rfl rfl ?_
    obtain ⟨q94, hG⟩ := ck_s hF; clear hF
    obtain ⟨a95, e96, hF⟩ := rf_s hG; clear hG
    refine hp_getR (f := 2) d_W_look_191 q94 (by decide) rfl (by decide) (k3 159 rfl rfl) rfl e96 ?_
    obtain ⟨q97, hG⟩ := ck_s hF; clear hF
    refine hp_getI (f := 3) d_W_look_194 q97 (by decide) rfl (by decide) (k2 137 rfl rfl) rfl ?_
    refine ab_topi (fun x98 ex98 => ?_)
    replace hG := bnd_s ex98 hG
    exact ab_iret d_W_look_197 rfl (Nat.le_refl _) (Nat.le_refl _) (by have hr := Option.some.inj hG; subst hr; exact ⟨rfl, rfl⟩)
  rw [if_neg t93] at hF
  have ut93 : ¬ (12 : Int) = (p1).toInt := fun z => t93 (Int32.toInt_inj.mp (z.symm.trans (by decide)))
  by_cases t99 : p1 = 13
  · rw [if_pos t99] at hF
    refine ab_tableIn (off := 197) (tgt := 198) d_W_look_1 (by rw [t99]; decide) (by rw [t99]; decide) (by rw [t99]; decide) (by decide) ?_
    refine ab_aload_n d_W_look_198 rfl rfl rfl ?_
    obtain ⟨q100, hG⟩ := ck_s hF; clear hF
    obtain ⟨a101, e102, hF⟩ := rf_s hG; clear hG
    refine hp_getR (f := 0) d_W_look_199 q100 (by decide) rfl (by decide) (k3 157 rfl rfl) rfl e102 ?_
    obtain ⟨q103, hG⟩ := ck_s hF; clear hF
    refine hp_getI (f := 1) d_W_look_202 q103 (by decide) rfl (by decide) (k1 97 rfl rfl) rfl ?_
    refine ab_topi (fun x104 ex104 => ?_)
    replace hG := bnd_s ex104 hG
    exact ab_iret d_W_look_205 rfl (Nat.le_refl _) (Nat.le_refl _) (by have hr := Option.some.inj hG; subst hr; exact ⟨rfl, rfl⟩)
  rw [if_neg t99] at hF
  have ut99 : ¬ (13 : Int) = (p1).toInt := fun z => t99 (Int32.toInt_inj.mp (z.symm.trans (by decide)))
  by_cases t105 : p1 = 14
  · rw [if_pos t105] at hF
    refine ab_tableIn (off := 205) (tgt := 206) d_W_look_1 (by rw [t105]; decide) (by rw [t105]; decide) (by rw [t105]; decide) (by decide) ?_
    refine ab_aload_n d_W_look_206 rfl rfl rfl ?_
    obtain ⟨q106, hG⟩ := ck_s hF; clear hF
    obtain ⟨a107, e108, hF⟩ := rf_s hG; clear hG
    refine hp_getR (f := 2) d_W_look_207 q106 (by decide) rfl (by decide) (k3 159 rfl rfl) rfl e108 ?_
    obtain ⟨q109, hG⟩ := ck_s hF; clear hF
    refine hp_getI (f := 2) d_W_look_210 q109 (by decide) rfl (by decide) (k2 135 rfl rfl) rfl ?_
    refine ab_topi (fun x110 ex110 => ?_)
    replace hG := bnd_s ex110 hG
    exact ab_iret d_W_look_213 rfl (Nat.le_refl _) (Nat.le_refl _) (by have hr := Option.some.inj hG; subst hr; exact ⟨rfl, rfl⟩)
  rw [if_neg t105] at hF
  have ut105 : ¬ (14 : Int) = (p1).toInt := fun z => t105 (Int32.toInt_inj.mp (z.symm.trans (by decide)))
  refine ab_tableOut (tgt := 214) d_W_look_1 (by omega) (by decide) ?_
  refine ab_iconst (v := (-1)) d_W_look_214 (by decide) ?_
  exact ab_iret d_W_look_215 rfl (Nat.le_refl _) (Nat.le_refl _) (by have hr := Option.some.inj hF; subst hr; exact ⟨rfl, rfl⟩)
def y_Store_writeByte : ab_Y := (⟨"WorldEngine$Store", "writeByte", "(I)V"⟩, prog_10_method_3_code, 2, none, [])
theorem d_Store_writeByte_0 : decode y_Store_writeByte.2.1 0 = .ok (.aload_n 0, 1) := by decide +kernel
theorem d_Store_writeByte_1 : decode y_Store_writeByte.2.1 1 = .ok (.bipush 31, 2) := by decide +kernel
theorem d_Store_writeByte_3 : decode y_Store_writeByte.2.1 3 = .ok (.aload_n 0, 1) := by decide +kernel
theorem d_Store_writeByte_4 : decode y_Store_writeByte.2.1 4 = .ok (.getfield 20, 3) := by decide +kernel
theorem d_Store_writeByte_7 : decode y_Store_writeByte.2.1 7 = .ok (.imul, 1) := by decide +kernel
theorem d_Store_writeByte_8 : decode y_Store_writeByte.2.1 8 = .ok (.iload_n 1, 1) := by decide +kernel
theorem d_Store_writeByte_9 : decode y_Store_writeByte.2.1 9 = .ok (.sipush 255, 3) := by decide +kernel
theorem d_Store_writeByte_12 : decode y_Store_writeByte.2.1 12 = .ok (.iand, 1) := by decide +kernel
theorem d_Store_writeByte_13 : decode y_Store_writeByte.2.1 13 = .ok (.iadd, 1) := by decide +kernel
theorem d_Store_writeByte_14 : decode y_Store_writeByte.2.1 14 = .ok (.putfield 20, 3) := by decide +kernel
theorem d_Store_writeByte_17 : decode y_Store_writeByte.2.1 17 = .ok (.aload_n 0, 1) := by decide +kernel
theorem d_Store_writeByte_18 : decode y_Store_writeByte.2.1 18 = .ok (.getfield 16, 3) := by decide +kernel
theorem d_Store_writeByte_21 : decode y_Store_writeByte.2.1 21 = .ok (.ifCond .eq 33, 3) := by decide +kernel
theorem d_Store_writeByte_24 : decode y_Store_writeByte.2.1 24 = .ok (.aload_n 0, 1) := by decide +kernel
theorem d_Store_writeByte_25 : decode y_Store_writeByte.2.1 25 = .ok (.getfield 24, 3) := by decide +kernel
theorem d_Store_writeByte_28 : decode y_Store_writeByte.2.1 28 = .ok (.ldc 11, 2) := by decide +kernel
theorem d_Store_writeByte_30 : decode y_Store_writeByte.2.1 30 = .ok (.if_icmp .ge 24, 3) := by decide +kernel
theorem d_Store_writeByte_33 : decode y_Store_writeByte.2.1 33 = .ok (.aload_n 0, 1) := by decide +kernel
theorem d_Store_writeByte_34 : decode y_Store_writeByte.2.1 34 = .ok (.getfield 12, 3) := by decide +kernel
theorem d_Store_writeByte_37 : decode y_Store_writeByte.2.1 37 = .ok (.aload_n 0, 1) := by decide +kernel
theorem d_Store_writeByte_38 : decode y_Store_writeByte.2.1 38 = .ok (.getfield 24, 3) := by decide +kernel
theorem d_Store_writeByte_41 : decode y_Store_writeByte.2.1 41 = .ok (.iload_n 1, 1) := by decide +kernel
theorem d_Store_writeByte_42 : decode y_Store_writeByte.2.1 42 = .ok (.i2b, 1) := by decide +kernel
theorem d_Store_writeByte_43 : decode y_Store_writeByte.2.1 43 = .ok (.bastore, 1) := by decide +kernel
theorem d_Store_writeByte_44 : decode y_Store_writeByte.2.1 44 = .ok (.aload_n 0, 1) := by decide +kernel
theorem d_Store_writeByte_45 : decode y_Store_writeByte.2.1 45 = .ok (.dup, 1) := by decide +kernel
theorem d_Store_writeByte_46 : decode y_Store_writeByte.2.1 46 = .ok (.getfield 24, 3) := by decide +kernel
theorem d_Store_writeByte_49 : decode y_Store_writeByte.2.1 49 = .ok (.iconst 1, 1) := by decide +kernel
theorem d_Store_writeByte_50 : decode y_Store_writeByte.2.1 50 = .ok (.iadd, 1) := by decide +kernel
theorem d_Store_writeByte_51 : decode y_Store_writeByte.2.1 51 = .ok (.putfield 24, 3) := by decide +kernel
theorem d_Store_writeByte_54 : decode y_Store_writeByte.2.1 54 = .ok (.return_, 1) := by decide +kernel
theorem s_Store_writeByte : ab_Stat y_Store_writeByte 1 := ⟨(k8 3 rfl rfl), (k1 14 rfl rfl), ⟨by decide, by decide⟩, by decide +kernel⟩
theorem i_Store_writeByte : Cond.instanceMethod y_Store_writeByte.1 ∈ ab_T := (k8 2 rfl rfl)
theorem v_Store_writeByte : Cond.selects "WorldEngine$Store" y_Store_writeByte.1 y_Store_writeByte.1 ∈ ab_T := ab_s (List.mem_of_getElem? (i := 93) rfl) rfl
def F_Store_writeByte (N : Nat) (p0 : Nat) (p1 : Int32) (H : Hp) : Option (Unit × Hp) :=
    ck (H.sh[p0]? = some (11, 0)) <|
    bnd ((H.D p0 4)) fun x2 =>
    bnd (H.sD p0 4 (((31 : Int32) * x2) + (p1 &&& (255 : Int32)))) fun H3 =>
    bnd ((H3.D p0 3)) fun x4 =>
    if x4 = (0 : Int32) then
    some ((), H3)
    else
    bnd ((H3.D p0 1)) fun x6 =>
    if (60000 : Int32) ≤ x6 then
    some ((), H3)
    else
    rf (H3.P p0 0) fun a8 =>
    bnd ((H3.D p0 1)) fun x10 =>
    ar H3 101 a8 fun n11 =>
    ck (inb x10 n11) <|
    bnd (H3.sD a8 (x10).toNatClampNeg (vp_nar .byte ((p1 : Int32).toInt8.toInt32))) fun H14 =>
    bnd ((H14.D p0 1)) fun x15 =>
    bnd (H14.sD p0 1 (x15 + (1 : Int32))) fun H16 =>
    some ((), H16)
set_option maxRecDepth 20000 in
set_option maxHeartbeats 2000000 in
theorem m_Store_writeByte {N : Nat} {p0 : Nat} {p1 : Int32} {H : Hp} {r : Unit × Hp} (hF : F_Store_writeByte N p0 p1 H = some r) : Sa H r.2 := by
  unfold F_Store_writeByte at hF
  have hm := Sa.rf H
  obtain ⟨q17, hG⟩ := ck_s hF; clear hF
  obtain ⟨x18, -, hF⟩ := bnd_g hG; clear hG
  obtain ⟨H19, eH19, hG⟩ := bnd_g hF; clear hF
  replace hm : Sa H H19 := by rw [eH19]; exact hm
  obtain ⟨x20, -, hF⟩ := bnd_g hG; clear hG
  rcases ite_s hF with ⟨q_5, hG⟩ | ⟨q_5, hG⟩
  · clear hF
    have hr := Option.some.inj hG; subst hr
    exact hm
  · clear hF
    obtain ⟨x22, -, hF⟩ := bnd_g hG; clear hG
    rcases ite_s hF with ⟨q_6, hG⟩ | ⟨q_6, hG⟩
    · clear hF
      have hr := Option.some.inj hG; subst hr
      exact hm
    · clear hF
      obtain ⟨a24, e25, hF⟩ := rf_s hG; clear hG
      obtain ⟨x26, -, hG⟩ := bnd_g hF; clear hF
      obtain ⟨n27, q28, hF⟩ := ar_s hG; clear hG
      obtain ⟨q29, hG⟩ := ck_s hF; clear hF
      obtain ⟨H30, eH30, hF⟩ := bnd_g hG; clear hG
      replace hm : Sa H H30 := by rw [eH30]; exact hm
      obtain ⟨x31, -, hG⟩ := bnd_g hF; clear hF
      obtain ⟨H32, eH32, hF⟩ := bnd_g hG; clear hG
      replace hm : Sa H H32 := by rw [eH32]; exact hm
      have hr := Option.some.inj hF; subst hr
      exact hm
set_option maxRecDepth 20000 in
set_option maxHeartbeats 2000000 in
theorem k_Store_writeByte {N : Nat} {p0 : Nat} {p1 : Int32} {H : Hp} {r : Unit × Hp} (hF : F_Store_writeByte N p0 p1 H = some r) : ab_M y_Store_writeByte { frames := 0, cells := 0, slots := 0, locals := 0 } [.ref p0, .int p1] (hpw H) (po (.returned none) r.2) := by
  unfold F_Store_writeByte at hF
  refine ab_of2 (lv := [some (.ref p0), some (.int p1)]) 0 rfl rfl (Nat.le_of_ble_eq_true rfl) ?_
  refine ab_aload_n d_Store_writeByte_0 rfl rfl rfl ?_
  refine ab_bipush (v := 31) d_Store_writeByte_1 (by decide) ?_
  refine ab_aload_n d_Store_writeByte_3 rfl rfl rfl ?_
  obtain ⟨q1, hG⟩ := ck_s hF; clear hF
  refine hp_getI (f := 4) d_Store_writeByte_4 q1 (by decide) rfl (by decide) (k2 193 rfl rfl) rfl ?_
  refine ab_topi (fun x2 ex2 => ?_)
  replace hG := bnd_s ex2 hG
  refine ab_imul d_Store_writeByte_7 ?_
  refine ab_iload_n d_Store_writeByte_8 rfl rfl ?_
  refine ab_sipush (v := 255) d_Store_writeByte_9 (by decide) ?_
  refine ab_iand d_Store_writeByte_12 ?_
  refine ab_iadd d_Store_writeByte_13 ?_
  refine hp_putI (v := ((31 : Int32) * x2) + (p1 &&& (255 : Int32))) (f := 4) d_Store_writeByte_14 q1 (by decide) rfl (by decide) (k2 193 rfl rfl) rfl rfl (fun _ => rfl) (fun _ => rfl) rfl ?_
  refine hp_gen (fun H3 eH3 => ?_)
  replace hG := bnd_s eH3 hG
  have s_1 : Sa H H3 := by rw [eH3]; exact Sa.rf _
  refine ab_aload_n d_Store_writeByte_17 rfl rfl rfl ?_
  refine hp_getI (f := 3) d_Store_writeByte_18 (by rw [(s_1).1]; exact q1) (by decide) rfl (by decide) (k2 192 rfl rfl) rfl ?_
  refine ab_topi (fun x4 ex4 => ?_)
  replace hG := bnd_s ex4 hG
  refine ab_if_eq (tgt := 54) d_Store_writeByte_21 (by decide) (fun q5 => ?_) (fun q5 => ?_)
  · rw [if_pos q5] at hG
    exact ab_vret d_Store_writeByte_54 rfl (Nat.le_refl _) (Nat.le_refl _) (by have hr := Option.some.inj hG; subst hr; exact ⟨rfl, rfl⟩)
  · rw [if_neg q5] at hG
    refine ab_aload_n d_Store_writeByte_24 rfl rfl rfl ?_
    refine hp_getI (f := 1) d_Store_writeByte_25 (by rw [(s_1).1]; exact q1) (by decide) rfl (by decide) (k2 188 rfl rfl) rfl ?_
    refine ab_topi (fun x6 ex6 => ?_)
    replace hG := bnd_s ex6 hG
    refine ab_ldc d_Store_writeByte_28 (k2 185 rfl rfl) ?_
    refine ab_icmp_ge (tgt := 54) d_Store_writeByte_30 (by decide) (fun q7 => ?_) (fun q7 => ?_)
    · rw [if_pos q7] at hG
      exact ab_vret d_Store_writeByte_54 rfl (Nat.le_refl _) (Nat.le_refl _) (by have hr := Option.some.inj hG; subst hr; exact ⟨rfl, rfl⟩)
    · rw [if_neg q7] at hG
      refine ab_aload_n d_Store_writeByte_33 rfl rfl rfl ?_
      obtain ⟨a8, e9, hF⟩ := rf_s hG; clear hG
      refine hp_getR (f := 0) d_Store_writeByte_34 (by rw [(s_1).1]; exact q1) (by decide) rfl (by decide) (k2 186 rfl rfl) rfl e9 ?_
      refine ab_aload_n d_Store_writeByte_37 rfl rfl rfl ?_
      refine hp_getI (f := 1) d_Store_writeByte_38 (by rw [(s_1).1]; exact q1) (by decide) rfl (by decide) (k2 188 rfl rfl) rfl ?_
      refine ab_topi (fun x10 ex10 => ?_)
      replace hF := bnd_s ex10 hF
      refine ab_iload_n d_Store_writeByte_41 rfl rfl ?_
      refine ab_i2b d_Store_writeByte_42 ?_
      obtain ⟨n11, q12, hG⟩ := ar_s hF; clear hF
      rw [(s_1).1] at q12
      obtain ⟨q13, hF⟩ := ck_s hG; clear hG
      refine hp_bast d_Store_writeByte_43 tB (by rw [(s_1).1]; exact q12) q13 ?_
      refine hp_gen (fun H14 eH14 => ?_)
      replace hF := bnd_s eH14 hF
      have s_2 : Sa H H14 := by rw [eH14]; exact s_1
      refine ab_aload_n d_Store_writeByte_44 rfl rfl rfl ?_
      refine ab_dup d_Store_writeByte_45 rfl ?_
      refine hp_getI (f := 1) d_Store_writeByte_46 (by rw [(s_2).1]; exact q1) (by decide) rfl (by decide) (k2 188 rfl rfl) rfl ?_
      refine ab_topi (fun x15 ex15 => ?_)
      replace hF := bnd_s ex15 hF
      refine ab_iconst (v := 1) d_Store_writeByte_49 (by decide) ?_
      refine ab_iadd d_Store_writeByte_50 ?_
      refine hp_putI (v := x15 + (1 : Int32)) (f := 1) d_Store_writeByte_51 (by rw [(s_2).1]; exact q1) (by decide) rfl (by decide) (k2 188 rfl rfl) rfl rfl (fun _ => rfl) (fun _ => rfl) rfl ?_
      refine hp_gen (fun H16 eH16 => ?_)
      replace hF := bnd_s eH16 hF
      have s_3 : Sa H H16 := by rw [eH16]; exact s_2
      exact ab_vret d_Store_writeByte_54 rfl (Nat.le_refl _) (Nat.le_refl _) (by have hr := Option.some.inj hF; subst hr; exact ⟨rfl, rfl⟩)
def y_Store_writeShapes : ab_Y := (⟨"WorldEngine$Store", "writeShapes", "(LWorldEngine$Shapes;)V"⟩, prog_10_method_5_code, 4, none, [])
theorem d_Store_writeShapes_0 : decode y_Store_writeShapes.2.1 0 = .ok (.aload_n 0, 1) := by decide +kernel
theorem d_Store_writeShapes_1 : decode y_Store_writeShapes.2.1 1 = .ok (.aload_n 1, 1) := by decide +kernel
theorem d_Store_writeShapes_2 : decode y_Store_writeShapes.2.1 2 = .ok (.getfield 76, 3) := by decide +kernel
theorem d_Store_writeShapes_5 : decode y_Store_writeShapes.2.1 5 = .ok (.invokevirtual 27, 3) := by decide +kernel
theorem d_Store_writeShapes_8 : decode y_Store_writeShapes.2.1 8 = .ok (.iconst 0, 1) := by decide +kernel
theorem d_Store_writeShapes_9 : decode y_Store_writeShapes.2.1 9 = .ok (.istore_n 2, 1) := by decide +kernel
theorem d_Store_writeShapes_10 : decode y_Store_writeShapes.2.1 10 = .ok (.iload_n 2, 1) := by decide +kernel
theorem d_Store_writeShapes_11 : decode y_Store_writeShapes.2.1 11 = .ok (.aload_n 1, 1) := by decide +kernel
theorem d_Store_writeShapes_12 : decode y_Store_writeShapes.2.1 12 = .ok (.getfield 76, 3) := by decide +kernel
theorem d_Store_writeShapes_15 : decode y_Store_writeShapes.2.1 15 = .ok (.if_icmp .ge 56, 3) := by decide +kernel
theorem d_Store_writeShapes_18 : decode y_Store_writeShapes.2.1 18 = .ok (.aload_n 0, 1) := by decide +kernel
theorem d_Store_writeShapes_19 : decode y_Store_writeShapes.2.1 19 = .ok (.aload_n 1, 1) := by decide +kernel
theorem d_Store_writeShapes_20 : decode y_Store_writeShapes.2.1 20 = .ok (.iload_n 2, 1) := by decide +kernel
theorem d_Store_writeShapes_21 : decode y_Store_writeShapes.2.1 21 = .ok (.invokevirtual 81, 3) := by decide +kernel
theorem d_Store_writeShapes_24 : decode y_Store_writeShapes.2.1 24 = .ok (.invokevirtual 27, 3) := by decide +kernel
theorem d_Store_writeShapes_27 : decode y_Store_writeShapes.2.1 27 = .ok (.aload_n 1, 1) := by decide +kernel
theorem d_Store_writeShapes_28 : decode y_Store_writeShapes.2.1 28 = .ok (.getfield 85, 3) := by decide +kernel
theorem d_Store_writeShapes_31 : decode y_Store_writeShapes.2.1 31 = .ok (.iload_n 2, 1) := by decide +kernel
theorem d_Store_writeShapes_32 : decode y_Store_writeShapes.2.1 32 = .ok (.iaload, 1) := by decide +kernel
theorem d_Store_writeShapes_33 : decode y_Store_writeShapes.2.1 33 = .ok (.istore_n 3, 1) := by decide +kernel
theorem d_Store_writeShapes_34 : decode y_Store_writeShapes.2.1 34 = .ok (.iload_n 3, 1) := by decide +kernel
theorem d_Store_writeShapes_35 : decode y_Store_writeShapes.2.1 35 = .ok (.aload_n 1, 1) := by decide +kernel
theorem d_Store_writeShapes_36 : decode y_Store_writeShapes.2.1 36 = .ok (.getfield 85, 3) := by decide +kernel
theorem d_Store_writeShapes_39 : decode y_Store_writeShapes.2.1 39 = .ok (.iload_n 2, 1) := by decide +kernel
theorem d_Store_writeShapes_40 : decode y_Store_writeShapes.2.1 40 = .ok (.iconst 1, 1) := by decide +kernel
theorem d_Store_writeShapes_41 : decode y_Store_writeShapes.2.1 41 = .ok (.iadd, 1) := by decide +kernel
theorem d_Store_writeShapes_42 : decode y_Store_writeShapes.2.1 42 = .ok (.iaload, 1) := by decide +kernel
theorem d_Store_writeShapes_43 : decode y_Store_writeShapes.2.1 43 = .ok (.if_icmp .ge 22, 3) := by decide +kernel
theorem d_Store_writeShapes_46 : decode y_Store_writeShapes.2.1 46 = .ok (.aload_n 0, 1) := by decide +kernel
theorem d_Store_writeShapes_47 : decode y_Store_writeShapes.2.1 47 = .ok (.aload_n 1, 1) := by decide +kernel
theorem d_Store_writeShapes_48 : decode y_Store_writeShapes.2.1 48 = .ok (.getfield 88, 3) := by decide +kernel
theorem d_Store_writeShapes_51 : decode y_Store_writeShapes.2.1 51 = .ok (.iload_n 3, 1) := by decide +kernel
theorem d_Store_writeShapes_52 : decode y_Store_writeShapes.2.1 52 = .ok (.aaload, 1) := by decide +kernel
theorem d_Store_writeShapes_53 : decode y_Store_writeShapes.2.1 53 = .ok (.getfield 92, 3) := by decide +kernel
theorem d_Store_writeShapes_56 : decode y_Store_writeShapes.2.1 56 = .ok (.invokevirtual 27, 3) := by decide +kernel
theorem d_Store_writeShapes_59 : decode y_Store_writeShapes.2.1 59 = .ok (.iinc 3 1, 3) := by decide +kernel
theorem d_Store_writeShapes_62 : decode y_Store_writeShapes.2.1 62 = .ok (.goto (-28), 3) := by decide +kernel
theorem d_Store_writeShapes_65 : decode y_Store_writeShapes.2.1 65 = .ok (.iinc 2 1, 3) := by decide +kernel
theorem d_Store_writeShapes_68 : decode y_Store_writeShapes.2.1 68 = .ok (.goto (-58), 3) := by decide +kernel
theorem d_Store_writeShapes_71 : decode y_Store_writeShapes.2.1 71 = .ok (.return_, 1) := by decide +kernel
theorem s_Store_writeShapes : ab_Stat y_Store_writeShapes 1 := ⟨(k8 7 rfl rfl), (k1 14 rfl rfl), ⟨by decide, by decide⟩, by decide +kernel⟩
theorem i_Store_writeShapes : Cond.instanceMethod y_Store_writeShapes.1 ∈ ab_T := (k8 6 rfl rfl)
theorem v_Store_writeShapes : Cond.selects "WorldEngine$Store" y_Store_writeShapes.1 y_Store_writeShapes.1 ∈ ab_T := ab_s (List.mem_of_getElem? (i := 94) rfl) rfl
def B_Store_writeShapes_34 (N : Nat) (p0 : Nat) (p1 : Nat) (kq10 : Int32 → Hp → Option (Unit × Hp)) : Nat → Int32 → Int32 → Hp → Option (Unit × Hp)
  | 0, _, _, _ => none
  | n + 1, l2, l3, H =>
    ck (H.sh[p1]? = some (3, 0)) <|
    rf (H.P p1 2) fun a24 =>
    ar H 100 a24 fun n26 =>
    ck (inb (l2 + (1 : Int32)) n26) <|
    bnd ((H.D a24 ((l2 + (1 : Int32))).toNatClampNeg)) fun x29 =>
    if x29 ≤ l3 then
    kq10 (l2 + 1) H
    else
    rf (H.P p1 1) fun a31 =>
    ar H 106 a31 fun n33 =>
    ck (inb l3 n33) <|
    rf (H.P a31 (l3).toNatClampNeg) fun a36 =>
    ck (H.sh[a36]? = some (2, 0)) <|
    bnd ((H.D a36 3)) fun x39 =>
    ck (H.sh[p0]? = some (11, 0)) <|
    bC (F_Store_writeByte N p0 x39 H) fun v42 H43 =>
    B_Store_writeShapes_34 N p0 p1 kq10 n l2 (l3 + 1) H43
termination_by structural n => n
set_option maxRecDepth 20000 in
set_option maxHeartbeats 2000000 in
theorem mB_Store_writeShapes_34 {N : Nat} {p0 : Nat} {p1 : Nat} {kq10 : Int32 → Hp → Option (Unit × Hp)} (hm10 : ∀ (l2 : Int32) (H : Hp) (r : Unit × Hp), kq10 l2 H = some r → Sa H r.2) : ∀ (n : Nat) (l2 : Int32) (l3 : Int32) (H : Hp) (r : Unit × Hp), B_Store_writeShapes_34 N p0 p1 kq10 n l2 l3 H = some r → Sa H r.2 := by
  intro n
  induction n with
  | zero => intro l2 l3 H r hF; rw [B_Store_writeShapes_34] at hF; cases hF
  | succ n ih =>
    intro l2 l3 H r hF
    rw [B_Store_writeShapes_34] at hF
    have hm := Sa.rf H
    obtain ⟨q44, hG⟩ := ck_s hF; clear hF
    obtain ⟨a45, e46, hF⟩ := rf_s hG; clear hG
    obtain ⟨n47, q48, hG⟩ := ar_s hF; clear hF
    obtain ⟨q49, hF⟩ := ck_s hG; clear hG
    obtain ⟨x50, -, hG⟩ := bnd_g hF; clear hF
    rcases ite_s hG with ⟨q_5, hF⟩ | ⟨q_5, hF⟩
    · clear hG
      exact hm.tr (hm10 (l2 + 1) H r hF)
    · clear hG
      obtain ⟨a52, e53, hG⟩ := rf_s hF; clear hF
      obtain ⟨n54, q55, hF⟩ := ar_s hG; clear hG
      obtain ⟨q56, hG⟩ := ck_s hF; clear hF
      obtain ⟨a57, e58, hF⟩ := rf_s hG; clear hG
      obtain ⟨q59, hG⟩ := ck_s hF; clear hF
      obtain ⟨x60, -, hF⟩ := bnd_g hG; clear hG
      obtain ⟨q61, hG⟩ := ck_s hF; clear hF
      obtain ⟨v63, H64, z62, hF⟩ := bC_s hG; clear hG
      replace hm : Sa H H64 := hm.tr (m_Store_writeByte z62)
      exact hm.tr (ih l2 (l3 + 1) H64 r hF)
set_option maxRecDepth 20000 in
set_option maxHeartbeats 2000000 in
theorem kB_Store_writeShapes_34 {N : Nat} {p0 : Nat} {p1 : Nat} {kq10 : Int32 → Hp → Option (Unit × Hp)} (hm10 : ∀ (l2 : Int32) (H : Hp) (r : Unit × Hp), kq10 l2 H = some r → Sa H r.2) (hk10 : ∀ (l2 : Int32) (H : Hp) (r : Unit × Hp), kq10 l2 H = some r → ab_V y_Store_writeShapes { frames := 1, cells := 0, slots := 0, locals := 21 } (po (.returned none) r.2) 0 0 0 0 10 [some (.ref p0), some (.ref p1), some (.int l2), none] [] (hpw H)) : ∀ (n : Nat) (l2 : Int32) (l3 : Int32) (H : Hp) (r : Unit × Hp), B_Store_writeShapes_34 N p0 p1 kq10 n l2 l3 H = some r → ab_V y_Store_writeShapes { frames := 1, cells := 0, slots := 0, locals := 21 } (po (.returned none) r.2) 0 0 0 0 34 [some (.ref p0), some (.ref p1), some (.int l2), some (.int l3)] [] (hpw H) := by
  intro n
  induction n with
  | zero => intro l2 l3 H r hF; rw [B_Store_writeShapes_34] at hF; cases hF
  | succ n ih =>
    intro l2 l3 H r hF
    rw [B_Store_writeShapes_34] at hF
    refine ab_iload_n d_Store_writeShapes_34 rfl rfl ?_
    refine ab_aload_n d_Store_writeShapes_35 rfl rfl rfl ?_
    obtain ⟨q23, hG⟩ := ck_s hF; clear hF
    obtain ⟨a24, e25, hF⟩ := rf_s hG; clear hG
    refine hp_getR (f := 2) d_Store_writeShapes_36 q23 (by decide) rfl (by decide) (k3 33 rfl rfl) rfl e25 ?_
    refine ab_iload_n d_Store_writeShapes_39 rfl rfl ?_
    refine ab_iconst (v := 1) d_Store_writeShapes_40 (by decide) ?_
    refine ab_iadd d_Store_writeShapes_41 ?_
    obtain ⟨n26, q27, hG⟩ := ar_s hF; clear hF
    obtain ⟨q28, hF⟩ := ck_s hG; clear hG
    refine hp_iald d_Store_writeShapes_42 tI q27 q28 ?_
    refine ab_topi (fun x29 ex29 => ?_)
    replace hF := bnd_s ex29 hF
    refine ab_icmp_ge (tgt := 65) d_Store_writeShapes_43 (by decide) (fun q30 => ?_) (fun q30 => ?_)
    · rw [if_pos q30] at hF
      refine ab_iinc (v := l2 + 1) (lv' := [some (.ref p0), some (.ref p1), some (.int (l2 + 1)), some (.int l3)]) d_Store_writeShapes_65 rfl rfl (by decide) rfl ?_
      refine ab_goto (tgt := 10) d_Store_writeShapes_68 (by decide) ?_
      refine ab_le (lv' := [some (.ref p0), some (.ref p1), some (.int (l2 + 1)), none]) ⟨rfl, ⟨rfl, ⟨rfl, trivial⟩⟩⟩ ?_
      exact hk10 (l2 + 1) H r hF
    · rw [if_neg q30] at hF
      refine ab_aload_n d_Store_writeShapes_46 rfl rfl rfl ?_
      refine ab_aload_n d_Store_writeShapes_47 rfl rfl rfl ?_
      obtain ⟨a31, e32, hG⟩ := rf_s hF; clear hF
      refine hp_getR (f := 1) d_Store_writeShapes_48 q23 (by decide) rfl (by decide) (k3 26 rfl rfl) rfl e32 ?_
      refine ab_iload_n d_Store_writeShapes_51 rfl rfl ?_
      obtain ⟨n33, q34, hF⟩ := ar_s hG; clear hG
      obtain ⟨q35, hG⟩ := ck_s hF; clear hF
      obtain ⟨a36, e37, hF⟩ := rf_s hG; clear hG
      refine hp_aald (q := 106) d_Store_writeShapes_52 (by decide) tN q34 q35 e37 ?_
      obtain ⟨q38, hG⟩ := ck_s hF; clear hF
      refine hp_getI (f := 3) d_Store_writeShapes_53 q38 (by decide) rfl (by decide) (k2 239 rfl rfl) rfl ?_
      refine ab_topi (fun x39 ex39 => ?_)
      replace hG := bnd_s ex39 hG
      obtain ⟨q40, hF⟩ := ck_s hG; clear hG
      obtain ⟨v42, H43, z41, hG⟩ := bC_s hF; clear hF
      refine hp_callV_v (H1 := H43) (As := [.int x39]) (rest := []) d_Store_writeShapes_56 (k_Store_writeByte z41) (ab_mkC s_Store_writeByte (Nat.le_of_ble_eq_true rfl) (Nat.le_of_ble_eq_true rfl) (Nat.le_refl 0) (Nat.le_refl 0)) (k8 0 rfl rfl) i_Store_writeByte v_Store_writeByte q40 (by decide) rfl rfl (Nat.le_of_ble_eq_true rfl) ?_
      have s_4 : Sa H H43 := (m_Store_writeByte z41)
      refine ab_iinc (v := l3 + 1) (lv' := [some (.ref p0), some (.ref p1), some (.int l2), some (.int (l3 + 1))]) d_Store_writeShapes_59 rfl rfl (by decide) rfl ?_
      refine ab_goto (tgt := 34) d_Store_writeShapes_62 (by decide) ?_
      exact ih l2 (l3 + 1) H43 r hG
def B_Store_writeShapes_10 (N : Nat) (p0 : Nat) (p1 : Nat) : Nat → Int32 → Hp → Option (Unit × Hp)
  | 0, _, _ => none
  | n + 1, l2, H =>
    ck (H.sh[p1]? = some (3, 0)) <|
    bnd ((H.D p1 3)) fun x8 =>
    if x8 ≤ l2 then
    some ((), H)
    else
    bC (F_Shapes_sizeOf N p1 l2 H) fun v11 H12 =>
    ck (H12.sh[p0]? = some (11, 0)) <|
    bC (F_Store_writeByte N p0 v11 H12) fun v15 H16 =>
    rf (H16.P p1 2) fun a17 =>
    ar H16 100 a17 fun n19 =>
    ck (inb l2 n19) <|
    bnd ((H16.D a17 (l2).toNatClampNeg)) fun x22 =>
    B_Store_writeShapes_34 N p0 p1 (fun l2 H => B_Store_writeShapes_10 N p0 p1 n l2 H) N l2 x22 H16
termination_by structural n => n
set_option maxRecDepth 20000 in
set_option maxHeartbeats 2000000 in
theorem mB_Store_writeShapes_10 {N : Nat} {p0 : Nat} {p1 : Nat} : ∀ (n : Nat) (l2 : Int32) (H : Hp) (r : Unit × Hp), B_Store_writeShapes_10 N p0 p1 n l2 H = some r → Sa H r.2 := by
  intro n
  induction n with
  | zero => intro l2 H r hF; rw [B_Store_writeShapes_10] at hF; cases hF
  | succ n ih =>
    intro l2 H r hF
    rw [B_Store_writeShapes_10] at hF
    have hm := Sa.rf H
    obtain ⟨q65, hG⟩ := ck_s hF; clear hF
    obtain ⟨x66, -, hF⟩ := bnd_g hG; clear hG
    rcases ite_s hF with ⟨q_7, hG⟩ | ⟨q_7, hG⟩
    · clear hF
      have hr := Option.some.inj hG; subst hr
      exact hm
    · clear hF
      obtain ⟨v69, H70, z68, hF⟩ := bC_s hG; clear hG
      replace hm : Sa H H70 := hm.tr (m_Shapes_sizeOf z68)
      obtain ⟨q71, hG⟩ := ck_s hF; clear hF
      obtain ⟨v73, H74, z72, hF⟩ := bC_s hG; clear hG
      replace hm : Sa H H74 := hm.tr (m_Store_writeByte z72)
      obtain ⟨a75, e76, hG⟩ := rf_s hF; clear hF
      obtain ⟨n77, q78, hF⟩ := ar_s hG; clear hG
      obtain ⟨q79, hG⟩ := ck_s hF; clear hF
      obtain ⟨x80, -, hF⟩ := bnd_g hG; clear hG
      exact hm.tr (mB_Store_writeShapes_34 ih N l2 x80 H74 r hF)
set_option maxRecDepth 20000 in
set_option maxHeartbeats 2000000 in
theorem kB_Store_writeShapes_10 {N : Nat} {p0 : Nat} {p1 : Nat} : ∀ (n : Nat) (l2 : Int32) (H : Hp) (r : Unit × Hp), B_Store_writeShapes_10 N p0 p1 n l2 H = some r → ab_V y_Store_writeShapes { frames := 1, cells := 0, slots := 0, locals := 21 } (po (.returned none) r.2) 0 0 0 0 10 [some (.ref p0), some (.ref p1), some (.int l2), none] [] (hpw H) := by
  intro n
  induction n with
  | zero => intro l2 H r hF; rw [B_Store_writeShapes_10] at hF; cases hF
  | succ n ih =>
    intro l2 H r hF
    rw [B_Store_writeShapes_10] at hF
    refine ab_iload_n d_Store_writeShapes_10 rfl rfl ?_
    refine ab_aload_n d_Store_writeShapes_11 rfl rfl rfl ?_
    obtain ⟨q7, hG⟩ := ck_s hF; clear hF
    refine hp_getI (f := 3) d_Store_writeShapes_12 q7 (by decide) rfl (by decide) (k3 40 rfl rfl) rfl ?_
    refine ab_topi (fun x8 ex8 => ?_)
    replace hG := bnd_s ex8 hG
    refine ab_icmp_ge (tgt := 71) d_Store_writeShapes_15 (by decide) (fun q9 => ?_) (fun q9 => ?_)
    · rw [if_pos q9] at hG
      exact ab_vret d_Store_writeShapes_71 rfl (Nat.le_refl _) (Nat.le_refl _) (by have hr := Option.some.inj hG; subst hr; exact ⟨rfl, rfl⟩)
    · rw [if_neg q9] at hG
      refine ab_aload_n d_Store_writeShapes_18 rfl rfl rfl ?_
      refine ab_aload_n d_Store_writeShapes_19 rfl rfl rfl ?_
      refine ab_iload_n d_Store_writeShapes_20 rfl rfl ?_
      obtain ⟨v11, H12, z10, hF⟩ := bC_s hG; clear hG
      refine hp_callV_a (v := .int v11) (H1 := H12) (As := [.int l2]) (rest := [.ref p0]) d_Store_writeShapes_21 (k_Shapes_sizeOf z10) (ab_mkC s_Shapes_sizeOf (Nat.le_of_ble_eq_true rfl) (Nat.le_of_ble_eq_true rfl) (Nat.le_refl 0) (Nat.le_refl 0)) (k8 8 rfl rfl) i_Shapes_sizeOf v_Shapes_sizeOf q7 (by decide) rfl rfl (Nat.le_of_ble_eq_true rfl) ?_
      have s_2 : Sa H H12 := (m_Shapes_sizeOf z10)
      obtain ⟨q13, hG⟩ := ck_s hF; clear hF
      rw [(s_2).1] at q13
      obtain ⟨v15, H16, z14, hF⟩ := bC_s hG; clear hG
      refine hp_callV_v (H1 := H16) (As := [.int v11]) (rest := []) d_Store_writeShapes_24 (k_Store_writeByte z14) (ab_mkC s_Store_writeByte (Nat.le_of_ble_eq_true rfl) (Nat.le_of_ble_eq_true rfl) (Nat.le_refl 0) (Nat.le_refl 0)) (k8 0 rfl rfl) i_Store_writeByte v_Store_writeByte (by rw [(s_2).1]; exact q13) (by decide) rfl rfl (Nat.le_of_ble_eq_true rfl) ?_
      have s_3 : Sa H H16 := (s_2).tr (m_Store_writeByte z14)
      refine ab_aload_n d_Store_writeShapes_27 rfl rfl rfl ?_
      obtain ⟨a17, e18, hG⟩ := rf_s hF; clear hF
      refine hp_getR (f := 2) d_Store_writeShapes_28 (by rw [(s_3).1]; exact q7) (by decide) rfl (by decide) (k3 33 rfl rfl) rfl e18 ?_
      refine ab_iload_n d_Store_writeShapes_31 rfl rfl ?_
      obtain ⟨n19, q20, hF⟩ := ar_s hG; clear hG
      rw [(s_3).1] at q20
      obtain ⟨q21, hG⟩ := ck_s hF; clear hF
      refine hp_iald d_Store_writeShapes_32 tI (by rw [(s_3).1]; exact q20) q21 ?_
      refine ab_topi (fun x22 ex22 => ?_)
      replace hG := bnd_s ex22 hG
      refine ab_istore_n (lv' := [some (.ref p0), some (.ref p1), some (.int l2), some (.int x22)]) d_Store_writeShapes_33 rfl (by decide) rfl ?_
      exact kB_Store_writeShapes_34 (mB_Store_writeShapes_10 n) ih N l2 x22 H16 r hG
def F_Store_writeShapes (N : Nat) (p0 : Nat) (p1 : Nat) (H : Hp) : Option (Unit × Hp) :=
    ck (H.sh[p1]? = some (3, 0)) <|
    bnd ((H.D p1 3)) fun x2 =>
    ck (H.sh[p0]? = some (11, 0)) <|
    bC (F_Store_writeByte N p0 x2 H) fun v5 H6 =>
    B_Store_writeShapes_10 N p0 p1 N 0 H6
set_option maxRecDepth 20000 in
set_option maxHeartbeats 2000000 in
theorem m_Store_writeShapes {N : Nat} {p0 : Nat} {p1 : Nat} {H : Hp} {r : Unit × Hp} (hF : F_Store_writeShapes N p0 p1 H = some r) : Sa H r.2 := by
  unfold F_Store_writeShapes at hF
  have hm := Sa.rf H
  obtain ⟨q81, hG⟩ := ck_s hF; clear hF
  obtain ⟨x82, -, hF⟩ := bnd_g hG; clear hG
  obtain ⟨q83, hG⟩ := ck_s hF; clear hF
  obtain ⟨v85, H86, z84, hF⟩ := bC_s hG; clear hG
  replace hm : Sa H H86 := hm.tr (m_Store_writeByte z84)
  exact hm.tr (mB_Store_writeShapes_10 N 0 H86 r hF)
set_option maxRecDepth 20000 in
set_option maxHeartbeats 2000000 in
theorem k_Store_writeShapes {N : Nat} {p0 : Nat} {p1 : Nat} {H : Hp} {r : Unit × Hp} (hF : F_Store_writeShapes N p0 p1 H = some r) : ab_M y_Store_writeShapes { frames := 1, cells := 0, slots := 0, locals := 21 } [.ref p0, .ref p1] (hpw H) (po (.returned none) r.2) := by
  unfold F_Store_writeShapes at hF
  refine ab_of2 (lv := [some (.ref p0), some (.ref p1), none, none]) 2 rfl rfl (Nat.le_of_ble_eq_true rfl) ?_
  refine ab_aload_n d_Store_writeShapes_0 rfl rfl rfl ?_
  refine ab_aload_n d_Store_writeShapes_1 rfl rfl rfl ?_
  obtain ⟨q1, hG⟩ := ck_s hF; clear hF
  refine hp_getI (f := 3) d_Store_writeShapes_2 q1 (by decide) rfl (by decide) (k3 40 rfl rfl) rfl ?_
  refine ab_topi (fun x2 ex2 => ?_)
  replace hG := bnd_s ex2 hG
  obtain ⟨q3, hF⟩ := ck_s hG; clear hG
  obtain ⟨v5, H6, z4, hG⟩ := bC_s hF; clear hF
  refine hp_callV_v (H1 := H6) (As := [.int x2]) (rest := []) d_Store_writeShapes_5 (k_Store_writeByte z4) (ab_mkC s_Store_writeByte (Nat.le_of_ble_eq_true rfl) (Nat.le_of_ble_eq_true rfl) (Nat.le_refl 0) (Nat.le_refl 0)) (k8 0 rfl rfl) i_Store_writeByte v_Store_writeByte q3 (by decide) rfl rfl (Nat.le_of_ble_eq_true rfl) ?_
  have s_1 : Sa H H6 := (m_Store_writeByte z4)
  refine ab_iconst (v := 0) d_Store_writeShapes_8 (by decide) ?_
  refine ab_istore_n (lv' := [some (.ref p0), some (.ref p1), some (.int 0), none]) d_Store_writeShapes_9 rfl (by decide) rfl ?_
  exact kB_Store_writeShapes_10 N 0 H6 r hG
def y_Store_writeInt : ab_Y := (⟨"WorldEngine$Store", "writeInt", "(I)V"⟩, prog_10_method_4_code, 3, none, [])
theorem d_Store_writeInt_0 : decode y_Store_writeInt.2.1 0 = .ok (.bipush 24, 2) := by decide +kernel
theorem d_Store_writeInt_2 : decode y_Store_writeInt.2.1 2 = .ok (.istore_n 2, 1) := by decide +kernel
theorem d_Store_writeInt_3 : decode y_Store_writeInt.2.1 3 = .ok (.iload_n 2, 1) := by decide +kernel
theorem d_Store_writeInt_4 : decode y_Store_writeInt.2.1 4 = .ok (.ifCond .lt 16, 3) := by decide +kernel
theorem d_Store_writeInt_7 : decode y_Store_writeInt.2.1 7 = .ok (.aload_n 0, 1) := by decide +kernel
theorem d_Store_writeInt_8 : decode y_Store_writeInt.2.1 8 = .ok (.iload_n 1, 1) := by decide +kernel
theorem d_Store_writeInt_9 : decode y_Store_writeInt.2.1 9 = .ok (.iload_n 2, 1) := by decide +kernel
theorem d_Store_writeInt_10 : decode y_Store_writeInt.2.1 10 = .ok (.ishr, 1) := by decide +kernel
theorem d_Store_writeInt_11 : decode y_Store_writeInt.2.1 11 = .ok (.invokevirtual 27, 3) := by decide +kernel
theorem d_Store_writeInt_14 : decode y_Store_writeInt.2.1 14 = .ok (.iinc 2 (-8), 3) := by decide +kernel
theorem d_Store_writeInt_17 : decode y_Store_writeInt.2.1 17 = .ok (.goto (-14), 3) := by decide +kernel
theorem d_Store_writeInt_20 : decode y_Store_writeInt.2.1 20 = .ok (.return_, 1) := by decide +kernel
theorem s_Store_writeInt : ab_Stat y_Store_writeInt 1 := ⟨(k8 12 rfl rfl), (k1 14 rfl rfl), ⟨by decide, by decide⟩, by decide +kernel⟩
theorem i_Store_writeInt : Cond.instanceMethod y_Store_writeInt.1 ∈ ab_T := (k8 11 rfl rfl)
theorem v_Store_writeInt : Cond.selects "WorldEngine$Store" y_Store_writeInt.1 y_Store_writeInt.1 ∈ ab_T := ab_s (List.mem_of_getElem? (i := 95) rfl) rfl
def B_Store_writeInt_3 (N : Nat) (p0 : Nat) (p1 : Int32) : Nat → Int32 → Hp → Option (Unit × Hp)
  | 0, _, _ => none
  | n + 1, l2, H =>
    if l2 < (0 : Int32) then
    some ((), H)
    else
    ck (H.sh[p0]? = some (11, 0)) <|
    bC (F_Store_writeByte N p0 (p1 >>> (l2 &&& 31)) H) fun v4 H5 =>
    B_Store_writeInt_3 N p0 p1 n (l2 + (-8)) H5
termination_by structural n => n
set_option maxRecDepth 20000 in
set_option maxHeartbeats 2000000 in
theorem mB_Store_writeInt_3 {N : Nat} {p0 : Nat} {p1 : Int32} : ∀ (n : Nat) (l2 : Int32) (H : Hp) (r : Unit × Hp), B_Store_writeInt_3 N p0 p1 n l2 H = some r → Sa H r.2 := by
  intro n
  induction n with
  | zero => intro l2 H r hF; rw [B_Store_writeInt_3] at hF; cases hF
  | succ n ih =>
    intro l2 H r hF
    rw [B_Store_writeInt_3] at hF
    have hm := Sa.rf H
    rcases ite_s hF with ⟨q_2, hG⟩ | ⟨q_2, hG⟩
    · clear hF
      have hr := Option.some.inj hG; subst hr
      exact hm
    · clear hF
      obtain ⟨q7, hF⟩ := ck_s hG; clear hG
      obtain ⟨v9, H10, z8, hG⟩ := bC_s hF; clear hF
      replace hm : Sa H H10 := hm.tr (m_Store_writeByte z8)
      exact hm.tr (ih (l2 + (-8)) H10 r hG)
set_option maxRecDepth 20000 in
set_option maxHeartbeats 2000000 in
theorem kB_Store_writeInt_3 {N : Nat} {p0 : Nat} {p1 : Int32} : ∀ (n : Nat) (l2 : Int32) (H : Hp) (r : Unit × Hp), B_Store_writeInt_3 N p0 p1 n l2 H = some r → ab_V y_Store_writeInt { frames := 1, cells := 0, slots := 0, locals := 21 } (po (.returned none) r.2) 0 0 0 0 3 [some (.ref p0), some (.int p1), some (.int l2)] [] (hpw H) := by
  intro n
  induction n with
  | zero => intro l2 H r hF; rw [B_Store_writeInt_3] at hF; cases hF
  | succ n ih =>
    intro l2 H r hF
    rw [B_Store_writeInt_3] at hF
    refine ab_iload_n d_Store_writeInt_3 rfl rfl ?_
    refine ab_if_lt (tgt := 20) d_Store_writeInt_4 (by decide) (fun q1 => ?_) (fun q1 => ?_)
    · rw [if_pos q1] at hF
      exact ab_vret d_Store_writeInt_20 rfl (Nat.le_refl _) (Nat.le_refl _) (by have hr := Option.some.inj hF; subst hr; exact ⟨rfl, rfl⟩)
    · rw [if_neg q1] at hF
      refine ab_aload_n d_Store_writeInt_7 rfl rfl rfl ?_
      refine ab_iload_n d_Store_writeInt_8 rfl rfl ?_
      refine ab_iload_n d_Store_writeInt_9 rfl rfl ?_
      refine ab_ishr d_Store_writeInt_10 ?_
      obtain ⟨q2, hG⟩ := ck_s hF; clear hF
      obtain ⟨v4, H5, z3, hF⟩ := bC_s hG; clear hG
      refine hp_callV_v (H1 := H5) (As := [.int (p1 >>> (l2 &&& 31))]) (rest := []) d_Store_writeInt_11 (k_Store_writeByte z3) (ab_mkC s_Store_writeByte (Nat.le_of_ble_eq_true rfl) (Nat.le_of_ble_eq_true rfl) (Nat.le_refl 0) (Nat.le_refl 0)) (k8 0 rfl rfl) i_Store_writeByte v_Store_writeByte q2 (by decide) rfl rfl (Nat.le_of_ble_eq_true rfl) ?_
      have s_1 : Sa H H5 := (m_Store_writeByte z3)
      refine ab_iinc (v := l2 + (-8)) (lv' := [some (.ref p0), some (.int p1), some (.int (l2 + (-8)))]) d_Store_writeInt_14 rfl rfl (by decide) rfl ?_
      refine ab_goto (tgt := 3) d_Store_writeInt_17 (by decide) ?_
      exact ih (l2 + (-8)) H5 r hF
def F_Store_writeInt (N : Nat) (p0 : Nat) (p1 : Int32) (H : Hp) : Option (Unit × Hp) :=
    B_Store_writeInt_3 N p0 p1 N 24 H
set_option maxRecDepth 20000 in
set_option maxHeartbeats 2000000 in
theorem m_Store_writeInt {N : Nat} {p0 : Nat} {p1 : Int32} {H : Hp} {r : Unit × Hp} (hF : F_Store_writeInt N p0 p1 H = some r) : Sa H r.2 := by
  unfold F_Store_writeInt at hF
  have hm := Sa.rf H
  exact hm.tr (mB_Store_writeInt_3 N 24 H r hF)
set_option maxRecDepth 20000 in
set_option maxHeartbeats 2000000 in
theorem k_Store_writeInt {N : Nat} {p0 : Nat} {p1 : Int32} {H : Hp} {r : Unit × Hp} (hF : F_Store_writeInt N p0 p1 H = some r) : ab_M y_Store_writeInt { frames := 1, cells := 0, slots := 0, locals := 21 } [.ref p0, .int p1] (hpw H) (po (.returned none) r.2) := by
  unfold F_Store_writeInt at hF
  refine ab_of2 (lv := [some (.ref p0), some (.int p1), none]) 1 rfl rfl (Nat.le_of_ble_eq_true rfl) ?_
  refine ab_bipush (v := 24) d_Store_writeInt_0 (by decide) ?_
  refine ab_istore_n (lv' := [some (.ref p0), some (.int p1), some (.int 24)]) d_Store_writeInt_2 rfl (by decide) rfl ?_
  exact kB_Store_writeInt_3 N 24 H r hF
def y_Store_writeEntity : ab_Y := (⟨"WorldEngine$Store", "writeEntity", "(LWorldEngine$Shapes;LWorldEngine$World;I)V"⟩, prog_10_method_6_code, 6, none, [])
theorem d_Store_writeEntity_0 : decode y_Store_writeEntity.2.1 0 = .ok (.aload_n 0, 1) := by decide +kernel
theorem d_Store_writeEntity_1 : decode y_Store_writeEntity.2.1 1 = .ok (.aload_n 2, 1) := by decide +kernel
theorem d_Store_writeEntity_2 : decode y_Store_writeEntity.2.1 2 = .ok (.getfield 65, 3) := by decide +kernel
theorem d_Store_writeEntity_5 : decode y_Store_writeEntity.2.1 5 = .ok (.iload_n 3, 1) := by decide +kernel
theorem d_Store_writeEntity_6 : decode y_Store_writeEntity.2.1 6 = .ok (.iaload, 1) := by decide +kernel
theorem d_Store_writeEntity_7 : decode y_Store_writeEntity.2.1 7 = .ok (.bipush 8, 2) := by decide +kernel
theorem d_Store_writeEntity_9 : decode y_Store_writeEntity.2.1 9 = .ok (.ishr, 1) := by decide +kernel
theorem d_Store_writeEntity_10 : decode y_Store_writeEntity.2.1 10 = .ok (.invokevirtual 27, 3) := by decide +kernel
theorem d_Store_writeEntity_13 : decode y_Store_writeEntity.2.1 13 = .ok (.aload_n 0, 1) := by decide +kernel
theorem d_Store_writeEntity_14 : decode y_Store_writeEntity.2.1 14 = .ok (.aload_n 2, 1) := by decide +kernel
theorem d_Store_writeEntity_15 : decode y_Store_writeEntity.2.1 15 = .ok (.getfield 65, 3) := by decide +kernel
theorem d_Store_writeEntity_18 : decode y_Store_writeEntity.2.1 18 = .ok (.iload_n 3, 1) := by decide +kernel
theorem d_Store_writeEntity_19 : decode y_Store_writeEntity.2.1 19 = .ok (.iaload, 1) := by decide +kernel
theorem d_Store_writeEntity_20 : decode y_Store_writeEntity.2.1 20 = .ok (.invokevirtual 27, 3) := by decide +kernel
theorem d_Store_writeEntity_23 : decode y_Store_writeEntity.2.1 23 = .ok (.iconst 0, 1) := by decide +kernel
theorem d_Store_writeEntity_24 : decode y_Store_writeEntity.2.1 24 = .ok (.istore 4, 2) := by decide +kernel
theorem d_Store_writeEntity_26 : decode y_Store_writeEntity.2.1 26 = .ok (.iload 4, 2) := by decide +kernel
theorem d_Store_writeEntity_28 : decode y_Store_writeEntity.2.1 28 = .ok (.aload_n 1, 1) := by decide +kernel
theorem d_Store_writeEntity_29 : decode y_Store_writeEntity.2.1 29 = .ok (.getfield 76, 3) := by decide +kernel
theorem d_Store_writeEntity_32 : decode y_Store_writeEntity.2.1 32 = .ok (.if_icmp .ge 59, 3) := by decide +kernel
theorem d_Store_writeEntity_35 : decode y_Store_writeEntity.2.1 35 = .ok (.aload_n 2, 1) := by decide +kernel
theorem d_Store_writeEntity_36 : decode y_Store_writeEntity.2.1 36 = .ok (.iload_n 3, 1) := by decide +kernel
theorem d_Store_writeEntity_37 : decode y_Store_writeEntity.2.1 37 = .ok (.iload 4, 2) := by decide +kernel
theorem d_Store_writeEntity_39 : decode y_Store_writeEntity.2.1 39 = .ok (.invokevirtual 97, 3) := by decide +kernel
theorem d_Store_writeEntity_42 : decode y_Store_writeEntity.2.1 42 = .ok (.ifCond .eq 43, 3) := by decide +kernel
theorem d_Store_writeEntity_45 : decode y_Store_writeEntity.2.1 45 = .ok (.aload_n 1, 1) := by decide +kernel
theorem d_Store_writeEntity_46 : decode y_Store_writeEntity.2.1 46 = .ok (.getfield 85, 3) := by decide +kernel
theorem d_Store_writeEntity_49 : decode y_Store_writeEntity.2.1 49 = .ok (.iload 4, 2) := by decide +kernel
theorem d_Store_writeEntity_51 : decode y_Store_writeEntity.2.1 51 = .ok (.iaload, 1) := by decide +kernel
theorem d_Store_writeEntity_52 : decode y_Store_writeEntity.2.1 52 = .ok (.istore 5, 2) := by decide +kernel
theorem d_Store_writeEntity_54 : decode y_Store_writeEntity.2.1 54 = .ok (.iload 5, 2) := by decide +kernel
theorem d_Store_writeEntity_56 : decode y_Store_writeEntity.2.1 56 = .ok (.aload_n 1, 1) := by decide +kernel
theorem d_Store_writeEntity_57 : decode y_Store_writeEntity.2.1 57 = .ok (.getfield 85, 3) := by decide +kernel
theorem d_Store_writeEntity_60 : decode y_Store_writeEntity.2.1 60 = .ok (.iload 4, 2) := by decide +kernel
theorem d_Store_writeEntity_62 : decode y_Store_writeEntity.2.1 62 = .ok (.iconst 1, 1) := by decide +kernel
theorem d_Store_writeEntity_63 : decode y_Store_writeEntity.2.1 63 = .ok (.iadd, 1) := by decide +kernel
theorem d_Store_writeEntity_64 : decode y_Store_writeEntity.2.1 64 = .ok (.iaload, 1) := by decide +kernel
theorem d_Store_writeEntity_65 : decode y_Store_writeEntity.2.1 65 = .ok (.if_icmp .ge 20, 3) := by decide +kernel
theorem d_Store_writeEntity_68 : decode y_Store_writeEntity.2.1 68 = .ok (.aload_n 0, 1) := by decide +kernel
theorem d_Store_writeEntity_69 : decode y_Store_writeEntity.2.1 69 = .ok (.aload_n 2, 1) := by decide +kernel
theorem d_Store_writeEntity_70 : decode y_Store_writeEntity.2.1 70 = .ok (.iload_n 3, 1) := by decide +kernel
theorem d_Store_writeEntity_71 : decode y_Store_writeEntity.2.1 71 = .ok (.iload 5, 2) := by decide +kernel
theorem d_Store_writeEntity_73 : decode y_Store_writeEntity.2.1 73 = .ok (.invokevirtual 101, 3) := by decide +kernel
theorem d_Store_writeEntity_76 : decode y_Store_writeEntity.2.1 76 = .ok (.invokevirtual 49, 3) := by decide +kernel
theorem d_Store_writeEntity_79 : decode y_Store_writeEntity.2.1 79 = .ok (.iinc 5 1, 3) := by decide +kernel
theorem d_Store_writeEntity_82 : decode y_Store_writeEntity.2.1 82 = .ok (.goto (-28), 3) := by decide +kernel
theorem d_Store_writeEntity_85 : decode y_Store_writeEntity.2.1 85 = .ok (.iinc 4 1, 3) := by decide +kernel
theorem d_Store_writeEntity_88 : decode y_Store_writeEntity.2.1 88 = .ok (.goto (-62), 3) := by decide +kernel
theorem d_Store_writeEntity_91 : decode y_Store_writeEntity.2.1 91 = .ok (.return_, 1) := by decide +kernel
theorem s_Store_writeEntity : ab_Stat y_Store_writeEntity 3 := ⟨(k8 16 rfl rfl), (k1 14 rfl rfl), ⟨by decide, by decide⟩, by decide +kernel⟩
theorem i_Store_writeEntity : Cond.instanceMethod y_Store_writeEntity.1 ∈ ab_T := (k8 15 rfl rfl)
theorem v_Store_writeEntity : Cond.selects "WorldEngine$Store" y_Store_writeEntity.1 y_Store_writeEntity.1 ∈ ab_T := ab_s (List.mem_of_getElem? (i := 96) rfl) rfl
def B_Store_writeEntity_85 (N : Nat) (p0 : Nat) (p1 : Nat) (p2 : Nat) (p3 : Int32) (kq26 : Int32 → Hp → Option (Unit × Hp)) (l4 : Int32) (H : Hp) : Option (Unit × Hp) :=
    kq26 (l4 + 1) H
set_option maxRecDepth 20000 in
set_option maxHeartbeats 2000000 in
theorem mB_Store_writeEntity_85 {N : Nat} {p0 : Nat} {p1 : Nat} {p2 : Nat} {p3 : Int32} {kq26 : Int32 → Hp → Option (Unit × Hp)} (hm26 : ∀ (l4 : Int32) (H : Hp) (r : Unit × Hp), kq26 l4 H = some r → Sa H r.2) {l4 : Int32} {H : Hp} {r : Unit × Hp} (hF : B_Store_writeEntity_85 N p0 p1 p2 p3 kq26 l4 H = some r) : Sa H r.2 := by
  unfold B_Store_writeEntity_85 at hF
  have hm := Sa.rf H
  exact hm.tr (hm26 (l4 + 1) H r hF)
set_option maxRecDepth 20000 in
set_option maxHeartbeats 2000000 in
theorem kB_Store_writeEntity_85 {N : Nat} {p0 : Nat} {p1 : Nat} {p2 : Nat} {p3 : Int32} {kq26 : Int32 → Hp → Option (Unit × Hp)} (hm26 : ∀ (l4 : Int32) (H : Hp) (r : Unit × Hp), kq26 l4 H = some r → Sa H r.2) (hk26 : ∀ (l4 : Int32) (H : Hp) (r : Unit × Hp), kq26 l4 H = some r → ab_V y_Store_writeEntity { frames := 2, cells := 0, slots := 0, locals := 43 } (po (.returned none) r.2) 0 0 0 0 26 [some (.ref p0), some (.ref p1), some (.ref p2), some (.int p3), some (.int l4), none] [] (hpw H)) {l4 : Int32} {H : Hp} {r : Unit × Hp} (hF : B_Store_writeEntity_85 N p0 p1 p2 p3 kq26 l4 H = some r) : ab_V y_Store_writeEntity { frames := 2, cells := 0, slots := 0, locals := 43 } (po (.returned none) r.2) 0 0 0 0 85 [some (.ref p0), some (.ref p1), some (.ref p2), some (.int p3), some (.int l4), none] [] (hpw H) := by
  unfold B_Store_writeEntity_85 at hF
  refine ab_iinc (v := l4 + 1) (lv' := [some (.ref p0), some (.ref p1), some (.ref p2), some (.int p3), some (.int (l4 + 1)), none]) d_Store_writeEntity_85 rfl rfl (by decide) rfl ?_
  refine ab_goto (tgt := 26) d_Store_writeEntity_88 (by decide) ?_
  exact hk26 (l4 + 1) H r hF
def B_Store_writeEntity_54 (N : Nat) (p0 : Nat) (p1 : Nat) (p2 : Nat) (p3 : Int32) (kq26 : Int32 → Hp → Option (Unit × Hp)) : Nat → Int32 → Int32 → Hp → Option (Unit × Hp)
  | 0, _, _, _ => none
  | n + 1, l4, l5, H =>
    ck (H.sh[p1]? = some (3, 0)) <|
    rf (H.P p1 2) fun a36 =>
    ar H 100 a36 fun n38 =>
    ck (inb (l4 + (1 : Int32)) n38) <|
    bnd ((H.D a36 ((l4 + (1 : Int32))).toNatClampNeg)) fun x41 =>
    if x41 ≤ l5 then
    B_Store_writeEntity_85 N p0 p1 p2 p3 kq26 l4 H
    else
    ck (H.sh[p2]? = some (7, 0)) <|
    bC (F_World_read N p2 p3 l5 H) fun v45 H46 =>
    ck (H46.sh[p0]? = some (11, 0)) <|
    bC (F_Store_writeInt N p0 v45 H46) fun v49 H50 =>
    B_Store_writeEntity_54 N p0 p1 p2 p3 kq26 n l4 (l5 + 1) H50
termination_by structural n => n
set_option maxRecDepth 20000 in
set_option maxHeartbeats 2000000 in
theorem mB_Store_writeEntity_54 {N : Nat} {p0 : Nat} {p1 : Nat} {p2 : Nat} {p3 : Int32} {kq26 : Int32 → Hp → Option (Unit × Hp)} (hm26 : ∀ (l4 : Int32) (H : Hp) (r : Unit × Hp), kq26 l4 H = some r → Sa H r.2) : ∀ (n : Nat) (l4 : Int32) (l5 : Int32) (H : Hp) (r : Unit × Hp), B_Store_writeEntity_54 N p0 p1 p2 p3 kq26 n l4 l5 H = some r → Sa H r.2 := by
  intro n
  induction n with
  | zero => intro l4 l5 H r hF; rw [B_Store_writeEntity_54] at hF; cases hF
  | succ n ih =>
    intro l4 l5 H r hF
    rw [B_Store_writeEntity_54] at hF
    have hm := Sa.rf H
    obtain ⟨q51, hG⟩ := ck_s hF; clear hF
    obtain ⟨a52, e53, hF⟩ := rf_s hG; clear hG
    obtain ⟨n54, q55, hG⟩ := ar_s hF; clear hF
    obtain ⟨q56, hF⟩ := ck_s hG; clear hG
    obtain ⟨x57, -, hG⟩ := bnd_g hF; clear hF
    rcases ite_s hG with ⟨q_6, hF⟩ | ⟨q_6, hF⟩
    · clear hG
      exact hm.tr (mB_Store_writeEntity_85 hm26 hF)
    · clear hG
      obtain ⟨q59, hG⟩ := ck_s hF; clear hF
      obtain ⟨v61, H62, z60, hF⟩ := bC_s hG; clear hG
      replace hm : Sa H H62 := hm.tr (m_World_read z60)
      obtain ⟨q63, hG⟩ := ck_s hF; clear hF
      obtain ⟨v65, H66, z64, hF⟩ := bC_s hG; clear hG
      replace hm : Sa H H66 := hm.tr (m_Store_writeInt z64)
      exact hm.tr (ih l4 (l5 + 1) H66 r hF)
set_option maxRecDepth 20000 in
set_option maxHeartbeats 2000000 in
theorem kB_Store_writeEntity_54 {N : Nat} {p0 : Nat} {p1 : Nat} {p2 : Nat} {p3 : Int32} {kq26 : Int32 → Hp → Option (Unit × Hp)} (hm26 : ∀ (l4 : Int32) (H : Hp) (r : Unit × Hp), kq26 l4 H = some r → Sa H r.2) (hk26 : ∀ (l4 : Int32) (H : Hp) (r : Unit × Hp), kq26 l4 H = some r → ab_V y_Store_writeEntity { frames := 2, cells := 0, slots := 0, locals := 43 } (po (.returned none) r.2) 0 0 0 0 26 [some (.ref p0), some (.ref p1), some (.ref p2), some (.int p3), some (.int l4), none] [] (hpw H)) : ∀ (n : Nat) (l4 : Int32) (l5 : Int32) (H : Hp) (r : Unit × Hp), B_Store_writeEntity_54 N p0 p1 p2 p3 kq26 n l4 l5 H = some r → ab_V y_Store_writeEntity { frames := 2, cells := 0, slots := 0, locals := 43 } (po (.returned none) r.2) 0 0 0 0 54 [some (.ref p0), some (.ref p1), some (.ref p2), some (.int p3), some (.int l4), some (.int l5)] [] (hpw H) := by
  intro n
  induction n with
  | zero => intro l4 l5 H r hF; rw [B_Store_writeEntity_54] at hF; cases hF
  | succ n ih =>
    intro l4 l5 H r hF
    rw [B_Store_writeEntity_54] at hF
    refine ab_iload d_Store_writeEntity_54 rfl ?_
    refine ab_aload_n d_Store_writeEntity_56 rfl rfl rfl ?_
    obtain ⟨q35, hG⟩ := ck_s hF; clear hF
    obtain ⟨a36, e37, hF⟩ := rf_s hG; clear hG
    refine hp_getR (f := 2) d_Store_writeEntity_57 q35 (by decide) rfl (by decide) (k3 33 rfl rfl) rfl e37 ?_
    refine ab_iload d_Store_writeEntity_60 rfl ?_
    refine ab_iconst (v := 1) d_Store_writeEntity_62 (by decide) ?_
    refine ab_iadd d_Store_writeEntity_63 ?_
    obtain ⟨n38, q39, hG⟩ := ar_s hF; clear hF
    obtain ⟨q40, hF⟩ := ck_s hG; clear hG
    refine hp_iald d_Store_writeEntity_64 tI q39 q40 ?_
    refine ab_topi (fun x41 ex41 => ?_)
    replace hF := bnd_s ex41 hF
    refine ab_icmp_ge (tgt := 85) d_Store_writeEntity_65 (by decide) (fun q42 => ?_) (fun q42 => ?_)
    · rw [if_pos q42] at hF
      refine ab_le (lv' := [some (.ref p0), some (.ref p1), some (.ref p2), some (.int p3), some (.int l4), none]) ⟨rfl, ⟨rfl, ⟨rfl, ⟨rfl, ⟨rfl, trivial⟩⟩⟩⟩⟩ ?_
      exact kB_Store_writeEntity_85 hm26 hk26 hF
    · rw [if_neg q42] at hF
      refine ab_aload_n d_Store_writeEntity_68 rfl rfl rfl ?_
      refine ab_aload_n d_Store_writeEntity_69 rfl rfl rfl ?_
      refine ab_iload_n d_Store_writeEntity_70 rfl rfl ?_
      refine ab_iload d_Store_writeEntity_71 rfl ?_
      obtain ⟨q43, hG⟩ := ck_s hF; clear hF
      obtain ⟨v45, H46, z44, hF⟩ := bC_s hG; clear hG
      refine hp_callV_a (v := .int v45) (H1 := H46) (As := [.int p3, .int l5]) (rest := [.ref p0]) d_Store_writeEntity_73 (k_World_read z44) (ab_mkC s_World_read (Nat.le_of_ble_eq_true rfl) (Nat.le_of_ble_eq_true rfl) (Nat.le_refl 0) (Nat.le_refl 0)) (k8 18 rfl rfl) i_World_read v_World_read q43 (by decide) rfl rfl (Nat.le_of_ble_eq_true rfl) ?_
      have s_4 : Sa H H46 := (m_World_read z44)
      obtain ⟨q47, hG⟩ := ck_s hF; clear hF
      rw [(s_4).1] at q47
      obtain ⟨v49, H50, z48, hF⟩ := bC_s hG; clear hG
      refine hp_callV_v (H1 := H50) (As := [.int v45]) (rest := []) d_Store_writeEntity_76 (k_Store_writeInt z48) (ab_mkC s_Store_writeInt (Nat.le_of_ble_eq_true rfl) (Nat.le_of_ble_eq_true rfl) (Nat.le_refl 0) (Nat.le_refl 0)) (k8 9 rfl rfl) i_Store_writeInt v_Store_writeInt (by rw [(s_4).1]; exact q47) (by decide) rfl rfl (Nat.le_of_ble_eq_true rfl) ?_
      have s_5 : Sa H H50 := (s_4).tr (m_Store_writeInt z48)
      refine ab_iinc (v := l5 + 1) (lv' := [some (.ref p0), some (.ref p1), some (.ref p2), some (.int p3), some (.int l4), some (.int (l5 + 1))]) d_Store_writeEntity_79 rfl rfl (by decide) rfl ?_
      refine ab_goto (tgt := 54) d_Store_writeEntity_82 (by decide) ?_
      exact ih l4 (l5 + 1) H50 r hF
def B_Store_writeEntity_26 (N : Nat) (p0 : Nat) (p1 : Nat) (p2 : Nat) (p3 : Int32) : Nat → Int32 → Hp → Option (Unit × Hp)
  | 0, _, _ => none
  | n + 1, l4, H =>
    ck (H.sh[p1]? = some (3, 0)) <|
    bnd ((H.D p1 3)) fun x22 =>
    if x22 ≤ l4 then
    some ((), H)
    else
    ck (H.sh[p2]? = some (7, 0)) <|
    bC (F_World_owns N p2 p3 l4 H) fun v26 H27 =>
    if v26 = (0 : Int32) then
    B_Store_writeEntity_85 N p0 p1 p2 p3 (fun l4 H => B_Store_writeEntity_26 N p0 p1 p2 p3 n l4 H) l4 H27
    else
    rf (H27.P p1 2) fun a29 =>
    ar H27 100 a29 fun n31 =>
    ck (inb l4 n31) <|
    bnd ((H27.D a29 (l4).toNatClampNeg)) fun x34 =>
    B_Store_writeEntity_54 N p0 p1 p2 p3 (fun l4 H => B_Store_writeEntity_26 N p0 p1 p2 p3 n l4 H) N l4 x34 H27
termination_by structural n => n
set_option maxRecDepth 20000 in
set_option maxHeartbeats 2000000 in
theorem mB_Store_writeEntity_26 {N : Nat} {p0 : Nat} {p1 : Nat} {p2 : Nat} {p3 : Int32} : ∀ (n : Nat) (l4 : Int32) (H : Hp) (r : Unit × Hp), B_Store_writeEntity_26 N p0 p1 p2 p3 n l4 H = some r → Sa H r.2 := by
  intro n
  induction n with
  | zero => intro l4 H r hF; rw [B_Store_writeEntity_26] at hF; cases hF
  | succ n ih =>
    intro l4 H r hF
    rw [B_Store_writeEntity_26] at hF
    have hm := Sa.rf H
    obtain ⟨q67, hG⟩ := ck_s hF; clear hF
    obtain ⟨x68, -, hF⟩ := bnd_g hG; clear hG
    rcases ite_s hF with ⟨q_9, hG⟩ | ⟨q_9, hG⟩
    · clear hF
      have hr := Option.some.inj hG; subst hr
      exact hm
    · clear hF
      obtain ⟨q70, hF⟩ := ck_s hG; clear hG
      obtain ⟨v72, H73, z71, hG⟩ := bC_s hF; clear hF
      replace hm : Sa H H73 := hm.tr (m_World_owns z71)
      rcases ite_s hG with ⟨q_11, hF⟩ | ⟨q_11, hF⟩
      · clear hG
        exact hm.tr (mB_Store_writeEntity_85 ih hF)
      · clear hG
        obtain ⟨a75, e76, hG⟩ := rf_s hF; clear hF
        obtain ⟨n77, q78, hF⟩ := ar_s hG; clear hG
        obtain ⟨q79, hG⟩ := ck_s hF; clear hF
        obtain ⟨x80, -, hF⟩ := bnd_g hG; clear hG
        exact hm.tr (mB_Store_writeEntity_54 ih N l4 x80 H73 r hF)
set_option maxRecDepth 20000 in
set_option maxHeartbeats 2000000 in
theorem kB_Store_writeEntity_26 {N : Nat} {p0 : Nat} {p1 : Nat} {p2 : Nat} {p3 : Int32} : ∀ (n : Nat) (l4 : Int32) (H : Hp) (r : Unit × Hp), B_Store_writeEntity_26 N p0 p1 p2 p3 n l4 H = some r → ab_V y_Store_writeEntity { frames := 2, cells := 0, slots := 0, locals := 43 } (po (.returned none) r.2) 0 0 0 0 26 [some (.ref p0), some (.ref p1), some (.ref p2), some (.int p3), some (.int l4), none] [] (hpw H) := by
  intro n
  induction n with
  | zero => intro l4 H r hF; rw [B_Store_writeEntity_26] at hF; cases hF
  | succ n ih =>
    intro l4 H r hF
    rw [B_Store_writeEntity_26] at hF
    refine ab_iload d_Store_writeEntity_26 rfl ?_
    refine ab_aload_n d_Store_writeEntity_28 rfl rfl rfl ?_
    obtain ⟨q21, hG⟩ := ck_s hF; clear hF
    refine hp_getI (f := 3) d_Store_writeEntity_29 q21 (by decide) rfl (by decide) (k3 40 rfl rfl) rfl ?_
    refine ab_topi (fun x22 ex22 => ?_)
    replace hG := bnd_s ex22 hG
    refine ab_icmp_ge (tgt := 91) d_Store_writeEntity_32 (by decide) (fun q23 => ?_) (fun q23 => ?_)
    · rw [if_pos q23] at hG
      exact ab_vret d_Store_writeEntity_91 rfl (Nat.le_refl _) (Nat.le_refl _) (by have hr := Option.some.inj hG; subst hr; exact ⟨rfl, rfl⟩)
    · rw [if_neg q23] at hG
      refine ab_aload_n d_Store_writeEntity_35 rfl rfl rfl ?_
      refine ab_iload_n d_Store_writeEntity_36 rfl rfl ?_
      refine ab_iload d_Store_writeEntity_37 rfl ?_
      obtain ⟨q24, hF⟩ := ck_s hG; clear hG
      obtain ⟨v26, H27, z25, hG⟩ := bC_s hF; clear hF
      refine hp_callV_a (v := .int v26) (H1 := H27) (As := [.int p3, .int l4]) (rest := []) d_Store_writeEntity_39 (k_World_owns z25) (ab_mkC s_World_owns (Nat.le_of_ble_eq_true rfl) (Nat.le_of_ble_eq_true rfl) (Nat.le_refl 0) (Nat.le_refl 0)) (k8 17 rfl rfl) i_World_owns v_World_owns q24 (by decide) rfl rfl (Nat.le_of_ble_eq_true rfl) ?_
      have s_3 : Sa H H27 := (m_World_owns z25)
      refine ab_if_eq (tgt := 85) d_Store_writeEntity_42 (by decide) (fun q28 => ?_) (fun q28 => ?_)
      · rw [if_pos q28] at hG
        exact kB_Store_writeEntity_85 (mB_Store_writeEntity_26 n) ih hG
      · rw [if_neg q28] at hG
        refine ab_aload_n d_Store_writeEntity_45 rfl rfl rfl ?_
        obtain ⟨a29, e30, hF⟩ := rf_s hG; clear hG
        refine hp_getR (f := 2) d_Store_writeEntity_46 (by rw [(s_3).1]; exact q21) (by decide) rfl (by decide) (k3 33 rfl rfl) rfl e30 ?_
        refine ab_iload d_Store_writeEntity_49 rfl ?_
        obtain ⟨n31, q32, hG⟩ := ar_s hF; clear hF
        rw [(s_3).1] at q32
        obtain ⟨q33, hF⟩ := ck_s hG; clear hG
        refine hp_iald d_Store_writeEntity_51 tI (by rw [(s_3).1]; exact q32) q33 ?_
        refine ab_topi (fun x34 ex34 => ?_)
        replace hF := bnd_s ex34 hF
        refine ab_istore (lv' := [some (.ref p0), some (.ref p1), some (.ref p2), some (.int p3), some (.int l4), some (.int x34)]) d_Store_writeEntity_52 (by decide) rfl ?_
        exact kB_Store_writeEntity_54 (mB_Store_writeEntity_26 n) ih N l4 x34 H27 r hF
def F_Store_writeEntity (N : Nat) (p0 : Nat) (p1 : Nat) (p2 : Nat) (p3 : Int32) (H : Hp) : Option (Unit × Hp) :=
    ck (H.sh[p2]? = some (7, 0)) <|
    rf (H.P p2 8) fun a2 =>
    ar H 100 a2 fun n4 =>
    ck (inb p3 n4) <|
    bnd ((H.D a2 (p3).toNatClampNeg)) fun x7 =>
    ck (H.sh[p0]? = some (11, 0)) <|
    bC (F_Store_writeByte N p0 (x7 >>> ((8 : Int32) &&& 31)) H) fun v10 H11 =>
    rf (H11.P p2 8) fun a12 =>
    ar H11 100 a12 fun n14 =>
    ck (inb p3 n14) <|
    bnd ((H11.D a12 (p3).toNatClampNeg)) fun x17 =>
    bC (F_Store_writeByte N p0 x17 H11) fun v19 H20 =>
    B_Store_writeEntity_26 N p0 p1 p2 p3 N 0 H20
set_option maxRecDepth 20000 in
set_option maxHeartbeats 2000000 in
theorem m_Store_writeEntity {N : Nat} {p0 : Nat} {p1 : Nat} {p2 : Nat} {p3 : Int32} {H : Hp} {r : Unit × Hp} (hF : F_Store_writeEntity N p0 p1 p2 p3 H = some r) : Sa H r.2 := by
  unfold F_Store_writeEntity at hF
  have hm := Sa.rf H
  obtain ⟨q81, hG⟩ := ck_s hF; clear hF
  obtain ⟨a82, e83, hF⟩ := rf_s hG; clear hG
  obtain ⟨n84, q85, hG⟩ := ar_s hF; clear hF
  obtain ⟨q86, hF⟩ := ck_s hG; clear hG
  obtain ⟨x87, -, hG⟩ := bnd_g hF; clear hF
  obtain ⟨q88, hF⟩ := ck_s hG; clear hG
  obtain ⟨v90, H91, z89, hG⟩ := bC_s hF; clear hF
  replace hm : Sa H H91 := hm.tr (m_Store_writeByte z89)
  obtain ⟨a92, e93, hF⟩ := rf_s hG; clear hG
  obtain ⟨n94, q95, hG⟩ := ar_s hF; clear hF
  obtain ⟨q96, hF⟩ := ck_s hG; clear hG
  obtain ⟨x97, -, hG⟩ := bnd_g hF; clear hF
  obtain ⟨v99, H100, z98, hF⟩ := bC_s hG; clear hG
  replace hm : Sa H H100 := hm.tr (m_Store_writeByte z98)
  exact hm.tr (mB_Store_writeEntity_26 N 0 H100 r hF)
set_option maxRecDepth 20000 in
set_option maxHeartbeats 2000000 in
theorem k_Store_writeEntity {N : Nat} {p0 : Nat} {p1 : Nat} {p2 : Nat} {p3 : Int32} {H : Hp} {r : Unit × Hp} (hF : F_Store_writeEntity N p0 p1 p2 p3 H = some r) : ab_M y_Store_writeEntity { frames := 2, cells := 0, slots := 0, locals := 43 } [.ref p0, .ref p1, .ref p2, .int p3] (hpw H) (po (.returned none) r.2) := by
  unfold F_Store_writeEntity at hF
  refine ab_of2 (lv := [some (.ref p0), some (.ref p1), some (.ref p2), some (.int p3), none, none]) 2 rfl rfl (Nat.le_of_ble_eq_true rfl) ?_
  refine ab_aload_n d_Store_writeEntity_0 rfl rfl rfl ?_
  refine ab_aload_n d_Store_writeEntity_1 rfl rfl rfl ?_
  obtain ⟨q1, hG⟩ := ck_s hF; clear hF
  obtain ⟨a2, e3, hF⟩ := rf_s hG; clear hG
  refine hp_getR (f := 8) d_Store_writeEntity_2 q1 (by decide) rfl (by decide) (k1 230 rfl rfl) rfl e3 ?_
  refine ab_iload_n d_Store_writeEntity_5 rfl rfl ?_
  obtain ⟨n4, q5, hG⟩ := ar_s hF; clear hF
  obtain ⟨q6, hF⟩ := ck_s hG; clear hG
  refine hp_iald d_Store_writeEntity_6 tI q5 q6 ?_
  refine ab_topi (fun x7 ex7 => ?_)
  replace hF := bnd_s ex7 hF
  refine ab_bipush (v := 8) d_Store_writeEntity_7 (by decide) ?_
  refine ab_ishr d_Store_writeEntity_9 ?_
  obtain ⟨q8, hG⟩ := ck_s hF; clear hF
  obtain ⟨v10, H11, z9, hF⟩ := bC_s hG; clear hG
  refine hp_callV_v (H1 := H11) (As := [.int (x7 >>> ((8 : Int32) &&& 31))]) (rest := []) d_Store_writeEntity_10 (k_Store_writeByte z9) (ab_mkC s_Store_writeByte (Nat.le_of_ble_eq_true rfl) (Nat.le_of_ble_eq_true rfl) (Nat.le_refl 0) (Nat.le_refl 0)) (k8 0 rfl rfl) i_Store_writeByte v_Store_writeByte q8 (by decide) rfl rfl (Nat.le_of_ble_eq_true rfl) ?_
  have s_1 : Sa H H11 := (m_Store_writeByte z9)
  refine ab_aload_n d_Store_writeEntity_13 rfl rfl rfl ?_
  refine ab_aload_n d_Store_writeEntity_14 rfl rfl rfl ?_
  obtain ⟨a12, e13, hG⟩ := rf_s hF; clear hF
  refine hp_getR (f := 8) d_Store_writeEntity_15 (by rw [(s_1).1]; exact q1) (by decide) rfl (by decide) (k1 230 rfl rfl) rfl e13 ?_
  refine ab_iload_n d_Store_writeEntity_18 rfl rfl ?_
  obtain ⟨n14, q15, hF⟩ := ar_s hG; clear hG
  rw [(s_1).1] at q15
  obtain ⟨q16, hG⟩ := ck_s hF; clear hF
  refine hp_iald d_Store_writeEntity_19 tI (by rw [(s_1).1]; exact q15) q16 ?_
  refine ab_topi (fun x17 ex17 => ?_)
  replace hG := bnd_s ex17 hG
  obtain ⟨v19, H20, z18, hF⟩ := bC_s hG; clear hG
  refine hp_callV_v (H1 := H20) (As := [.int x17]) (rest := []) d_Store_writeEntity_20 (k_Store_writeByte z18) (ab_mkC s_Store_writeByte (Nat.le_of_ble_eq_true rfl) (Nat.le_of_ble_eq_true rfl) (Nat.le_refl 0) (Nat.le_refl 0)) (k8 0 rfl rfl) i_Store_writeByte v_Store_writeByte (by rw [(s_1).1]; exact q8) (by decide) rfl rfl (Nat.le_of_ble_eq_true rfl) ?_
  have s_2 : Sa H H20 := (s_1).tr (m_Store_writeByte z18)
  refine ab_iconst (v := 0) d_Store_writeEntity_23 (by decide) ?_
  refine ab_istore (lv' := [some (.ref p0), some (.ref p1), some (.ref p2), some (.int p3), some (.int 0), none]) d_Store_writeEntity_24 (by decide) rfl ?_
  exact kB_Store_writeEntity_26 N 0 H20 r hF
