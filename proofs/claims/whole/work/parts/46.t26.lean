def y_Shapes_sameKinds : ab_Y := (⟨"WorldEngine$Shapes", "sameKinds", "(ILWorldEngine$Shapes;I)Z"⟩, prog_9_method_9_code, 6, (some FieldType.boolean), [])
theorem d_Shapes_sameKinds_0 : decode y_Shapes_sameKinds.2.1 0 = .ok (.aload_n 0, 1) := by decide +kernel
theorem d_Shapes_sameKinds_1 : decode y_Shapes_sameKinds.2.1 1 = .ok (.iload_n 1, 1) := by decide +kernel
theorem d_Shapes_sameKinds_2 : decode y_Shapes_sameKinds.2.1 2 = .ok (.invokevirtual 50, 3) := by decide +kernel
theorem d_Shapes_sameKinds_5 : decode y_Shapes_sameKinds.2.1 5 = .ok (.istore 4, 2) := by decide +kernel
theorem d_Shapes_sameKinds_7 : decode y_Shapes_sameKinds.2.1 7 = .ok (.iload 4, 2) := by decide +kernel
theorem d_Shapes_sameKinds_9 : decode y_Shapes_sameKinds.2.1 9 = .ok (.aload_n 2, 1) := by decide +kernel
theorem d_Shapes_sameKinds_10 : decode y_Shapes_sameKinds.2.1 10 = .ok (.iload_n 3, 1) := by decide +kernel
theorem d_Shapes_sameKinds_11 : decode y_Shapes_sameKinds.2.1 11 = .ok (.invokevirtual 50, 3) := by decide +kernel
theorem d_Shapes_sameKinds_14 : decode y_Shapes_sameKinds.2.1 14 = .ok (.if_icmp .eq 5, 3) := by decide +kernel
theorem d_Shapes_sameKinds_17 : decode y_Shapes_sameKinds.2.1 17 = .ok (.iconst 0, 1) := by decide +kernel
theorem d_Shapes_sameKinds_18 : decode y_Shapes_sameKinds.2.1 18 = .ok (.ireturn, 1) := by decide +kernel
theorem d_Shapes_sameKinds_19 : decode y_Shapes_sameKinds.2.1 19 = .ok (.iconst 0, 1) := by decide +kernel
theorem d_Shapes_sameKinds_20 : decode y_Shapes_sameKinds.2.1 20 = .ok (.istore 5, 2) := by decide +kernel
theorem d_Shapes_sameKinds_22 : decode y_Shapes_sameKinds.2.1 22 = .ok (.iload 5, 2) := by decide +kernel
theorem d_Shapes_sameKinds_24 : decode y_Shapes_sameKinds.2.1 24 = .ok (.iload 4, 2) := by decide +kernel
theorem d_Shapes_sameKinds_26 : decode y_Shapes_sameKinds.2.1 26 = .ok (.if_icmp .ge 48, 3) := by decide +kernel
theorem d_Shapes_sameKinds_29 : decode y_Shapes_sameKinds.2.1 29 = .ok (.aload_n 0, 1) := by decide +kernel
theorem d_Shapes_sameKinds_30 : decode y_Shapes_sameKinds.2.1 30 = .ok (.getfield 19, 3) := by decide +kernel
theorem d_Shapes_sameKinds_33 : decode y_Shapes_sameKinds.2.1 33 = .ok (.aload_n 0, 1) := by decide +kernel
theorem d_Shapes_sameKinds_34 : decode y_Shapes_sameKinds.2.1 34 = .ok (.getfield 28, 3) := by decide +kernel
theorem d_Shapes_sameKinds_37 : decode y_Shapes_sameKinds.2.1 37 = .ok (.iload_n 1, 1) := by decide +kernel
theorem d_Shapes_sameKinds_38 : decode y_Shapes_sameKinds.2.1 38 = .ok (.iaload, 1) := by decide +kernel
theorem d_Shapes_sameKinds_39 : decode y_Shapes_sameKinds.2.1 39 = .ok (.iload 5, 2) := by decide +kernel
theorem d_Shapes_sameKinds_41 : decode y_Shapes_sameKinds.2.1 41 = .ok (.iadd, 1) := by decide +kernel
theorem d_Shapes_sameKinds_42 : decode y_Shapes_sameKinds.2.1 42 = .ok (.aaload, 1) := by decide +kernel
theorem d_Shapes_sameKinds_43 : decode y_Shapes_sameKinds.2.1 43 = .ok (.getfield 54, 3) := by decide +kernel
theorem d_Shapes_sameKinds_46 : decode y_Shapes_sameKinds.2.1 46 = .ok (.aload_n 2, 1) := by decide +kernel
theorem d_Shapes_sameKinds_47 : decode y_Shapes_sameKinds.2.1 47 = .ok (.getfield 19, 3) := by decide +kernel
theorem d_Shapes_sameKinds_50 : decode y_Shapes_sameKinds.2.1 50 = .ok (.aload_n 2, 1) := by decide +kernel
theorem d_Shapes_sameKinds_51 : decode y_Shapes_sameKinds.2.1 51 = .ok (.getfield 28, 3) := by decide +kernel
theorem d_Shapes_sameKinds_54 : decode y_Shapes_sameKinds.2.1 54 = .ok (.iload_n 3, 1) := by decide +kernel
theorem d_Shapes_sameKinds_55 : decode y_Shapes_sameKinds.2.1 55 = .ok (.iaload, 1) := by decide +kernel
theorem d_Shapes_sameKinds_56 : decode y_Shapes_sameKinds.2.1 56 = .ok (.iload 5, 2) := by decide +kernel
theorem d_Shapes_sameKinds_58 : decode y_Shapes_sameKinds.2.1 58 = .ok (.iadd, 1) := by decide +kernel
theorem d_Shapes_sameKinds_59 : decode y_Shapes_sameKinds.2.1 59 = .ok (.aaload, 1) := by decide +kernel
theorem d_Shapes_sameKinds_60 : decode y_Shapes_sameKinds.2.1 60 = .ok (.getfield 54, 3) := by decide +kernel
theorem d_Shapes_sameKinds_63 : decode y_Shapes_sameKinds.2.1 63 = .ok (.if_icmp .eq 5, 3) := by decide +kernel
theorem d_Shapes_sameKinds_66 : decode y_Shapes_sameKinds.2.1 66 = .ok (.iconst 0, 1) := by decide +kernel
theorem d_Shapes_sameKinds_67 : decode y_Shapes_sameKinds.2.1 67 = .ok (.ireturn, 1) := by decide +kernel
theorem d_Shapes_sameKinds_68 : decode y_Shapes_sameKinds.2.1 68 = .ok (.iinc 5 1, 3) := by decide +kernel
theorem d_Shapes_sameKinds_71 : decode y_Shapes_sameKinds.2.1 71 = .ok (.goto (-49), 3) := by decide +kernel
theorem d_Shapes_sameKinds_74 : decode y_Shapes_sameKinds.2.1 74 = .ok (.iconst 1, 1) := by decide +kernel
theorem d_Shapes_sameKinds_75 : decode y_Shapes_sameKinds.2.1 75 = .ok (.ireturn, 1) := by decide +kernel
theorem s_Shapes_sameKinds : ab_Stat y_Shapes_sameKinds 3 := ⟨(k6 158 rfl rfl), (k1 18 rfl rfl), ⟨by decide, by decide⟩, by decide +kernel⟩
theorem i_Shapes_sameKinds : Cond.instanceMethod y_Shapes_sameKinds.1 ∈ ab_T := (k6 156 rfl rfl)
theorem v_Shapes_sameKinds : Cond.selects "WorldEngine$Shapes" y_Shapes_sameKinds.1 y_Shapes_sameKinds.1 ∈ ab_T := (k6 157 rfl rfl)
def B_Shapes_sameKinds_22 (N : Nat) (p0 : Nat) (p1 : Int32) (p2 : Nat) (p3 : Int32) : Nat → Int32 → Int32 → Hp → Option (Int32 × Hp)
  | 0, _, _, _ => none
  | n + 1, l4, l5, H =>
    if l4 ≤ l5 then
    some (1, H)
    else
    ck (H.sh[p0]? = some (3, 0)) <|
    rf (H.P p0 1) fun a12 =>
    rf (H.P p0 2) fun a14 =>
    ar H 100 a14 fun n16 =>
    ck (inb p1 n16) <|
    bnd ((H.D a14 (p1).toNatClampNeg)) fun x19 =>
    ar H 106 a12 fun n20 =>
    ck (inb (x19 + l5) n20) <|
    rf (H.P a12 ((x19 + l5)).toNatClampNeg) fun a23 =>
    ck (H.sh[a23]? = some (2, 0)) <|
    bnd ((H.D a23 3)) fun x26 =>
    ck (H.sh[p2]? = some (3, 0)) <|
    rf (H.P p2 1) fun a28 =>
    rf (H.P p2 2) fun a30 =>
    ar H 100 a30 fun n32 =>
    ck (inb p3 n32) <|
    bnd ((H.D a30 (p3).toNatClampNeg)) fun x35 =>
    ar H 106 a28 fun n36 =>
    ck (inb (x35 + l5) n36) <|
    rf (H.P a28 ((x35 + l5)).toNatClampNeg) fun a39 =>
    ck (H.sh[a39]? = some (2, 0)) <|
    bnd ((H.D a39 3)) fun x42 =>
    if x26 = x42 then
    B_Shapes_sameKinds_22 N p0 p1 p2 p3 n l4 (l5 + 1) H
    else
    some (0, H)
termination_by structural n => n
set_option maxRecDepth 20000 in
set_option maxHeartbeats 2000000 in
theorem mB_Shapes_sameKinds_22 {N : Nat} {p0 : Nat} {p1 : Int32} {p2 : Nat} {p3 : Int32} : ∀ (n : Nat) (l4 : Int32) (l5 : Int32) (H : Hp) (r : Int32 × Hp), B_Shapes_sameKinds_22 N p0 p1 p2 p3 n l4 l5 H = some r → Sa H r.2 := by
  intro n
  induction n with
  | zero => intro l4 l5 H r hF; rw [B_Shapes_sameKinds_22] at hF; cases hF
  | succ n ih =>
    intro l4 l5 H r hF
    rw [B_Shapes_sameKinds_22] at hF
    have hm := Sa.rf H
    rcases ite_s hF with ⟨q_3, hG⟩ | ⟨q_3, hG⟩
    · clear hF
      have hr := Option.some.inj hG; subst hr
      exact hm
    · clear hF
      obtain ⟨q45, hF⟩ := ck_s hG; clear hG
      obtain ⟨a46, e47, hG⟩ := rf_s hF; clear hF
      obtain ⟨a48, e49, hF⟩ := rf_s hG; clear hG
      obtain ⟨n50, q51, hG⟩ := ar_s hF; clear hF
      obtain ⟨q52, hF⟩ := ck_s hG; clear hG
      obtain ⟨x53, -, hG⟩ := bnd_g hF; clear hF
      obtain ⟨n54, q55, hF⟩ := ar_s hG; clear hG
      obtain ⟨q56, hG⟩ := ck_s hF; clear hF
      obtain ⟨a57, e58, hF⟩ := rf_s hG; clear hG
      obtain ⟨q59, hG⟩ := ck_s hF; clear hF
      obtain ⟨x60, -, hF⟩ := bnd_g hG; clear hG
      obtain ⟨q61, hG⟩ := ck_s hF; clear hF
      obtain ⟨a62, e63, hF⟩ := rf_s hG; clear hG
      obtain ⟨a64, e65, hG⟩ := rf_s hF; clear hF
      obtain ⟨n66, q67, hF⟩ := ar_s hG; clear hG
      obtain ⟨q68, hG⟩ := ck_s hF; clear hF
      obtain ⟨x69, -, hF⟩ := bnd_g hG; clear hG
      obtain ⟨n70, q71, hG⟩ := ar_s hF; clear hF
      obtain ⟨q72, hF⟩ := ck_s hG; clear hG
      obtain ⟨a73, e74, hG⟩ := rf_s hF; clear hF
      obtain ⟨q75, hF⟩ := ck_s hG; clear hG
      obtain ⟨x76, -, hG⟩ := bnd_g hF; clear hF
      rcases ite_s hG with ⟨q_4, hF⟩ | ⟨q_4, hF⟩
      · clear hG
        exact hm.tr (ih l4 (l5 + 1) H r hF)
      · clear hG
        have hr := Option.some.inj hF; subst hr
        exact hm
set_option maxRecDepth 20000 in
set_option maxHeartbeats 2000000 in
theorem kB_Shapes_sameKinds_22 {N : Nat} {p0 : Nat} {p1 : Int32} {p2 : Nat} {p3 : Int32} : ∀ (n : Nat) (l4 : Int32) (l5 : Int32) (H : Hp) (r : Int32 × Hp), B_Shapes_sameKinds_22 N p0 p1 p2 p3 n l4 l5 H = some r → ab_V y_Shapes_sameKinds { frames := 1, cells := 0, slots := 0, locals := 21 } (po (.returned (some (.int r.1))) r.2) 0 0 0 0 22 [some (.ref p0), some (.int p1), some (.ref p2), some (.int p3), some (.int l4), some (.int l5)] [] (hpw H) := by
  intro n
  induction n with
  | zero => intro l4 l5 H r hF; rw [B_Shapes_sameKinds_22] at hF; cases hF
  | succ n ih =>
    intro l4 l5 H r hF
    rw [B_Shapes_sameKinds_22] at hF
    refine ab_iload d_Shapes_sameKinds_22 rfl ?_
    refine ab_iload d_Shapes_sameKinds_24 rfl ?_
    refine ab_icmp_ge (tgt := 74) d_Shapes_sameKinds_26 (by decide) (fun q10 => ?_) (fun q10 => ?_)
    · rw [if_pos q10] at hF
      refine ab_iconst (v := 1) d_Shapes_sameKinds_74 (by decide) ?_
      exact ab_zret d_Shapes_sameKinds_75 rfl rfl (Nat.le_refl _) (Nat.le_refl _) (by have hr := Option.some.inj hF; subst hr; exact ⟨rfl, rfl⟩)
    · rw [if_neg q10] at hF
      refine ab_aload_n d_Shapes_sameKinds_29 rfl rfl rfl ?_
      obtain ⟨q11, hG⟩ := ck_s hF; clear hF
      obtain ⟨a12, e13, hF⟩ := rf_s hG; clear hG
      refine hp_getR (f := 1) d_Shapes_sameKinds_30 q11 (by decide) rfl (by decide) (k3 25 rfl rfl) rfl e13 ?_
      refine ab_aload_n d_Shapes_sameKinds_33 rfl rfl rfl ?_
      obtain ⟨a14, e15, hG⟩ := rf_s hF; clear hF
      refine hp_getR (f := 2) d_Shapes_sameKinds_34 q11 (by decide) rfl (by decide) (k3 32 rfl rfl) rfl e15 ?_
      refine ab_iload_n d_Shapes_sameKinds_37 rfl rfl ?_
      obtain ⟨n16, q17, hF⟩ := ar_s hG; clear hG
      obtain ⟨q18, hG⟩ := ck_s hF; clear hF
      refine hp_iald d_Shapes_sameKinds_38 tI q17 q18 ?_
      refine ab_topi (fun x19 ex19 => ?_)
      replace hG := bnd_s ex19 hG
      refine ab_iload d_Shapes_sameKinds_39 rfl ?_
      refine ab_iadd d_Shapes_sameKinds_41 ?_
      obtain ⟨n20, q21, hF⟩ := ar_s hG; clear hG
      obtain ⟨q22, hG⟩ := ck_s hF; clear hF
      obtain ⟨a23, e24, hF⟩ := rf_s hG; clear hG
      refine hp_aald (q := 106) d_Shapes_sameKinds_42 (by decide) tN q21 q22 e24 ?_
      obtain ⟨q25, hG⟩ := ck_s hF; clear hF
      refine hp_getI (f := 3) d_Shapes_sameKinds_43 q25 (by decide) rfl (by decide) (k3 1 rfl rfl) rfl ?_
      refine ab_topi (fun x26 ex26 => ?_)
      replace hG := bnd_s ex26 hG
      refine ab_aload_n d_Shapes_sameKinds_46 rfl rfl rfl ?_
      obtain ⟨q27, hF⟩ := ck_s hG; clear hG
      obtain ⟨a28, e29, hG⟩ := rf_s hF; clear hF
      refine hp_getR (f := 1) d_Shapes_sameKinds_47 q27 (by decide) rfl (by decide) (k3 25 rfl rfl) rfl e29 ?_
      refine ab_aload_n d_Shapes_sameKinds_50 rfl rfl rfl ?_
      obtain ⟨a30, e31, hF⟩ := rf_s hG; clear hG
      refine hp_getR (f := 2) d_Shapes_sameKinds_51 q27 (by decide) rfl (by decide) (k3 32 rfl rfl) rfl e31 ?_
      refine ab_iload_n d_Shapes_sameKinds_54 rfl rfl ?_
      obtain ⟨n32, q33, hG⟩ := ar_s hF; clear hF
      obtain ⟨q34, hF⟩ := ck_s hG; clear hG
      refine hp_iald d_Shapes_sameKinds_55 tI q33 q34 ?_
      refine ab_topi (fun x35 ex35 => ?_)
      replace hF := bnd_s ex35 hF
      refine ab_iload d_Shapes_sameKinds_56 rfl ?_
      refine ab_iadd d_Shapes_sameKinds_58 ?_
      obtain ⟨n36, q37, hG⟩ := ar_s hF; clear hF
      obtain ⟨q38, hF⟩ := ck_s hG; clear hG
      obtain ⟨a39, e40, hG⟩ := rf_s hF; clear hF
      refine hp_aald (q := 106) d_Shapes_sameKinds_59 (by decide) tN q37 q38 e40 ?_
      obtain ⟨q41, hF⟩ := ck_s hG; clear hG
      refine hp_getI (f := 3) d_Shapes_sameKinds_60 q41 (by decide) rfl (by decide) (k3 1 rfl rfl) rfl ?_
      refine ab_topi (fun x42 ex42 => ?_)
      replace hF := bnd_s ex42 hF
      refine ab_icmp_eq (tgt := 68) d_Shapes_sameKinds_63 (by decide) (fun q43 => ?_) (fun q43 => ?_)
      · rw [if_pos q43] at hF
        refine ab_iinc (v := l5 + 1) (lv' := [some (.ref p0), some (.int p1), some (.ref p2), some (.int p3), some (.int l4), some (.int (l5 + 1))]) d_Shapes_sameKinds_68 rfl rfl (by decide) rfl ?_
        refine ab_goto (tgt := 22) d_Shapes_sameKinds_71 (by decide) ?_
        exact ih l4 (l5 + 1) H r hF
      · rw [if_neg q43] at hF
        refine ab_iconst (v := 0) d_Shapes_sameKinds_66 (by decide) ?_
        exact ab_zret d_Shapes_sameKinds_67 rfl rfl (Nat.le_refl _) (Nat.le_refl _) (by have hr := Option.some.inj hF; subst hr; exact ⟨rfl, rfl⟩)
def F_Shapes_sameKinds (N : Nat) (p0 : Nat) (p1 : Int32) (p2 : Nat) (p3 : Int32) (H : Hp) : Option (Int32 × Hp) :=
    ck (H.sh[p0]? = some (3, 0)) <|
    bC (F_Shapes_sizeOf N p0 p1 H) fun v3 H4 =>
    ck (H4.sh[p2]? = some (3, 0)) <|
    bC (F_Shapes_sizeOf N p2 p3 H4) fun v7 H8 =>
    if v3 = v7 then
    B_Shapes_sameKinds_22 N p0 p1 p2 p3 N v3 0 H8
    else
    some (0, H8)
set_option maxRecDepth 20000 in
set_option maxHeartbeats 2000000 in
theorem m_Shapes_sameKinds {N : Nat} {p0 : Nat} {p1 : Int32} {p2 : Nat} {p3 : Int32} {H : Hp} {r : Int32 × Hp} (hF : F_Shapes_sameKinds N p0 p1 p2 p3 H = some r) : Sa H r.2 := by
  unfold F_Shapes_sameKinds at hF
  have hm := Sa.rf H
  obtain ⟨q78, hG⟩ := ck_s hF; clear hF
  obtain ⟨v80, H81, z79, hF⟩ := bC_s hG; clear hG
  replace hm : Sa H H81 := hm.tr (m_Shapes_sizeOf z79)
  obtain ⟨q82, hG⟩ := ck_s hF; clear hF
  obtain ⟨v84, H85, z83, hF⟩ := bC_s hG; clear hG
  replace hm : Sa H H85 := hm.tr (m_Shapes_sizeOf z83)
  rcases ite_s hF with ⟨q_7, hG⟩ | ⟨q_7, hG⟩
  · clear hF
    exact hm.tr (mB_Shapes_sameKinds_22 N v80 0 H85 r hG)
  · clear hF
    have hr := Option.some.inj hG; subst hr
    exact hm
set_option maxRecDepth 20000 in
set_option maxHeartbeats 2000000 in
theorem k_Shapes_sameKinds {N : Nat} {p0 : Nat} {p1 : Int32} {p2 : Nat} {p3 : Int32} {H : Hp} {r : Int32 × Hp} (hF : F_Shapes_sameKinds N p0 p1 p2 p3 H = some r) : ab_M y_Shapes_sameKinds { frames := 1, cells := 0, slots := 0, locals := 21 } [.ref p0, .int p1, .ref p2, .int p3] (hpw H) (po (.returned (some (.int r.1))) r.2) := by
  unfold F_Shapes_sameKinds at hF
  refine ab_of2 (lv := [some (.ref p0), some (.int p1), some (.ref p2), some (.int p3), none, none]) 2 rfl rfl (Nat.le_of_ble_eq_true rfl) ?_
  refine ab_aload_n d_Shapes_sameKinds_0 rfl rfl rfl ?_
  refine ab_iload_n d_Shapes_sameKinds_1 rfl rfl ?_
  obtain ⟨q1, hG⟩ := ck_s hF; clear hF
  obtain ⟨v3, H4, z2, hF⟩ := bC_s hG; clear hG
  refine hp_callV_a (v := .int v3) (H1 := H4) (As := [.int p1]) (rest := []) d_Shapes_sameKinds_2 (k_Shapes_sizeOf z2) (ab_mkC s_Shapes_sizeOf (Nat.le_of_ble_eq_true rfl) (Nat.le_of_ble_eq_true rfl) (Nat.le_refl 0) (Nat.le_refl 0)) (k6 159 rfl rfl) i_Shapes_sizeOf v_Shapes_sizeOf q1 (by decide) rfl rfl (Nat.le_of_ble_eq_true rfl) ?_
  have s_1 : Sa H H4 := (m_Shapes_sizeOf z2)
  refine ab_istore (lv' := [some (.ref p0), some (.int p1), some (.ref p2), some (.int p3), some (.int v3), none]) d_Shapes_sameKinds_5 (by decide) rfl ?_
  refine ab_iload d_Shapes_sameKinds_7 rfl ?_
  refine ab_aload_n d_Shapes_sameKinds_9 rfl rfl rfl ?_
  refine ab_iload_n d_Shapes_sameKinds_10 rfl rfl ?_
  obtain ⟨q5, hG⟩ := ck_s hF; clear hF
  rw [(s_1).1] at q5
  obtain ⟨v7, H8, z6, hF⟩ := bC_s hG; clear hG
  refine hp_callV_a (v := .int v7) (H1 := H8) (As := [.int p3]) (rest := [.int v3]) d_Shapes_sameKinds_11 (k_Shapes_sizeOf z6) (ab_mkC s_Shapes_sizeOf (Nat.le_of_ble_eq_true rfl) (Nat.le_of_ble_eq_true rfl) (Nat.le_refl 0) (Nat.le_refl 0)) (k6 159 rfl rfl) i_Shapes_sizeOf v_Shapes_sizeOf (by rw [(s_1).1]; exact q5) (by decide) rfl rfl (Nat.le_of_ble_eq_true rfl) ?_
  have s_2 : Sa H H8 := (s_1).tr (m_Shapes_sizeOf z6)
  refine ab_icmp_eq (tgt := 19) d_Shapes_sameKinds_14 (by decide) (fun q9 => ?_) (fun q9 => ?_)
  · rw [if_pos q9] at hF
    refine ab_iconst (v := 0) d_Shapes_sameKinds_19 (by decide) ?_
    refine ab_istore (lv' := [some (.ref p0), some (.int p1), some (.ref p2), some (.int p3), some (.int v3), some (.int 0)]) d_Shapes_sameKinds_20 (by decide) rfl ?_
    exact kB_Shapes_sameKinds_22 N v3 0 H8 r hF
  · rw [if_neg q9] at hF
    refine ab_iconst (v := 0) d_Shapes_sameKinds_17 (by decide) ?_
    exact ab_zret d_Shapes_sameKinds_18 rfl rfl (Nat.le_refl _) (Nat.le_refl _) (by have hr := Option.some.inj hF; subst hr; exact ⟨rfl, rfl⟩)
def y_World_carryEvents : ab_Y := (⟨"WorldEngine$World", "carryEvents", "(LWorldEngine$Program;LWorldEngine$Program;)V"⟩, prog_12_method_22_code, 7, none, [])
theorem d_World_carryEvents_0 : decode y_World_carryEvents.2.1 0 = .ok (.iconst 0, 1) := by decide +kernel
theorem d_World_carryEvents_1 : decode y_World_carryEvents.2.1 1 = .ok (.istore_n 3, 1) := by decide +kernel
theorem d_World_carryEvents_2 : decode y_World_carryEvents.2.1 2 = .ok (.iconst 0, 1) := by decide +kernel
theorem d_World_carryEvents_3 : decode y_World_carryEvents.2.1 3 = .ok (.istore 4, 2) := by decide +kernel
theorem d_World_carryEvents_5 : decode y_World_carryEvents.2.1 5 = .ok (.iload 4, 2) := by decide +kernel
theorem d_World_carryEvents_7 : decode y_World_carryEvents.2.1 7 = .ok (.aload_n 0, 1) := by decide +kernel
theorem d_World_carryEvents_8 : decode y_World_carryEvents.2.1 8 = .ok (.getfield 55, 3) := by decide +kernel
theorem d_World_carryEvents_11 : decode y_World_carryEvents.2.1 11 = .ok (.if_icmp .ge 102, 3) := by decide +kernel
theorem d_World_carryEvents_14 : decode y_World_carryEvents.2.1 14 = .ok (.aload_n 0, 1) := by decide +kernel
theorem d_World_carryEvents_15 : decode y_World_carryEvents.2.1 15 = .ok (.getfield 27, 3) := by decide +kernel
theorem d_World_carryEvents_18 : decode y_World_carryEvents.2.1 18 = .ok (.iload 4, 2) := by decide +kernel
theorem d_World_carryEvents_20 : decode y_World_carryEvents.2.1 20 = .ok (.bipush 7, 2) := by decide +kernel
theorem d_World_carryEvents_22 : decode y_World_carryEvents.2.1 22 = .ok (.imul, 1) := by decide +kernel
theorem d_World_carryEvents_23 : decode y_World_carryEvents.2.1 23 = .ok (.iaload, 1) := by decide +kernel
theorem d_World_carryEvents_24 : decode y_World_carryEvents.2.1 24 = .ok (.istore 5, 2) := by decide +kernel
theorem d_World_carryEvents_26 : decode y_World_carryEvents.2.1 26 = .ok (.aload_n 2, 1) := by decide +kernel
theorem d_World_carryEvents_27 : decode y_World_carryEvents.2.1 27 = .ok (.getfield 181, 3) := by decide +kernel
theorem d_World_carryEvents_30 : decode y_World_carryEvents.2.1 30 = .ok (.aload_n 1, 1) := by decide +kernel
theorem d_World_carryEvents_31 : decode y_World_carryEvents.2.1 31 = .ok (.getfield 181, 3) := by decide +kernel
theorem d_World_carryEvents_34 : decode y_World_carryEvents.2.1 34 = .ok (.getfield 122, 3) := by decide +kernel
theorem d_World_carryEvents_37 : decode y_World_carryEvents.2.1 37 = .ok (.iload 5, 2) := by decide +kernel
theorem d_World_carryEvents_39 : decode y_World_carryEvents.2.1 39 = .ok (.aaload, 1) := by decide +kernel
theorem d_World_carryEvents_40 : decode y_World_carryEvents.2.1 40 = .ok (.getfield 126, 3) := by decide +kernel
theorem d_World_carryEvents_43 : decode y_World_carryEvents.2.1 43 = .ok (.invokevirtual 132, 3) := by decide +kernel
theorem d_World_carryEvents_46 : decode y_World_carryEvents.2.1 46 = .ok (.istore 6, 2) := by decide +kernel
theorem d_World_carryEvents_48 : decode y_World_carryEvents.2.1 48 = .ok (.iload 6, 2) := by decide +kernel
theorem d_World_carryEvents_50 : decode y_World_carryEvents.2.1 50 = .ok (.ifCond .lt 57, 3) := by decide +kernel
theorem d_World_carryEvents_53 : decode y_World_carryEvents.2.1 53 = .ok (.aload_n 1, 1) := by decide +kernel
theorem d_World_carryEvents_54 : decode y_World_carryEvents.2.1 54 = .ok (.getfield 181, 3) := by decide +kernel
theorem d_World_carryEvents_57 : decode y_World_carryEvents.2.1 57 = .ok (.iload 5, 2) := by decide +kernel
theorem d_World_carryEvents_59 : decode y_World_carryEvents.2.1 59 = .ok (.aload_n 2, 1) := by decide +kernel
theorem d_World_carryEvents_60 : decode y_World_carryEvents.2.1 60 = .ok (.getfield 181, 3) := by decide +kernel
theorem d_World_carryEvents_63 : decode y_World_carryEvents.2.1 63 = .ok (.iload 6, 2) := by decide +kernel
theorem d_World_carryEvents_65 : decode y_World_carryEvents.2.1 65 = .ok (.invokevirtual 184, 3) := by decide +kernel
theorem d_World_carryEvents_68 : decode y_World_carryEvents.2.1 68 = .ok (.ifCond .eq 39, 3) := by decide +kernel
theorem d_World_carryEvents_71 : decode y_World_carryEvents.2.1 71 = .ok (.aload_n 0, 1) := by decide +kernel
theorem d_World_carryEvents_72 : decode y_World_carryEvents.2.1 72 = .ok (.getfield 27, 3) := by decide +kernel
theorem d_World_carryEvents_75 : decode y_World_carryEvents.2.1 75 = .ok (.iload 4, 2) := by decide +kernel
theorem d_World_carryEvents_77 : decode y_World_carryEvents.2.1 77 = .ok (.bipush 7, 2) := by decide +kernel
theorem d_World_carryEvents_79 : decode y_World_carryEvents.2.1 79 = .ok (.imul, 1) := by decide +kernel
theorem d_World_carryEvents_80 : decode y_World_carryEvents.2.1 80 = .ok (.aload_n 0, 1) := by decide +kernel
theorem d_World_carryEvents_81 : decode y_World_carryEvents.2.1 81 = .ok (.getfield 27, 3) := by decide +kernel
theorem d_World_carryEvents_84 : decode y_World_carryEvents.2.1 84 = .ok (.iload_n 3, 1) := by decide +kernel
theorem d_World_carryEvents_85 : decode y_World_carryEvents.2.1 85 = .ok (.bipush 7, 2) := by decide +kernel
theorem d_World_carryEvents_87 : decode y_World_carryEvents.2.1 87 = .ok (.imul, 1) := by decide +kernel
theorem d_World_carryEvents_88 : decode y_World_carryEvents.2.1 88 = .ok (.bipush 7, 2) := by decide +kernel
theorem d_World_carryEvents_90 : decode y_World_carryEvents.2.1 90 = .ok (.invokestatic 67, 3) := by decide +kernel
theorem d_World_carryEvents_93 : decode y_World_carryEvents.2.1 93 = .ok (.aload_n 0, 1) := by decide +kernel
theorem d_World_carryEvents_94 : decode y_World_carryEvents.2.1 94 = .ok (.getfield 27, 3) := by decide +kernel
theorem d_World_carryEvents_97 : decode y_World_carryEvents.2.1 97 = .ok (.iload_n 3, 1) := by decide +kernel
theorem d_World_carryEvents_98 : decode y_World_carryEvents.2.1 98 = .ok (.bipush 7, 2) := by decide +kernel
theorem d_World_carryEvents_100 : decode y_World_carryEvents.2.1 100 = .ok (.imul, 1) := by decide +kernel
theorem d_World_carryEvents_101 : decode y_World_carryEvents.2.1 101 = .ok (.iload 6, 2) := by decide +kernel
theorem d_World_carryEvents_103 : decode y_World_carryEvents.2.1 103 = .ok (.iastore, 1) := by decide +kernel
theorem d_World_carryEvents_104 : decode y_World_carryEvents.2.1 104 = .ok (.iinc 3 1, 3) := by decide +kernel
theorem d_World_carryEvents_107 : decode y_World_carryEvents.2.1 107 = .ok (.iinc 4 1, 3) := by decide +kernel
theorem d_World_carryEvents_110 : decode y_World_carryEvents.2.1 110 = .ok (.goto (-105), 3) := by decide +kernel
theorem d_World_carryEvents_113 : decode y_World_carryEvents.2.1 113 = .ok (.aload_n 0, 1) := by decide +kernel
theorem d_World_carryEvents_114 : decode y_World_carryEvents.2.1 114 = .ok (.iload_n 3, 1) := by decide +kernel
theorem d_World_carryEvents_115 : decode y_World_carryEvents.2.1 115 = .ok (.putfield 55, 3) := by decide +kernel
theorem d_World_carryEvents_118 : decode y_World_carryEvents.2.1 118 = .ok (.return_, 1) := by decide +kernel
theorem s_World_carryEvents : ab_Stat y_World_carryEvents 2 := ⟨(k6 154 rfl rfl), (k1 10 rfl rfl), ⟨by decide, by decide⟩, by decide +kernel⟩
theorem i_World_carryEvents : Cond.instanceMethod y_World_carryEvents.1 ∈ ab_T := (k6 153 rfl rfl)
theorem v_World_carryEvents : Cond.selects "WorldEngine$World" y_World_carryEvents.1 y_World_carryEvents.1 ∈ ab_T := ab_s (List.mem_of_getElem? (i := 64) rfl) rfl
def B_World_carryEvents_107 (N : Nat) (p0 : Nat) (p1 : Nat) (p2 : Nat) (kq5 : Int32 → Int32 → Hp → Option (Unit × Hp)) (l3 : Int32) (l4 : Int32) (H : Hp) : Option (Unit × Hp) :=
    kq5 l3 (l4 + 1) H
set_option maxRecDepth 20000 in
set_option maxHeartbeats 2000000 in
theorem mB_World_carryEvents_107 {N : Nat} {p0 : Nat} {p1 : Nat} {p2 : Nat} {kq5 : Int32 → Int32 → Hp → Option (Unit × Hp)} (hm5 : ∀ (l3 : Int32) (l4 : Int32) (H : Hp) (r : Unit × Hp), kq5 l3 l4 H = some r → Sa H r.2) {l3 : Int32} {l4 : Int32} {H : Hp} {r : Unit × Hp} (hF : B_World_carryEvents_107 N p0 p1 p2 kq5 l3 l4 H = some r) : Sa H r.2 := by
  unfold B_World_carryEvents_107 at hF
  have hm := Sa.rf H
  exact hm.tr (hm5 l3 (l4 + 1) H r hF)
set_option maxRecDepth 20000 in
set_option maxHeartbeats 2000000 in
theorem kB_World_carryEvents_107 {N : Nat} {p0 : Nat} {p1 : Nat} {p2 : Nat} {kq5 : Int32 → Int32 → Hp → Option (Unit × Hp)} (hm5 : ∀ (l3 : Int32) (l4 : Int32) (H : Hp) (r : Unit × Hp), kq5 l3 l4 H = some r → Sa H r.2) (hk5 : ∀ (l3 : Int32) (l4 : Int32) (H : Hp) (r : Unit × Hp), kq5 l3 l4 H = some r → ab_V y_World_carryEvents { frames := 3, cells := 0, slots := 0, locals := 66 } (po (.returned none) r.2) 0 0 0 0 5 [some (.ref p0), some (.ref p1), some (.ref p2), some (.int l3), some (.int l4), none, none] [] (hpw H)) {l3 : Int32} {l4 : Int32} {H : Hp} {r : Unit × Hp} (hF : B_World_carryEvents_107 N p0 p1 p2 kq5 l3 l4 H = some r) : ab_V y_World_carryEvents { frames := 3, cells := 0, slots := 0, locals := 66 } (po (.returned none) r.2) 0 0 0 0 107 [some (.ref p0), some (.ref p1), some (.ref p2), some (.int l3), some (.int l4), none, none] [] (hpw H) := by
  unfold B_World_carryEvents_107 at hF
  refine ab_iinc (v := l4 + 1) (lv' := [some (.ref p0), some (.ref p1), some (.ref p2), some (.int l3), some (.int (l4 + 1)), none, none]) d_World_carryEvents_107 rfl rfl (by decide) rfl ?_
  refine ab_goto (tgt := 5) d_World_carryEvents_110 (by decide) ?_
  exact hk5 l3 (l4 + 1) H r hF
def B_World_carryEvents_5 (N : Nat) (p0 : Nat) (p1 : Nat) (p2 : Nat) : Nat → Int32 → Int32 → Hp → Option (Unit × Hp)
  | 0, _, _, _ => none
  | n + 1, l3, l4, H =>
    ck (H.sh[p0]? = some (7, 0)) <|
    bnd ((H.D p0 13)) fun x2 =>
    if x2 ≤ l4 then
    bnd (H.sD p0 13 l3) fun H4 =>
    some ((), H4)
    else
    rf (H.P p0 12) fun a5 =>
    ar H 100 a5 fun n7 =>
    ck (inb (l4 * (7 : Int32)) n7) <|
    bnd ((H.D a5 ((l4 * (7 : Int32))).toNatClampNeg)) fun x10 =>
    ck (H.sh[p2]? = some (4, 0)) <|
    rf (H.P p2 3) fun a12 =>
    ck (H.sh[p1]? = some (4, 0)) <|
    rf (H.P p1 3) fun a15 =>
    ck (H.sh[a15]? = some (3, 0)) <|
    rf (H.P a15 0) fun a18 =>
    ar H 106 a18 fun n20 =>
    ck (inb x10 n20) <|
    rf (H.P a18 (x10).toNatClampNeg) fun a23 =>
    ck (H.sh[a23]? = some (2, 0)) <|
    rf (H.P a23 0) fun a26 =>
    ck (H.sh[a12]? = some (3, 0)) <|
    bC (F_Shapes_headNamed N a12 a26 H) fun v30 H31 =>
    if v30 < (0 : Int32) then
    B_World_carryEvents_107 N p0 p1 p2 (fun l3 l4 H => B_World_carryEvents_5 N p0 p1 p2 n l3 l4 H) l3 l4 H31
    else
    rf (H31.P p1 3) fun a33 =>
    rf (H31.P p2 3) fun a35 =>
    ck (H31.sh[a33]? = some (3, 0)) <|
    bC (F_Shapes_sameKinds N a33 x10 a35 v30 H31) fun v39 H40 =>
    if v39 = (0 : Int32) then
    B_World_carryEvents_107 N p0 p1 p2 (fun l3 l4 H => B_World_carryEvents_5 N p0 p1 p2 n l3 l4 H) l3 l4 H40
    else
    rf (H40.P p0 12) fun a42 =>
    rf (H40.P p0 12) fun a44 =>
    ar H40 100 a42 fun n46 =>
    ar H40 100 a44 fun n48 =>
    ck (¬ (l4 * (7 : Int32)) < 0) <|
    ck (¬ (l3 * (7 : Int32)) < 0) <|
    ck (¬ (7 : Int32) < 0) <|
    ck (((l4 * (7 : Int32))).toNatClampNeg + ((7 : Int32)).toNatClampNeg ≤ n46) <|
    ck (((l3 * (7 : Int32))).toNatClampNeg + ((7 : Int32)).toNatClampNeg ≤ n48) <|
    bnd (H40.cpy a42 a44 ((l4 * (7 : Int32))).toNatClampNeg ((l3 * (7 : Int32))).toNatClampNeg ((7 : Int32)).toNatClampNeg) fun H55 =>
    rf (H55.P p0 12) fun a56 =>
    ar H55 100 a56 fun n58 =>
    ck (inb (l3 * (7 : Int32)) n58) <|
    bnd (H55.sD a56 ((l3 * (7 : Int32))).toNatClampNeg v30) fun H61 =>
    B_World_carryEvents_107 N p0 p1 p2 (fun l3 l4 H => B_World_carryEvents_5 N p0 p1 p2 n l3 l4 H) (l3 + 1) l4 H61
termination_by structural n => n
set_option maxRecDepth 20000 in
set_option maxHeartbeats 2000000 in
theorem mB_World_carryEvents_5 {N : Nat} {p0 : Nat} {p1 : Nat} {p2 : Nat} : ∀ (n : Nat) (l3 : Int32) (l4 : Int32) (H : Hp) (r : Unit × Hp), B_World_carryEvents_5 N p0 p1 p2 n l3 l4 H = some r → Sa H r.2 := by
  intro n
  induction n with
  | zero => intro l3 l4 H r hF; rw [B_World_carryEvents_5] at hF; cases hF
  | succ n ih =>
    intro l3 l4 H r hF
    rw [B_World_carryEvents_5] at hF
    have hm := Sa.rf H
    obtain ⟨q62, hG⟩ := ck_s hF; clear hF
    obtain ⟨x63, -, hF⟩ := bnd_g hG; clear hG
    rcases ite_s hF with ⟨q_6, hG⟩ | ⟨q_6, hG⟩
    · clear hF
      obtain ⟨H65, eH65, hF⟩ := bnd_g hG; clear hG
      replace hm : Sa H H65 := by rw [eH65]; exact hm
      have hr := Option.some.inj hF; subst hr
      exact hm
    · clear hF
      obtain ⟨a66, e67, hF⟩ := rf_s hG; clear hG
      obtain ⟨n68, q69, hG⟩ := ar_s hF; clear hF
      obtain ⟨q70, hF⟩ := ck_s hG; clear hG
      obtain ⟨x71, -, hG⟩ := bnd_g hF; clear hF
      obtain ⟨q72, hF⟩ := ck_s hG; clear hG
      obtain ⟨a73, e74, hG⟩ := rf_s hF; clear hF
      obtain ⟨q75, hF⟩ := ck_s hG; clear hG
      obtain ⟨a76, e77, hG⟩ := rf_s hF; clear hF
      obtain ⟨q78, hF⟩ := ck_s hG; clear hG
      obtain ⟨a79, e80, hG⟩ := rf_s hF; clear hF
      obtain ⟨n81, q82, hF⟩ := ar_s hG; clear hG
      obtain ⟨q83, hG⟩ := ck_s hF; clear hF
      obtain ⟨a84, e85, hF⟩ := rf_s hG; clear hG
      obtain ⟨q86, hG⟩ := ck_s hF; clear hF
      obtain ⟨a87, e88, hF⟩ := rf_s hG; clear hG
      obtain ⟨q89, hG⟩ := ck_s hF; clear hF
      obtain ⟨v91, H92, z90, hF⟩ := bC_s hG; clear hG
      replace hm : Sa H H92 := hm.tr (m_Shapes_headNamed z90)
      rcases ite_s hF with ⟨q_9, hG⟩ | ⟨q_9, hG⟩
      · clear hF
        exact hm.tr (mB_World_carryEvents_107 ih hG)
      · clear hF
        obtain ⟨a94, e95, hF⟩ := rf_s hG; clear hG
        obtain ⟨a96, e97, hG⟩ := rf_s hF; clear hF
        obtain ⟨q98, hF⟩ := ck_s hG; clear hG
        obtain ⟨v100, H101, z99, hG⟩ := bC_s hF; clear hF
        replace hm : Sa H H101 := hm.tr (m_Shapes_sameKinds z99)
        rcases ite_s hG with ⟨q_11, hF⟩ | ⟨q_11, hF⟩
        · clear hG
          exact hm.tr (mB_World_carryEvents_107 ih hF)
        · clear hG
          obtain ⟨a103, e104, hG⟩ := rf_s hF; clear hF
          obtain ⟨a105, e106, hF⟩ := rf_s hG; clear hG
          obtain ⟨n107, q108, hG⟩ := ar_s hF; clear hF
          obtain ⟨n109, q110, hF⟩ := ar_s hG; clear hG
          obtain ⟨q111, hG⟩ := ck_s hF; clear hF
          obtain ⟨q112, hF⟩ := ck_s hG; clear hG
          obtain ⟨q113, hG⟩ := ck_s hF; clear hF
          obtain ⟨q114, hF⟩ := ck_s hG; clear hG
          obtain ⟨q115, hG⟩ := ck_s hF; clear hF
          obtain ⟨H116, eH116, hF⟩ := bnd_g hG; clear hG
          replace hm : Sa H H116 := by rw [eH116]; exact hm
          obtain ⟨a117, e118, hG⟩ := rf_s hF; clear hF
          obtain ⟨n119, q120, hF⟩ := ar_s hG; clear hG
          obtain ⟨q121, hG⟩ := ck_s hF; clear hF
          obtain ⟨H122, eH122, hF⟩ := bnd_g hG; clear hG
          replace hm : Sa H H122 := by rw [eH122]; exact hm
          exact hm.tr (mB_World_carryEvents_107 ih hF)
set_option maxRecDepth 20000 in
set_option maxHeartbeats 2000000 in
theorem kB_World_carryEvents_5 {N : Nat} {p0 : Nat} {p1 : Nat} {p2 : Nat} : ∀ (n : Nat) (l3 : Int32) (l4 : Int32) (H : Hp) (r : Unit × Hp), B_World_carryEvents_5 N p0 p1 p2 n l3 l4 H = some r → ab_V y_World_carryEvents { frames := 3, cells := 0, slots := 0, locals := 66 } (po (.returned none) r.2) 0 0 0 0 5 [some (.ref p0), some (.ref p1), some (.ref p2), some (.int l3), some (.int l4), none, none] [] (hpw H) := by
  intro n
  induction n with
  | zero => intro l3 l4 H r hF; rw [B_World_carryEvents_5] at hF; cases hF
  | succ n ih =>
    intro l3 l4 H r hF
    rw [B_World_carryEvents_5] at hF
    refine ab_iload d_World_carryEvents_5 rfl ?_
    refine ab_aload_n d_World_carryEvents_7 rfl rfl rfl ?_
    obtain ⟨q1, hG⟩ := ck_s hF; clear hF
    refine hp_getI (f := 13) d_World_carryEvents_8 q1 (by decide) rfl (by decide) (k2 3 rfl rfl) rfl ?_
    refine ab_topi (fun x2 ex2 => ?_)
    replace hG := bnd_s ex2 hG
    refine ab_icmp_ge (tgt := 113) d_World_carryEvents_11 (by decide) (fun q3 => ?_) (fun q3 => ?_)
    · rw [if_pos q3] at hG
      refine ab_aload_n d_World_carryEvents_113 rfl rfl rfl ?_
      refine ab_iload_n d_World_carryEvents_114 rfl rfl ?_
      refine hp_putI (v := l3) (f := 13) d_World_carryEvents_115 q1 (by decide) rfl (by decide) (k2 3 rfl rfl) rfl rfl (fun _ => rfl) (fun _ => rfl) rfl ?_
      refine hp_gen (fun H4 eH4 => ?_)
      replace hG := bnd_s eH4 hG
      have s_1 : Sa H H4 := by rw [eH4]; exact Sa.rf _
      exact ab_vret d_World_carryEvents_118 rfl (Nat.le_refl _) (Nat.le_refl _) (by have hr := Option.some.inj hG; subst hr; exact ⟨rfl, rfl⟩)
    · rw [if_neg q3] at hG
      refine ab_aload_n d_World_carryEvents_14 rfl rfl rfl ?_
      obtain ⟨a5, e6, hF⟩ := rf_s hG; clear hG
      refine hp_getR (f := 12) d_World_carryEvents_15 q1 (by decide) rfl (by decide) (k1 238 rfl rfl) rfl e6 ?_
      refine ab_iload d_World_carryEvents_18 rfl ?_
      refine ab_bipush (v := 7) d_World_carryEvents_20 (by decide) ?_
      refine ab_imul d_World_carryEvents_22 ?_
      obtain ⟨n7, q8, hG⟩ := ar_s hF; clear hF
      obtain ⟨q9, hF⟩ := ck_s hG; clear hG
      refine hp_iald d_World_carryEvents_23 tI q8 q9 ?_
      refine ab_topi (fun x10 ex10 => ?_)
      replace hF := bnd_s ex10 hF
      refine ab_istore (lv' := [some (.ref p0), some (.ref p1), some (.ref p2), some (.int l3), some (.int l4), some (.int x10), none]) d_World_carryEvents_24 (by decide) rfl ?_
      refine ab_aload_n d_World_carryEvents_26 rfl rfl rfl ?_
      obtain ⟨q11, hG⟩ := ck_s hF; clear hF
      obtain ⟨a12, e13, hF⟩ := rf_s hG; clear hG
      refine hp_getR (f := 3) d_World_carryEvents_27 q11 (by decide) rfl (by decide) (k3 66 rfl rfl) rfl e13 ?_
      refine ab_aload_n d_World_carryEvents_30 rfl rfl rfl ?_
      obtain ⟨q14, hG⟩ := ck_s hF; clear hF
      obtain ⟨a15, e16, hF⟩ := rf_s hG; clear hG
      refine hp_getR (f := 3) d_World_carryEvents_31 q14 (by decide) rfl (by decide) (k3 66 rfl rfl) rfl e16 ?_
      obtain ⟨q17, hG⟩ := ck_s hF; clear hF
      obtain ⟨a18, e19, hF⟩ := rf_s hG; clear hG
      refine hp_getR (f := 0) d_World_carryEvents_34 q17 (by decide) rfl (by decide) (k3 24 rfl rfl) rfl e19 ?_
      refine ab_iload d_World_carryEvents_37 rfl ?_
      obtain ⟨n20, q21, hG⟩ := ar_s hF; clear hF
      obtain ⟨q22, hF⟩ := ck_s hG; clear hG
      obtain ⟨a23, e24, hG⟩ := rf_s hF; clear hF
      refine hp_aald (q := 106) d_World_carryEvents_39 (by decide) tN q21 q22 e24 ?_
      obtain ⟨q25, hF⟩ := ck_s hG; clear hG
      obtain ⟨a26, e27, hG⟩ := rf_s hF; clear hF
      refine hp_getR (f := 0) d_World_carryEvents_40 q25 (by decide) rfl (by decide) (k2 231 rfl rfl) rfl e27 ?_
      obtain ⟨q28, hF⟩ := ck_s hG; clear hG
      obtain ⟨v30, H31, z29, hG⟩ := bC_s hF; clear hF
      refine hp_callV_a (v := .int v30) (H1 := H31) (As := [.ref a26]) (rest := []) d_World_carryEvents_43 (k_Shapes_headNamed z29) (ab_mkC s_Shapes_headNamed (Nat.le_of_ble_eq_true rfl) (Nat.le_of_ble_eq_true rfl) (Nat.le_refl 0) (Nat.le_refl 0)) (k6 119 rfl rfl) i_Shapes_headNamed v_Shapes_headNamed q28 (by decide) rfl rfl (Nat.le_of_ble_eq_true rfl) ?_
      have s_2 : Sa H H31 := (m_Shapes_headNamed z29)
      refine ab_istore (lv' := [some (.ref p0), some (.ref p1), some (.ref p2), some (.int l3), some (.int l4), some (.int x10), some (.int v30)]) d_World_carryEvents_46 (by decide) rfl ?_
      refine ab_iload d_World_carryEvents_48 rfl ?_
      refine ab_if_lt (tgt := 107) d_World_carryEvents_50 (by decide) (fun q32 => ?_) (fun q32 => ?_)
      · rw [if_pos q32] at hG
        refine ab_le (lv' := [some (.ref p0), some (.ref p1), some (.ref p2), some (.int l3), some (.int l4), none, none]) ⟨rfl, ⟨rfl, ⟨rfl, ⟨rfl, ⟨rfl, trivial⟩⟩⟩⟩⟩ ?_
        exact kB_World_carryEvents_107 (mB_World_carryEvents_5 n) ih hG
      · rw [if_neg q32] at hG
        refine ab_aload_n d_World_carryEvents_53 rfl rfl rfl ?_
        obtain ⟨a33, e34, hF⟩ := rf_s hG; clear hG
        refine hp_getR (f := 3) d_World_carryEvents_54 (by rw [(s_2).1]; exact q14) (by decide) rfl (by decide) (k3 66 rfl rfl) rfl e34 ?_
        refine ab_iload d_World_carryEvents_57 rfl ?_
        refine ab_aload_n d_World_carryEvents_59 rfl rfl rfl ?_
        obtain ⟨a35, e36, hG⟩ := rf_s hF; clear hF
        refine hp_getR (f := 3) d_World_carryEvents_60 (by rw [(s_2).1]; exact q11) (by decide) rfl (by decide) (k3 66 rfl rfl) rfl e36 ?_
        refine ab_iload d_World_carryEvents_63 rfl ?_
        obtain ⟨q37, hF⟩ := ck_s hG; clear hG
        rw [(s_2).1] at q37
        obtain ⟨v39, H40, z38, hG⟩ := bC_s hF; clear hF
        refine hp_callV_a (v := .int v39) (H1 := H40) (As := [.int x10, .ref a35, .int v30]) (rest := []) d_World_carryEvents_65 (k_Shapes_sameKinds z38) (ab_mkC s_Shapes_sameKinds (Nat.le_of_ble_eq_true rfl) (Nat.le_of_ble_eq_true rfl) (Nat.le_refl 0) (Nat.le_refl 0)) (k6 155 rfl rfl) i_Shapes_sameKinds v_Shapes_sameKinds (by rw [(s_2).1]; exact q37) (by decide) rfl rfl (Nat.le_of_ble_eq_true rfl) ?_
        have s_3 : Sa H H40 := (s_2).tr (m_Shapes_sameKinds z38)
        refine ab_if_eq (tgt := 107) d_World_carryEvents_68 (by decide) (fun q41 => ?_) (fun q41 => ?_)
        · rw [if_pos q41] at hG
          refine ab_le (lv' := [some (.ref p0), some (.ref p1), some (.ref p2), some (.int l3), some (.int l4), none, none]) ⟨rfl, ⟨rfl, ⟨rfl, ⟨rfl, ⟨rfl, trivial⟩⟩⟩⟩⟩ ?_
          exact kB_World_carryEvents_107 (mB_World_carryEvents_5 n) ih hG
        · rw [if_neg q41] at hG
          refine ab_aload_n d_World_carryEvents_71 rfl rfl rfl ?_
          obtain ⟨a42, e43, hF⟩ := rf_s hG; clear hG
          refine hp_getR (f := 12) d_World_carryEvents_72 (by rw [(s_3).1]; exact q1) (by decide) rfl (by decide) (k1 238 rfl rfl) rfl e43 ?_
          refine ab_iload d_World_carryEvents_75 rfl ?_
          refine ab_bipush (v := 7) d_World_carryEvents_77 (by decide) ?_
          refine ab_imul d_World_carryEvents_79 ?_
          refine ab_aload_n d_World_carryEvents_80 rfl rfl rfl ?_
          obtain ⟨a44, e45, hG⟩ := rf_s hF; clear hF
          refine hp_getR (f := 12) d_World_carryEvents_81 (by rw [(s_3).1]; exact q1) (by decide) rfl (by decide) (k1 238 rfl rfl) rfl e45 ?_
          refine ab_iload_n d_World_carryEvents_84 rfl rfl ?_
          refine ab_bipush (v := 7) d_World_carryEvents_85 (by decide) ?_
          refine ab_imul d_World_carryEvents_87 ?_
          refine ab_bipush (v := 7) d_World_carryEvents_88 (by decide) ?_
          obtain ⟨n46, q47, hF⟩ := ar_s hG; clear hG
          rw [(s_3).1] at q47
          obtain ⟨n48, q49, hG⟩ := ar_s hF; clear hF
          rw [(s_3).1] at q49
          obtain ⟨q50, hF⟩ := ck_s hG; clear hG
          obtain ⟨q51, hG⟩ := ck_s hF; clear hF
          obtain ⟨q52, hF⟩ := ck_s hG; clear hG
          obtain ⟨q53, hG⟩ := ck_s hF; clear hF
          obtain ⟨q54, hF⟩ := ck_s hG; clear hG
          refine hp_acopy d_World_carryEvents_90 (k6 111 rfl rfl) (k6 113 rfl rfl) (k6 112 rfl rfl) (k1 29 rfl rfl) (by rw [(s_3).1]; exact q47) (by rw [(s_3).1]; exact q49) q50 q51 q52 q53 q54 (Nat.le_of_ble_eq_true rfl) (Nat.le_of_ble_eq_true rfl) ?_
          refine hp_gen (fun H55 eH55 => ?_)
          replace hF := bnd_s eH55 hF
          have s_4 : Sa H H55 := by rw [eH55]; exact s_3
          refine ab_aload_n d_World_carryEvents_93 rfl rfl rfl ?_
          obtain ⟨a56, e57, hG⟩ := rf_s hF; clear hF
          refine hp_getR (f := 12) d_World_carryEvents_94 (by rw [(s_4).1]; exact q1) (by decide) rfl (by decide) (k1 238 rfl rfl) rfl e57 ?_
          refine ab_iload_n d_World_carryEvents_97 rfl rfl ?_
          refine ab_bipush (v := 7) d_World_carryEvents_98 (by decide) ?_
          refine ab_imul d_World_carryEvents_100 ?_
          refine ab_iload d_World_carryEvents_101 rfl ?_
          obtain ⟨n58, q59, hF⟩ := ar_s hG; clear hG
          rw [(s_4).1] at q59
          obtain ⟨q60, hG⟩ := ck_s hF; clear hF
          refine hp_iast d_World_carryEvents_103 tI (by rw [(s_4).1]; exact q59) q60 ?_
          refine hp_gen (fun H61 eH61 => ?_)
          replace hG := bnd_s eH61 hG
          have s_5 : Sa H H61 := by rw [eH61]; exact s_4
          refine ab_iinc (v := l3 + 1) (lv' := [some (.ref p0), some (.ref p1), some (.ref p2), some (.int (l3 + 1)), some (.int l4), some (.int x10), some (.int v30)]) d_World_carryEvents_104 rfl rfl (by decide) rfl ?_
          refine ab_le (lv' := [some (.ref p0), some (.ref p1), some (.ref p2), some (.int (l3 + 1)), some (.int l4), none, none]) ⟨rfl, ⟨rfl, ⟨rfl, ⟨rfl, ⟨rfl, trivial⟩⟩⟩⟩⟩ ?_
          exact kB_World_carryEvents_107 (mB_World_carryEvents_5 n) ih hG
def F_World_carryEvents (N : Nat) (p0 : Nat) (p1 : Nat) (p2 : Nat) (H : Hp) : Option (Unit × Hp) :=
    B_World_carryEvents_5 N p0 p1 p2 N 0 0 H
set_option maxRecDepth 20000 in
set_option maxHeartbeats 2000000 in
theorem m_World_carryEvents {N : Nat} {p0 : Nat} {p1 : Nat} {p2 : Nat} {H : Hp} {r : Unit × Hp} (hF : F_World_carryEvents N p0 p1 p2 H = some r) : Sa H r.2 := by
  unfold F_World_carryEvents at hF
  have hm := Sa.rf H
  exact hm.tr (mB_World_carryEvents_5 N 0 0 H r hF)
set_option maxRecDepth 20000 in
set_option maxHeartbeats 2000000 in
theorem k_World_carryEvents {N : Nat} {p0 : Nat} {p1 : Nat} {p2 : Nat} {H : Hp} {r : Unit × Hp} (hF : F_World_carryEvents N p0 p1 p2 H = some r) : ab_M y_World_carryEvents { frames := 3, cells := 0, slots := 0, locals := 66 } [.ref p0, .ref p1, .ref p2] (hpw H) (po (.returned none) r.2) := by
  unfold F_World_carryEvents at hF
  refine ab_of2 (lv := [some (.ref p0), some (.ref p1), some (.ref p2), none, none, none, none]) 4 rfl rfl (Nat.le_of_ble_eq_true rfl) ?_
  refine ab_iconst (v := 0) d_World_carryEvents_0 (by decide) ?_
  refine ab_istore_n (lv' := [some (.ref p0), some (.ref p1), some (.ref p2), some (.int 0), none, none, none]) d_World_carryEvents_1 rfl (by decide) rfl ?_
  refine ab_iconst (v := 0) d_World_carryEvents_2 (by decide) ?_
  refine ab_istore (lv' := [some (.ref p0), some (.ref p1), some (.ref p2), some (.int 0), some (.int 0), none, none]) d_World_carryEvents_3 (by decide) rfl ?_
  exact kB_World_carryEvents_5 N 0 0 H r hF
def y_World_carryFrom : ab_Y := (⟨"WorldEngine$World", "carryFrom", "(LWorldEngine$World;LWorldEngine$Program;LWorldEngine$Program;)V"⟩, prog_12_method_19_code, 9, none, [])
theorem d_World_carryFrom_0 : decode y_World_carryFrom.2.1 0 = .ok (.aload_n 3, 1) := by decide +kernel
theorem d_World_carryFrom_1 : decode y_World_carryFrom.2.1 1 = .ok (.getfield 99, 3) := by decide +kernel
theorem d_World_carryFrom_4 : decode y_World_carryFrom.2.1 4 = .ok (.astore 4, 2) := by decide +kernel
theorem d_World_carryFrom_6 : decode y_World_carryFrom.2.1 6 = .ok (.aload_n 0, 1) := by decide +kernel
theorem d_World_carryFrom_7 : decode y_World_carryFrom.2.1 7 = .ok (.aload 4, 2) := by decide +kernel
theorem d_World_carryFrom_9 : decode y_World_carryFrom.2.1 9 = .ok (.invokevirtual 115, 3) := by decide +kernel
theorem d_World_carryFrom_12 : decode y_World_carryFrom.2.1 12 = .ok (.putfield 52, 3) := by decide +kernel
theorem d_World_carryFrom_15 : decode y_World_carryFrom.2.1 15 = .ok (.aload_n 0, 1) := by decide +kernel
theorem d_World_carryFrom_16 : decode y_World_carryFrom.2.1 16 = .ok (.iconst 0, 1) := by decide +kernel
theorem d_World_carryFrom_17 : decode y_World_carryFrom.2.1 17 = .ok (.putfield 46, 3) := by decide +kernel
theorem d_World_carryFrom_20 : decode y_World_carryFrom.2.1 20 = .ok (.iconst 0, 1) := by decide +kernel
theorem d_World_carryFrom_21 : decode y_World_carryFrom.2.1 21 = .ok (.istore 5, 2) := by decide +kernel
theorem d_World_carryFrom_23 : decode y_World_carryFrom.2.1 23 = .ok (.iload 5, 2) := by decide +kernel
theorem d_World_carryFrom_25 : decode y_World_carryFrom.2.1 25 = .ok (.aload_n 0, 1) := by decide +kernel
theorem d_World_carryFrom_26 : decode y_World_carryFrom.2.1 26 = .ok (.getfield 49, 3) := by decide +kernel
theorem d_World_carryFrom_29 : decode y_World_carryFrom.2.1 29 = .ok (.if_icmp .ge 27, 3) := by decide +kernel
theorem d_World_carryFrom_32 : decode y_World_carryFrom.2.1 32 = .ok (.aload_n 1, 1) := by decide +kernel
theorem d_World_carryFrom_33 : decode y_World_carryFrom.2.1 33 = .ok (.getfield 13, 3) := by decide +kernel
theorem d_World_carryFrom_36 : decode y_World_carryFrom.2.1 36 = .ok (.iload 5, 2) := by decide +kernel
theorem d_World_carryFrom_38 : decode y_World_carryFrom.2.1 38 = .ok (.iaload, 1) := by decide +kernel
theorem d_World_carryFrom_39 : decode y_World_carryFrom.2.1 39 = .ok (.ifCond .lt 11, 3) := by decide +kernel
theorem d_World_carryFrom_42 : decode y_World_carryFrom.2.1 42 = .ok (.aload_n 0, 1) := by decide +kernel
theorem d_World_carryFrom_43 : decode y_World_carryFrom.2.1 43 = .ok (.getfield 13, 3) := by decide +kernel
theorem d_World_carryFrom_46 : decode y_World_carryFrom.2.1 46 = .ok (.iload 5, 2) := by decide +kernel
theorem d_World_carryFrom_48 : decode y_World_carryFrom.2.1 48 = .ok (.iconst 0, 1) := by decide +kernel
theorem d_World_carryFrom_49 : decode y_World_carryFrom.2.1 49 = .ok (.iastore, 1) := by decide +kernel
theorem d_World_carryFrom_50 : decode y_World_carryFrom.2.1 50 = .ok (.iinc 5 1, 3) := by decide +kernel
theorem d_World_carryFrom_53 : decode y_World_carryFrom.2.1 53 = .ok (.goto (-30), 3) := by decide +kernel
theorem d_World_carryFrom_56 : decode y_World_carryFrom.2.1 56 = .ok (.iconst 0, 1) := by decide +kernel
theorem d_World_carryFrom_57 : decode y_World_carryFrom.2.1 57 = .ok (.istore 5, 2) := by decide +kernel
theorem d_World_carryFrom_59 : decode y_World_carryFrom.2.1 59 = .ok (.iload 5, 2) := by decide +kernel
theorem d_World_carryFrom_61 : decode y_World_carryFrom.2.1 61 = .ok (.aload 4, 2) := by decide +kernel
theorem d_World_carryFrom_63 : decode y_World_carryFrom.2.1 63 = .ok (.getfield 119, 3) := by decide +kernel
theorem d_World_carryFrom_66 : decode y_World_carryFrom.2.1 66 = .ok (.if_icmp .ge 141, 3) := by decide +kernel
theorem d_World_carryFrom_69 : decode y_World_carryFrom.2.1 69 = .ok (.aload_n 2, 1) := by decide +kernel
theorem d_World_carryFrom_70 : decode y_World_carryFrom.2.1 70 = .ok (.getfield 99, 3) := by decide +kernel
theorem d_World_carryFrom_73 : decode y_World_carryFrom.2.1 73 = .ok (.aload 4, 2) := by decide +kernel
theorem d_World_carryFrom_75 : decode y_World_carryFrom.2.1 75 = .ok (.getfield 122, 3) := by decide +kernel
theorem d_World_carryFrom_78 : decode y_World_carryFrom.2.1 78 = .ok (.iload 5, 2) := by decide +kernel
theorem d_World_carryFrom_80 : decode y_World_carryFrom.2.1 80 = .ok (.aaload, 1) := by decide +kernel
theorem d_World_carryFrom_81 : decode y_World_carryFrom.2.1 81 = .ok (.getfield 126, 3) := by decide +kernel
theorem d_World_carryFrom_84 : decode y_World_carryFrom.2.1 84 = .ok (.invokevirtual 132, 3) := by decide +kernel
theorem d_World_carryFrom_87 : decode y_World_carryFrom.2.1 87 = .ok (.istore 6, 2) := by decide +kernel
theorem d_World_carryFrom_89 : decode y_World_carryFrom.2.1 89 = .ok (.iconst 0, 1) := by decide +kernel
theorem d_World_carryFrom_90 : decode y_World_carryFrom.2.1 90 = .ok (.istore 7, 2) := by decide +kernel
theorem d_World_carryFrom_92 : decode y_World_carryFrom.2.1 92 = .ok (.iload 7, 2) := by decide +kernel
theorem d_World_carryFrom_94 : decode y_World_carryFrom.2.1 94 = .ok (.aload_n 0, 1) := by decide +kernel
theorem d_World_carryFrom_95 : decode y_World_carryFrom.2.1 95 = .ok (.getfield 49, 3) := by decide +kernel
theorem d_World_carryFrom_98 : decode y_World_carryFrom.2.1 98 = .ok (.if_icmp .ge 39, 3) := by decide +kernel
theorem d_World_carryFrom_101 : decode y_World_carryFrom.2.1 101 = .ok (.iload 6, 2) := by decide +kernel
theorem d_World_carryFrom_103 : decode y_World_carryFrom.2.1 103 = .ok (.ifCond .lt 34, 3) := by decide +kernel
theorem d_World_carryFrom_106 : decode y_World_carryFrom.2.1 106 = .ok (.aload_n 1, 1) := by decide +kernel
theorem d_World_carryFrom_107 : decode y_World_carryFrom.2.1 107 = .ok (.iload 7, 2) := by decide +kernel
theorem d_World_carryFrom_109 : decode y_World_carryFrom.2.1 109 = .ok (.iload 6, 2) := by decide +kernel
theorem d_World_carryFrom_111 : decode y_World_carryFrom.2.1 111 = .ok (.invokevirtual 136, 3) := by decide +kernel
theorem d_World_carryFrom_114 : decode y_World_carryFrom.2.1 114 = .ok (.ifCond .eq 17, 3) := by decide +kernel
theorem d_World_carryFrom_117 : decode y_World_carryFrom.2.1 117 = .ok (.aload_n 0, 1) := by decide +kernel
theorem d_World_carryFrom_118 : decode y_World_carryFrom.2.1 118 = .ok (.getfield 13, 3) := by decide +kernel
theorem d_World_carryFrom_121 : decode y_World_carryFrom.2.1 121 = .ok (.iload 7, 2) := by decide +kernel
theorem d_World_carryFrom_123 : decode y_World_carryFrom.2.1 123 = .ok (.dup2, 1) := by decide +kernel
theorem d_World_carryFrom_124 : decode y_World_carryFrom.2.1 124 = .ok (.iaload, 1) := by decide +kernel
theorem d_World_carryFrom_125 : decode y_World_carryFrom.2.1 125 = .ok (.iconst 1, 1) := by decide +kernel
theorem d_World_carryFrom_126 : decode y_World_carryFrom.2.1 126 = .ok (.iload 5, 2) := by decide +kernel
theorem d_World_carryFrom_128 : decode y_World_carryFrom.2.1 128 = .ok (.ishl, 1) := by decide +kernel
theorem d_World_carryFrom_129 : decode y_World_carryFrom.2.1 129 = .ok (.ior, 1) := by decide +kernel
theorem d_World_carryFrom_130 : decode y_World_carryFrom.2.1 130 = .ok (.iastore, 1) := by decide +kernel
theorem d_World_carryFrom_131 : decode y_World_carryFrom.2.1 131 = .ok (.iinc 7 1, 3) := by decide +kernel
theorem d_World_carryFrom_134 : decode y_World_carryFrom.2.1 134 = .ok (.goto (-42), 3) := by decide +kernel
theorem d_World_carryFrom_137 : decode y_World_carryFrom.2.1 137 = .ok (.aload 4, 2) := by decide +kernel
theorem d_World_carryFrom_139 : decode y_World_carryFrom.2.1 139 = .ok (.getfield 103, 3) := by decide +kernel
theorem d_World_carryFrom_142 : decode y_World_carryFrom.2.1 142 = .ok (.iload 5, 2) := by decide +kernel
theorem d_World_carryFrom_144 : decode y_World_carryFrom.2.1 144 = .ok (.iaload, 1) := by decide +kernel
theorem d_World_carryFrom_145 : decode y_World_carryFrom.2.1 145 = .ok (.istore 7, 2) := by decide +kernel
theorem d_World_carryFrom_147 : decode y_World_carryFrom.2.1 147 = .ok (.iload 7, 2) := by decide +kernel
theorem d_World_carryFrom_149 : decode y_World_carryFrom.2.1 149 = .ok (.aload 4, 2) := by decide +kernel
theorem d_World_carryFrom_151 : decode y_World_carryFrom.2.1 151 = .ok (.getfield 103, 3) := by decide +kernel
theorem d_World_carryFrom_154 : decode y_World_carryFrom.2.1 154 = .ok (.iload 5, 2) := by decide +kernel
theorem d_World_carryFrom_156 : decode y_World_carryFrom.2.1 156 = .ok (.iconst 1, 1) := by decide +kernel
theorem d_World_carryFrom_157 : decode y_World_carryFrom.2.1 157 = .ok (.iadd, 1) := by decide +kernel
theorem d_World_carryFrom_158 : decode y_World_carryFrom.2.1 158 = .ok (.iaload, 1) := by decide +kernel
theorem d_World_carryFrom_159 : decode y_World_carryFrom.2.1 159 = .ok (.if_icmp .ge 42, 3) := by decide +kernel
theorem d_World_carryFrom_162 : decode y_World_carryFrom.2.1 162 = .ok (.aload_n 2, 1) := by decide +kernel
theorem d_World_carryFrom_163 : decode y_World_carryFrom.2.1 163 = .ok (.getfield 99, 3) := by decide +kernel
theorem d_World_carryFrom_166 : decode y_World_carryFrom.2.1 166 = .ok (.iload 6, 2) := by decide +kernel
theorem d_World_carryFrom_168 : decode y_World_carryFrom.2.1 168 = .ok (.aload 4, 2) := by decide +kernel
theorem d_World_carryFrom_170 : decode y_World_carryFrom.2.1 170 = .ok (.getfield 140, 3) := by decide +kernel
theorem d_World_carryFrom_173 : decode y_World_carryFrom.2.1 173 = .ok (.iload 7, 2) := by decide +kernel
theorem d_World_carryFrom_175 : decode y_World_carryFrom.2.1 175 = .ok (.aaload, 1) := by decide +kernel
theorem d_World_carryFrom_176 : decode y_World_carryFrom.2.1 176 = .ok (.getfield 126, 3) := by decide +kernel
theorem d_World_carryFrom_179 : decode y_World_carryFrom.2.1 179 = .ok (.invokevirtual 143, 3) := by decide +kernel
theorem d_World_carryFrom_182 : decode y_World_carryFrom.2.1 182 = .ok (.istore 8, 2) := by decide +kernel
theorem d_World_carryFrom_184 : decode y_World_carryFrom.2.1 184 = .ok (.aload_n 0, 1) := by decide +kernel
theorem d_World_carryFrom_185 : decode y_World_carryFrom.2.1 185 = .ok (.aload_n 1, 1) := by decide +kernel
theorem d_World_carryFrom_186 : decode y_World_carryFrom.2.1 186 = .ok (.aload_n 2, 1) := by decide +kernel
theorem d_World_carryFrom_187 : decode y_World_carryFrom.2.1 187 = .ok (.iload 8, 2) := by decide +kernel
theorem d_World_carryFrom_189 : decode y_World_carryFrom.2.1 189 = .ok (.aload_n 3, 1) := by decide +kernel
theorem d_World_carryFrom_190 : decode y_World_carryFrom.2.1 190 = .ok (.iload 7, 2) := by decide +kernel
theorem d_World_carryFrom_192 : decode y_World_carryFrom.2.1 192 = .ok (.invokevirtual 147, 3) := by decide +kernel
theorem d_World_carryFrom_195 : decode y_World_carryFrom.2.1 195 = .ok (.iinc 7 1, 3) := by decide +kernel
theorem d_World_carryFrom_198 : decode y_World_carryFrom.2.1 198 = .ok (.goto (-51), 3) := by decide +kernel
theorem d_World_carryFrom_201 : decode y_World_carryFrom.2.1 201 = .ok (.iinc 5 1, 3) := by decide +kernel
theorem d_World_carryFrom_204 : decode y_World_carryFrom.2.1 204 = .ok (.goto (-145), 3) := by decide +kernel
theorem d_World_carryFrom_207 : decode y_World_carryFrom.2.1 207 = .ok (.aload_n 0, 1) := by decide +kernel
theorem d_World_carryFrom_208 : decode y_World_carryFrom.2.1 208 = .ok (.aload_n 2, 1) := by decide +kernel
theorem d_World_carryFrom_209 : decode y_World_carryFrom.2.1 209 = .ok (.aload_n 3, 1) := by decide +kernel
theorem d_World_carryFrom_210 : decode y_World_carryFrom.2.1 210 = .ok (.invokevirtual 151, 3) := by decide +kernel
theorem d_World_carryFrom_213 : decode y_World_carryFrom.2.1 213 = .ok (.return_, 1) := by decide +kernel
theorem s_World_carryFrom : ab_Stat y_World_carryFrom 3 := ⟨(k6 117 rfl rfl), (k1 10 rfl rfl), ⟨by decide, by decide⟩, by decide +kernel⟩
theorem i_World_carryFrom : Cond.instanceMethod y_World_carryFrom.1 ∈ ab_T := (k6 115 rfl rfl)
theorem v_World_carryFrom : Cond.selects "WorldEngine$World" y_World_carryFrom.1 y_World_carryFrom.1 ∈ ab_T := (k6 116 rfl rfl)
def B_World_carryFrom_147 (N : Nat) (p0 : Nat) (p1 : Nat) (p2 : Nat) (p3 : Nat) (kq59 : Nat → Int32 → Hp → Option (Unit × Hp)) : Nat → Nat → Int32 → Int32 → Int32 → Hp → Option (Unit × Hp)
  | 0, _, _, _, _, _ => none
  | n + 1, l4, l5, l6, l7, H =>
    ck (H.sh[l4]? = some (3, 0)) <|
    rf (H.P l4 2) fun a49 =>
    ar H 100 a49 fun n51 =>
    ck (inb (l5 + (1 : Int32)) n51) <|
    bnd ((H.D a49 ((l5 + (1 : Int32))).toNatClampNeg)) fun x54 =>
    if x54 ≤ l7 then
    kq59 l4 (l5 + 1) H
    else
    ck (H.sh[p2]? = some (4, 0)) <|
    rf (H.P p2 2) fun a57 =>
    rf (H.P l4 1) fun a59 =>
    ar H 106 a59 fun n61 =>
    ck (inb l7 n61) <|
    rf (H.P a59 (l7).toNatClampNeg) fun a64 =>
    ck (H.sh[a64]? = some (2, 0)) <|
    rf (H.P a64 0) fun a67 =>
    ck (H.sh[a57]? = some (3, 0)) <|
    bC (F_Shapes_memberNamed N a57 l6 a67 H) fun v71 H72 =>
    ck (H72.sh[p0]? = some (7, 0)) <|
    bC (F_World_carryMember N p0 p1 p2 v71 p3 l7 H72) fun v75 H76 =>
    B_World_carryFrom_147 N p0 p1 p2 p3 kq59 n l4 l5 l6 (l7 + 1) H76
termination_by structural n => n
set_option maxRecDepth 20000 in
set_option maxHeartbeats 2000000 in
theorem mB_World_carryFrom_147 {N : Nat} {p0 : Nat} {p1 : Nat} {p2 : Nat} {p3 : Nat} {kq59 : Nat → Int32 → Hp → Option (Unit × Hp)} (hm59 : ∀ (l4 : Nat) (l5 : Int32) (H : Hp) (r : Unit × Hp), kq59 l4 l5 H = some r → Sa H r.2) : ∀ (n : Nat) (l4 : Nat) (l5 : Int32) (l6 : Int32) (l7 : Int32) (H : Hp) (r : Unit × Hp), B_World_carryFrom_147 N p0 p1 p2 p3 kq59 n l4 l5 l6 l7 H = some r → Sa H r.2 := by
  intro n
  induction n with
  | zero => intro l4 l5 l6 l7 H r hF; rw [B_World_carryFrom_147] at hF; cases hF
  | succ n ih =>
    intro l4 l5 l6 l7 H r hF
    rw [B_World_carryFrom_147] at hF
    have hm := Sa.rf H
    obtain ⟨q77, hG⟩ := ck_s hF; clear hF
    obtain ⟨a78, e79, hF⟩ := rf_s hG; clear hG
    obtain ⟨n80, q81, hG⟩ := ar_s hF; clear hF
    obtain ⟨q82, hF⟩ := ck_s hG; clear hG
    obtain ⟨x83, -, hG⟩ := bnd_g hF; clear hF
    rcases ite_s hG with ⟨q_8, hF⟩ | ⟨q_8, hF⟩
    · clear hG
      exact hm.tr (hm59 l4 (l5 + 1) H r hF)
    · clear hG
      obtain ⟨q85, hG⟩ := ck_s hF; clear hF
      obtain ⟨a86, e87, hF⟩ := rf_s hG; clear hG
      obtain ⟨a88, e89, hG⟩ := rf_s hF; clear hF
      obtain ⟨n90, q91, hF⟩ := ar_s hG; clear hG
      obtain ⟨q92, hG⟩ := ck_s hF; clear hF
      obtain ⟨a93, e94, hF⟩ := rf_s hG; clear hG
      obtain ⟨q95, hG⟩ := ck_s hF; clear hF
      obtain ⟨a96, e97, hF⟩ := rf_s hG; clear hG
      obtain ⟨q98, hG⟩ := ck_s hF; clear hF
      obtain ⟨v100, H101, z99, hF⟩ := bC_s hG; clear hG
      replace hm : Sa H H101 := hm.tr (m_Shapes_memberNamed z99)
      obtain ⟨q102, hG⟩ := ck_s hF; clear hF
      obtain ⟨v104, H105, z103, hF⟩ := bC_s hG; clear hG
      replace hm : Sa H H105 := hm.tr (m_World_carryMember z103)
      exact hm.tr (ih l4 l5 l6 (l7 + 1) H105 r hF)
set_option maxRecDepth 20000 in
set_option maxHeartbeats 2000000 in
theorem kB_World_carryFrom_147 {N : Nat} {p0 : Nat} {p1 : Nat} {p2 : Nat} {p3 : Nat} {kq59 : Nat → Int32 → Hp → Option (Unit × Hp)} (hm59 : ∀ (l4 : Nat) (l5 : Int32) (H : Hp) (r : Unit × Hp), kq59 l4 l5 H = some r → Sa H r.2) (hk59 : ∀ (l4 : Nat) (l5 : Int32) (H : Hp) (r : Unit × Hp), kq59 l4 l5 H = some r → ab_V y_World_carryFrom { frames := 4, cells := 0, slots := 0, locals := 92 } (po (.returned none) r.2) 0 0 0 0 59 [some (.ref p0), some (.ref p1), some (.ref p2), some (.ref p3), some (.ref l4), some (.int l5), none, none, none] [] (hpw H)) : ∀ (n : Nat) (l4 : Nat) (l5 : Int32) (l6 : Int32) (l7 : Int32) (H : Hp) (r : Unit × Hp), B_World_carryFrom_147 N p0 p1 p2 p3 kq59 n l4 l5 l6 l7 H = some r → ab_V y_World_carryFrom { frames := 4, cells := 0, slots := 0, locals := 92 } (po (.returned none) r.2) 0 0 0 0 147 [some (.ref p0), some (.ref p1), some (.ref p2), some (.ref p3), some (.ref l4), some (.int l5), some (.int l6), some (.int l7), none] [] (hpw H) := by
  intro n
  induction n with
  | zero => intro l4 l5 l6 l7 H r hF; rw [B_World_carryFrom_147] at hF; cases hF
  | succ n ih =>
    intro l4 l5 l6 l7 H r hF
    rw [B_World_carryFrom_147] at hF
    refine ab_iload d_World_carryFrom_147 rfl ?_
    refine ab_aload d_World_carryFrom_149 rfl rfl ?_
    obtain ⟨q48, hG⟩ := ck_s hF; clear hF
    obtain ⟨a49, e50, hF⟩ := rf_s hG; clear hG
    refine hp_getR (f := 2) d_World_carryFrom_151 q48 (by decide) rfl (by decide) (k3 37 rfl rfl) rfl e50 ?_
    refine ab_iload d_World_carryFrom_154 rfl ?_
    refine ab_iconst (v := 1) d_World_carryFrom_156 (by decide) ?_
    refine ab_iadd d_World_carryFrom_157 ?_
    obtain ⟨n51, q52, hG⟩ := ar_s hF; clear hF
    obtain ⟨q53, hF⟩ := ck_s hG; clear hG
    refine hp_iald d_World_carryFrom_158 tI q52 q53 ?_
    refine ab_topi (fun x54 ex54 => ?_)
    replace hF := bnd_s ex54 hF
    refine ab_icmp_ge (tgt := 201) d_World_carryFrom_159 (by decide) (fun q55 => ?_) (fun q55 => ?_)
    · rw [if_pos q55] at hF
      refine ab_iinc (v := l5 + 1) (lv' := [some (.ref p0), some (.ref p1), some (.ref p2), some (.ref p3), some (.ref l4), some (.int (l5 + 1)), some (.int l6), some (.int l7), none]) d_World_carryFrom_201 rfl rfl (by decide) rfl ?_
      refine ab_goto (tgt := 59) d_World_carryFrom_204 (by decide) ?_
      refine ab_le (lv' := [some (.ref p0), some (.ref p1), some (.ref p2), some (.ref p3), some (.ref l4), some (.int (l5 + 1)), none, none, none]) ⟨rfl, ⟨rfl, ⟨rfl, ⟨rfl, ⟨rfl, ⟨rfl, trivial⟩⟩⟩⟩⟩⟩ ?_
      exact hk59 l4 (l5 + 1) H r hF
    · rw [if_neg q55] at hF
      refine ab_aload_n d_World_carryFrom_162 rfl rfl rfl ?_
      obtain ⟨q56, hG⟩ := ck_s hF; clear hF
      obtain ⟨a57, e58, hF⟩ := rf_s hG; clear hG
      refine hp_getR (f := 2) d_World_carryFrom_163 q56 (by decide) rfl (by decide) (k3 61 rfl rfl) rfl e58 ?_
      refine ab_iload d_World_carryFrom_166 rfl ?_
      refine ab_aload d_World_carryFrom_168 rfl rfl ?_
      obtain ⟨a59, e60, hG⟩ := rf_s hF; clear hF
      refine hp_getR (f := 1) d_World_carryFrom_170 q48 (by decide) rfl (by decide) (k3 31 rfl rfl) rfl e60 ?_
      refine ab_iload d_World_carryFrom_173 rfl ?_
      obtain ⟨n61, q62, hF⟩ := ar_s hG; clear hG
      obtain ⟨q63, hG⟩ := ck_s hF; clear hF
      obtain ⟨a64, e65, hF⟩ := rf_s hG; clear hG
      refine hp_aald (q := 106) d_World_carryFrom_175 (by decide) tN q62 q63 e65 ?_
      obtain ⟨q66, hG⟩ := ck_s hF; clear hF
      obtain ⟨a67, e68, hF⟩ := rf_s hG; clear hG
      refine hp_getR (f := 0) d_World_carryFrom_176 q66 (by decide) rfl (by decide) (k2 231 rfl rfl) rfl e68 ?_
      obtain ⟨q69, hG⟩ := ck_s hF; clear hF
      obtain ⟨v71, H72, z70, hF⟩ := bC_s hG; clear hG
      refine hp_callV_a (v := .int v71) (H1 := H72) (As := [.int l6, .ref a67]) (rest := []) d_World_carryFrom_179 (k_Shapes_memberNamed z70) (ab_mkC s_Shapes_memberNamed (Nat.le_of_ble_eq_true rfl) (Nat.le_of_ble_eq_true rfl) (Nat.le_refl 0) (Nat.le_refl 0)) (k6 127 rfl rfl) i_Shapes_memberNamed v_Shapes_memberNamed q69 (by decide) rfl rfl (Nat.le_of_ble_eq_true rfl) ?_
      have s_6 : Sa H H72 := (m_Shapes_memberNamed z70)
      refine ab_istore (lv' := [some (.ref p0), some (.ref p1), some (.ref p2), some (.ref p3), some (.ref l4), some (.int l5), some (.int l6), some (.int l7), some (.int v71)]) d_World_carryFrom_182 (by decide) rfl ?_
      refine ab_aload_n d_World_carryFrom_184 rfl rfl rfl ?_
      refine ab_aload_n d_World_carryFrom_185 rfl rfl rfl ?_
      refine ab_aload_n d_World_carryFrom_186 rfl rfl rfl ?_
      refine ab_iload d_World_carryFrom_187 rfl ?_
      refine ab_aload_n d_World_carryFrom_189 rfl rfl rfl ?_
      refine ab_iload d_World_carryFrom_190 rfl ?_
      obtain ⟨q73, hG⟩ := ck_s hF; clear hF
      rw [(s_6).1] at q73
      obtain ⟨v75, H76, z74, hF⟩ := bC_s hG; clear hG
      refine hp_callV_v (H1 := H76) (As := [.ref p1, .ref p2, .int v71, .ref p3, .int l7]) (rest := []) d_World_carryFrom_192 (k_World_carryMember z74) (ab_mkC s_World_carryMember (Nat.le_of_ble_eq_true rfl) (Nat.le_of_ble_eq_true rfl) (Nat.le_refl 0) (Nat.le_refl 0)) (k6 128 rfl rfl) i_World_carryMember v_World_carryMember (by rw [(s_6).1]; exact q73) (by decide) rfl rfl (Nat.le_of_ble_eq_true rfl) ?_
      have s_7 : Sa H H76 := (s_6).tr (m_World_carryMember z74)
      refine ab_iinc (v := l7 + 1) (lv' := [some (.ref p0), some (.ref p1), some (.ref p2), some (.ref p3), some (.ref l4), some (.int l5), some (.int l6), some (.int (l7 + 1)), some (.int v71)]) d_World_carryFrom_195 rfl rfl (by decide) rfl ?_
      refine ab_goto (tgt := 147) d_World_carryFrom_198 (by decide) ?_
      refine ab_le (lv' := [some (.ref p0), some (.ref p1), some (.ref p2), some (.ref p3), some (.ref l4), some (.int l5), some (.int l6), some (.int (l7 + 1)), none]) ⟨rfl, ⟨rfl, ⟨rfl, ⟨rfl, ⟨rfl, ⟨rfl, ⟨rfl, ⟨rfl, trivial⟩⟩⟩⟩⟩⟩⟩⟩ ?_
      exact ih l4 l5 l6 (l7 + 1) H76 r hF
def B_World_carryFrom_137 (N : Nat) (p0 : Nat) (p1 : Nat) (p2 : Nat) (p3 : Nat) (kq59 : Nat → Int32 → Hp → Option (Unit × Hp)) (l4 : Nat) (l5 : Int32) (l6 : Int32) (H : Hp) : Option (Unit × Hp) :=
    ck (H.sh[l4]? = some (3, 0)) <|
    rf (H.P l4 2) fun a42 =>
    ar H 100 a42 fun n44 =>
    ck (inb l5 n44) <|
    bnd ((H.D a42 (l5).toNatClampNeg)) fun x47 =>
    B_World_carryFrom_147 N p0 p1 p2 p3 kq59 N l4 l5 l6 x47 H
set_option maxRecDepth 20000 in
set_option maxHeartbeats 2000000 in
theorem mB_World_carryFrom_137 {N : Nat} {p0 : Nat} {p1 : Nat} {p2 : Nat} {p3 : Nat} {kq59 : Nat → Int32 → Hp → Option (Unit × Hp)} (hm59 : ∀ (l4 : Nat) (l5 : Int32) (H : Hp) (r : Unit × Hp), kq59 l4 l5 H = some r → Sa H r.2) {l4 : Nat} {l5 : Int32} {l6 : Int32} {H : Hp} {r : Unit × Hp} (hF : B_World_carryFrom_137 N p0 p1 p2 p3 kq59 l4 l5 l6 H = some r) : Sa H r.2 := by
  unfold B_World_carryFrom_137 at hF
  have hm := Sa.rf H
  obtain ⟨q106, hG⟩ := ck_s hF; clear hF
  obtain ⟨a107, e108, hF⟩ := rf_s hG; clear hG
  obtain ⟨n109, q110, hG⟩ := ar_s hF; clear hF
  obtain ⟨q111, hF⟩ := ck_s hG; clear hG
  obtain ⟨x112, -, hG⟩ := bnd_g hF; clear hF
  exact hm.tr (mB_World_carryFrom_147 hm59 N l4 l5 l6 x112 H r hG)
set_option maxRecDepth 20000 in
set_option maxHeartbeats 2000000 in
theorem kB_World_carryFrom_137 {N : Nat} {p0 : Nat} {p1 : Nat} {p2 : Nat} {p3 : Nat} {kq59 : Nat → Int32 → Hp → Option (Unit × Hp)} (hm59 : ∀ (l4 : Nat) (l5 : Int32) (H : Hp) (r : Unit × Hp), kq59 l4 l5 H = some r → Sa H r.2) (hk59 : ∀ (l4 : Nat) (l5 : Int32) (H : Hp) (r : Unit × Hp), kq59 l4 l5 H = some r → ab_V y_World_carryFrom { frames := 4, cells := 0, slots := 0, locals := 92 } (po (.returned none) r.2) 0 0 0 0 59 [some (.ref p0), some (.ref p1), some (.ref p2), some (.ref p3), some (.ref l4), some (.int l5), none, none, none] [] (hpw H)) {l4 : Nat} {l5 : Int32} {l6 : Int32} {H : Hp} {r : Unit × Hp} (hF : B_World_carryFrom_137 N p0 p1 p2 p3 kq59 l4 l5 l6 H = some r) : ab_V y_World_carryFrom { frames := 4, cells := 0, slots := 0, locals := 92 } (po (.returned none) r.2) 0 0 0 0 137 [some (.ref p0), some (.ref p1), some (.ref p2), some (.ref p3), some (.ref l4), some (.int l5), some (.int l6), none, none] [] (hpw H) := by
  unfold B_World_carryFrom_137 at hF
  refine ab_aload d_World_carryFrom_137 rfl rfl ?_
  obtain ⟨q41, hG⟩ := ck_s hF; clear hF
  obtain ⟨a42, e43, hF⟩ := rf_s hG; clear hG
  refine hp_getR (f := 2) d_World_carryFrom_139 q41 (by decide) rfl (by decide) (k3 37 rfl rfl) rfl e43 ?_
  refine ab_iload d_World_carryFrom_142 rfl ?_
  obtain ⟨n44, q45, hG⟩ := ar_s hF; clear hF
  obtain ⟨q46, hF⟩ := ck_s hG; clear hG
  refine hp_iald d_World_carryFrom_144 tI q45 q46 ?_
  refine ab_topi (fun x47 ex47 => ?_)
  replace hF := bnd_s ex47 hF
  refine ab_istore (lv' := [some (.ref p0), some (.ref p1), some (.ref p2), some (.ref p3), some (.ref l4), some (.int l5), some (.int l6), some (.int x47), none]) d_World_carryFrom_145 (by decide) rfl ?_
  exact kB_World_carryFrom_147 hm59 hk59 N l4 l5 l6 x47 H r hF
def B_World_carryFrom_131 (N : Nat) (p0 : Nat) (p1 : Nat) (p2 : Nat) (p3 : Nat) (kq59 : Nat → Int32 → Hp → Option (Unit × Hp)) (kq92 : Nat → Int32 → Int32 → Int32 → Hp → Option (Unit × Hp)) (l4 : Nat) (l5 : Int32) (l6 : Int32) (l7 : Int32) (H : Hp) : Option (Unit × Hp) :=
    kq92 l4 l5 l6 (l7 + 1) H
set_option maxRecDepth 20000 in
set_option maxHeartbeats 2000000 in
theorem mB_World_carryFrom_131 {N : Nat} {p0 : Nat} {p1 : Nat} {p2 : Nat} {p3 : Nat} {kq59 : Nat → Int32 → Hp → Option (Unit × Hp)} {kq92 : Nat → Int32 → Int32 → Int32 → Hp → Option (Unit × Hp)} (hm59 : ∀ (l4 : Nat) (l5 : Int32) (H : Hp) (r : Unit × Hp), kq59 l4 l5 H = some r → Sa H r.2) (hm92 : ∀ (l4 : Nat) (l5 : Int32) (l6 : Int32) (l7 : Int32) (H : Hp) (r : Unit × Hp), kq92 l4 l5 l6 l7 H = some r → Sa H r.2) {l4 : Nat} {l5 : Int32} {l6 : Int32} {l7 : Int32} {H : Hp} {r : Unit × Hp} (hF : B_World_carryFrom_131 N p0 p1 p2 p3 kq59 kq92 l4 l5 l6 l7 H = some r) : Sa H r.2 := by
  unfold B_World_carryFrom_131 at hF
  have hm := Sa.rf H
  exact hm.tr (hm92 l4 l5 l6 (l7 + 1) H r hF)
set_option maxRecDepth 20000 in
set_option maxHeartbeats 2000000 in
theorem kB_World_carryFrom_131 {N : Nat} {p0 : Nat} {p1 : Nat} {p2 : Nat} {p3 : Nat} {kq59 : Nat → Int32 → Hp → Option (Unit × Hp)} {kq92 : Nat → Int32 → Int32 → Int32 → Hp → Option (Unit × Hp)} (hm59 : ∀ (l4 : Nat) (l5 : Int32) (H : Hp) (r : Unit × Hp), kq59 l4 l5 H = some r → Sa H r.2) (hm92 : ∀ (l4 : Nat) (l5 : Int32) (l6 : Int32) (l7 : Int32) (H : Hp) (r : Unit × Hp), kq92 l4 l5 l6 l7 H = some r → Sa H r.2) (hk59 : ∀ (l4 : Nat) (l5 : Int32) (H : Hp) (r : Unit × Hp), kq59 l4 l5 H = some r → ab_V y_World_carryFrom { frames := 4, cells := 0, slots := 0, locals := 92 } (po (.returned none) r.2) 0 0 0 0 59 [some (.ref p0), some (.ref p1), some (.ref p2), some (.ref p3), some (.ref l4), some (.int l5), none, none, none] [] (hpw H)) (hk92 : ∀ (l4 : Nat) (l5 : Int32) (l6 : Int32) (l7 : Int32) (H : Hp) (r : Unit × Hp), kq92 l4 l5 l6 l7 H = some r → ab_V y_World_carryFrom { frames := 4, cells := 0, slots := 0, locals := 92 } (po (.returned none) r.2) 0 0 0 0 92 [some (.ref p0), some (.ref p1), some (.ref p2), some (.ref p3), some (.ref l4), some (.int l5), some (.int l6), some (.int l7), none] [] (hpw H)) {l4 : Nat} {l5 : Int32} {l6 : Int32} {l7 : Int32} {H : Hp} {r : Unit × Hp} (hF : B_World_carryFrom_131 N p0 p1 p2 p3 kq59 kq92 l4 l5 l6 l7 H = some r) : ab_V y_World_carryFrom { frames := 4, cells := 0, slots := 0, locals := 92 } (po (.returned none) r.2) 0 0 0 0 131 [some (.ref p0), some (.ref p1), some (.ref p2), some (.ref p3), some (.ref l4), some (.int l5), some (.int l6), some (.int l7), none] [] (hpw H) := by
  unfold B_World_carryFrom_131 at hF
  refine ab_iinc (v := l7 + 1) (lv' := [some (.ref p0), some (.ref p1), some (.ref p2), some (.ref p3), some (.ref l4), some (.int l5), some (.int l6), some (.int (l7 + 1)), none]) d_World_carryFrom_131 rfl rfl (by decide) rfl ?_
  refine ab_goto (tgt := 92) d_World_carryFrom_134 (by decide) ?_
  exact hk92 l4 l5 l6 (l7 + 1) H r hF
def B_World_carryFrom_92 (N : Nat) (p0 : Nat) (p1 : Nat) (p2 : Nat) (p3 : Nat) (kq59 : Nat → Int32 → Hp → Option (Unit × Hp)) : Nat → Nat → Int32 → Int32 → Int32 → Hp → Option (Unit × Hp)
  | 0, _, _, _, _, _ => none
  | n + 1, l4, l5, l6, l7, H =>
    ck (H.sh[p0]? = some (7, 0)) <|
    bnd ((H.D p0 9)) fun x39 =>
    if x39 ≤ l7 then
    B_World_carryFrom_137 N p0 p1 p2 p3 kq59 l4 l5 l6 H
    else
    if l6 < (0 : Int32) then
    B_World_carryFrom_137 N p0 p1 p2 p3 kq59 l4 l5 l6 H
    else
    ck (H.sh[p1]? = some (7, 0)) <|
    bC (F_World_owns N p1 l7 l6 H) fun v116 H117 =>
    if v116 = (0 : Int32) then
    B_World_carryFrom_131 N p0 p1 p2 p3 kq59 (fun l4 l5 l6 l7 H => B_World_carryFrom_92 N p0 p1 p2 p3 kq59 n l4 l5 l6 l7 H) l4 l5 l6 l7 H117
    else
    rf (H117.P p0 8) fun a119 =>
    ar H117 100 a119 fun n121 =>
    ck (inb l7 n121) <|
    bnd ((H117.D a119 (l7).toNatClampNeg)) fun x124 =>
    ck (inb l7 n121) <|
    bnd (H117.sD a119 (l7).toNatClampNeg (x124 ||| ((1 : Int32) <<< (l5 &&& 31)))) fun H126 =>
    B_World_carryFrom_131 N p0 p1 p2 p3 kq59 (fun l4 l5 l6 l7 H => B_World_carryFrom_92 N p0 p1 p2 p3 kq59 n l4 l5 l6 l7 H) l4 l5 l6 l7 H126
termination_by structural n => n
set_option maxRecDepth 20000 in
set_option maxHeartbeats 2000000 in
theorem mB_World_carryFrom_92 {N : Nat} {p0 : Nat} {p1 : Nat} {p2 : Nat} {p3 : Nat} {kq59 : Nat → Int32 → Hp → Option (Unit × Hp)} (hm59 : ∀ (l4 : Nat) (l5 : Int32) (H : Hp) (r : Unit × Hp), kq59 l4 l5 H = some r → Sa H r.2) : ∀ (n : Nat) (l4 : Nat) (l5 : Int32) (l6 : Int32) (l7 : Int32) (H : Hp) (r : Unit × Hp), B_World_carryFrom_92 N p0 p1 p2 p3 kq59 n l4 l5 l6 l7 H = some r → Sa H r.2 := by
  intro n
  induction n with
  | zero => intro l4 l5 l6 l7 H r hF; rw [B_World_carryFrom_92] at hF; cases hF
  | succ n ih =>
    intro l4 l5 l6 l7 H r hF
    rw [B_World_carryFrom_92] at hF
    have hm := Sa.rf H
    obtain ⟨q127, hG⟩ := ck_s hF; clear hF
    obtain ⟨x128, -, hF⟩ := bnd_g hG; clear hG
    rcases ite_s hF with ⟨q_13, hG⟩ | ⟨q_13, hG⟩
    · clear hF
      exact hm.tr (mB_World_carryFrom_137 hm59 hG)
    · clear hF
      rcases ite_s hG with ⟨q_14, hF⟩ | ⟨q_14, hF⟩
      · clear hG
        exact hm.tr (mB_World_carryFrom_137 hm59 hF)
      · clear hG
        obtain ⟨q131, hG⟩ := ck_s hF; clear hF
        obtain ⟨v133, H134, z132, hF⟩ := bC_s hG; clear hG
        replace hm : Sa H H134 := hm.tr (m_World_owns z132)
        rcases ite_s hF with ⟨q_16, hG⟩ | ⟨q_16, hG⟩
        · clear hF
          exact hm.tr (mB_World_carryFrom_131 hm59 ih hG)
        · clear hF
          obtain ⟨a136, e137, hF⟩ := rf_s hG; clear hG
          obtain ⟨n138, q139, hG⟩ := ar_s hF; clear hF
          obtain ⟨q140, hF⟩ := ck_s hG; clear hG
          obtain ⟨x141, -, hG⟩ := bnd_g hF; clear hF
          obtain ⟨q142, hF⟩ := ck_s hG; clear hG
          obtain ⟨H143, eH143, hG⟩ := bnd_g hF; clear hF
          replace hm : Sa H H143 := by rw [eH143]; exact hm
          exact hm.tr (mB_World_carryFrom_131 hm59 ih hG)
set_option maxRecDepth 20000 in
set_option maxHeartbeats 2000000 in
theorem kB_World_carryFrom_92 {N : Nat} {p0 : Nat} {p1 : Nat} {p2 : Nat} {p3 : Nat} {kq59 : Nat → Int32 → Hp → Option (Unit × Hp)} (hm59 : ∀ (l4 : Nat) (l5 : Int32) (H : Hp) (r : Unit × Hp), kq59 l4 l5 H = some r → Sa H r.2) (hk59 : ∀ (l4 : Nat) (l5 : Int32) (H : Hp) (r : Unit × Hp), kq59 l4 l5 H = some r → ab_V y_World_carryFrom { frames := 4, cells := 0, slots := 0, locals := 92 } (po (.returned none) r.2) 0 0 0 0 59 [some (.ref p0), some (.ref p1), some (.ref p2), some (.ref p3), some (.ref l4), some (.int l5), none, none, none] [] (hpw H)) : ∀ (n : Nat) (l4 : Nat) (l5 : Int32) (l6 : Int32) (l7 : Int32) (H : Hp) (r : Unit × Hp), B_World_carryFrom_92 N p0 p1 p2 p3 kq59 n l4 l5 l6 l7 H = some r → ab_V y_World_carryFrom { frames := 4, cells := 0, slots := 0, locals := 92 } (po (.returned none) r.2) 0 0 0 0 92 [some (.ref p0), some (.ref p1), some (.ref p2), some (.ref p3), some (.ref l4), some (.int l5), some (.int l6), some (.int l7), none] [] (hpw H) := by
  intro n
  induction n with
  | zero => intro l4 l5 l6 l7 H r hF; rw [B_World_carryFrom_92] at hF; cases hF
  | succ n ih =>
    intro l4 l5 l6 l7 H r hF
    rw [B_World_carryFrom_92] at hF
    refine ab_iload d_World_carryFrom_92 rfl ?_
    refine ab_aload_n d_World_carryFrom_94 rfl rfl rfl ?_
    obtain ⟨q38, hG⟩ := ck_s hF; clear hF
    refine hp_getI (f := 9) d_World_carryFrom_95 q38 (by decide) rfl (by decide) (k1 231 rfl rfl) rfl ?_
    refine ab_topi (fun x39 ex39 => ?_)
    replace hG := bnd_s ex39 hG
    refine ab_icmp_ge (tgt := 137) d_World_carryFrom_98 (by decide) (fun q40 => ?_) (fun q40 => ?_)
    · rw [if_pos q40] at hG
      refine ab_le (lv' := [some (.ref p0), some (.ref p1), some (.ref p2), some (.ref p3), some (.ref l4), some (.int l5), some (.int l6), none, none]) ⟨rfl, ⟨rfl, ⟨rfl, ⟨rfl, ⟨rfl, ⟨rfl, ⟨rfl, trivial⟩⟩⟩⟩⟩⟩⟩ ?_
      exact kB_World_carryFrom_137 hm59 hk59 hG
    · rw [if_neg q40] at hG
      refine ab_iload d_World_carryFrom_101 rfl ?_
      refine ab_if_lt (tgt := 137) d_World_carryFrom_103 (by decide) (fun q113 => ?_) (fun q113 => ?_)
      · rw [if_pos q113] at hG
        refine ab_le (lv' := [some (.ref p0), some (.ref p1), some (.ref p2), some (.ref p3), some (.ref l4), some (.int l5), some (.int l6), none, none]) ⟨rfl, ⟨rfl, ⟨rfl, ⟨rfl, ⟨rfl, ⟨rfl, ⟨rfl, trivial⟩⟩⟩⟩⟩⟩⟩ ?_
        exact kB_World_carryFrom_137 hm59 hk59 hG
      · rw [if_neg q113] at hG
        refine ab_aload_n d_World_carryFrom_106 rfl rfl rfl ?_
        refine ab_iload d_World_carryFrom_107 rfl ?_
        refine ab_iload d_World_carryFrom_109 rfl ?_
        obtain ⟨q114, hF⟩ := ck_s hG; clear hG
        obtain ⟨v116, H117, z115, hG⟩ := bC_s hF; clear hF
        refine hp_callV_a (v := .int v116) (H1 := H117) (As := [.int l7, .int l6]) (rest := []) d_World_carryFrom_111 (k_World_owns z115) (ab_mkC s_World_owns (Nat.le_of_ble_eq_true rfl) (Nat.le_of_ble_eq_true rfl) (Nat.le_refl 0) (Nat.le_refl 0)) (k6 123 rfl rfl) i_World_owns v_World_owns q114 (by decide) rfl rfl (Nat.le_of_ble_eq_true rfl) ?_
        have s_11 : Sa H H117 := (m_World_owns z115)
        refine ab_if_eq (tgt := 131) d_World_carryFrom_114 (by decide) (fun q118 => ?_) (fun q118 => ?_)
        · rw [if_pos q118] at hG
          exact kB_World_carryFrom_131 hm59 (mB_World_carryFrom_92 hm59 n) hk59 ih hG
        · rw [if_neg q118] at hG
          refine ab_aload_n d_World_carryFrom_117 rfl rfl rfl ?_
          obtain ⟨a119, e120, hF⟩ := rf_s hG; clear hG
          refine hp_getR (f := 8) d_World_carryFrom_118 (by rw [(s_11).1]; exact q38) (by decide) rfl (by decide) (k1 229 rfl rfl) rfl e120 ?_
          refine ab_iload d_World_carryFrom_121 rfl ?_
          refine ab_dup2_11 d_World_carryFrom_123 rfl rfl ?_
          obtain ⟨n121, q122, hG⟩ := ar_s hF; clear hF
          rw [(s_11).1] at q122
          obtain ⟨q123, hF⟩ := ck_s hG; clear hG
          refine hp_iald d_World_carryFrom_124 tI (by rw [(s_11).1]; exact q122) q123 ?_
          refine ab_topi (fun x124 ex124 => ?_)
          replace hF := bnd_s ex124 hF
          refine ab_iconst (v := 1) d_World_carryFrom_125 (by decide) ?_
          refine ab_iload d_World_carryFrom_126 rfl ?_
          refine ab_ishl d_World_carryFrom_128 ?_
          refine ab_ior d_World_carryFrom_129 ?_
          obtain ⟨q125, hG⟩ := ck_s hF; clear hF
          refine hp_iast d_World_carryFrom_130 tI (by rw [(s_11).1]; exact q122) q125 ?_
          refine hp_gen (fun H126 eH126 => ?_)
          replace hG := bnd_s eH126 hG
          have s_12 : Sa H H126 := by rw [eH126]; exact s_11
          exact kB_World_carryFrom_131 hm59 (mB_World_carryFrom_92 hm59 n) hk59 ih hG
def B_World_carryFrom_59 (N : Nat) (p0 : Nat) (p1 : Nat) (p2 : Nat) (p3 : Nat) : Nat → Nat → Int32 → Hp → Option (Unit × Hp)
  | 0, _, _, _ => none
  | n + 1, l4, l5, H =>
    ck (H.sh[l4]? = some (3, 0)) <|
    bnd ((H.D l4 3)) fun x15 =>
    if x15 ≤ l5 then
    ck (H.sh[p0]? = some (7, 0)) <|
    bC (F_World_carryEvents N p0 p2 p3 H) fun v19 H20 =>
    some ((), H20)
    else
    ck (H.sh[p2]? = some (4, 0)) <|
    rf (H.P p2 2) fun a22 =>
    rf (H.P l4 0) fun a24 =>
    ar H 106 a24 fun n26 =>
    ck (inb l5 n26) <|
    rf (H.P a24 (l5).toNatClampNeg) fun a29 =>
    ck (H.sh[a29]? = some (2, 0)) <|
    rf (H.P a29 0) fun a32 =>
    ck (H.sh[a22]? = some (3, 0)) <|
    bC (F_Shapes_headNamed N a22 a32 H) fun v36 H37 =>
    B_World_carryFrom_92 N p0 p1 p2 p3 (fun l4 l5 H => B_World_carryFrom_59 N p0 p1 p2 p3 n l4 l5 H) N l4 l5 v36 0 H37
termination_by structural n => n
set_option maxRecDepth 20000 in
set_option maxHeartbeats 2000000 in
theorem mB_World_carryFrom_59 {N : Nat} {p0 : Nat} {p1 : Nat} {p2 : Nat} {p3 : Nat} : ∀ (n : Nat) (l4 : Nat) (l5 : Int32) (H : Hp) (r : Unit × Hp), B_World_carryFrom_59 N p0 p1 p2 p3 n l4 l5 H = some r → Sa H r.2 := by
  intro n
  induction n with
  | zero => intro l4 l5 H r hF; rw [B_World_carryFrom_59] at hF; cases hF
  | succ n ih =>
    intro l4 l5 H r hF
    rw [B_World_carryFrom_59] at hF
    have hm := Sa.rf H
    obtain ⟨q144, hG⟩ := ck_s hF; clear hF
    obtain ⟨x145, -, hF⟩ := bnd_g hG; clear hG
    rcases ite_s hF with ⟨q_18, hG⟩ | ⟨q_18, hG⟩
    · clear hF
      obtain ⟨q147, hF⟩ := ck_s hG; clear hG
      obtain ⟨v149, H150, z148, hG⟩ := bC_s hF; clear hF
      replace hm : Sa H H150 := hm.tr (m_World_carryEvents z148)
      have hr := Option.some.inj hG; subst hr
      exact hm
    · clear hF
      obtain ⟨q151, hF⟩ := ck_s hG; clear hG
      obtain ⟨a152, e153, hG⟩ := rf_s hF; clear hF
      obtain ⟨a154, e155, hF⟩ := rf_s hG; clear hG
      obtain ⟨n156, q157, hG⟩ := ar_s hF; clear hF
      obtain ⟨q158, hF⟩ := ck_s hG; clear hG
      obtain ⟨a159, e160, hG⟩ := rf_s hF; clear hF
      obtain ⟨q161, hF⟩ := ck_s hG; clear hG
      obtain ⟨a162, e163, hG⟩ := rf_s hF; clear hF
      obtain ⟨q164, hF⟩ := ck_s hG; clear hG
      obtain ⟨v166, H167, z165, hG⟩ := bC_s hF; clear hF
      replace hm : Sa H H167 := hm.tr (m_Shapes_headNamed z165)
      exact hm.tr (mB_World_carryFrom_92 ih N l4 l5 v166 0 H167 r hG)
set_option maxRecDepth 20000 in
set_option maxHeartbeats 2000000 in
theorem kB_World_carryFrom_59 {N : Nat} {p0 : Nat} {p1 : Nat} {p2 : Nat} {p3 : Nat} : ∀ (n : Nat) (l4 : Nat) (l5 : Int32) (H : Hp) (r : Unit × Hp), B_World_carryFrom_59 N p0 p1 p2 p3 n l4 l5 H = some r → ab_V y_World_carryFrom { frames := 4, cells := 0, slots := 0, locals := 92 } (po (.returned none) r.2) 0 0 0 0 59 [some (.ref p0), some (.ref p1), some (.ref p2), some (.ref p3), some (.ref l4), some (.int l5), none, none, none] [] (hpw H) := by
  intro n
  induction n with
  | zero => intro l4 l5 H r hF; rw [B_World_carryFrom_59] at hF; cases hF
  | succ n ih =>
    intro l4 l5 H r hF
    rw [B_World_carryFrom_59] at hF
    refine ab_iload d_World_carryFrom_59 rfl ?_
    refine ab_aload d_World_carryFrom_61 rfl rfl ?_
    obtain ⟨q14, hG⟩ := ck_s hF; clear hF
    refine hp_getI (f := 3) d_World_carryFrom_63 q14 (by decide) rfl (by decide) (k3 43 rfl rfl) rfl ?_
    refine ab_topi (fun x15 ex15 => ?_)
    replace hG := bnd_s ex15 hG
    refine ab_icmp_ge (tgt := 207) d_World_carryFrom_66 (by decide) (fun q16 => ?_) (fun q16 => ?_)
    · rw [if_pos q16] at hG
      refine ab_aload_n d_World_carryFrom_207 rfl rfl rfl ?_
      refine ab_aload_n d_World_carryFrom_208 rfl rfl rfl ?_
      refine ab_aload_n d_World_carryFrom_209 rfl rfl rfl ?_
      obtain ⟨q17, hF⟩ := ck_s hG; clear hG
      obtain ⟨v19, H20, z18, hG⟩ := bC_s hF; clear hF
      refine hp_callV_v (H1 := H20) (As := [.ref p2, .ref p3]) (rest := []) d_World_carryFrom_210 (k_World_carryEvents z18) (ab_mkC s_World_carryEvents (Nat.le_of_ble_eq_true rfl) (Nat.le_of_ble_eq_true rfl) (Nat.le_refl 0) (Nat.le_refl 0)) (k6 151 rfl rfl) i_World_carryEvents v_World_carryEvents q17 (by decide) rfl rfl (Nat.le_of_ble_eq_true rfl) ?_
      have s_4 : Sa H H20 := (m_World_carryEvents z18)
      exact ab_vret d_World_carryFrom_213 rfl (Nat.le_refl _) (Nat.le_refl _) (by have hr := Option.some.inj hG; subst hr; exact ⟨rfl, rfl⟩)
    · rw [if_neg q16] at hG
      refine ab_aload_n d_World_carryFrom_69 rfl rfl rfl ?_
      obtain ⟨q21, hF⟩ := ck_s hG; clear hG
      obtain ⟨a22, e23, hG⟩ := rf_s hF; clear hF
      refine hp_getR (f := 2) d_World_carryFrom_70 q21 (by decide) rfl (by decide) (k3 61 rfl rfl) rfl e23 ?_
      refine ab_aload d_World_carryFrom_73 rfl rfl ?_
      obtain ⟨a24, e25, hF⟩ := rf_s hG; clear hG
      refine hp_getR (f := 0) d_World_carryFrom_75 q14 (by decide) rfl (by decide) (k3 24 rfl rfl) rfl e25 ?_
      refine ab_iload d_World_carryFrom_78 rfl ?_
      obtain ⟨n26, q27, hG⟩ := ar_s hF; clear hF
      obtain ⟨q28, hF⟩ := ck_s hG; clear hG
      obtain ⟨a29, e30, hG⟩ := rf_s hF; clear hF
      refine hp_aald (q := 106) d_World_carryFrom_80 (by decide) tN q27 q28 e30 ?_
      obtain ⟨q31, hF⟩ := ck_s hG; clear hG
      obtain ⟨a32, e33, hG⟩ := rf_s hF; clear hF
      refine hp_getR (f := 0) d_World_carryFrom_81 q31 (by decide) rfl (by decide) (k2 231 rfl rfl) rfl e33 ?_
      obtain ⟨q34, hF⟩ := ck_s hG; clear hG
      obtain ⟨v36, H37, z35, hG⟩ := bC_s hF; clear hF
      refine hp_callV_a (v := .int v36) (H1 := H37) (As := [.ref a32]) (rest := []) d_World_carryFrom_84 (k_Shapes_headNamed z35) (ab_mkC s_Shapes_headNamed (Nat.le_of_ble_eq_true rfl) (Nat.le_of_ble_eq_true rfl) (Nat.le_refl 0) (Nat.le_refl 0)) (k6 119 rfl rfl) i_Shapes_headNamed v_Shapes_headNamed q34 (by decide) rfl rfl (Nat.le_of_ble_eq_true rfl) ?_
      have s_5 : Sa H H37 := (m_Shapes_headNamed z35)
      refine ab_istore (lv' := [some (.ref p0), some (.ref p1), some (.ref p2), some (.ref p3), some (.ref l4), some (.int l5), some (.int v36), none, none]) d_World_carryFrom_87 (by decide) rfl ?_
      refine ab_iconst (v := 0) d_World_carryFrom_89 (by decide) ?_
      refine ab_istore (lv' := [some (.ref p0), some (.ref p1), some (.ref p2), some (.ref p3), some (.ref l4), some (.int l5), some (.int v36), some (.int 0), none]) d_World_carryFrom_90 (by decide) rfl ?_
      exact kB_World_carryFrom_92 (mB_World_carryFrom_59 n) ih N l4 l5 v36 0 H37 r hG
def B_World_carryFrom_50 (N : Nat) (p0 : Nat) (p1 : Nat) (p2 : Nat) (p3 : Nat) (kq23 : Nat → Int32 → Hp → Option (Unit × Hp)) (l4 : Nat) (l5 : Int32) (H : Hp) : Option (Unit × Hp) :=
    kq23 l4 (l5 + 1) H
set_option maxRecDepth 20000 in
set_option maxHeartbeats 2000000 in
theorem mB_World_carryFrom_50 {N : Nat} {p0 : Nat} {p1 : Nat} {p2 : Nat} {p3 : Nat} {kq23 : Nat → Int32 → Hp → Option (Unit × Hp)} (hm23 : ∀ (l4 : Nat) (l5 : Int32) (H : Hp) (r : Unit × Hp), kq23 l4 l5 H = some r → Sa H r.2) {l4 : Nat} {l5 : Int32} {H : Hp} {r : Unit × Hp} (hF : B_World_carryFrom_50 N p0 p1 p2 p3 kq23 l4 l5 H = some r) : Sa H r.2 := by
  unfold B_World_carryFrom_50 at hF
  have hm := Sa.rf H
  exact hm.tr (hm23 l4 (l5 + 1) H r hF)
set_option maxRecDepth 20000 in
set_option maxHeartbeats 2000000 in
theorem kB_World_carryFrom_50 {N : Nat} {p0 : Nat} {p1 : Nat} {p2 : Nat} {p3 : Nat} {kq23 : Nat → Int32 → Hp → Option (Unit × Hp)} (hm23 : ∀ (l4 : Nat) (l5 : Int32) (H : Hp) (r : Unit × Hp), kq23 l4 l5 H = some r → Sa H r.2) (hk23 : ∀ (l4 : Nat) (l5 : Int32) (H : Hp) (r : Unit × Hp), kq23 l4 l5 H = some r → ab_V y_World_carryFrom { frames := 4, cells := 0, slots := 0, locals := 92 } (po (.returned none) r.2) 0 0 0 0 23 [some (.ref p0), some (.ref p1), some (.ref p2), some (.ref p3), some (.ref l4), some (.int l5), none, none, none] [] (hpw H)) {l4 : Nat} {l5 : Int32} {H : Hp} {r : Unit × Hp} (hF : B_World_carryFrom_50 N p0 p1 p2 p3 kq23 l4 l5 H = some r) : ab_V y_World_carryFrom { frames := 4, cells := 0, slots := 0, locals := 92 } (po (.returned none) r.2) 0 0 0 0 50 [some (.ref p0), some (.ref p1), some (.ref p2), some (.ref p3), some (.ref l4), some (.int l5), none, none, none] [] (hpw H) := by
  unfold B_World_carryFrom_50 at hF
  refine ab_iinc (v := l5 + 1) (lv' := [some (.ref p0), some (.ref p1), some (.ref p2), some (.ref p3), some (.ref l4), some (.int (l5 + 1)), none, none, none]) d_World_carryFrom_50 rfl rfl (by decide) rfl ?_
  refine ab_goto (tgt := 23) d_World_carryFrom_53 (by decide) ?_
  exact hk23 l4 (l5 + 1) H r hF
def B_World_carryFrom_23 (N : Nat) (p0 : Nat) (p1 : Nat) (p2 : Nat) (p3 : Nat) : Nat → Nat → Int32 → Hp → Option (Unit × Hp)
  | 0, _, _, _ => none
  | n + 1, l4, l5, H =>
    ck (H.sh[p0]? = some (7, 0)) <|
    bnd ((H.D p0 9)) fun x12 =>
    if x12 ≤ l5 then
    B_World_carryFrom_59 N p0 p1 p2 p3 N l4 0 H
    else
    ck (H.sh[p1]? = some (7, 0)) <|
    rf (H.P p1 8) fun a169 =>
    ar H 100 a169 fun n171 =>
    ck (inb l5 n171) <|
    bnd ((H.D a169 (l5).toNatClampNeg)) fun x174 =>
    if x174 < (0 : Int32) then
    B_World_carryFrom_50 N p0 p1 p2 p3 (fun l4 l5 H => B_World_carryFrom_23 N p0 p1 p2 p3 n l4 l5 H) l4 l5 H
    else
    rf (H.P p0 8) fun a176 =>
    ar H 100 a176 fun n178 =>
    ck (inb l5 n178) <|
    bnd (H.sD a176 (l5).toNatClampNeg (0 : Int32)) fun H181 =>
    B_World_carryFrom_50 N p0 p1 p2 p3 (fun l4 l5 H => B_World_carryFrom_23 N p0 p1 p2 p3 n l4 l5 H) l4 l5 H181
termination_by structural n => n
set_option maxRecDepth 20000 in
set_option maxHeartbeats 2000000 in
theorem mB_World_carryFrom_23 {N : Nat} {p0 : Nat} {p1 : Nat} {p2 : Nat} {p3 : Nat} : ∀ (n : Nat) (l4 : Nat) (l5 : Int32) (H : Hp) (r : Unit × Hp), B_World_carryFrom_23 N p0 p1 p2 p3 n l4 l5 H = some r → Sa H r.2 := by
  intro n
  induction n with
  | zero => intro l4 l5 H r hF; rw [B_World_carryFrom_23] at hF; cases hF
  | succ n ih =>
    intro l4 l5 H r hF
    rw [B_World_carryFrom_23] at hF
    have hm := Sa.rf H
    obtain ⟨q182, hG⟩ := ck_s hF; clear hF
    obtain ⟨x183, -, hF⟩ := bnd_g hG; clear hG
    rcases ite_s hF with ⟨q_22, hG⟩ | ⟨q_22, hG⟩
    · clear hF
      exact hm.tr (mB_World_carryFrom_59 N l4 0 H r hG)
    · clear hF
      obtain ⟨q185, hF⟩ := ck_s hG; clear hG
      obtain ⟨a186, e187, hG⟩ := rf_s hF; clear hF
      obtain ⟨n188, q189, hF⟩ := ar_s hG; clear hG
      obtain ⟨q190, hG⟩ := ck_s hF; clear hF
      obtain ⟨x191, -, hF⟩ := bnd_g hG; clear hG
      rcases ite_s hF with ⟨q_23, hG⟩ | ⟨q_23, hG⟩
      · clear hF
        exact hm.tr (mB_World_carryFrom_50 ih hG)
      · clear hF
        obtain ⟨a193, e194, hF⟩ := rf_s hG; clear hG
        obtain ⟨n195, q196, hG⟩ := ar_s hF; clear hF
        obtain ⟨q197, hF⟩ := ck_s hG; clear hG
        obtain ⟨H198, eH198, hG⟩ := bnd_g hF; clear hF
        replace hm : Sa H H198 := by rw [eH198]; exact hm
        exact hm.tr (mB_World_carryFrom_50 ih hG)
set_option maxRecDepth 20000 in
set_option maxHeartbeats 2000000 in
theorem kB_World_carryFrom_23 {N : Nat} {p0 : Nat} {p1 : Nat} {p2 : Nat} {p3 : Nat} : ∀ (n : Nat) (l4 : Nat) (l5 : Int32) (H : Hp) (r : Unit × Hp), B_World_carryFrom_23 N p0 p1 p2 p3 n l4 l5 H = some r → ab_V y_World_carryFrom { frames := 4, cells := 0, slots := 0, locals := 92 } (po (.returned none) r.2) 0 0 0 0 23 [some (.ref p0), some (.ref p1), some (.ref p2), some (.ref p3), some (.ref l4), some (.int l5), none, none, none] [] (hpw H) := by
  intro n
  induction n with
  | zero => intro l4 l5 H r hF; rw [B_World_carryFrom_23] at hF; cases hF
  | succ n ih =>
    intro l4 l5 H r hF
    rw [B_World_carryFrom_23] at hF
    refine ab_iload d_World_carryFrom_23 rfl ?_
    refine ab_aload_n d_World_carryFrom_25 rfl rfl rfl ?_
    obtain ⟨q11, hG⟩ := ck_s hF; clear hF
    refine hp_getI (f := 9) d_World_carryFrom_26 q11 (by decide) rfl (by decide) (k1 231 rfl rfl) rfl ?_
    refine ab_topi (fun x12 ex12 => ?_)
    replace hG := bnd_s ex12 hG
    refine ab_icmp_ge (tgt := 56) d_World_carryFrom_29 (by decide) (fun q13 => ?_) (fun q13 => ?_)
    · rw [if_pos q13] at hG
      refine ab_iconst (v := 0) d_World_carryFrom_56 (by decide) ?_
      refine ab_istore (lv' := [some (.ref p0), some (.ref p1), some (.ref p2), some (.ref p3), some (.ref l4), some (.int 0), none, none, none]) d_World_carryFrom_57 (by decide) rfl ?_
      exact kB_World_carryFrom_59 N l4 0 H r hG
    · rw [if_neg q13] at hG
      refine ab_aload_n d_World_carryFrom_32 rfl rfl rfl ?_
      obtain ⟨q168, hF⟩ := ck_s hG; clear hG
      obtain ⟨a169, e170, hG⟩ := rf_s hF; clear hF
      refine hp_getR (f := 8) d_World_carryFrom_33 q168 (by decide) rfl (by decide) (k1 229 rfl rfl) rfl e170 ?_
      refine ab_iload d_World_carryFrom_36 rfl ?_
      obtain ⟨n171, q172, hF⟩ := ar_s hG; clear hG
      obtain ⟨q173, hG⟩ := ck_s hF; clear hF
      refine hp_iald d_World_carryFrom_38 tI q172 q173 ?_
      refine ab_topi (fun x174 ex174 => ?_)
      replace hG := bnd_s ex174 hG
      refine ab_if_lt (tgt := 50) d_World_carryFrom_39 (by decide) (fun q175 => ?_) (fun q175 => ?_)
      · rw [if_pos q175] at hG
        exact kB_World_carryFrom_50 (mB_World_carryFrom_23 n) ih hG
      · rw [if_neg q175] at hG
        refine ab_aload_n d_World_carryFrom_42 rfl rfl rfl ?_
        obtain ⟨a176, e177, hF⟩ := rf_s hG; clear hG
        refine hp_getR (f := 8) d_World_carryFrom_43 q11 (by decide) rfl (by decide) (k1 229 rfl rfl) rfl e177 ?_
        refine ab_iload d_World_carryFrom_46 rfl ?_
        refine ab_iconst (v := 0) d_World_carryFrom_48 (by decide) ?_
        obtain ⟨n178, q179, hG⟩ := ar_s hF; clear hF
        obtain ⟨q180, hF⟩ := ck_s hG; clear hG
        refine hp_iast d_World_carryFrom_49 tI q179 q180 ?_
        refine hp_gen (fun H181 eH181 => ?_)
        replace hF := bnd_s eH181 hF
        have s_21 : Sa H H181 := by rw [eH181]; exact Sa.rf _
        exact kB_World_carryFrom_50 (mB_World_carryFrom_23 n) ih hF
def F_World_carryFrom (N : Nat) (p0 : Nat) (p1 : Nat) (p2 : Nat) (p3 : Nat) (H : Hp) : Option (Unit × Hp) :=
    ck (H.sh[p3]? = some (4, 0)) <|
    rf (H.P p3 2) fun a2 =>
    ck (H.sh[a2]? = some (3, 0)) <|
    bC (F_Shapes_total N a2 H) fun v6 H7 =>
    ck (H7.sh[p0]? = some (7, 0)) <|
    bnd (H7.sD p0 10 v6) fun H9 =>
    bnd (H9.sD p0 6 (0 : Int32)) fun H10 =>
    B_World_carryFrom_23 N p0 p1 p2 p3 N a2 0 H10
set_option maxRecDepth 20000 in
set_option maxHeartbeats 2000000 in
theorem m_World_carryFrom {N : Nat} {p0 : Nat} {p1 : Nat} {p2 : Nat} {p3 : Nat} {H : Hp} {r : Unit × Hp} (hF : F_World_carryFrom N p0 p1 p2 p3 H = some r) : Sa H r.2 := by
  unfold F_World_carryFrom at hF
  have hm := Sa.rf H
  obtain ⟨q199, hG⟩ := ck_s hF; clear hF
  obtain ⟨a200, e201, hF⟩ := rf_s hG; clear hG
  obtain ⟨q202, hG⟩ := ck_s hF; clear hF
  obtain ⟨v204, H205, z203, hF⟩ := bC_s hG; clear hG
  replace hm : Sa H H205 := hm.tr (m_Shapes_total z203)
  obtain ⟨q206, hG⟩ := ck_s hF; clear hF
  obtain ⟨H207, eH207, hF⟩ := bnd_g hG; clear hG
  replace hm : Sa H H207 := by rw [eH207]; exact hm
  obtain ⟨H208, eH208, hG⟩ := bnd_g hF; clear hF
  replace hm : Sa H H208 := by rw [eH208]; exact hm
  exact hm.tr (mB_World_carryFrom_23 N a200 0 H208 r hG)
set_option maxRecDepth 20000 in
set_option maxHeartbeats 2000000 in
theorem k_World_carryFrom {N : Nat} {p0 : Nat} {p1 : Nat} {p2 : Nat} {p3 : Nat} {H : Hp} {r : Unit × Hp} (hF : F_World_carryFrom N p0 p1 p2 p3 H = some r) : ab_M y_World_carryFrom { frames := 4, cells := 0, slots := 0, locals := 92 } [.ref p0, .ref p1, .ref p2, .ref p3] (hpw H) (po (.returned none) r.2) := by
  unfold F_World_carryFrom at hF
  refine ab_of2 (lv := [some (.ref p0), some (.ref p1), some (.ref p2), some (.ref p3), none, none, none, none, none]) 5 rfl rfl (Nat.le_of_ble_eq_true rfl) ?_
  refine ab_aload_n d_World_carryFrom_0 rfl rfl rfl ?_
  obtain ⟨q1, hG⟩ := ck_s hF; clear hF
  obtain ⟨a2, e3, hF⟩ := rf_s hG; clear hG
  refine hp_getR (f := 2) d_World_carryFrom_1 q1 (by decide) rfl (by decide) (k3 61 rfl rfl) rfl e3 ?_
  refine ab_astore (lv' := [some (.ref p0), some (.ref p1), some (.ref p2), some (.ref p3), some (.ref a2), none, none, none, none]) d_World_carryFrom_4 (by decide) rfl rfl ?_
  refine ab_aload_n d_World_carryFrom_6 rfl rfl rfl ?_
  refine ab_aload d_World_carryFrom_7 rfl rfl ?_
  obtain ⟨q4, hG⟩ := ck_s hF; clear hF
  obtain ⟨v6, H7, z5, hF⟩ := bC_s hG; clear hG
  refine hp_callV_a (v := .int v6) (H1 := H7) (As := []) (rest := [.ref p0]) d_World_carryFrom_9 (k_Shapes_total z5) (ab_mkC s_Shapes_total (Nat.le_of_ble_eq_true rfl) (Nat.le_of_ble_eq_true rfl) (Nat.le_refl 0) (Nat.le_refl 0)) (k6 118 rfl rfl) i_Shapes_total v_Shapes_total q4 (by decide) rfl rfl (Nat.le_of_ble_eq_true rfl) ?_
  have s_1 : Sa H H7 := (m_Shapes_total z5)
  obtain ⟨q8, hG⟩ := ck_s hF; clear hF
  rw [(s_1).1] at q8
  refine hp_putI (v := v6) (f := 10) d_World_carryFrom_12 (by rw [(s_1).1]; exact q8) (by decide) rfl (by decide) (k1 234 rfl rfl) rfl rfl (fun _ => rfl) (fun _ => rfl) rfl ?_
  refine hp_gen (fun H9 eH9 => ?_)
  replace hG := bnd_s eH9 hG
  have s_2 : Sa H H9 := by rw [eH9]; exact s_1
  refine ab_aload_n d_World_carryFrom_15 rfl rfl rfl ?_
  refine ab_iconst (v := 0) d_World_carryFrom_16 (by decide) ?_
  refine hp_putI (v := 0) (f := 6) d_World_carryFrom_17 (by rw [(s_2).1]; exact q8) (by decide) rfl (by decide) (k1 224 rfl rfl) rfl rfl (fun _ => rfl) (fun _ => rfl) rfl ?_
  refine hp_gen (fun H10 eH10 => ?_)
  replace hG := bnd_s eH10 hG
  have s_3 : Sa H H10 := by rw [eH10]; exact s_2
  refine ab_iconst (v := 0) d_World_carryFrom_20 (by decide) ?_
  refine ab_istore (lv' := [some (.ref p0), some (.ref p1), some (.ref p2), some (.ref p3), some (.ref a2), some (.int 0), none, none, none]) d_World_carryFrom_21 (by decide) rfl ?_
  exact kB_World_carryFrom_23 N a2 0 H10 r hG
def y_Play_carry : ab_Y := (⟨"WorldEngine$Play", "carry", "(LWorldEngine$Program;LWorldEngine$Program;)V"⟩, prog_5_method_7_code, 4, none, [])
theorem d_Play_carry_0 : decode y_Play_carry.2.1 0 = .ok (.aload_n 0, 1) := by decide +kernel
theorem d_Play_carry_1 : decode y_Play_carry.2.1 1 = .ok (.invokevirtual 79, 3) := by decide +kernel
theorem d_Play_carry_4 : decode y_Play_carry.2.1 4 = .ok (.astore_n 3, 1) := by decide +kernel
theorem d_Play_carry_5 : decode y_Play_carry.2.1 5 = .ok (.aload_n 3, 1) := by decide +kernel
theorem d_Play_carry_6 : decode y_Play_carry.2.1 6 = .ok (.aload_n 0, 1) := by decide +kernel
theorem d_Play_carry_7 : decode y_Play_carry.2.1 7 = .ok (.getfield 10, 3) := by decide +kernel
theorem d_Play_carry_10 : decode y_Play_carry.2.1 10 = .ok (.invokevirtual 83, 3) := by decide +kernel
theorem d_Play_carry_13 : decode y_Play_carry.2.1 13 = .ok (.aload_n 0, 1) := by decide +kernel
theorem d_Play_carry_14 : decode y_Play_carry.2.1 14 = .ok (.getfield 10, 3) := by decide +kernel
theorem d_Play_carry_17 : decode y_Play_carry.2.1 17 = .ok (.aload_n 3, 1) := by decide +kernel
theorem d_Play_carry_18 : decode y_Play_carry.2.1 18 = .ok (.aload_n 1, 1) := by decide +kernel
theorem d_Play_carry_19 : decode y_Play_carry.2.1 19 = .ok (.aload_n 2, 1) := by decide +kernel
theorem d_Play_carry_20 : decode y_Play_carry.2.1 20 = .ok (.invokevirtual 87, 3) := by decide +kernel
theorem d_Play_carry_23 : decode y_Play_carry.2.1 23 = .ok (.return_, 1) := by decide +kernel
theorem s_Play_carry : ab_Stat y_Play_carry 2 := ⟨(k6 102 rfl rfl), (k1 9 rfl rfl), ⟨by decide, by decide⟩, by decide +kernel⟩
theorem i_Play_carry : Cond.instanceMethod y_Play_carry.1 ∈ ab_T := (k6 100 rfl rfl)
theorem v_Play_carry : Cond.selects "WorldEngine$Play" y_Play_carry.1 y_Play_carry.1 ∈ ab_T := (k6 101 rfl rfl)
def F_Play_carry (N : Nat) (p0 : Nat) (p1 : Nat) (p2 : Nat) (H : Hp) : Option (Unit × Hp) :=
    ck (H.sh[p0]? = some (10, 0)) <|
    bC (F_Play_scratch N p0 H) fun v3 H4 =>
    on v3 fun a5 =>
    rf (H4.P p0 0) fun a6 =>
    ck (H4.sh[a5]? = some (7, 0)) <|
    bC (F_World_copyFrom N a5 a6 H4) fun v10 H11 =>
    rf (H11.P p0 0) fun a12 =>
    ck (H11.sh[a12]? = some (7, 0)) <|
    bC (F_World_carryFrom N a12 a5 p1 p2 H11) fun v16 H17 =>
    some ((), H17)
set_option maxRecDepth 20000 in
set_option maxHeartbeats 2000000 in
theorem m_Play_carry {N : Nat} {p0 : Nat} {p1 : Nat} {p2 : Nat} {H : Hp} {r : Unit × Hp} (hF : F_Play_carry N p0 p1 p2 H = some r) : Sa H r.2 := by
  unfold F_Play_carry at hF
  have hm := Sa.rf H
  obtain ⟨q18, hG⟩ := ck_s hF; clear hF
  obtain ⟨v20, H21, z19, hF⟩ := bC_s hG; clear hG
  replace hm : Sa H H21 := hm.tr (m_Play_scratch z19)
  obtain ⟨a22, ea22, hG⟩ := on_s hF; clear hF
  subst ea22
  obtain ⟨a23, e24, hF⟩ := rf_s hG; clear hG
  obtain ⟨q25, hG⟩ := ck_s hF; clear hF
  obtain ⟨v27, H28, z26, hF⟩ := bC_s hG; clear hG
  replace hm : Sa H H28 := hm.tr (m_World_copyFrom z26)
  obtain ⟨a29, e30, hG⟩ := rf_s hF; clear hF
  obtain ⟨q31, hF⟩ := ck_s hG; clear hG
  obtain ⟨v33, H34, z32, hG⟩ := bC_s hF; clear hF
  replace hm : Sa H H34 := hm.tr (m_World_carryFrom z32)
  have hr := Option.some.inj hG; subst hr
  exact hm
set_option maxRecDepth 20000 in
set_option maxHeartbeats 2000000 in
theorem k_Play_carry {N : Nat} {p0 : Nat} {p1 : Nat} {p2 : Nat} {H : Hp} {r : Unit × Hp} (hF : F_Play_carry N p0 p1 p2 H = some r) : ab_M y_Play_carry { frames := 5, cells := 0, slots := 0, locals := 120 } [.ref p0, .ref p1, .ref p2] (hpw H) (po (.returned none) r.2) := by
  unfold F_Play_carry at hF
  refine ab_of2 (lv := [some (.ref p0), some (.ref p1), some (.ref p2), none]) 1 rfl rfl (Nat.le_of_ble_eq_true rfl) ?_
  refine ab_aload_n d_Play_carry_0 rfl rfl rfl ?_
  obtain ⟨q1, hG⟩ := ck_s hF; clear hF
  obtain ⟨v3, H4, z2, hF⟩ := bC_s hG; clear hG
  refine hp_callV_a (v := ab_rf v3) (H1 := H4) (As := []) (rest := []) d_Play_carry_1 (k_Play_scratch z2) (ab_mkC s_Play_scratch (Nat.le_of_ble_eq_true rfl) (Nat.le_of_ble_eq_true rfl) (Nat.le_refl 0) (Nat.le_refl 0)) (k6 103 rfl rfl) i_Play_scratch v_Play_scratch q1 (by decide) rfl rfl (Nat.le_of_ble_eq_true rfl) ?_
  have s_1 : Sa H H4 := (m_Play_scratch z2)
  obtain ⟨a5, ea5, hG⟩ := on_s hF; clear hF
  subst ea5
  refine ab_astore_n (lv' := [some (.ref p0), some (.ref p1), some (.ref p2), some (.ref a5)]) d_Play_carry_4 rfl (by decide) rfl rfl ?_
  refine ab_aload_n d_Play_carry_5 rfl rfl rfl ?_
  refine ab_aload_n d_Play_carry_6 rfl rfl rfl ?_
  obtain ⟨a6, e7, hF⟩ := rf_s hG; clear hG
  refine hp_getR (f := 0) d_Play_carry_7 (by rw [(s_1).1]; exact q1) (by decide) rfl (by decide) (k2 130 rfl rfl) rfl e7 ?_
  obtain ⟨q8, hG⟩ := ck_s hF; clear hF
  rw [(s_1).1] at q8
  obtain ⟨v10, H11, z9, hF⟩ := bC_s hG; clear hG
  refine hp_callV_v (H1 := H11) (As := [.ref a6]) (rest := []) d_Play_carry_10 (k_World_copyFrom z9) (ab_mkC s_World_copyFrom (Nat.le_of_ble_eq_true rfl) (Nat.le_of_ble_eq_true rfl) (Nat.le_refl 0) (Nat.le_refl 0)) (k6 107 rfl rfl) i_World_copyFrom v_World_copyFrom (by rw [(s_1).1]; exact q8) (by decide) rfl rfl (Nat.le_of_ble_eq_true rfl) ?_
  have s_2 : Sa H H11 := (s_1).tr (m_World_copyFrom z9)
  refine ab_aload_n d_Play_carry_13 rfl rfl rfl ?_
  obtain ⟨a12, e13, hG⟩ := rf_s hF; clear hF
  refine hp_getR (f := 0) d_Play_carry_14 (by rw [(s_2).1]; exact q1) (by decide) rfl (by decide) (k2 130 rfl rfl) rfl e13 ?_
  refine ab_aload_n d_Play_carry_17 rfl rfl rfl ?_
  refine ab_aload_n d_Play_carry_18 rfl rfl rfl ?_
  refine ab_aload_n d_Play_carry_19 rfl rfl rfl ?_
  obtain ⟨q14, hF⟩ := ck_s hG; clear hG
  rw [(s_2).1] at q14
  obtain ⟨v16, H17, z15, hG⟩ := bC_s hF; clear hF
  refine hp_callV_v (H1 := H17) (As := [.ref a5, .ref p1, .ref p2]) (rest := []) d_Play_carry_20 (k_World_carryFrom z15) (ab_mkC s_World_carryFrom (Nat.le_of_ble_eq_true rfl) (Nat.le_of_ble_eq_true rfl) (Nat.le_refl 0) (Nat.le_refl 0)) (k6 114 rfl rfl) i_World_carryFrom v_World_carryFrom (by rw [(s_2).1]; exact q14) (by decide) rfl rfl (Nat.le_of_ble_eq_true rfl) ?_
  have s_3 : Sa H H17 := (s_2).tr (m_World_carryFrom z15)
  exact ab_vret d_Play_carry_23 rfl (Nat.le_refl _) (Nat.le_refl _) (by have hr := Option.some.inj hG; subst hr; exact ⟨rfl, rfl⟩)
def y_W_swap : ab_Y := (⟨"WorldEngine", "swap", "()I"⟩, prog_1_method_6_code, 1, (some FieldType.int), [])
theorem d_W_swap_0 : decode y_W_swap.2.1 0 = .ok (.aload_n 0, 1) := by decide +kernel
theorem d_W_swap_1 : decode y_W_swap.2.1 1 = .ok (.getfield 28, 3) := by decide +kernel
theorem d_W_swap_4 : decode y_W_swap.2.1 4 = .ok (.invokevirtual 110, 3) := by decide +kernel
theorem d_W_swap_7 : decode y_W_swap.2.1 7 = .ok (.ifCond .ne 6, 3) := by decide +kernel
theorem d_W_swap_10 : decode y_W_swap.2.1 10 = .ok (.bipush (-10), 2) := by decide +kernel
theorem d_W_swap_12 : decode y_W_swap.2.1 12 = .ok (.ireturn, 1) := by decide +kernel
theorem d_W_swap_13 : decode y_W_swap.2.1 13 = .ok (.aload_n 0, 1) := by decide +kernel
theorem d_W_swap_14 : decode y_W_swap.2.1 14 = .ok (.getfield 21, 3) := by decide +kernel
theorem d_W_swap_17 : decode y_W_swap.2.1 17 = .ok (.aload_n 0, 1) := by decide +kernel
theorem d_W_swap_18 : decode y_W_swap.2.1 18 = .ok (.getfield 46, 3) := by decide +kernel
theorem d_W_swap_21 : decode y_W_swap.2.1 21 = .ok (.invokevirtual 80, 3) := by decide +kernel
theorem d_W_swap_24 : decode y_W_swap.2.1 24 = .ok (.ifCond .ne 12, 3) := by decide +kernel
theorem d_W_swap_27 : decode y_W_swap.2.1 27 = .ok (.aload_n 0, 1) := by decide +kernel
theorem d_W_swap_28 : decode y_W_swap.2.1 28 = .ok (.getfield 10, 3) := by decide +kernel
theorem d_W_swap_31 : decode y_W_swap.2.1 31 = .ok (.getfield 84, 3) := by decide +kernel
theorem d_W_swap_34 : decode y_W_swap.2.1 34 = .ok (.ineg, 1) := by decide +kernel
theorem d_W_swap_35 : decode y_W_swap.2.1 35 = .ok (.ireturn, 1) := by decide +kernel
theorem d_W_swap_36 : decode y_W_swap.2.1 36 = .ok (.aload_n 0, 1) := by decide +kernel
theorem d_W_swap_37 : decode y_W_swap.2.1 37 = .ok (.invokevirtual 87, 3) := by decide +kernel
theorem d_W_swap_40 : decode y_W_swap.2.1 40 = .ok (.aload_n 0, 1) := by decide +kernel
theorem d_W_swap_41 : decode y_W_swap.2.1 41 = .ok (.getfield 28, 3) := by decide +kernel
theorem d_W_swap_44 : decode y_W_swap.2.1 44 = .ok (.aload_n 0, 1) := by decide +kernel
theorem d_W_swap_45 : decode y_W_swap.2.1 45 = .ok (.getfield 46, 3) := by decide +kernel
theorem d_W_swap_48 : decode y_W_swap.2.1 48 = .ok (.aload_n 0, 1) := by decide +kernel
theorem d_W_swap_49 : decode y_W_swap.2.1 49 = .ok (.getfield 42, 3) := by decide +kernel
theorem d_W_swap_52 : decode y_W_swap.2.1 52 = .ok (.invokevirtual 114, 3) := by decide +kernel
theorem d_W_swap_55 : decode y_W_swap.2.1 55 = .ok (.aload_n 0, 1) := by decide +kernel
theorem d_W_swap_56 : decode y_W_swap.2.1 56 = .ok (.getfield 42, 3) := by decide +kernel
theorem d_W_swap_59 : decode y_W_swap.2.1 59 = .ok (.getfield 104, 3) := by decide +kernel
theorem d_W_swap_62 : decode y_W_swap.2.1 62 = .ok (.ireturn, 1) := by decide +kernel
theorem s_W_swap : ab_Stat y_W_swap 0 := ⟨(k6 94 rfl rfl), (k1 1 rfl rfl), ⟨by decide, by decide⟩, by decide +kernel⟩
theorem i_W_swap : Cond.instanceMethod y_W_swap.1 ∈ ab_T := (k6 92 rfl rfl)
theorem v_W_swap : Cond.selects "WorldEngine" y_W_swap.1 y_W_swap.1 ∈ ab_T := (k6 93 rfl rfl)
def F_W_swap (N : Nat) (p0 : Nat) (H : Hp) : Option (Int32 × Hp) :=
    ck (H.sh[p0]? = some (0, 0)) <|
    rf (H.P p0 2) fun a2 =>
    ck (H.sh[a2]? = some (10, 0)) <|
    bC (F_Play_isQuiet N a2 H) fun v6 H7 =>
    if v6 = (0 : Int32) then
    some ((-10), H7)
    else
    rf (H7.P p0 1) fun a9 =>
    rf (H7.P p0 5) fun a11 =>
    ck (H7.sh[a9]? = some (5, 0)) <|
    bC (F_Reader_readAll N a9 a11 H7) fun v15 H16 =>
    if v15 = (0 : Int32) then
    rf (H16.P p0 0) fun a35 =>
    ck (H16.sh[a35]? = some (1, 0)) <|
    bnd ((H16.D a35 4)) fun x38 =>
    some (-x38, H16)
    else
    bC (F_W_exchangePrograms N p0 H16) fun v19 H20 =>
    rf (H20.P p0 2) fun a21 =>
    rf (H20.P p0 5) fun a23 =>
    rf (H20.P p0 4) fun a25 =>
    ck (H20.sh[a21]? = some (10, 0)) <|
    bC (F_Play_carry N a21 a23 a25 H20) fun v29 H30 =>
    rf (H30.P p0 4) fun a31 =>
    ck (H30.sh[a31]? = some (4, 0)) <|
    bnd ((H30.D a31 7)) fun x34 =>
    some (x34, H30)
set_option maxRecDepth 20000 in
set_option maxHeartbeats 2000000 in
theorem m_W_swap {N : Nat} {p0 : Nat} {H : Hp} {r : Int32 × Hp} (hF : F_W_swap N p0 H = some r) : Mo H r.2 := by
  unfold F_W_swap at hF
  have hm := Mo.rf H
  obtain ⟨q39, hG⟩ := ck_s hF; clear hF
  obtain ⟨a40, e41, hF⟩ := rf_s hG; clear hG
  obtain ⟨q42, hG⟩ := ck_s hF; clear hF
  obtain ⟨v44, H45, z43, hF⟩ := bC_s hG; clear hG
  replace hm : Mo H H45 := hm.tr ((m_Play_isQuiet z43)).mo
  rcases ite_s hF with ⟨q_13, hG⟩ | ⟨q_13, hG⟩
  · clear hF
    have hr := Option.some.inj hG; subst hr
    exact hm
  · clear hF
    obtain ⟨a47, e48, hF⟩ := rf_s hG; clear hG
    obtain ⟨a49, e50, hG⟩ := rf_s hF; clear hF
    obtain ⟨q51, hF⟩ := ck_s hG; clear hG
    obtain ⟨v53, H54, z52, hG⟩ := bC_s hF; clear hF
    replace hm : Mo H H54 := hm.tr (m_Reader_readAll z52)
    rcases ite_s hG with ⟨q_18, hF⟩ | ⟨q_18, hF⟩
    · clear hG
      obtain ⟨a56, e57, hG⟩ := rf_s hF; clear hF
      obtain ⟨q58, hF⟩ := ck_s hG; clear hG
      obtain ⟨x59, -, hG⟩ := bnd_g hF; clear hF
      have hr := Option.some.inj hG; subst hr
      exact hm
    · clear hG
      obtain ⟨v61, H62, z60, hG⟩ := bC_s hF; clear hF
      replace hm : Mo H H62 := hm.tr ((m_W_exchangePrograms z60)).mo
      obtain ⟨a63, e64, hF⟩ := rf_s hG; clear hG
      obtain ⟨a65, e66, hG⟩ := rf_s hF; clear hF
      obtain ⟨a67, e68, hF⟩ := rf_s hG; clear hG
      obtain ⟨q69, hG⟩ := ck_s hF; clear hF
      obtain ⟨v71, H72, z70, hF⟩ := bC_s hG; clear hG
      replace hm : Mo H H72 := hm.tr ((m_Play_carry z70)).mo
      obtain ⟨a73, e74, hG⟩ := rf_s hF; clear hF
      obtain ⟨q75, hF⟩ := ck_s hG; clear hG
      obtain ⟨x76, -, hG⟩ := bnd_g hF; clear hF
      have hr := Option.some.inj hG; subst hr
      exact hm
set_option maxRecDepth 20000 in
set_option maxHeartbeats 2000000 in
theorem k_W_swap {N : Nat} {p0 : Nat} {H : Hp} {r : Int32 × Hp} {C Sl : Nat} (hF : F_W_swap N p0 H = some r) (hC : r.2.sh.length ≤ H.sh.length + C) (hS : r.2.sl ≤ H.sl + Sl) : ab_M y_W_swap { frames := 693, cells := C, slots := Sl, locals := 16209 } [.ref p0] (hpw H) (po (.returned (some (.int r.1))) r.2) := by
  unfold F_W_swap at hF
  obtain ⟨c0, e0⟩ : ∃ q, q = H.sh.length := ⟨_, rfl⟩
  obtain ⟨s0, e1⟩ : ∃ q, q = H.sl := ⟨_, rfl⟩
  rw [← e0] at hC
  rw [← e1] at hS
  have hc0 : c0 ≤ H.sh.length := Nat.le_of_eq e0
  have hs0 : s0 ≤ H.sl := Nat.le_of_eq e1
  have hcc : H.sh.length ≤ c0 + C := by omega
  have hss : H.sl ≤ s0 + Sl := by omega
  refine ab_of2 (lv := [some (.ref p0)]) 0 rfl rfl (Nat.le_of_ble_eq_true rfl) ?_
  refine ab_widen (cells' := H.sh.length - c0) (slots' := H.sl - s0) (Nat.zero_le _) (Nat.zero_le _) ?_
  refine ab_aload_n d_W_swap_0 rfl rfl rfl ?_
  obtain ⟨q1, hG⟩ := ck_s hF; clear hF
  obtain ⟨a2, e3, hF⟩ := rf_s hG; clear hG
  refine hp_getR (f := 2) d_W_swap_1 q1 (by decide) rfl (by decide) (k3 159 rfl rfl) rfl e3 ?_
  obtain ⟨q4, hG⟩ := ck_s hF; clear hF
  obtain ⟨v6, H7, z5, hF⟩ := bC_s hG; clear hG
  refine hp_callV_a (v := .int v6) (H1 := H7) (As := []) (rest := []) d_W_swap_4 (k_Play_isQuiet z5) (ab_mkC s_Play_isQuiet (Nat.le_of_ble_eq_true rfl) (Nat.le_of_ble_eq_true rfl) (show (H.sh.length - c0) + 0 ≤ C from by omega) (show (H.sl - s0) + 0 ≤ Sl from by omega)) (k6 95 rfl rfl) i_Play_isQuiet v_Play_isQuiet q4 (by decide) rfl rfl (Nat.le_of_ble_eq_true rfl) ?_
  have s_2 : Sa H H7 := (m_Play_isQuiet z5)
  refine ab_widen (cells' := H.sh.length - c0) (slots' := H.sl - s0) (by show (H.sh.length - c0) + 0 ≤ _; omega) (by show (H.sl - s0) + 0 ≤ _; omega) ?_
  refine ab_if_ne (tgt := 13) d_W_swap_7 (by decide) (fun q8 => ?_) (fun q8 => ?_)
  · rw [if_neg q8] at hF
    refine ab_aload_n d_W_swap_13 rfl rfl rfl ?_
    obtain ⟨a9, e10, hG⟩ := rf_s hF; clear hF
    refine hp_getR (f := 1) d_W_swap_14 (by rw [(s_2).1]; exact q1) (by decide) rfl (by decide) (k3 158 rfl rfl) rfl e10 ?_
    refine ab_aload_n d_W_swap_17 rfl rfl rfl ?_
    obtain ⟨a11, e12, hF⟩ := rf_s hG; clear hG
    refine hp_getR (f := 5) d_W_swap_18 (by rw [(s_2).1]; exact q1) (by decide) rfl (by decide) (k3 162 rfl rfl) rfl e12 ?_
    obtain ⟨q13, hG⟩ := ck_s hF; clear hF
    rw [(s_2).1] at q13
    obtain ⟨v15, H16, z14, hF⟩ := bC_s hG; clear hG
    refine ab_widen (cells' := H7.sh.length - c0) (slots' := H7.sl - s0) (by rw [(s_2).1]; exact Nat.le_refl _) (by rw [(s_2).2]; exact Nat.le_refl _) ?_
    have mz_3 : Mo H7 H16 := (m_Reader_readAll z14)
    have b_4l := (mz_3).len
    have b_4s := (mz_3).2
    have b_4e := congrArg List.length (s_2).1
    have b_4f := (s_2).2
    have b_4c : c0 ≤ H16.sh.length := by omega
    have b_4d : s0 ≤ H16.sl := by omega
    have q_5 := (mz_3).get (by rw [(s_2).1]; exact q1)
    have q_6 := (mz_3).get (by rw [(s_2).1]; exact q4)
    have q_7 := (mz_3).get (by rw [(s_2).1]; exact q13)
    have fH16 : Mo H16 r.2 := by
      have hm := Mo.rf H16
      rcases ite_s hF with ⟨q_8, hG⟩ | ⟨q_8, hG⟩
      · clear hF
        obtain ⟨a18, e19, hF⟩ := rf_s hG; clear hG
        obtain ⟨q20, hG⟩ := ck_s hF; clear hF
        obtain ⟨x21, -, hF⟩ := bnd_g hG; clear hG
        have hr := Option.some.inj hF; subst hr
        exact hm
      · clear hF
        obtain ⟨v23, H24, z22, hF⟩ := bC_s hG; clear hG
        replace hm : Mo H16 H24 := hm.tr ((m_W_exchangePrograms z22)).mo
        obtain ⟨a25, e26, hG⟩ := rf_s hF; clear hF
        obtain ⟨a27, e28, hF⟩ := rf_s hG; clear hG
        obtain ⟨a29, e30, hG⟩ := rf_s hF; clear hF
        obtain ⟨q31, hF⟩ := ck_s hG; clear hG
        obtain ⟨v33, H34, z32, hG⟩ := bC_s hF; clear hF
        replace hm : Mo H16 H34 := hm.tr ((m_Play_carry z32)).mo
        obtain ⟨a35, e36, hF⟩ := rf_s hG; clear hG
        obtain ⟨q37, hG⟩ := ck_s hF; clear hF
        obtain ⟨x38, -, hF⟩ := bnd_g hG; clear hG
        have hr := Option.some.inj hF; subst hr
        exact hm
    have b_4m := (fH16).len
    have b_4n := (fH16).2
    have b_4p : H16.sh.length ≤ c0 + C := by omega
    have b_4q : H16.sl ≤ s0 + Sl := by omega
    refine hp_callV_a (v := .int v15) (H1 := H16) (As := [.ref a11]) (rest := []) d_W_swap_21 (k_Reader_readAll z14 (C := H16.sh.length - H7.sh.length) (Sl := H16.sl - H7.sl) (by show H16.sh.length ≤ _; omega) (by show H16.sl ≤ _; omega)) (ab_mkC s_Reader_readAll (Nat.le_of_ble_eq_true rfl) (Nat.le_of_ble_eq_true rfl) (show (H7.sh.length - c0) + (H16.sh.length - H7.sh.length) ≤ C from by omega) (show (H7.sl - s0) + (H16.sl - H7.sl) ≤ Sl from by omega)) (k3 205 rfl rfl) i_Reader_readAll v_Reader_readAll (by rw [(s_2).1]; exact q13) (by decide) rfl rfl (Nat.le_of_ble_eq_true rfl) ?_
    refine ab_widen (cells' := H16.sh.length - c0) (slots' := H16.sl - s0) (by show _ + (H16.sh.length - H7.sh.length) ≤ _; omega) (by show _ + (H16.sl - H7.sl) ≤ _; omega) ?_
    clear b_4l b_4s b_4m b_4n b_4e b_4f
    refine ab_if_ne (tgt := 36) d_W_swap_24 (by decide) (fun q17 => ?_) (fun q17 => ?_)
    · rw [if_neg q17] at hF
      refine ab_aload_n d_W_swap_36 rfl rfl rfl ?_
      obtain ⟨v19, H20, z18, hG⟩ := bC_s hF; clear hF
      refine hp_callV_v (H1 := H20) (As := []) (rest := []) d_W_swap_37 (k_W_exchangePrograms z18) (ab_mkC s_W_exchangePrograms (Nat.le_of_ble_eq_true rfl) (Nat.le_of_ble_eq_true rfl) (show (H16.sh.length - c0) + 0 ≤ C from by omega) (show (H16.sl - s0) + 0 ≤ Sl from by omega)) (k6 69 rfl rfl) i_W_exchangePrograms v_W_exchangePrograms q_5 (by decide) rfl rfl (Nat.le_of_ble_eq_true rfl) ?_
      have s_10 : Sa H16 H20 := (m_W_exchangePrograms z18)
      refine ab_widen (cells' := H16.sh.length - c0) (slots' := H16.sl - s0) (by show (H16.sh.length - c0) + 0 ≤ _; omega) (by show (H16.sl - s0) + 0 ≤ _; omega) ?_
      refine ab_aload_n d_W_swap_40 rfl rfl rfl ?_
      obtain ⟨a21, e22, hF⟩ := rf_s hG; clear hG
      refine hp_getR (f := 2) d_W_swap_41 (by rw [(s_10).1]; exact q_5) (by decide) rfl (by decide) (k3 159 rfl rfl) rfl e22 ?_
      refine ab_aload_n d_W_swap_44 rfl rfl rfl ?_
      obtain ⟨a23, e24, hG⟩ := rf_s hF; clear hF
      refine hp_getR (f := 5) d_W_swap_45 (by rw [(s_10).1]; exact q_5) (by decide) rfl (by decide) (k3 162 rfl rfl) rfl e24 ?_
      refine ab_aload_n d_W_swap_48 rfl rfl rfl ?_
      obtain ⟨a25, e26, hF⟩ := rf_s hG; clear hG
      refine hp_getR (f := 4) d_W_swap_49 (by rw [(s_10).1]; exact q_5) (by decide) rfl (by decide) (k3 161 rfl rfl) rfl e26 ?_
      obtain ⟨q27, hG⟩ := ck_s hF; clear hF
      rw [(s_10).1] at q27
      obtain ⟨v29, H30, z28, hF⟩ := bC_s hG; clear hG
      refine ab_widen (cells' := H20.sh.length - c0) (slots' := H20.sl - s0) (by rw [(s_10).1]; exact Nat.le_refl _) (by rw [(s_10).2]; exact Nat.le_refl _) ?_
      have b_11e := congrArg List.length (s_10).1
      have b_11f := (s_10).2
      refine hp_callV_v (H1 := H30) (As := [.ref a23, .ref a25]) (rest := []) d_W_swap_52 (k_Play_carry z28) (ab_mkC s_Play_carry (Nat.le_of_ble_eq_true rfl) (Nat.le_of_ble_eq_true rfl) (show (H20.sh.length - c0) + 0 ≤ C from by omega) (show (H20.sl - s0) + 0 ≤ Sl from by omega)) (k6 99 rfl rfl) i_Play_carry v_Play_carry (by rw [(s_10).1]; exact q27) (by decide) rfl rfl (Nat.le_of_ble_eq_true rfl) ?_
      have s_12 : Sa H16 H30 := (s_10).tr (m_Play_carry z28)
      refine ab_widen (cells' := H16.sh.length - c0) (slots' := H16.sl - s0) (by show (H20.sh.length - c0) + 0 ≤ _; omega) (by show (H20.sl - s0) + 0 ≤ _; omega) ?_
      clear b_11e b_11f
      refine ab_aload_n d_W_swap_55 rfl rfl rfl ?_
      obtain ⟨a31, e32, hG⟩ := rf_s hF; clear hF
      refine hp_getR (f := 4) d_W_swap_56 (by rw [(s_12).1]; exact q_5) (by decide) rfl (by decide) (k3 161 rfl rfl) rfl e32 ?_
      obtain ⟨q33, hF⟩ := ck_s hG; clear hG
      rw [(s_12).1] at q33
      refine hp_getI (f := 7) d_W_swap_59 (by rw [(s_12).1]; exact q33) (by decide) rfl (by decide) (k3 82 rfl rfl) rfl ?_
      refine ab_topi (fun x34 ex34 => ?_)
      replace hF := bnd_s ex34 hF
      exact ab_iret d_W_swap_62 rfl (by show _ ≤ C; omega) (by show _ ≤ Sl; omega) (by have hr := Option.some.inj hF; subst hr; exact ⟨rfl, rfl⟩)
    · rw [if_pos q17] at hF
      refine ab_aload_n d_W_swap_27 rfl rfl rfl ?_
      obtain ⟨a35, e36, hG⟩ := rf_s hF; clear hF
      refine hp_getR (f := 0) d_W_swap_28 q_5 (by decide) rfl (by decide) (k3 157 rfl rfl) rfl e36 ?_
      obtain ⟨q37, hF⟩ := ck_s hG; clear hG
      refine hp_getI (f := 4) d_W_swap_31 q37 (by decide) rfl (by decide) (k1 105 rfl rfl) rfl ?_
      refine ab_topi (fun x38 ex38 => ?_)
      replace hF := bnd_s ex38 hF
      refine ab_ineg d_W_swap_34 ?_
      exact ab_iret d_W_swap_35 rfl (by show _ ≤ C; omega) (by show _ ≤ Sl; omega) (by have hr := Option.some.inj hF; subst hr; exact ⟨rfl, rfl⟩)
  · rw [if_pos q8] at hF
    refine ab_bipush (v := (-10)) d_W_swap_10 (by decide) ?_
    exact ab_iret d_W_swap_12 rfl (by show _ ≤ C; omega) (by show _ ≤ Sl; omega) (by have hr := Option.some.inj hF; subst hr; exact ⟨rfl, rfl⟩)
def y_Play_isFullyAhead : ab_Y := (⟨"WorldEngine$Play", "isFullyAhead", "()Z"⟩, prog_5_method_3_code, 1, (some FieldType.boolean), [])
theorem d_Play_isFullyAhead_0 : decode y_Play_isFullyAhead.2.1 0 = .ok (.aload_n 0, 1) := by decide +kernel
theorem d_Play_isFullyAhead_1 : decode y_Play_isFullyAhead.2.1 1 = .ok (.getfield 10, 3) := by decide +kernel
theorem d_Play_isFullyAhead_4 : decode y_Play_isFullyAhead.2.1 4 = .ok (.getfield 54, 3) := by decide +kernel
theorem d_Play_isFullyAhead_7 : decode y_Play_isFullyAhead.2.1 7 = .ok (.aload_n 0, 1) := by decide +kernel
theorem d_Play_isFullyAhead_8 : decode y_Play_isFullyAhead.2.1 8 = .ok (.getfield 57, 3) := by decide +kernel
theorem d_Play_isFullyAhead_11 : decode y_Play_isFullyAhead.2.1 11 = .ok (.bipush 16, 2) := by decide +kernel
theorem d_Play_isFullyAhead_13 : decode y_Play_isFullyAhead.2.1 13 = .ok (.iadd, 1) := by decide +kernel
theorem d_Play_isFullyAhead_14 : decode y_Play_isFullyAhead.2.1 14 = .ok (.if_icmp .lt 7, 3) := by decide +kernel
theorem d_Play_isFullyAhead_17 : decode y_Play_isFullyAhead.2.1 17 = .ok (.iconst 1, 1) := by decide +kernel
theorem d_Play_isFullyAhead_18 : decode y_Play_isFullyAhead.2.1 18 = .ok (.goto 4, 3) := by decide +kernel
theorem d_Play_isFullyAhead_21 : decode y_Play_isFullyAhead.2.1 21 = .ok (.iconst 0, 1) := by decide +kernel
theorem d_Play_isFullyAhead_22 : decode y_Play_isFullyAhead.2.1 22 = .ok (.ireturn, 1) := by decide +kernel
theorem s_Play_isFullyAhead : ab_Stat y_Play_isFullyAhead 0 := ⟨(k6 167 rfl rfl), (k1 9 rfl rfl), ⟨by decide, by decide⟩, by decide +kernel⟩
theorem i_Play_isFullyAhead : Cond.instanceMethod y_Play_isFullyAhead.1 ∈ ab_T := (k6 165 rfl rfl)
theorem v_Play_isFullyAhead : Cond.selects "WorldEngine$Play" y_Play_isFullyAhead.1 y_Play_isFullyAhead.1 ∈ ab_T := (k6 166 rfl rfl)
def F_Play_isFullyAhead (N : Nat) (p0 : Nat) (H : Hp) : Option (Int32 × Hp) :=
    ck (H.sh[p0]? = some (10, 0)) <|
    rf (H.P p0 0) fun a2 =>
    ck (H.sh[a2]? = some (7, 0)) <|
    bnd ((H.D a2 0)) fun x5 =>
    bnd ((H.D p0 1)) fun x6 =>
    if x5 < (x6 + (16 : Int32)) then
    some (0, H)
    else
    some (1, H)
set_option maxRecDepth 20000 in
set_option maxHeartbeats 2000000 in
theorem m_Play_isFullyAhead {N : Nat} {p0 : Nat} {H : Hp} {r : Int32 × Hp} (hF : F_Play_isFullyAhead N p0 H = some r) : Sa H r.2 := by
  unfold F_Play_isFullyAhead at hF
  have hm := Sa.rf H
  obtain ⟨q8, hG⟩ := ck_s hF; clear hF
  obtain ⟨a9, e10, hF⟩ := rf_s hG; clear hG
  obtain ⟨q11, hG⟩ := ck_s hF; clear hF
  obtain ⟨x12, -, hF⟩ := bnd_g hG; clear hG
  obtain ⟨x13, -, hG⟩ := bnd_g hF; clear hF
  rcases ite_s hG with ⟨q_1, hF⟩ | ⟨q_1, hF⟩
  · clear hG
    have hr := Option.some.inj hF; subst hr
    exact hm
  · clear hG
    have hr := Option.some.inj hF; subst hr
    exact hm
set_option maxRecDepth 20000 in
set_option maxHeartbeats 2000000 in
theorem k_Play_isFullyAhead {N : Nat} {p0 : Nat} {H : Hp} {r : Int32 × Hp} (hF : F_Play_isFullyAhead N p0 H = some r) : ab_M y_Play_isFullyAhead { frames := 0, cells := 0, slots := 0, locals := 0 } [.ref p0] (hpw H) (po (.returned (some (.int r.1))) r.2) := by
  unfold F_Play_isFullyAhead at hF
  refine ab_of2 (lv := [some (.ref p0)]) 0 rfl rfl (Nat.le_of_ble_eq_true rfl) ?_
  refine ab_aload_n d_Play_isFullyAhead_0 rfl rfl rfl ?_
  obtain ⟨q1, hG⟩ := ck_s hF; clear hF
  obtain ⟨a2, e3, hF⟩ := rf_s hG; clear hG
  refine hp_getR (f := 0) d_Play_isFullyAhead_1 q1 (by decide) rfl (by decide) (k2 130 rfl rfl) rfl e3 ?_
  obtain ⟨q4, hG⟩ := ck_s hF; clear hF
  refine hp_getI (f := 0) d_Play_isFullyAhead_4 q4 (by decide) rfl (by decide) (k1 205 rfl rfl) rfl ?_
  refine ab_topi (fun x5 ex5 => ?_)
  replace hG := bnd_s ex5 hG
  refine ab_aload_n d_Play_isFullyAhead_7 rfl rfl rfl ?_
  refine hp_getI (f := 1) d_Play_isFullyAhead_8 q1 (by decide) rfl (by decide) (k2 132 rfl rfl) rfl ?_
  refine ab_topi (fun x6 ex6 => ?_)
  replace hG := bnd_s ex6 hG
  refine ab_bipush (v := 16) d_Play_isFullyAhead_11 (by decide) ?_
  refine ab_iadd d_Play_isFullyAhead_13 ?_
  refine ab_icmp_lt (tgt := 21) d_Play_isFullyAhead_14 (by decide) (fun q7 => ?_) (fun q7 => ?_)
  · rw [if_pos q7] at hG
    refine ab_iconst (v := 0) d_Play_isFullyAhead_21 (by decide) ?_
    exact ab_zret d_Play_isFullyAhead_22 rfl rfl (Nat.le_refl _) (Nat.le_refl _) (by have hr := Option.some.inj hG; subst hr; exact ⟨rfl, rfl⟩)
  · rw [if_neg q7] at hG
    refine ab_iconst (v := 1) d_Play_isFullyAhead_17 (by decide) ?_
    refine ab_goto (tgt := 22) d_Play_isFullyAhead_18 (by decide) ?_
    exact ab_zret d_Play_isFullyAhead_22 rfl rfl (Nat.le_refl _) (Nat.le_refl _) (by have hr := Option.some.inj hG; subst hr; exact ⟨rfl, rfl⟩)
def y_Play_slot : ab_Y := (⟨"WorldEngine$Play", "slot", "(II)I"⟩, prog_5_method_10_code, 2, (some FieldType.int), [])
theorem d_Play_slot_0 : decode y_Play_slot.2.1 0 = .ok (.iload_n 0, 1) := by decide +kernel
theorem d_Play_slot_1 : decode y_Play_slot.2.1 1 = .ok (.bipush 64, 2) := by decide +kernel
theorem d_Play_slot_3 : decode y_Play_slot.2.1 3 = .ok (.imul, 1) := by decide +kernel
theorem d_Play_slot_4 : decode y_Play_slot.2.1 4 = .ok (.iload_n 1, 1) := by decide +kernel
theorem d_Play_slot_5 : decode y_Play_slot.2.1 5 = .ok (.bipush 63, 2) := by decide +kernel
theorem d_Play_slot_7 : decode y_Play_slot.2.1 7 = .ok (.iand, 1) := by decide +kernel
theorem d_Play_slot_8 : decode y_Play_slot.2.1 8 = .ok (.iadd, 1) := by decide +kernel
theorem d_Play_slot_9 : decode y_Play_slot.2.1 9 = .ok (.ireturn, 1) := by decide +kernel
theorem s_Play_slot : ab_Stat y_Play_slot 2 := ⟨(k6 183 rfl rfl), (k1 9 rfl rfl), ⟨by decide, by decide⟩, by decide +kernel⟩
theorem t_Play_slot : Cond.static y_Play_slot.1 ∈ ab_T := (k6 182 rfl rfl)
def F_Play_slot (N : Nat) (p0 : Int32) (p1 : Int32) (H : Hp) : Option (Int32 × Hp) :=
    some ((p0 * (64 : Int32)) + (p1 &&& (63 : Int32)), H)
set_option maxRecDepth 20000 in
set_option maxHeartbeats 2000000 in
theorem m_Play_slot {N : Nat} {p0 : Int32} {p1 : Int32} {H : Hp} {r : Int32 × Hp} (hF : F_Play_slot N p0 p1 H = some r) : Sa H r.2 := by
  unfold F_Play_slot at hF
  have hm := Sa.rf H
  have hr := Option.some.inj hF; subst hr
  exact hm
set_option maxRecDepth 20000 in
set_option maxHeartbeats 2000000 in
theorem k_Play_slot {N : Nat} {p0 : Int32} {p1 : Int32} {H : Hp} {r : Int32 × Hp} (hF : F_Play_slot N p0 p1 H = some r) : ab_M y_Play_slot { frames := 0, cells := 0, slots := 0, locals := 0 } [.int p0, .int p1] (hpw H) (po (.returned (some (.int r.1))) r.2) := by
  unfold F_Play_slot at hF
  refine ab_of2 (lv := [some (.int p0), some (.int p1)]) 0 rfl rfl (Nat.le_of_ble_eq_true rfl) ?_
  refine ab_iload_n d_Play_slot_0 rfl rfl ?_
  refine ab_bipush (v := 64) d_Play_slot_1 (by decide) ?_
  refine ab_imul d_Play_slot_3 ?_
  refine ab_iload_n d_Play_slot_4 rfl rfl ?_
  refine ab_bipush (v := 63) d_Play_slot_5 (by decide) ?_
  refine ab_iand d_Play_slot_7 ?_
  refine ab_iadd d_Play_slot_8 ?_
  exact ab_iret d_Play_slot_9 rfl (Nat.le_refl _) (Nat.le_refl _) (by have hr := Option.some.inj hF; subst hr; exact ⟨rfl, rfl⟩)
