def y_Play_inputOf : ab_Y := (⟨"WorldEngine$Play", "inputOf", "(II)I"⟩, prog_5_method_13_code, 4, (some FieldType.int), [])
theorem d_Play_inputOf_0 : decode y_Play_inputOf.2.1 0 = .ok (.aload_n 0, 1) := by decide +kernel
theorem d_Play_inputOf_1 : decode y_Play_inputOf.2.1 1 = .ok (.getfield 45, 3) := by decide +kernel
theorem d_Play_inputOf_4 : decode y_Play_inputOf.2.1 4 = .ok (.iload_n 2, 1) := by decide +kernel
theorem d_Play_inputOf_5 : decode y_Play_inputOf.2.1 5 = .ok (.bipush 15, 2) := by decide +kernel
theorem d_Play_inputOf_7 : decode y_Play_inputOf.2.1 7 = .ok (.iand, 1) := by decide +kernel
theorem d_Play_inputOf_8 : decode y_Play_inputOf.2.1 8 = .ok (.iaload, 1) := by decide +kernel
theorem d_Play_inputOf_9 : decode y_Play_inputOf.2.1 9 = .ok (.iload_n 1, 1) := by decide +kernel
theorem d_Play_inputOf_10 : decode y_Play_inputOf.2.1 10 = .ok (.ishr, 1) := by decide +kernel
theorem d_Play_inputOf_11 : decode y_Play_inputOf.2.1 11 = .ok (.iconst 1, 1) := by decide +kernel
theorem d_Play_inputOf_12 : decode y_Play_inputOf.2.1 12 = .ok (.iand, 1) := by decide +kernel
theorem d_Play_inputOf_13 : decode y_Play_inputOf.2.1 13 = .ok (.ifCond .ne 5, 3) := by decide +kernel
theorem d_Play_inputOf_16 : decode y_Play_inputOf.2.1 16 = .ok (.iconst 0, 1) := by decide +kernel
theorem d_Play_inputOf_17 : decode y_Play_inputOf.2.1 17 = .ok (.ireturn, 1) := by decide +kernel
theorem d_Play_inputOf_18 : decode y_Play_inputOf.2.1 18 = .ok (.iload_n 2, 1) := by decide +kernel
theorem d_Play_inputOf_19 : decode y_Play_inputOf.2.1 19 = .ok (.istore_n 3, 1) := by decide +kernel
theorem d_Play_inputOf_20 : decode y_Play_inputOf.2.1 20 = .ok (.iload_n 3, 1) := by decide +kernel
theorem d_Play_inputOf_21 : decode y_Play_inputOf.2.1 21 = .ok (.aload_n 0, 1) := by decide +kernel
theorem d_Play_inputOf_22 : decode y_Play_inputOf.2.1 22 = .ok (.getfield 57, 3) := by decide +kernel
theorem d_Play_inputOf_25 : decode y_Play_inputOf.2.1 25 = .ok (.if_icmp .le 33, 3) := by decide +kernel
theorem d_Play_inputOf_28 : decode y_Play_inputOf.2.1 28 = .ok (.aload_n 0, 1) := by decide +kernel
theorem d_Play_inputOf_29 : decode y_Play_inputOf.2.1 29 = .ok (.getfield 35, 3) := by decide +kernel
theorem d_Play_inputOf_32 : decode y_Play_inputOf.2.1 32 = .ok (.iload_n 1, 1) := by decide +kernel
theorem d_Play_inputOf_33 : decode y_Play_inputOf.2.1 33 = .ok (.iload_n 3, 1) := by decide +kernel
theorem d_Play_inputOf_34 : decode y_Play_inputOf.2.1 34 = .ok (.invokestatic 91, 3) := by decide +kernel
theorem d_Play_inputOf_37 : decode y_Play_inputOf.2.1 37 = .ok (.baload, 1) := by decide +kernel
theorem d_Play_inputOf_38 : decode y_Play_inputOf.2.1 38 = .ok (.ifCond .eq 14, 3) := by decide +kernel
theorem d_Play_inputOf_41 : decode y_Play_inputOf.2.1 41 = .ok (.aload_n 0, 1) := by decide +kernel
theorem d_Play_inputOf_42 : decode y_Play_inputOf.2.1 42 = .ok (.getfield 39, 3) := by decide +kernel
theorem d_Play_inputOf_45 : decode y_Play_inputOf.2.1 45 = .ok (.iload_n 1, 1) := by decide +kernel
theorem d_Play_inputOf_46 : decode y_Play_inputOf.2.1 46 = .ok (.iload_n 3, 1) := by decide +kernel
theorem d_Play_inputOf_47 : decode y_Play_inputOf.2.1 47 = .ok (.invokestatic 91, 3) := by decide +kernel
theorem d_Play_inputOf_50 : decode y_Play_inputOf.2.1 50 = .ok (.iaload, 1) := by decide +kernel
theorem d_Play_inputOf_51 : decode y_Play_inputOf.2.1 51 = .ok (.ireturn, 1) := by decide +kernel
theorem d_Play_inputOf_52 : decode y_Play_inputOf.2.1 52 = .ok (.iinc 3 (-1), 3) := by decide +kernel
theorem d_Play_inputOf_55 : decode y_Play_inputOf.2.1 55 = .ok (.goto (-35), 3) := by decide +kernel
theorem d_Play_inputOf_58 : decode y_Play_inputOf.2.1 58 = .ok (.aload_n 0, 1) := by decide +kernel
theorem d_Play_inputOf_59 : decode y_Play_inputOf.2.1 59 = .ok (.getfield 42, 3) := by decide +kernel
theorem d_Play_inputOf_62 : decode y_Play_inputOf.2.1 62 = .ok (.iload_n 1, 1) := by decide +kernel
theorem d_Play_inputOf_63 : decode y_Play_inputOf.2.1 63 = .ok (.iaload, 1) := by decide +kernel
theorem d_Play_inputOf_64 : decode y_Play_inputOf.2.1 64 = .ok (.ireturn, 1) := by decide +kernel
theorem s_Play_inputOf : ab_Stat y_Play_inputOf 2 := ⟨(k6 180 rfl rfl), (k1 9 rfl rfl), ⟨by decide, by decide⟩, by decide +kernel⟩
theorem i_Play_inputOf : Cond.instanceMethod y_Play_inputOf.1 ∈ ab_T := (k6 179 rfl rfl)
theorem v_Play_inputOf : Cond.selects "WorldEngine$Play" y_Play_inputOf.1 y_Play_inputOf.1 ∈ ab_T := ab_s (List.mem_of_getElem? (i := 66) rfl) rfl
def B_Play_inputOf_20 (N : Nat) (p0 : Nat) (p1 : Int32) (p2 : Int32) : Nat → Int32 → Hp → Option (Int32 × Hp)
  | 0, _, _ => none
  | n + 1, l3, H =>
    ck (H.sh[p0]? = some (10, 0)) <|
    bnd ((H.D p0 1)) fun x10 =>
    if l3 ≤ x10 then
    rf (H.P p0 10) fun a12 =>
    ar H 100 a12 fun n14 =>
    ck (inb p1 n14) <|
    bnd ((H.D a12 (p1).toNatClampNeg)) fun x17 =>
    some (x17, H)
    else
    rf (H.P p0 8) fun a18 =>
    bC (F_Play_slot N p1 l3 H) fun v21 H22 =>
    ar H22 102 a18 fun n23 =>
    ck (inb v21 n23) <|
    bnd ((H22.D a18 (v21).toNatClampNeg)) fun x26 =>
    if x26 = (0 : Int32) then
    B_Play_inputOf_20 N p0 p1 p2 n (l3 + (-1)) H22
    else
    rf (H22.P p0 9) fun a28 =>
    bC (F_Play_slot N p1 l3 H22) fun v31 H32 =>
    ar H32 100 a28 fun n33 =>
    ck (inb v31 n33) <|
    bnd ((H32.D a28 (v31).toNatClampNeg)) fun x36 =>
    some (x36, H32)
termination_by structural n => n
set_option maxRecDepth 20000 in
set_option maxHeartbeats 2000000 in
theorem mB_Play_inputOf_20 {N : Nat} {p0 : Nat} {p1 : Int32} {p2 : Int32} : ∀ (n : Nat) (l3 : Int32) (H : Hp) (r : Int32 × Hp), B_Play_inputOf_20 N p0 p1 p2 n l3 H = some r → Sa H r.2 := by
  intro n
  induction n with
  | zero => intro l3 H r hF; rw [B_Play_inputOf_20] at hF; cases hF
  | succ n ih =>
    intro l3 H r hF
    rw [B_Play_inputOf_20] at hF
    have hm := Sa.rf H
    obtain ⟨q37, hG⟩ := ck_s hF; clear hF
    obtain ⟨x38, -, hF⟩ := bnd_g hG; clear hG
    rcases ite_s hF with ⟨q_3, hG⟩ | ⟨q_3, hG⟩
    · clear hF
      obtain ⟨a40, e41, hF⟩ := rf_s hG; clear hG
      obtain ⟨n42, q43, hG⟩ := ar_s hF; clear hF
      obtain ⟨q44, hF⟩ := ck_s hG; clear hG
      obtain ⟨x45, -, hG⟩ := bnd_g hF; clear hF
      have hr := Option.some.inj hG; subst hr
      exact hm
    · clear hF
      obtain ⟨a46, e47, hF⟩ := rf_s hG; clear hG
      obtain ⟨v49, H50, z48, hG⟩ := bC_s hF; clear hF
      replace hm : Sa H H50 := hm.tr (m_Play_slot z48)
      obtain ⟨n51, q52, hF⟩ := ar_s hG; clear hG
      obtain ⟨q53, hG⟩ := ck_s hF; clear hF
      obtain ⟨x54, -, hF⟩ := bnd_g hG; clear hG
      rcases ite_s hF with ⟨q_5, hG⟩ | ⟨q_5, hG⟩
      · clear hF
        exact hm.tr (ih (l3 + (-1)) H50 r hG)
      · clear hF
        obtain ⟨a56, e57, hF⟩ := rf_s hG; clear hG
        obtain ⟨v59, H60, z58, hG⟩ := bC_s hF; clear hF
        replace hm : Sa H H60 := hm.tr (m_Play_slot z58)
        obtain ⟨n61, q62, hF⟩ := ar_s hG; clear hG
        obtain ⟨q63, hG⟩ := ck_s hF; clear hF
        obtain ⟨x64, -, hF⟩ := bnd_g hG; clear hG
        have hr := Option.some.inj hF; subst hr
        exact hm
set_option maxRecDepth 20000 in
set_option maxHeartbeats 2000000 in
theorem kB_Play_inputOf_20 {N : Nat} {p0 : Nat} {p1 : Int32} {p2 : Int32} : ∀ (n : Nat) (l3 : Int32) (H : Hp) (r : Int32 × Hp), B_Play_inputOf_20 N p0 p1 p2 n l3 H = some r → ab_V y_Play_inputOf { frames := 1, cells := 0, slots := 0, locals := 21 } (po (.returned (some (.int r.1))) r.2) 0 0 0 0 20 [some (.ref p0), some (.int p1), some (.int p2), some (.int l3)] [] (hpw H) := by
  intro n
  induction n with
  | zero => intro l3 H r hF; rw [B_Play_inputOf_20] at hF; cases hF
  | succ n ih =>
    intro l3 H r hF
    rw [B_Play_inputOf_20] at hF
    refine ab_iload_n d_Play_inputOf_20 rfl rfl ?_
    refine ab_aload_n d_Play_inputOf_21 rfl rfl rfl ?_
    obtain ⟨q9, hG⟩ := ck_s hF; clear hF
    refine hp_getI (f := 1) d_Play_inputOf_22 q9 (by decide) rfl (by decide) (k2 132 rfl rfl) rfl ?_
    refine ab_topi (fun x10 ex10 => ?_)
    replace hG := bnd_s ex10 hG
    refine ab_icmp_le (tgt := 58) d_Play_inputOf_25 (by decide) (fun q11 => ?_) (fun q11 => ?_)
    · rw [if_pos q11] at hG
      refine ab_aload_n d_Play_inputOf_58 rfl rfl rfl ?_
      obtain ⟨a12, e13, hF⟩ := rf_s hG; clear hG
      refine hp_getR (f := 10) d_Play_inputOf_59 q9 (by decide) rfl (by decide) (k2 146 rfl rfl) rfl e13 ?_
      refine ab_iload_n d_Play_inputOf_62 rfl rfl ?_
      obtain ⟨n14, q15, hG⟩ := ar_s hF; clear hF
      obtain ⟨q16, hF⟩ := ck_s hG; clear hG
      refine hp_iald d_Play_inputOf_63 tI q15 q16 ?_
      refine ab_topi (fun x17 ex17 => ?_)
      replace hF := bnd_s ex17 hF
      exact ab_iret d_Play_inputOf_64 rfl (Nat.le_refl _) (Nat.le_refl _) (by have hr := Option.some.inj hF; subst hr; exact ⟨rfl, rfl⟩)
    · rw [if_neg q11] at hG
      refine ab_aload_n d_Play_inputOf_28 rfl rfl rfl ?_
      obtain ⟨a18, e19, hF⟩ := rf_s hG; clear hG
      refine hp_getR (f := 8) d_Play_inputOf_29 q9 (by decide) rfl (by decide) (k2 144 rfl rfl) rfl e19 ?_
      refine ab_iload_n d_Play_inputOf_32 rfl rfl ?_
      refine ab_iload_n d_Play_inputOf_33 rfl rfl ?_
      obtain ⟨v21, H22, z20, hG⟩ := bC_s hF; clear hF
      refine hp_callS_a (v := .int v21) (H1 := H22) (As := [.int p1, .int l3]) (rest := [.ref a18]) d_Play_inputOf_34 (k_Play_slot z20) (ab_mkC s_Play_slot (Nat.le_of_ble_eq_true rfl) (Nat.le_of_ble_eq_true rfl) (Nat.le_refl 0) (Nat.le_refl 0)) (k6 181 rfl rfl) t_Play_slot rfl (Nat.le_of_ble_eq_true rfl) ?_
      have s_1 : Sa H H22 := (m_Play_slot z20)
      obtain ⟨n23, q24, hF⟩ := ar_s hG; clear hG
      rw [(s_1).1] at q24
      obtain ⟨q25, hG⟩ := ck_s hF; clear hF
      refine hp_zald d_Play_inputOf_37 tZ (by rw [(s_1).1]; exact q24) q25 ?_
      refine ab_topi (fun x26 ex26 => ?_)
      replace hG := bnd_s ex26 hG
      refine ab_if_eq (tgt := 52) d_Play_inputOf_38 (by decide) (fun q27 => ?_) (fun q27 => ?_)
      · rw [if_pos q27] at hG
        refine ab_iinc (v := l3 + (-1)) (lv' := [some (.ref p0), some (.int p1), some (.int p2), some (.int (l3 + (-1)))]) d_Play_inputOf_52 rfl rfl (by decide) rfl ?_
        refine ab_goto (tgt := 20) d_Play_inputOf_55 (by decide) ?_
        exact ih (l3 + (-1)) H22 r hG
      · rw [if_neg q27] at hG
        refine ab_aload_n d_Play_inputOf_41 rfl rfl rfl ?_
        obtain ⟨a28, e29, hF⟩ := rf_s hG; clear hG
        refine hp_getR (f := 9) d_Play_inputOf_42 (by rw [(s_1).1]; exact q9) (by decide) rfl (by decide) (k2 145 rfl rfl) rfl e29 ?_
        refine ab_iload_n d_Play_inputOf_45 rfl rfl ?_
        refine ab_iload_n d_Play_inputOf_46 rfl rfl ?_
        obtain ⟨v31, H32, z30, hG⟩ := bC_s hF; clear hF
        refine hp_callS_a (v := .int v31) (H1 := H32) (As := [.int p1, .int l3]) (rest := [.ref a28]) d_Play_inputOf_47 (k_Play_slot z30) (ab_mkC s_Play_slot (Nat.le_of_ble_eq_true rfl) (Nat.le_of_ble_eq_true rfl) (Nat.le_refl 0) (Nat.le_refl 0)) (k6 181 rfl rfl) t_Play_slot rfl (Nat.le_of_ble_eq_true rfl) ?_
        have s_2 : Sa H H32 := (s_1).tr (m_Play_slot z30)
        obtain ⟨n33, q34, hF⟩ := ar_s hG; clear hG
        rw [(s_2).1] at q34
        obtain ⟨q35, hG⟩ := ck_s hF; clear hF
        refine hp_iald d_Play_inputOf_50 tI (by rw [(s_2).1]; exact q34) q35 ?_
        refine ab_topi (fun x36 ex36 => ?_)
        replace hG := bnd_s ex36 hG
        exact ab_iret d_Play_inputOf_51 rfl (Nat.le_refl _) (Nat.le_refl _) (by have hr := Option.some.inj hG; subst hr; exact ⟨rfl, rfl⟩)
def F_Play_inputOf (N : Nat) (p0 : Nat) (p1 : Int32) (p2 : Int32) (H : Hp) : Option (Int32 × Hp) :=
    ck (H.sh[p0]? = some (10, 0)) <|
    rf (H.P p0 11) fun a2 =>
    ar H 100 a2 fun n4 =>
    ck (inb (p2 &&& (15 : Int32)) n4) <|
    bnd ((H.D a2 ((p2 &&& (15 : Int32))).toNatClampNeg)) fun x7 =>
    if ((x7 >>> (p1 &&& 31)) &&& (1 : Int32)) = (0 : Int32) then
    some (0, H)
    else
    B_Play_inputOf_20 N p0 p1 p2 N p2 H
set_option maxRecDepth 20000 in
set_option maxHeartbeats 2000000 in
theorem m_Play_inputOf {N : Nat} {p0 : Nat} {p1 : Int32} {p2 : Int32} {H : Hp} {r : Int32 × Hp} (hF : F_Play_inputOf N p0 p1 p2 H = some r) : Sa H r.2 := by
  unfold F_Play_inputOf at hF
  have hm := Sa.rf H
  obtain ⟨q65, hG⟩ := ck_s hF; clear hF
  obtain ⟨a66, e67, hF⟩ := rf_s hG; clear hG
  obtain ⟨n68, q69, hG⟩ := ar_s hF; clear hF
  obtain ⟨q70, hF⟩ := ck_s hG; clear hG
  obtain ⟨x71, -, hG⟩ := bnd_g hF; clear hF
  rcases ite_s hG with ⟨q_7, hF⟩ | ⟨q_7, hF⟩
  · clear hG
    have hr := Option.some.inj hF; subst hr
    exact hm
  · clear hG
    exact hm.tr (mB_Play_inputOf_20 N p2 H r hF)
set_option maxRecDepth 20000 in
set_option maxHeartbeats 2000000 in
theorem k_Play_inputOf {N : Nat} {p0 : Nat} {p1 : Int32} {p2 : Int32} {H : Hp} {r : Int32 × Hp} (hF : F_Play_inputOf N p0 p1 p2 H = some r) : ab_M y_Play_inputOf { frames := 1, cells := 0, slots := 0, locals := 21 } [.ref p0, .int p1, .int p2] (hpw H) (po (.returned (some (.int r.1))) r.2) := by
  unfold F_Play_inputOf at hF
  refine ab_of2 (lv := [some (.ref p0), some (.int p1), some (.int p2), none]) 1 rfl rfl (Nat.le_of_ble_eq_true rfl) ?_
  refine ab_aload_n d_Play_inputOf_0 rfl rfl rfl ?_
  obtain ⟨q1, hG⟩ := ck_s hF; clear hF
  obtain ⟨a2, e3, hF⟩ := rf_s hG; clear hG
  refine hp_getR (f := 11) d_Play_inputOf_1 q1 (by decide) rfl (by decide) (k2 147 rfl rfl) rfl e3 ?_
  refine ab_iload_n d_Play_inputOf_4 rfl rfl ?_
  refine ab_bipush (v := 15) d_Play_inputOf_5 (by decide) ?_
  refine ab_iand d_Play_inputOf_7 ?_
  obtain ⟨n4, q5, hG⟩ := ar_s hF; clear hF
  obtain ⟨q6, hF⟩ := ck_s hG; clear hG
  refine hp_iald d_Play_inputOf_8 tI q5 q6 ?_
  refine ab_topi (fun x7 ex7 => ?_)
  replace hF := bnd_s ex7 hF
  refine ab_iload_n d_Play_inputOf_9 rfl rfl ?_
  refine ab_ishr d_Play_inputOf_10 ?_
  refine ab_iconst (v := 1) d_Play_inputOf_11 (by decide) ?_
  refine ab_iand d_Play_inputOf_12 ?_
  refine ab_if_ne (tgt := 18) d_Play_inputOf_13 (by decide) (fun q8 => ?_) (fun q8 => ?_)
  · rw [if_neg q8] at hF
    refine ab_iload_n d_Play_inputOf_18 rfl rfl ?_
    refine ab_istore_n (lv' := [some (.ref p0), some (.int p1), some (.int p2), some (.int p2)]) d_Play_inputOf_19 rfl (by decide) rfl ?_
    exact kB_Play_inputOf_20 N p2 H r hF
  · rw [if_pos q8] at hF
    refine ab_iconst (v := 0) d_Play_inputOf_16 (by decide) ?_
    exact ab_iret d_Play_inputOf_17 rfl (Nat.le_refl _) (Nat.le_refl _) (by have hr := Option.some.inj hF; subst hr; exact ⟨rfl, rfl⟩)
def y_Play_prepareNext : ab_Y := (⟨"WorldEngine$Play", "prepareNext", "()V"⟩, prog_5_method_12_code, 3, none, [])
theorem d_Play_prepareNext_0 : decode y_Play_prepareNext.2.1 0 = .ok (.aload_n 0, 1) := by decide +kernel
theorem d_Play_prepareNext_1 : decode y_Play_prepareNext.2.1 1 = .ok (.getfield 16, 3) := by decide +kernel
theorem d_Play_prepareNext_4 : decode y_Play_prepareNext.2.1 4 = .ok (.aload_n 0, 1) := by decide +kernel
theorem d_Play_prepareNext_5 : decode y_Play_prepareNext.2.1 5 = .ok (.getfield 10, 3) := by decide +kernel
theorem d_Play_prepareNext_8 : decode y_Play_prepareNext.2.1 8 = .ok (.getfield 54, 3) := by decide +kernel
theorem d_Play_prepareNext_11 : decode y_Play_prepareNext.2.1 11 = .ok (.bipush 15, 2) := by decide +kernel
theorem d_Play_prepareNext_13 : decode y_Play_prepareNext.2.1 13 = .ok (.iand, 1) := by decide +kernel
theorem d_Play_prepareNext_14 : decode y_Play_prepareNext.2.1 14 = .ok (.aaload, 1) := by decide +kernel
theorem d_Play_prepareNext_15 : decode y_Play_prepareNext.2.1 15 = .ok (.aload_n 0, 1) := by decide +kernel
theorem d_Play_prepareNext_16 : decode y_Play_prepareNext.2.1 16 = .ok (.getfield 10, 3) := by decide +kernel
theorem d_Play_prepareNext_19 : decode y_Play_prepareNext.2.1 19 = .ok (.invokevirtual 83, 3) := by decide +kernel
theorem d_Play_prepareNext_22 : decode y_Play_prepareNext.2.1 22 = .ok (.aload_n 0, 1) := by decide +kernel
theorem d_Play_prepareNext_23 : decode y_Play_prepareNext.2.1 23 = .ok (.getfield 10, 3) := by decide +kernel
theorem d_Play_prepareNext_26 : decode y_Play_prepareNext.2.1 26 = .ok (.getfield 54, 3) := by decide +kernel
theorem d_Play_prepareNext_29 : decode y_Play_prepareNext.2.1 29 = .ok (.iconst 1, 1) := by decide +kernel
theorem d_Play_prepareNext_30 : decode y_Play_prepareNext.2.1 30 = .ok (.iadd, 1) := by decide +kernel
theorem d_Play_prepareNext_31 : decode y_Play_prepareNext.2.1 31 = .ok (.istore_n 1, 1) := by decide +kernel
theorem d_Play_prepareNext_32 : decode y_Play_prepareNext.2.1 32 = .ok (.iconst 0, 1) := by decide +kernel
theorem d_Play_prepareNext_33 : decode y_Play_prepareNext.2.1 33 = .ok (.istore_n 2, 1) := by decide +kernel
theorem d_Play_prepareNext_34 : decode y_Play_prepareNext.2.1 34 = .ok (.iload_n 2, 1) := by decide +kernel
theorem d_Play_prepareNext_35 : decode y_Play_prepareNext.2.1 35 = .ok (.iconst 4, 1) := by decide +kernel
theorem d_Play_prepareNext_36 : decode y_Play_prepareNext.2.1 36 = .ok (.if_icmp .ge 40, 3) := by decide +kernel
theorem d_Play_prepareNext_39 : decode y_Play_prepareNext.2.1 39 = .ok (.aload_n 0, 1) := by decide +kernel
theorem d_Play_prepareNext_40 : decode y_Play_prepareNext.2.1 40 = .ok (.getfield 51, 3) := by decide +kernel
theorem d_Play_prepareNext_43 : decode y_Play_prepareNext.2.1 43 = .ok (.iload_n 2, 1) := by decide +kernel
theorem d_Play_prepareNext_44 : decode y_Play_prepareNext.2.1 44 = .ok (.aload_n 0, 1) := by decide +kernel
theorem d_Play_prepareNext_45 : decode y_Play_prepareNext.2.1 45 = .ok (.iload_n 2, 1) := by decide +kernel
theorem d_Play_prepareNext_46 : decode y_Play_prepareNext.2.1 46 = .ok (.iload_n 1, 1) := by decide +kernel
theorem d_Play_prepareNext_47 : decode y_Play_prepareNext.2.1 47 = .ok (.invokevirtual 105, 3) := by decide +kernel
theorem d_Play_prepareNext_50 : decode y_Play_prepareNext.2.1 50 = .ok (.iastore, 1) := by decide +kernel
theorem d_Play_prepareNext_51 : decode y_Play_prepareNext.2.1 51 = .ok (.aload_n 0, 1) := by decide +kernel
theorem d_Play_prepareNext_52 : decode y_Play_prepareNext.2.1 52 = .ok (.getfield 48, 3) := by decide +kernel
theorem d_Play_prepareNext_55 : decode y_Play_prepareNext.2.1 55 = .ok (.iload_n 1, 1) := by decide +kernel
theorem d_Play_prepareNext_56 : decode y_Play_prepareNext.2.1 56 = .ok (.bipush 15, 2) := by decide +kernel
theorem d_Play_prepareNext_58 : decode y_Play_prepareNext.2.1 58 = .ok (.iand, 1) := by decide +kernel
theorem d_Play_prepareNext_59 : decode y_Play_prepareNext.2.1 59 = .ok (.iconst 4, 1) := by decide +kernel
theorem d_Play_prepareNext_60 : decode y_Play_prepareNext.2.1 60 = .ok (.imul, 1) := by decide +kernel
theorem d_Play_prepareNext_61 : decode y_Play_prepareNext.2.1 61 = .ok (.iload_n 2, 1) := by decide +kernel
theorem d_Play_prepareNext_62 : decode y_Play_prepareNext.2.1 62 = .ok (.iadd, 1) := by decide +kernel
theorem d_Play_prepareNext_63 : decode y_Play_prepareNext.2.1 63 = .ok (.aload_n 0, 1) := by decide +kernel
theorem d_Play_prepareNext_64 : decode y_Play_prepareNext.2.1 64 = .ok (.getfield 51, 3) := by decide +kernel
theorem d_Play_prepareNext_67 : decode y_Play_prepareNext.2.1 67 = .ok (.iload_n 2, 1) := by decide +kernel
theorem d_Play_prepareNext_68 : decode y_Play_prepareNext.2.1 68 = .ok (.iaload, 1) := by decide +kernel
theorem d_Play_prepareNext_69 : decode y_Play_prepareNext.2.1 69 = .ok (.iastore, 1) := by decide +kernel
theorem d_Play_prepareNext_70 : decode y_Play_prepareNext.2.1 70 = .ok (.iinc 2 1, 3) := by decide +kernel
theorem d_Play_prepareNext_73 : decode y_Play_prepareNext.2.1 73 = .ok (.goto (-39), 3) := by decide +kernel
theorem d_Play_prepareNext_76 : decode y_Play_prepareNext.2.1 76 = .ok (.return_, 1) := by decide +kernel
theorem s_Play_prepareNext : ab_Stat y_Play_prepareNext 0 := ⟨(k6 176 rfl rfl), (k1 9 rfl rfl), ⟨by decide, by decide⟩, by decide +kernel⟩
theorem i_Play_prepareNext : Cond.instanceMethod y_Play_prepareNext.1 ∈ ab_T := (k6 175 rfl rfl)
theorem v_Play_prepareNext : Cond.selects "WorldEngine$Play" y_Play_prepareNext.1 y_Play_prepareNext.1 ∈ ab_T := ab_s (List.mem_of_getElem? (i := 65) rfl) rfl
def B_Play_prepareNext_34 (N : Nat) (p0 : Nat) : Nat → Int32 → Int32 → Hp → Option (Unit × Hp)
  | 0, _, _, _ => none
  | n + 1, l1, l2, H =>
    if (4 : Int32) ≤ l2 then
    some ((), H)
    else
    ck (H.sh[p0]? = some (10, 0)) <|
    rf (H.P p0 13) fun a26 =>
    bC (F_Play_inputOf N p0 l2 l1 H) fun v29 H30 =>
    ar H30 100 a26 fun n31 =>
    ck (inb l2 n31) <|
    bnd (H30.sD a26 (l2).toNatClampNeg v29) fun H34 =>
    rf (H34.P p0 12) fun a35 =>
    rf (H34.P p0 13) fun a37 =>
    ar H34 100 a37 fun n39 =>
    ck (inb l2 n39) <|
    bnd ((H34.D a37 (l2).toNatClampNeg)) fun x42 =>
    ar H34 100 a35 fun n43 =>
    ck (inb (((l1 &&& (15 : Int32)) * (4 : Int32)) + l2) n43) <|
    bnd (H34.sD a35 ((((l1 &&& (15 : Int32)) * (4 : Int32)) + l2)).toNatClampNeg x42) fun H46 =>
    B_Play_prepareNext_34 N p0 n l1 (l2 + 1) H46
termination_by structural n => n
set_option maxRecDepth 20000 in
set_option maxHeartbeats 2000000 in
theorem mB_Play_prepareNext_34 {N : Nat} {p0 : Nat} : ∀ (n : Nat) (l1 : Int32) (l2 : Int32) (H : Hp) (r : Unit × Hp), B_Play_prepareNext_34 N p0 n l1 l2 H = some r → Sa H r.2 := by
  intro n
  induction n with
  | zero => intro l1 l2 H r hF; rw [B_Play_prepareNext_34] at hF; cases hF
  | succ n ih =>
    intro l1 l2 H r hF
    rw [B_Play_prepareNext_34] at hF
    have hm := Sa.rf H
    rcases ite_s hF with ⟨q_5, hG⟩ | ⟨q_5, hG⟩
    · clear hF
      have hr := Option.some.inj hG; subst hr
      exact hm
    · clear hF
      obtain ⟨q48, hF⟩ := ck_s hG; clear hG
      obtain ⟨a49, e50, hG⟩ := rf_s hF; clear hF
      obtain ⟨v52, H53, z51, hF⟩ := bC_s hG; clear hG
      replace hm : Sa H H53 := hm.tr (m_Play_inputOf z51)
      obtain ⟨n54, q55, hG⟩ := ar_s hF; clear hF
      obtain ⟨q56, hF⟩ := ck_s hG; clear hG
      obtain ⟨H57, eH57, hG⟩ := bnd_g hF; clear hF
      replace hm : Sa H H57 := by rw [eH57]; exact hm
      obtain ⟨a58, e59, hF⟩ := rf_s hG; clear hG
      obtain ⟨a60, e61, hG⟩ := rf_s hF; clear hF
      obtain ⟨n62, q63, hF⟩ := ar_s hG; clear hG
      obtain ⟨q64, hG⟩ := ck_s hF; clear hF
      obtain ⟨x65, -, hF⟩ := bnd_g hG; clear hG
      obtain ⟨n66, q67, hG⟩ := ar_s hF; clear hF
      obtain ⟨q68, hF⟩ := ck_s hG; clear hG
      obtain ⟨H69, eH69, hG⟩ := bnd_g hF; clear hF
      replace hm : Sa H H69 := by rw [eH69]; exact hm
      exact hm.tr (ih l1 (l2 + 1) H69 r hG)
set_option maxRecDepth 20000 in
set_option maxHeartbeats 2000000 in
theorem kB_Play_prepareNext_34 {N : Nat} {p0 : Nat} : ∀ (n : Nat) (l1 : Int32) (l2 : Int32) (H : Hp) (r : Unit × Hp), B_Play_prepareNext_34 N p0 n l1 l2 H = some r → ab_V y_Play_prepareNext { frames := 2, cells := 0, slots := 0, locals := 81 } (po (.returned none) r.2) 0 0 0 0 34 [some (.ref p0), some (.int l1), some (.int l2)] [] (hpw H) := by
  intro n
  induction n with
  | zero => intro l1 l2 H r hF; rw [B_Play_prepareNext_34] at hF; cases hF
  | succ n ih =>
    intro l1 l2 H r hF
    rw [B_Play_prepareNext_34] at hF
    refine ab_iload_n d_Play_prepareNext_34 rfl rfl ?_
    refine ab_iconst (v := 4) d_Play_prepareNext_35 (by decide) ?_
    refine ab_icmp_ge (tgt := 76) d_Play_prepareNext_36 (by decide) (fun q24 => ?_) (fun q24 => ?_)
    · rw [if_pos q24] at hF
      exact ab_vret d_Play_prepareNext_76 rfl (Nat.le_refl _) (Nat.le_refl _) (by have hr := Option.some.inj hF; subst hr; exact ⟨rfl, rfl⟩)
    · rw [if_neg q24] at hF
      refine ab_aload_n d_Play_prepareNext_39 rfl rfl rfl ?_
      obtain ⟨q25, hG⟩ := ck_s hF; clear hF
      obtain ⟨a26, e27, hF⟩ := rf_s hG; clear hG
      refine hp_getR (f := 13) d_Play_prepareNext_40 q25 (by decide) rfl (by decide) (k2 149 rfl rfl) rfl e27 ?_
      refine ab_iload_n d_Play_prepareNext_43 rfl rfl ?_
      refine ab_aload_n d_Play_prepareNext_44 rfl rfl rfl ?_
      refine ab_iload_n d_Play_prepareNext_45 rfl rfl ?_
      refine ab_iload_n d_Play_prepareNext_46 rfl rfl ?_
      obtain ⟨v29, H30, z28, hG⟩ := bC_s hF; clear hF
      refine hp_callV_a (v := .int v29) (H1 := H30) (As := [.int l2, .int l1]) (rest := [.int l2, .ref a26]) d_Play_prepareNext_47 (k_Play_inputOf z28) (ab_mkC s_Play_inputOf (Nat.le_of_ble_eq_true rfl) (Nat.le_of_ble_eq_true rfl) (Nat.le_refl 0) (Nat.le_refl 0)) (k6 177 rfl rfl) i_Play_inputOf v_Play_inputOf q25 (by decide) rfl rfl (Nat.le_of_ble_eq_true rfl) ?_
      have s_2 : Sa H H30 := (m_Play_inputOf z28)
      obtain ⟨n31, q32, hF⟩ := ar_s hG; clear hG
      rw [(s_2).1] at q32
      obtain ⟨q33, hG⟩ := ck_s hF; clear hF
      refine hp_iast d_Play_prepareNext_50 tI (by rw [(s_2).1]; exact q32) q33 ?_
      refine hp_gen (fun H34 eH34 => ?_)
      replace hG := bnd_s eH34 hG
      have s_3 : Sa H H34 := by rw [eH34]; exact s_2
      refine ab_aload_n d_Play_prepareNext_51 rfl rfl rfl ?_
      obtain ⟨a35, e36, hF⟩ := rf_s hG; clear hG
      refine hp_getR (f := 12) d_Play_prepareNext_52 (by rw [(s_3).1]; exact q25) (by decide) rfl (by decide) (k2 148 rfl rfl) rfl e36 ?_
      refine ab_iload_n d_Play_prepareNext_55 rfl rfl ?_
      refine ab_bipush (v := 15) d_Play_prepareNext_56 (by decide) ?_
      refine ab_iand d_Play_prepareNext_58 ?_
      refine ab_iconst (v := 4) d_Play_prepareNext_59 (by decide) ?_
      refine ab_imul d_Play_prepareNext_60 ?_
      refine ab_iload_n d_Play_prepareNext_61 rfl rfl ?_
      refine ab_iadd d_Play_prepareNext_62 ?_
      refine ab_aload_n d_Play_prepareNext_63 rfl rfl rfl ?_
      obtain ⟨a37, e38, hG⟩ := rf_s hF; clear hF
      refine hp_getR (f := 13) d_Play_prepareNext_64 (by rw [(s_3).1]; exact q25) (by decide) rfl (by decide) (k2 149 rfl rfl) rfl e38 ?_
      refine ab_iload_n d_Play_prepareNext_67 rfl rfl ?_
      obtain ⟨n39, q40, hF⟩ := ar_s hG; clear hG
      rw [(s_3).1] at q40
      obtain ⟨q41, hG⟩ := ck_s hF; clear hF
      refine hp_iald d_Play_prepareNext_68 tI (by rw [(s_3).1]; exact q40) q41 ?_
      refine ab_topi (fun x42 ex42 => ?_)
      replace hG := bnd_s ex42 hG
      obtain ⟨n43, q44, hF⟩ := ar_s hG; clear hG
      rw [(s_3).1] at q44
      obtain ⟨q45, hG⟩ := ck_s hF; clear hF
      refine hp_iast d_Play_prepareNext_69 tI (by rw [(s_3).1]; exact q44) q45 ?_
      refine hp_gen (fun H46 eH46 => ?_)
      replace hG := bnd_s eH46 hG
      have s_4 : Sa H H46 := by rw [eH46]; exact s_3
      refine ab_iinc (v := l2 + 1) (lv' := [some (.ref p0), some (.int l1), some (.int (l2 + 1))]) d_Play_prepareNext_70 rfl rfl (by decide) rfl ?_
      refine ab_goto (tgt := 34) d_Play_prepareNext_73 (by decide) ?_
      exact ih l1 (l2 + 1) H46 r hG
def F_Play_prepareNext (N : Nat) (p0 : Nat) (H : Hp) : Option (Unit × Hp) :=
    ck (H.sh[p0]? = some (10, 0)) <|
    rf (H.P p0 6) fun a2 =>
    rf (H.P p0 0) fun a4 =>
    ck (H.sh[a4]? = some (7, 0)) <|
    bnd ((H.D a4 0)) fun x7 =>
    ar H 105 a2 fun n8 =>
    ck (inb (x7 &&& (15 : Int32)) n8) <|
    rf (H.P a2 ((x7 &&& (15 : Int32))).toNatClampNeg) fun a11 =>
    rf (H.P p0 0) fun a13 =>
    ck (H.sh[a11]? = some (7, 0)) <|
    bC (F_World_copyFrom N a11 a13 H) fun v17 H18 =>
    rf (H18.P p0 0) fun a19 =>
    ck (H18.sh[a19]? = some (7, 0)) <|
    bnd ((H18.D a19 0)) fun x22 =>
    bnd ((x22 + (1 : Int32))) fun x23 =>
    B_Play_prepareNext_34 N p0 N x23 0 H18
set_option maxRecDepth 20000 in
set_option maxHeartbeats 2000000 in
theorem m_Play_prepareNext {N : Nat} {p0 : Nat} {H : Hp} {r : Unit × Hp} (hF : F_Play_prepareNext N p0 H = some r) : Sa H r.2 := by
  unfold F_Play_prepareNext at hF
  have hm := Sa.rf H
  obtain ⟨q70, hG⟩ := ck_s hF; clear hF
  obtain ⟨a71, e72, hF⟩ := rf_s hG; clear hG
  obtain ⟨a73, e74, hG⟩ := rf_s hF; clear hF
  obtain ⟨q75, hF⟩ := ck_s hG; clear hG
  obtain ⟨x76, -, hG⟩ := bnd_g hF; clear hF
  obtain ⟨n77, q78, hF⟩ := ar_s hG; clear hG
  obtain ⟨q79, hG⟩ := ck_s hF; clear hF
  obtain ⟨a80, e81, hF⟩ := rf_s hG; clear hG
  obtain ⟨a82, e83, hG⟩ := rf_s hF; clear hF
  obtain ⟨q84, hF⟩ := ck_s hG; clear hG
  obtain ⟨v86, H87, z85, hG⟩ := bC_s hF; clear hF
  replace hm : Sa H H87 := hm.tr (m_World_copyFrom z85)
  obtain ⟨a88, e89, hF⟩ := rf_s hG; clear hG
  obtain ⟨q90, hG⟩ := ck_s hF; clear hF
  obtain ⟨x91, -, hF⟩ := bnd_g hG; clear hG
  obtain ⟨x92, -, hG⟩ := bnd_g hF; clear hF
  exact hm.tr (mB_Play_prepareNext_34 N x92 0 H87 r hG)
set_option maxRecDepth 20000 in
set_option maxHeartbeats 2000000 in
theorem k_Play_prepareNext {N : Nat} {p0 : Nat} {H : Hp} {r : Unit × Hp} (hF : F_Play_prepareNext N p0 H = some r) : ab_M y_Play_prepareNext { frames := 2, cells := 0, slots := 0, locals := 81 } [.ref p0] (hpw H) (po (.returned none) r.2) := by
  unfold F_Play_prepareNext at hF
  refine ab_of2 (lv := [some (.ref p0), none, none]) 2 rfl rfl (Nat.le_of_ble_eq_true rfl) ?_
  refine ab_aload_n d_Play_prepareNext_0 rfl rfl rfl ?_
  obtain ⟨q1, hG⟩ := ck_s hF; clear hF
  obtain ⟨a2, e3, hF⟩ := rf_s hG; clear hG
  refine hp_getR (f := 6) d_Play_prepareNext_1 q1 (by decide) rfl (by decide) (k2 142 rfl rfl) rfl e3 ?_
  refine ab_aload_n d_Play_prepareNext_4 rfl rfl rfl ?_
  obtain ⟨a4, e5, hG⟩ := rf_s hF; clear hF
  refine hp_getR (f := 0) d_Play_prepareNext_5 q1 (by decide) rfl (by decide) (k2 130 rfl rfl) rfl e5 ?_
  obtain ⟨q6, hF⟩ := ck_s hG; clear hG
  refine hp_getI (f := 0) d_Play_prepareNext_8 q6 (by decide) rfl (by decide) (k1 205 rfl rfl) rfl ?_
  refine ab_topi (fun x7 ex7 => ?_)
  replace hF := bnd_s ex7 hF
  refine ab_bipush (v := 15) d_Play_prepareNext_11 (by decide) ?_
  refine ab_iand d_Play_prepareNext_13 ?_
  obtain ⟨n8, q9, hG⟩ := ar_s hF; clear hF
  obtain ⟨q10, hF⟩ := ck_s hG; clear hG
  obtain ⟨a11, e12, hG⟩ := rf_s hF; clear hF
  refine hp_aald (q := 105) d_Play_prepareNext_14 (by decide) tW q9 q10 e12 ?_
  refine ab_aload_n d_Play_prepareNext_15 rfl rfl rfl ?_
  obtain ⟨a13, e14, hF⟩ := rf_s hG; clear hG
  refine hp_getR (f := 0) d_Play_prepareNext_16 q1 (by decide) rfl (by decide) (k2 130 rfl rfl) rfl e14 ?_
  obtain ⟨q15, hG⟩ := ck_s hF; clear hF
  obtain ⟨v17, H18, z16, hF⟩ := bC_s hG; clear hG
  refine hp_callV_v (H1 := H18) (As := [.ref a13]) (rest := []) d_Play_prepareNext_19 (k_World_copyFrom z16) (ab_mkC s_World_copyFrom (Nat.le_of_ble_eq_true rfl) (Nat.le_of_ble_eq_true rfl) (Nat.le_refl 0) (Nat.le_refl 0)) (k6 107 rfl rfl) i_World_copyFrom v_World_copyFrom q15 (by decide) rfl rfl (Nat.le_of_ble_eq_true rfl) ?_
  have s_1 : Sa H H18 := (m_World_copyFrom z16)
  refine ab_aload_n d_Play_prepareNext_22 rfl rfl rfl ?_
  obtain ⟨a19, e20, hG⟩ := rf_s hF; clear hF
  refine hp_getR (f := 0) d_Play_prepareNext_23 (by rw [(s_1).1]; exact q1) (by decide) rfl (by decide) (k2 130 rfl rfl) rfl e20 ?_
  obtain ⟨q21, hF⟩ := ck_s hG; clear hG
  rw [(s_1).1] at q21
  refine hp_getI (f := 0) d_Play_prepareNext_26 (by rw [(s_1).1]; exact q21) (by decide) rfl (by decide) (k1 205 rfl rfl) rfl ?_
  refine ab_topi (fun x22 ex22 => ?_)
  replace hF := bnd_s ex22 hF
  refine ab_iconst (v := 1) d_Play_prepareNext_29 (by decide) ?_
  refine ab_iadd d_Play_prepareNext_30 ?_
  refine ab_topi (fun x23 ex23 => ?_)
  replace hF := bnd_s ex23 hF
  refine ab_istore_n (lv' := [some (.ref p0), some (.int x23), none]) d_Play_prepareNext_31 rfl (by decide) rfl ?_
  refine ab_iconst (v := 0) d_Play_prepareNext_32 (by decide) ?_
  refine ab_istore_n (lv' := [some (.ref p0), some (.int x23), some (.int 0)]) d_Play_prepareNext_33 rfl (by decide) rfl ?_
  exact kB_Play_prepareNext_34 N x23 0 H18 r hF
def y_Row_open : ab_Y := (⟨"WorldEngine$Row", "open", "(LWorldEngine$Program;LWorldEngine$World;[I)V"⟩, prog_8_method_2_code, 4, none, [])
theorem d_Row_open_0 : decode y_Row_open.2.1 0 = .ok (.aload_n 0, 1) := by decide +kernel
theorem d_Row_open_1 : decode y_Row_open.2.1 1 = .ok (.aload_n 1, 1) := by decide +kernel
theorem d_Row_open_2 : decode y_Row_open.2.1 2 = .ok (.putfield 35, 3) := by decide +kernel
theorem d_Row_open_5 : decode y_Row_open.2.1 5 = .ok (.aload_n 0, 1) := by decide +kernel
theorem d_Row_open_6 : decode y_Row_open.2.1 6 = .ok (.aload_n 2, 1) := by decide +kernel
theorem d_Row_open_7 : decode y_Row_open.2.1 7 = .ok (.putfield 39, 3) := by decide +kernel
theorem d_Row_open_10 : decode y_Row_open.2.1 10 = .ok (.aload_n 0, 1) := by decide +kernel
theorem d_Row_open_11 : decode y_Row_open.2.1 11 = .ok (.aload_n 3, 1) := by decide +kernel
theorem d_Row_open_12 : decode y_Row_open.2.1 12 = .ok (.putfield 43, 3) := by decide +kernel
theorem d_Row_open_15 : decode y_Row_open.2.1 15 = .ok (.return_, 1) := by decide +kernel
theorem s_Row_open : ab_Stat y_Row_open 3 := ⟨(k6 191 rfl rfl), (k1 13 rfl rfl), ⟨by decide, by decide⟩, by decide +kernel⟩
theorem i_Row_open : Cond.instanceMethod y_Row_open.1 ∈ ab_T := (k6 189 rfl rfl)
theorem v_Row_open : Cond.selects "WorldEngine$Row" y_Row_open.1 y_Row_open.1 ∈ ab_T := (k6 190 rfl rfl)
def F_Row_open (N : Nat) (p0 : Nat) (p1 : Nat) (p2 : Nat) (p3 : Nat) (H : Hp) : Option (Unit × Hp) :=
    ck (H.sh[p0]? = some (8, 0)) <|
    bnd (H.sP p0 2 (.ref p1)) fun H2 =>
    bnd (H2.sP p0 3 (.ref p2)) fun H3 =>
    bnd (H3.sP p0 4 (.ref p3)) fun H4 =>
    some ((), H4)
set_option maxRecDepth 20000 in
set_option maxHeartbeats 2000000 in
theorem m_Row_open {N : Nat} {p0 : Nat} {p1 : Nat} {p2 : Nat} {p3 : Nat} {H : Hp} {r : Unit × Hp} (hF : F_Row_open N p0 p1 p2 p3 H = some r) : Sa H r.2 := by
  unfold F_Row_open at hF
  have hm := Sa.rf H
  obtain ⟨q5, hG⟩ := ck_s hF; clear hF
  obtain ⟨H6, eH6, hF⟩ := bnd_g hG; clear hG
  replace hm : Sa H H6 := by rw [eH6]; exact hm
  obtain ⟨H7, eH7, hG⟩ := bnd_g hF; clear hF
  replace hm : Sa H H7 := by rw [eH7]; exact hm
  obtain ⟨H8, eH8, hF⟩ := bnd_g hG; clear hG
  replace hm : Sa H H8 := by rw [eH8]; exact hm
  have hr := Option.some.inj hF; subst hr
  exact hm
set_option maxRecDepth 20000 in
set_option maxHeartbeats 2000000 in
theorem k_Row_open {N : Nat} {p0 : Nat} {p1 : Nat} {p2 : Nat} {p3 : Nat} {H : Hp} {r : Unit × Hp} (hF : F_Row_open N p0 p1 p2 p3 H = some r) : ab_M y_Row_open { frames := 0, cells := 0, slots := 0, locals := 0 } [.ref p0, .ref p1, .ref p2, .ref p3] (hpw H) (po (.returned none) r.2) := by
  unfold F_Row_open at hF
  refine ab_of2 (lv := [some (.ref p0), some (.ref p1), some (.ref p2), some (.ref p3)]) 0 rfl rfl (Nat.le_of_ble_eq_true rfl) ?_
  refine ab_aload_n d_Row_open_0 rfl rfl rfl ?_
  refine ab_aload_n d_Row_open_1 rfl rfl rfl ?_
  obtain ⟨q1, hG⟩ := ck_s hF; clear hF
  refine hp_putP (v := .ref p1) (f := 2) d_Row_open_2 q1 (by decide) rfl (by decide) (k2 64 rfl rfl) rfl rfl (fun _ => rfl) (fun _ => rfl) rfl ?_
  refine hp_gen (fun H2 eH2 => ?_)
  replace hG := bnd_s eH2 hG
  have s_1 : Sa H H2 := by rw [eH2]; exact Sa.rf _
  refine ab_aload_n d_Row_open_5 rfl rfl rfl ?_
  refine ab_aload_n d_Row_open_6 rfl rfl rfl ?_
  refine hp_putP (v := .ref p2) (f := 3) d_Row_open_7 (by rw [(s_1).1]; exact q1) (by decide) rfl (by decide) (k2 65 rfl rfl) rfl rfl (fun _ => rfl) (fun _ => rfl) rfl ?_
  refine hp_gen (fun H3 eH3 => ?_)
  replace hG := bnd_s eH3 hG
  have s_2 : Sa H H3 := by rw [eH3]; exact s_1
  refine ab_aload_n d_Row_open_10 rfl rfl rfl ?_
  refine ab_aload_n d_Row_open_11 rfl rfl rfl ?_
  refine hp_putP (v := .ref p3) (f := 4) d_Row_open_12 (by rw [(s_2).1]; exact q1) (by decide) rfl (by decide) (k2 66 rfl rfl) rfl rfl (fun _ => rfl) (fun _ => rfl) rfl ?_
  refine hp_gen (fun H4 eH4 => ?_)
  replace hG := bnd_s eH4 hG
  have s_3 : Sa H H4 := by rw [eH4]; exact s_2
  exact ab_vret d_Row_open_15 rfl (Nat.le_refl _) (Nat.le_refl _) (by have hr := Option.some.inj hG; subst hr; exact ⟨rfl, rfl⟩)
def y_World_matches : ab_Y := (⟨"WorldEngine$World", "matches", "(III)Z"⟩, prog_12_method_7_code, 4, (some FieldType.boolean), [])
theorem d_World_matches_0 : decode y_World_matches.2.1 0 = .ok (.aload_n 0, 1) := by decide +kernel
theorem d_World_matches_1 : decode y_World_matches.2.1 1 = .ok (.getfield 13, 3) := by decide +kernel
theorem d_World_matches_4 : decode y_World_matches.2.1 4 = .ok (.iload_n 1, 1) := by decide +kernel
theorem d_World_matches_5 : decode y_World_matches.2.1 5 = .ok (.iaload, 1) := by decide +kernel
theorem d_World_matches_6 : decode y_World_matches.2.1 6 = .ok (.ifCond .lt 30, 3) := by decide +kernel
theorem d_World_matches_9 : decode y_World_matches.2.1 9 = .ok (.aload_n 0, 1) := by decide +kernel
theorem d_World_matches_10 : decode y_World_matches.2.1 10 = .ok (.getfield 13, 3) := by decide +kernel
theorem d_World_matches_13 : decode y_World_matches.2.1 13 = .ok (.iload_n 1, 1) := by decide +kernel
theorem d_World_matches_14 : decode y_World_matches.2.1 14 = .ok (.iaload, 1) := by decide +kernel
theorem d_World_matches_15 : decode y_World_matches.2.1 15 = .ok (.iload_n 2, 1) := by decide +kernel
theorem d_World_matches_16 : decode y_World_matches.2.1 16 = .ok (.iand, 1) := by decide +kernel
theorem d_World_matches_17 : decode y_World_matches.2.1 17 = .ok (.iload_n 2, 1) := by decide +kernel
theorem d_World_matches_18 : decode y_World_matches.2.1 18 = .ok (.if_icmp .ne 18, 3) := by decide +kernel
theorem d_World_matches_21 : decode y_World_matches.2.1 21 = .ok (.aload_n 0, 1) := by decide +kernel
theorem d_World_matches_22 : decode y_World_matches.2.1 22 = .ok (.getfield 13, 3) := by decide +kernel
theorem d_World_matches_25 : decode y_World_matches.2.1 25 = .ok (.iload_n 1, 1) := by decide +kernel
theorem d_World_matches_26 : decode y_World_matches.2.1 26 = .ok (.iaload, 1) := by decide +kernel
theorem d_World_matches_27 : decode y_World_matches.2.1 27 = .ok (.iload_n 3, 1) := by decide +kernel
theorem d_World_matches_28 : decode y_World_matches.2.1 28 = .ok (.iand, 1) := by decide +kernel
theorem d_World_matches_29 : decode y_World_matches.2.1 29 = .ok (.ifCond .ne 7, 3) := by decide +kernel
theorem d_World_matches_32 : decode y_World_matches.2.1 32 = .ok (.iconst 1, 1) := by decide +kernel
theorem d_World_matches_33 : decode y_World_matches.2.1 33 = .ok (.goto 4, 3) := by decide +kernel
theorem d_World_matches_36 : decode y_World_matches.2.1 36 = .ok (.iconst 0, 1) := by decide +kernel
theorem d_World_matches_37 : decode y_World_matches.2.1 37 = .ok (.ireturn, 1) := by decide +kernel
theorem s_World_matches : ab_Stat y_World_matches 3 := ⟨(k6 199 rfl rfl), (k1 10 rfl rfl), ⟨by decide, by decide⟩, by decide +kernel⟩
theorem i_World_matches : Cond.instanceMethod y_World_matches.1 ∈ ab_T := (k6 197 rfl rfl)
theorem v_World_matches : Cond.selects "WorldEngine$World" y_World_matches.1 y_World_matches.1 ∈ ab_T := (k6 198 rfl rfl)
def F_World_matches (N : Nat) (p0 : Nat) (p1 : Int32) (p2 : Int32) (p3 : Int32) (H : Hp) : Option (Int32 × Hp) :=
    ck (H.sh[p0]? = some (7, 0)) <|
    rf (H.P p0 8) fun a2 =>
    ar H 100 a2 fun n4 =>
    ck (inb p1 n4) <|
    bnd ((H.D a2 (p1).toNatClampNeg)) fun x7 =>
    if x7 < (0 : Int32) then
    some (0, H)
    else
    rf (H.P p0 8) fun a9 =>
    ar H 100 a9 fun n11 =>
    ck (inb p1 n11) <|
    bnd ((H.D a9 (p1).toNatClampNeg)) fun x14 =>
    if (x14 &&& p2) = p2 then
    rf (H.P p0 8) fun a16 =>
    ar H 100 a16 fun n18 =>
    ck (inb p1 n18) <|
    bnd ((H.D a16 (p1).toNatClampNeg)) fun x21 =>
    if (x21 &&& p3) = (0 : Int32) then
    some (1, H)
    else
    some (0, H)
    else
    some (0, H)
set_option maxRecDepth 20000 in
set_option maxHeartbeats 2000000 in
theorem m_World_matches {N : Nat} {p0 : Nat} {p1 : Int32} {p2 : Int32} {p3 : Int32} {H : Hp} {r : Int32 × Hp} (hF : F_World_matches N p0 p1 p2 p3 H = some r) : Sa H r.2 := by
  unfold F_World_matches at hF
  have hm := Sa.rf H
  obtain ⟨q23, hG⟩ := ck_s hF; clear hF
  obtain ⟨a24, e25, hF⟩ := rf_s hG; clear hG
  obtain ⟨n26, q27, hG⟩ := ar_s hF; clear hF
  obtain ⟨q28, hF⟩ := ck_s hG; clear hG
  obtain ⟨x29, -, hG⟩ := bnd_g hF; clear hF
  rcases ite_s hG with ⟨q_1, hF⟩ | ⟨q_1, hF⟩
  · clear hG
    have hr := Option.some.inj hF; subst hr
    exact hm
  · clear hG
    obtain ⟨a31, e32, hG⟩ := rf_s hF; clear hF
    obtain ⟨n33, q34, hF⟩ := ar_s hG; clear hG
    obtain ⟨q35, hG⟩ := ck_s hF; clear hF
    obtain ⟨x36, -, hF⟩ := bnd_g hG; clear hG
    rcases ite_s hF with ⟨q_2, hG⟩ | ⟨q_2, hG⟩
    · clear hF
      obtain ⟨a38, e39, hF⟩ := rf_s hG; clear hG
      obtain ⟨n40, q41, hG⟩ := ar_s hF; clear hF
      obtain ⟨q42, hF⟩ := ck_s hG; clear hG
      obtain ⟨x43, -, hG⟩ := bnd_g hF; clear hF
      rcases ite_s hG with ⟨q_3, hF⟩ | ⟨q_3, hF⟩
      · clear hG
        have hr := Option.some.inj hF; subst hr
        exact hm
      · clear hG
        have hr := Option.some.inj hF; subst hr
        exact hm
    · clear hF
      have hr := Option.some.inj hG; subst hr
      exact hm
set_option maxRecDepth 20000 in
set_option maxHeartbeats 2000000 in
theorem k_World_matches {N : Nat} {p0 : Nat} {p1 : Int32} {p2 : Int32} {p3 : Int32} {H : Hp} {r : Int32 × Hp} (hF : F_World_matches N p0 p1 p2 p3 H = some r) : ab_M y_World_matches { frames := 0, cells := 0, slots := 0, locals := 0 } [.ref p0, .int p1, .int p2, .int p3] (hpw H) (po (.returned (some (.int r.1))) r.2) := by
  unfold F_World_matches at hF
  refine ab_of2 (lv := [some (.ref p0), some (.int p1), some (.int p2), some (.int p3)]) 0 rfl rfl (Nat.le_of_ble_eq_true rfl) ?_
  refine ab_aload_n d_World_matches_0 rfl rfl rfl ?_
  obtain ⟨q1, hG⟩ := ck_s hF; clear hF
  obtain ⟨a2, e3, hF⟩ := rf_s hG; clear hG
  refine hp_getR (f := 8) d_World_matches_1 q1 (by decide) rfl (by decide) (k1 229 rfl rfl) rfl e3 ?_
  refine ab_iload_n d_World_matches_4 rfl rfl ?_
  obtain ⟨n4, q5, hG⟩ := ar_s hF; clear hF
  obtain ⟨q6, hF⟩ := ck_s hG; clear hG
  refine hp_iald d_World_matches_5 tI q5 q6 ?_
  refine ab_topi (fun x7 ex7 => ?_)
  replace hF := bnd_s ex7 hF
  refine ab_if_lt (tgt := 36) d_World_matches_6 (by decide) (fun q8 => ?_) (fun q8 => ?_)
  · rw [if_pos q8] at hF
    refine ab_iconst (v := 0) d_World_matches_36 (by decide) ?_
    exact ab_zret d_World_matches_37 rfl rfl (Nat.le_refl _) (Nat.le_refl _) (by have hr := Option.some.inj hF; subst hr; exact ⟨rfl, rfl⟩)
  · rw [if_neg q8] at hF
    refine ab_aload_n d_World_matches_9 rfl rfl rfl ?_
    obtain ⟨a9, e10, hG⟩ := rf_s hF; clear hF
    refine hp_getR (f := 8) d_World_matches_10 q1 (by decide) rfl (by decide) (k1 229 rfl rfl) rfl e10 ?_
    refine ab_iload_n d_World_matches_13 rfl rfl ?_
    obtain ⟨n11, q12, hF⟩ := ar_s hG; clear hG
    obtain ⟨q13, hG⟩ := ck_s hF; clear hF
    refine hp_iald d_World_matches_14 tI q12 q13 ?_
    refine ab_topi (fun x14 ex14 => ?_)
    replace hG := bnd_s ex14 hG
    refine ab_iload_n d_World_matches_15 rfl rfl ?_
    refine ab_iand d_World_matches_16 ?_
    refine ab_iload_n d_World_matches_17 rfl rfl ?_
    refine ab_icmp_ne (tgt := 36) d_World_matches_18 (by decide) (fun q15 => ?_) (fun q15 => ?_)
    · rw [if_neg q15] at hG
      refine ab_iconst (v := 0) d_World_matches_36 (by decide) ?_
      exact ab_zret d_World_matches_37 rfl rfl (Nat.le_refl _) (Nat.le_refl _) (by have hr := Option.some.inj hG; subst hr; exact ⟨rfl, rfl⟩)
    · rw [if_pos q15] at hG
      refine ab_aload_n d_World_matches_21 rfl rfl rfl ?_
      obtain ⟨a16, e17, hF⟩ := rf_s hG; clear hG
      refine hp_getR (f := 8) d_World_matches_22 q1 (by decide) rfl (by decide) (k1 229 rfl rfl) rfl e17 ?_
      refine ab_iload_n d_World_matches_25 rfl rfl ?_
      obtain ⟨n18, q19, hG⟩ := ar_s hF; clear hF
      obtain ⟨q20, hF⟩ := ck_s hG; clear hG
      refine hp_iald d_World_matches_26 tI q19 q20 ?_
      refine ab_topi (fun x21 ex21 => ?_)
      replace hF := bnd_s ex21 hF
      refine ab_iload_n d_World_matches_27 rfl rfl ?_
      refine ab_iand d_World_matches_28 ?_
      refine ab_if_ne (tgt := 36) d_World_matches_29 (by decide) (fun q22 => ?_) (fun q22 => ?_)
      · rw [if_neg q22] at hF
        refine ab_iconst (v := 0) d_World_matches_36 (by decide) ?_
        exact ab_zret d_World_matches_37 rfl rfl (Nat.le_refl _) (Nat.le_refl _) (by have hr := Option.some.inj hF; subst hr; exact ⟨rfl, rfl⟩)
      · rw [if_pos q22] at hF
        refine ab_iconst (v := 1) d_World_matches_32 (by decide) ?_
        refine ab_goto (tgt := 37) d_World_matches_33 (by decide) ?_
        exact ab_zret d_World_matches_37 rfl rfl (Nat.le_refl _) (Nat.le_refl _) (by have hr := Option.some.inj hF; subst hr; exact ⟨rfl, rfl⟩)
def y_Row_nextCode : ab_Y := (⟨"WorldEngine$Row", "nextCode", "()I"⟩, prog_8_method_4_code, 2, (some FieldType.int), [])
theorem d_Row_nextCode_0 : decode y_Row_nextCode.2.1 0 = .ok (.aload_n 0, 1) := by decide +kernel
theorem d_Row_nextCode_1 : decode y_Row_nextCode.2.1 1 = .ok (.getfield 56, 3) := by decide +kernel
theorem d_Row_nextCode_4 : decode y_Row_nextCode.2.1 4 = .ok (.istore_n 1, 1) := by decide +kernel
theorem d_Row_nextCode_5 : decode y_Row_nextCode.2.1 5 = .ok (.aload_n 0, 1) := by decide +kernel
theorem d_Row_nextCode_6 : decode y_Row_nextCode.2.1 6 = .ok (.dup, 1) := by decide +kernel
theorem d_Row_nextCode_7 : decode y_Row_nextCode.2.1 7 = .ok (.getfield 56, 3) := by decide +kernel
theorem d_Row_nextCode_10 : decode y_Row_nextCode.2.1 10 = .ok (.iconst 1, 1) := by decide +kernel
theorem d_Row_nextCode_11 : decode y_Row_nextCode.2.1 11 = .ok (.iadd, 1) := by decide +kernel
theorem d_Row_nextCode_12 : decode y_Row_nextCode.2.1 12 = .ok (.putfield 56, 3) := by decide +kernel
theorem d_Row_nextCode_15 : decode y_Row_nextCode.2.1 15 = .ok (.iload_n 1, 1) := by decide +kernel
theorem d_Row_nextCode_16 : decode y_Row_nextCode.2.1 16 = .ok (.ifCond .lt 26, 3) := by decide +kernel
theorem d_Row_nextCode_19 : decode y_Row_nextCode.2.1 19 = .ok (.iload_n 1, 1) := by decide +kernel
theorem d_Row_nextCode_20 : decode y_Row_nextCode.2.1 20 = .ok (.aload_n 0, 1) := by decide +kernel
theorem d_Row_nextCode_21 : decode y_Row_nextCode.2.1 21 = .ok (.getfield 35, 3) := by decide +kernel
theorem d_Row_nextCode_24 : decode y_Row_nextCode.2.1 24 = .ok (.getfield 120, 3) := by decide +kernel
theorem d_Row_nextCode_27 : decode y_Row_nextCode.2.1 27 = .ok (.if_icmp .ge 15, 3) := by decide +kernel
theorem d_Row_nextCode_30 : decode y_Row_nextCode.2.1 30 = .ok (.aload_n 0, 1) := by decide +kernel
theorem d_Row_nextCode_31 : decode y_Row_nextCode.2.1 31 = .ok (.getfield 35, 3) := by decide +kernel
theorem d_Row_nextCode_34 : decode y_Row_nextCode.2.1 34 = .ok (.getfield 123, 3) := by decide +kernel
theorem d_Row_nextCode_37 : decode y_Row_nextCode.2.1 37 = .ok (.iload_n 1, 1) := by decide +kernel
theorem d_Row_nextCode_38 : decode y_Row_nextCode.2.1 38 = .ok (.iaload, 1) := by decide +kernel
theorem d_Row_nextCode_39 : decode y_Row_nextCode.2.1 39 = .ok (.goto 4, 3) := by decide +kernel
theorem d_Row_nextCode_42 : decode y_Row_nextCode.2.1 42 = .ok (.iconst 0, 1) := by decide +kernel
theorem d_Row_nextCode_43 : decode y_Row_nextCode.2.1 43 = .ok (.ireturn, 1) := by decide +kernel
theorem s_Row_nextCode : ab_Stat y_Row_nextCode 0 := ⟨(k6 208 rfl rfl), (k1 13 rfl rfl), ⟨by decide, by decide⟩, by decide +kernel⟩
theorem i_Row_nextCode : Cond.instanceMethod y_Row_nextCode.1 ∈ ab_T := (k6 207 rfl rfl)
theorem v_Row_nextCode : Cond.selects "WorldEngine$Row" y_Row_nextCode.1 y_Row_nextCode.1 ∈ ab_T := ab_s (List.mem_of_getElem? (i := 68) rfl) rfl
def F_Row_nextCode (N : Nat) (p0 : Nat) (H : Hp) : Option (Int32 × Hp) :=
    ck (H.sh[p0]? = some (8, 0)) <|
    bnd ((H.D p0 12)) fun x2 =>
    bnd ((H.D p0 12)) fun x3 =>
    bnd (H.sD p0 12 (x3 + (1 : Int32))) fun H4 =>
    if x2 < (0 : Int32) then
    some (0, H4)
    else
    rf (H4.P p0 2) fun a6 =>
    ck (H4.sh[a6]? = some (4, 0)) <|
    bnd ((H4.D a6 17)) fun x9 =>
    if x9 ≤ x2 then
    some (0, H4)
    else
    rf (H4.P p0 2) fun a11 =>
    ck (H4.sh[a11]? = some (4, 0)) <|
    rf (H4.P a11 16) fun a14 =>
    ar H4 100 a14 fun n16 =>
    ck (inb x2 n16) <|
    bnd ((H4.D a14 (x2).toNatClampNeg)) fun x19 =>
    some (x19, H4)
set_option maxRecDepth 20000 in
set_option maxHeartbeats 2000000 in
theorem m_Row_nextCode {N : Nat} {p0 : Nat} {H : Hp} {r : Int32 × Hp} (hF : F_Row_nextCode N p0 H = some r) : Sa H r.2 := by
  unfold F_Row_nextCode at hF
  have hm := Sa.rf H
  obtain ⟨q20, hG⟩ := ck_s hF; clear hF
  obtain ⟨x21, -, hF⟩ := bnd_g hG; clear hG
  obtain ⟨x22, -, hG⟩ := bnd_g hF; clear hF
  obtain ⟨H23, eH23, hF⟩ := bnd_g hG; clear hG
  replace hm : Sa H H23 := by rw [eH23]; exact hm
  rcases ite_s hF with ⟨q_3, hG⟩ | ⟨q_3, hG⟩
  · clear hF
    have hr := Option.some.inj hG; subst hr
    exact hm
  · clear hF
    obtain ⟨a25, e26, hF⟩ := rf_s hG; clear hG
    obtain ⟨q27, hG⟩ := ck_s hF; clear hF
    obtain ⟨x28, -, hF⟩ := bnd_g hG; clear hG
    rcases ite_s hF with ⟨q_4, hG⟩ | ⟨q_4, hG⟩
    · clear hF
      have hr := Option.some.inj hG; subst hr
      exact hm
    · clear hF
      obtain ⟨a30, e31, hF⟩ := rf_s hG; clear hG
      obtain ⟨q32, hG⟩ := ck_s hF; clear hF
      obtain ⟨a33, e34, hF⟩ := rf_s hG; clear hG
      obtain ⟨n35, q36, hG⟩ := ar_s hF; clear hF
      obtain ⟨q37, hF⟩ := ck_s hG; clear hG
      obtain ⟨x38, -, hG⟩ := bnd_g hF; clear hF
      have hr := Option.some.inj hG; subst hr
      exact hm
set_option maxRecDepth 20000 in
set_option maxHeartbeats 2000000 in
theorem k_Row_nextCode {N : Nat} {p0 : Nat} {H : Hp} {r : Int32 × Hp} (hF : F_Row_nextCode N p0 H = some r) : ab_M y_Row_nextCode { frames := 0, cells := 0, slots := 0, locals := 0 } [.ref p0] (hpw H) (po (.returned (some (.int r.1))) r.2) := by
  unfold F_Row_nextCode at hF
  refine ab_of2 (lv := [some (.ref p0), none]) 1 rfl rfl (Nat.le_of_ble_eq_true rfl) ?_
  refine ab_aload_n d_Row_nextCode_0 rfl rfl rfl ?_
  obtain ⟨q1, hG⟩ := ck_s hF; clear hF
  refine hp_getI (f := 12) d_Row_nextCode_1 q1 (by decide) rfl (by decide) (k2 74 rfl rfl) rfl ?_
  refine ab_topi (fun x2 ex2 => ?_)
  replace hG := bnd_s ex2 hG
  refine ab_istore_n (lv' := [some (.ref p0), some (.int x2)]) d_Row_nextCode_4 rfl (by decide) rfl ?_
  refine ab_aload_n d_Row_nextCode_5 rfl rfl rfl ?_
  refine ab_dup d_Row_nextCode_6 rfl ?_
  refine hp_getI (f := 12) d_Row_nextCode_7 q1 (by decide) rfl (by decide) (k2 74 rfl rfl) rfl ?_
  refine ab_topi (fun x3 ex3 => ?_)
  replace hG := bnd_s ex3 hG
  refine ab_iconst (v := 1) d_Row_nextCode_10 (by decide) ?_
  refine ab_iadd d_Row_nextCode_11 ?_
  refine hp_putI (v := x3 + (1 : Int32)) (f := 12) d_Row_nextCode_12 q1 (by decide) rfl (by decide) (k2 74 rfl rfl) rfl rfl (fun _ => rfl) (fun _ => rfl) rfl ?_
  refine hp_gen (fun H4 eH4 => ?_)
  replace hG := bnd_s eH4 hG
  have s_1 : Sa H H4 := by rw [eH4]; exact Sa.rf _
  refine ab_iload_n d_Row_nextCode_15 rfl rfl ?_
  refine ab_if_lt (tgt := 42) d_Row_nextCode_16 (by decide) (fun q5 => ?_) (fun q5 => ?_)
  · rw [if_pos q5] at hG
    refine ab_iconst (v := 0) d_Row_nextCode_42 (by decide) ?_
    exact ab_iret d_Row_nextCode_43 rfl (Nat.le_refl _) (Nat.le_refl _) (by have hr := Option.some.inj hG; subst hr; exact ⟨rfl, rfl⟩)
  · rw [if_neg q5] at hG
    refine ab_iload_n d_Row_nextCode_19 rfl rfl ?_
    refine ab_aload_n d_Row_nextCode_20 rfl rfl rfl ?_
    obtain ⟨a6, e7, hF⟩ := rf_s hG; clear hG
    refine hp_getR (f := 2) d_Row_nextCode_21 (by rw [(s_1).1]; exact q1) (by decide) rfl (by decide) (k2 64 rfl rfl) rfl e7 ?_
    obtain ⟨q8, hG⟩ := ck_s hF; clear hF
    rw [(s_1).1] at q8
    refine hp_getI (f := 17) d_Row_nextCode_24 (by rw [(s_1).1]; exact q8) (by decide) rfl (by decide) (k3 113 rfl rfl) rfl ?_
    refine ab_topi (fun x9 ex9 => ?_)
    replace hG := bnd_s ex9 hG
    refine ab_icmp_ge (tgt := 42) d_Row_nextCode_27 (by decide) (fun q10 => ?_) (fun q10 => ?_)
    · rw [if_pos q10] at hG
      refine ab_iconst (v := 0) d_Row_nextCode_42 (by decide) ?_
      exact ab_iret d_Row_nextCode_43 rfl (Nat.le_refl _) (Nat.le_refl _) (by have hr := Option.some.inj hG; subst hr; exact ⟨rfl, rfl⟩)
    · rw [if_neg q10] at hG
      refine ab_aload_n d_Row_nextCode_30 rfl rfl rfl ?_
      obtain ⟨a11, e12, hF⟩ := rf_s hG; clear hG
      refine hp_getR (f := 2) d_Row_nextCode_31 (by rw [(s_1).1]; exact q1) (by decide) rfl (by decide) (k2 64 rfl rfl) rfl e12 ?_
      obtain ⟨q13, hG⟩ := ck_s hF; clear hF
      rw [(s_1).1] at q13
      obtain ⟨a14, e15, hF⟩ := rf_s hG; clear hG
      refine hp_getR (f := 16) d_Row_nextCode_34 (by rw [(s_1).1]; exact q13) (by decide) rfl (by decide) (k3 111 rfl rfl) rfl e15 ?_
      refine ab_iload_n d_Row_nextCode_37 rfl rfl ?_
      obtain ⟨n16, q17, hG⟩ := ar_s hF; clear hF
      rw [(s_1).1] at q17
      obtain ⟨q18, hF⟩ := ck_s hG; clear hG
      refine hp_iald d_Row_nextCode_38 tI (by rw [(s_1).1]; exact q17) q18 ?_
      refine ab_topi (fun x19 ex19 => ?_)
      replace hF := bnd_s ex19 hF
      refine ab_goto (tgt := 43) d_Row_nextCode_39 (by decide) ?_
      exact ab_iret d_Row_nextCode_43 rfl (Nat.le_refl _) (Nat.le_refl _) (by have hr := Option.some.inj hF; subst hr; exact ⟨rfl, rfl⟩)
def y_Row_pop : ab_Y := (⟨"WorldEngine$Row", "pop", "()I"⟩, prog_8_method_6_code, 1, (some FieldType.int), [])
theorem d_Row_pop_0 : decode y_Row_pop.2.1 0 = .ok (.aload_n 0, 1) := by decide +kernel
theorem d_Row_pop_1 : decode y_Row_pop.2.1 1 = .ok (.getfield 59, 3) := by decide +kernel
theorem d_Row_pop_4 : decode y_Row_pop.2.1 4 = .ok (.ifCond .le 13, 3) := by decide +kernel
theorem d_Row_pop_7 : decode y_Row_pop.2.1 7 = .ok (.aload_n 0, 1) := by decide +kernel
theorem d_Row_pop_8 : decode y_Row_pop.2.1 8 = .ok (.dup, 1) := by decide +kernel
theorem d_Row_pop_9 : decode y_Row_pop.2.1 9 = .ok (.getfield 59, 3) := by decide +kernel
theorem d_Row_pop_12 : decode y_Row_pop.2.1 12 = .ok (.iconst 1, 1) := by decide +kernel
theorem d_Row_pop_13 : decode y_Row_pop.2.1 13 = .ok (.isub, 1) := by decide +kernel
theorem d_Row_pop_14 : decode y_Row_pop.2.1 14 = .ok (.putfield 59, 3) := by decide +kernel
theorem d_Row_pop_17 : decode y_Row_pop.2.1 17 = .ok (.aload_n 0, 1) := by decide +kernel
theorem d_Row_pop_18 : decode y_Row_pop.2.1 18 = .ok (.getfield 15, 3) := by decide +kernel
theorem d_Row_pop_21 : decode y_Row_pop.2.1 21 = .ok (.aload_n 0, 1) := by decide +kernel
theorem d_Row_pop_22 : decode y_Row_pop.2.1 22 = .ok (.getfield 59, 3) := by decide +kernel
theorem d_Row_pop_25 : decode y_Row_pop.2.1 25 = .ok (.iaload, 1) := by decide +kernel
theorem d_Row_pop_26 : decode y_Row_pop.2.1 26 = .ok (.ireturn, 1) := by decide +kernel
theorem s_Row_pop : ab_Stat y_Row_pop 0 := ⟨(k6 217 rfl rfl), (k1 13 rfl rfl), ⟨by decide, by decide⟩, by decide +kernel⟩
theorem i_Row_pop : Cond.instanceMethod y_Row_pop.1 ∈ ab_T := (k6 216 rfl rfl)
theorem v_Row_pop : Cond.selects "WorldEngine$Row" y_Row_pop.1 y_Row_pop.1 ∈ ab_T := ab_s (List.mem_of_getElem? (i := 70) rfl) rfl
def F_Row_pop (N : Nat) (p0 : Nat) (H : Hp) : Option (Int32 × Hp) :=
    ck (H.sh[p0]? = some (8, 0)) <|
    bnd ((H.D p0 6)) fun x2 =>
    if x2 ≤ (0 : Int32) then
    rf (H.P p0 5) fun a4 =>
    bnd ((H.D p0 6)) fun x6 =>
    ar H 100 a4 fun n7 =>
    ck (inb x6 n7) <|
    bnd ((H.D a4 (x6).toNatClampNeg)) fun x10 =>
    some (x10, H)
    else
    bnd ((H.D p0 6)) fun x11 =>
    bnd (H.sD p0 6 (x11 - (1 : Int32))) fun H12 =>
    rf (H12.P p0 5) fun a13 =>
    bnd ((H12.D p0 6)) fun x15 =>
    ar H12 100 a13 fun n16 =>
    ck (inb x15 n16) <|
    bnd ((H12.D a13 (x15).toNatClampNeg)) fun x19 =>
    some (x19, H12)
set_option maxRecDepth 20000 in
set_option maxHeartbeats 2000000 in
theorem m_Row_pop {N : Nat} {p0 : Nat} {H : Hp} {r : Int32 × Hp} (hF : F_Row_pop N p0 H = some r) : Sa H r.2 := by
  unfold F_Row_pop at hF
  have hm := Sa.rf H
  obtain ⟨q20, hG⟩ := ck_s hF; clear hF
  obtain ⟨x21, -, hF⟩ := bnd_g hG; clear hG
  rcases ite_s hF with ⟨q_2, hG⟩ | ⟨q_2, hG⟩
  · clear hF
    obtain ⟨a23, e24, hF⟩ := rf_s hG; clear hG
    obtain ⟨x25, -, hG⟩ := bnd_g hF; clear hF
    obtain ⟨n26, q27, hF⟩ := ar_s hG; clear hG
    obtain ⟨q28, hG⟩ := ck_s hF; clear hF
    obtain ⟨x29, -, hF⟩ := bnd_g hG; clear hG
    have hr := Option.some.inj hF; subst hr
    exact hm
  · clear hF
    obtain ⟨x30, -, hF⟩ := bnd_g hG; clear hG
    obtain ⟨H31, eH31, hG⟩ := bnd_g hF; clear hF
    replace hm : Sa H H31 := by rw [eH31]; exact hm
    obtain ⟨a32, e33, hF⟩ := rf_s hG; clear hG
    obtain ⟨x34, -, hG⟩ := bnd_g hF; clear hF
    obtain ⟨n35, q36, hF⟩ := ar_s hG; clear hG
    obtain ⟨q37, hG⟩ := ck_s hF; clear hF
    obtain ⟨x38, -, hF⟩ := bnd_g hG; clear hG
    have hr := Option.some.inj hF; subst hr
    exact hm
set_option maxRecDepth 20000 in
set_option maxHeartbeats 2000000 in
theorem k_Row_pop {N : Nat} {p0 : Nat} {H : Hp} {r : Int32 × Hp} (hF : F_Row_pop N p0 H = some r) : ab_M y_Row_pop { frames := 0, cells := 0, slots := 0, locals := 0 } [.ref p0] (hpw H) (po (.returned (some (.int r.1))) r.2) := by
  unfold F_Row_pop at hF
  refine ab_of2 (lv := [some (.ref p0)]) 0 rfl rfl (Nat.le_of_ble_eq_true rfl) ?_
  refine ab_aload_n d_Row_pop_0 rfl rfl rfl ?_
  obtain ⟨q1, hG⟩ := ck_s hF; clear hF
  refine hp_getI (f := 6) d_Row_pop_1 q1 (by decide) rfl (by decide) (k2 68 rfl rfl) rfl ?_
  refine ab_topi (fun x2 ex2 => ?_)
  replace hG := bnd_s ex2 hG
  refine ab_if_le (tgt := 17) d_Row_pop_4 (by decide) (fun q3 => ?_) (fun q3 => ?_)
  · rw [if_pos q3] at hG
    refine ab_aload_n d_Row_pop_17 rfl rfl rfl ?_
    obtain ⟨a4, e5, hF⟩ := rf_s hG; clear hG
    refine hp_getR (f := 5) d_Row_pop_18 q1 (by decide) rfl (by decide) (k2 67 rfl rfl) rfl e5 ?_
    refine ab_aload_n d_Row_pop_21 rfl rfl rfl ?_
    refine hp_getI (f := 6) d_Row_pop_22 q1 (by decide) rfl (by decide) (k2 68 rfl rfl) rfl ?_
    refine ab_topi (fun x6 ex6 => ?_)
    replace hF := bnd_s ex6 hF
    obtain ⟨n7, q8, hG⟩ := ar_s hF; clear hF
    obtain ⟨q9, hF⟩ := ck_s hG; clear hG
    refine hp_iald d_Row_pop_25 tI q8 q9 ?_
    refine ab_topi (fun x10 ex10 => ?_)
    replace hF := bnd_s ex10 hF
    exact ab_iret d_Row_pop_26 rfl (Nat.le_refl _) (Nat.le_refl _) (by have hr := Option.some.inj hF; subst hr; exact ⟨rfl, rfl⟩)
  · rw [if_neg q3] at hG
    refine ab_aload_n d_Row_pop_7 rfl rfl rfl ?_
    refine ab_dup d_Row_pop_8 rfl ?_
    refine hp_getI (f := 6) d_Row_pop_9 q1 (by decide) rfl (by decide) (k2 68 rfl rfl) rfl ?_
    refine ab_topi (fun x11 ex11 => ?_)
    replace hG := bnd_s ex11 hG
    refine ab_iconst (v := 1) d_Row_pop_12 (by decide) ?_
    refine ab_isub d_Row_pop_13 ?_
    refine hp_putI (v := x11 - (1 : Int32)) (f := 6) d_Row_pop_14 q1 (by decide) rfl (by decide) (k2 68 rfl rfl) rfl rfl (fun _ => rfl) (fun _ => rfl) rfl ?_
    refine hp_gen (fun H12 eH12 => ?_)
    replace hG := bnd_s eH12 hG
    have s_1 : Sa H H12 := by rw [eH12]; exact Sa.rf _
    refine ab_aload_n d_Row_pop_17 rfl rfl rfl ?_
    obtain ⟨a13, e14, hF⟩ := rf_s hG; clear hG
    refine hp_getR (f := 5) d_Row_pop_18 (by rw [(s_1).1]; exact q1) (by decide) rfl (by decide) (k2 67 rfl rfl) rfl e14 ?_
    refine ab_aload_n d_Row_pop_21 rfl rfl rfl ?_
    refine hp_getI (f := 6) d_Row_pop_22 (by rw [(s_1).1]; exact q1) (by decide) rfl (by decide) (k2 68 rfl rfl) rfl ?_
    refine ab_topi (fun x15 ex15 => ?_)
    replace hF := bnd_s ex15 hF
    obtain ⟨n16, q17, hG⟩ := ar_s hF; clear hF
    rw [(s_1).1] at q17
    obtain ⟨q18, hF⟩ := ck_s hG; clear hG
    refine hp_iald d_Row_pop_25 tI (by rw [(s_1).1]; exact q17) q18 ?_
    refine ab_topi (fun x19 ex19 => ?_)
    replace hF := bnd_s ex19 hF
    exact ab_iret d_Row_pop_26 rfl (Nat.le_refl _) (Nat.le_refl _) (by have hr := Option.some.inj hF; subst hr; exact ⟨rfl, rfl⟩)
def y_Row_push : ab_Y := (⟨"WorldEngine$Row", "push", "(I)V"⟩, prog_8_method_5_code, 2, none, [])
theorem d_Row_push_0 : decode y_Row_push.2.1 0 = .ok (.aload_n 0, 1) := by decide +kernel
theorem d_Row_push_1 : decode y_Row_push.2.1 1 = .ok (.getfield 59, 3) := by decide +kernel
theorem d_Row_push_4 : decode y_Row_push.2.1 4 = .ok (.aload_n 0, 1) := by decide +kernel
theorem d_Row_push_5 : decode y_Row_push.2.1 5 = .ok (.getfield 15, 3) := by decide +kernel
theorem d_Row_push_8 : decode y_Row_push.2.1 8 = .ok (.arraylength, 1) := by decide +kernel
theorem d_Row_push_9 : decode y_Row_push.2.1 9 = .ok (.if_icmp .ge 23, 3) := by decide +kernel
theorem d_Row_push_12 : decode y_Row_push.2.1 12 = .ok (.aload_n 0, 1) := by decide +kernel
theorem d_Row_push_13 : decode y_Row_push.2.1 13 = .ok (.getfield 15, 3) := by decide +kernel
theorem d_Row_push_16 : decode y_Row_push.2.1 16 = .ok (.aload_n 0, 1) := by decide +kernel
theorem d_Row_push_17 : decode y_Row_push.2.1 17 = .ok (.getfield 59, 3) := by decide +kernel
theorem d_Row_push_20 : decode y_Row_push.2.1 20 = .ok (.iload_n 1, 1) := by decide +kernel
theorem d_Row_push_21 : decode y_Row_push.2.1 21 = .ok (.iastore, 1) := by decide +kernel
theorem d_Row_push_22 : decode y_Row_push.2.1 22 = .ok (.aload_n 0, 1) := by decide +kernel
theorem d_Row_push_23 : decode y_Row_push.2.1 23 = .ok (.dup, 1) := by decide +kernel
theorem d_Row_push_24 : decode y_Row_push.2.1 24 = .ok (.getfield 59, 3) := by decide +kernel
theorem d_Row_push_27 : decode y_Row_push.2.1 27 = .ok (.iconst 1, 1) := by decide +kernel
theorem d_Row_push_28 : decode y_Row_push.2.1 28 = .ok (.iadd, 1) := by decide +kernel
theorem d_Row_push_29 : decode y_Row_push.2.1 29 = .ok (.putfield 59, 3) := by decide +kernel
theorem d_Row_push_32 : decode y_Row_push.2.1 32 = .ok (.return_, 1) := by decide +kernel
theorem s_Row_push : ab_Stat y_Row_push 1 := ⟨(k6 221 rfl rfl), (k1 13 rfl rfl), ⟨by decide, by decide⟩, by decide +kernel⟩
theorem i_Row_push : Cond.instanceMethod y_Row_push.1 ∈ ab_T := (k6 220 rfl rfl)
theorem v_Row_push : Cond.selects "WorldEngine$Row" y_Row_push.1 y_Row_push.1 ∈ ab_T := ab_s (List.mem_of_getElem? (i := 71) rfl) rfl
def F_Row_push (N : Nat) (p0 : Nat) (p1 : Int32) (H : Hp) : Option (Unit × Hp) :=
    ck (H.sh[p0]? = some (8, 0)) <|
    bnd ((H.D p0 6)) fun x2 =>
    rf (H.P p0 5) fun a3 =>
    ar H 100 a3 fun n5 =>
    if (Int32.ofNat n5) ≤ x2 then
    some ((), H)
    else
    rf (H.P p0 5) fun a8 =>
    bnd ((H.D p0 6)) fun x10 =>
    ar H 100 a8 fun n11 =>
    ck (inb x10 n11) <|
    bnd (H.sD a8 (x10).toNatClampNeg p1) fun H14 =>
    bnd ((H14.D p0 6)) fun x15 =>
    bnd (H14.sD p0 6 (x15 + (1 : Int32))) fun H16 =>
    some ((), H16)
set_option maxRecDepth 20000 in
set_option maxHeartbeats 2000000 in
theorem m_Row_push {N : Nat} {p0 : Nat} {p1 : Int32} {H : Hp} {r : Unit × Hp} (hF : F_Row_push N p0 p1 H = some r) : Sa H r.2 := by
  unfold F_Row_push at hF
  have hm := Sa.rf H
  obtain ⟨q17, hG⟩ := ck_s hF; clear hF
  obtain ⟨x18, -, hF⟩ := bnd_g hG; clear hG
  obtain ⟨a19, e20, hG⟩ := rf_s hF; clear hF
  obtain ⟨n21, q22, hF⟩ := ar_s hG; clear hG
  rcases ite_s hF with ⟨q_3, hG⟩ | ⟨q_3, hG⟩
  · clear hF
    have hr := Option.some.inj hG; subst hr
    exact hm
  · clear hF
    obtain ⟨a24, e25, hF⟩ := rf_s hG; clear hG
    obtain ⟨x26, -, hG⟩ := bnd_g hF; clear hF
    obtain ⟨n27, q28, hF⟩ := ar_s hG; clear hG
    obtain ⟨q29, hG⟩ := ck_s hF; clear hF
    obtain ⟨H30, eH30, hF⟩ := bnd_g hG; clear hG
    replace hm : Sa H H30 := by rw [eH30]; exact hm
    obtain ⟨x31, -, hG⟩ := bnd_g hF; clear hF
    obtain ⟨H32, eH32, hF⟩ := bnd_g hG; clear hG
    replace hm : Sa H H32 := by rw [eH32]; exact hm
    have hr := Option.some.inj hF; subst hr
    exact hm
set_option maxRecDepth 20000 in
set_option maxHeartbeats 2000000 in
theorem k_Row_push {N : Nat} {p0 : Nat} {p1 : Int32} {H : Hp} {r : Unit × Hp} (hF : F_Row_push N p0 p1 H = some r) : ab_M y_Row_push { frames := 0, cells := 0, slots := 0, locals := 0 } [.ref p0, .int p1] (hpw H) (po (.returned none) r.2) := by
  unfold F_Row_push at hF
  refine ab_of2 (lv := [some (.ref p0), some (.int p1)]) 0 rfl rfl (Nat.le_of_ble_eq_true rfl) ?_
  refine ab_aload_n d_Row_push_0 rfl rfl rfl ?_
  obtain ⟨q1, hG⟩ := ck_s hF; clear hF
  refine hp_getI (f := 6) d_Row_push_1 q1 (by decide) rfl (by decide) (k2 68 rfl rfl) rfl ?_
  refine ab_topi (fun x2 ex2 => ?_)
  replace hG := bnd_s ex2 hG
  refine ab_aload_n d_Row_push_4 rfl rfl rfl ?_
  obtain ⟨a3, e4, hF⟩ := rf_s hG; clear hG
  refine hp_getR (f := 5) d_Row_push_5 q1 (by decide) rfl (by decide) (k2 67 rfl rfl) rfl e4 ?_
  obtain ⟨n5, q6, hG⟩ := ar_s hF; clear hF
  refine hp_alen (q := 100) d_Row_push_8 q6 (Or.inl ⟨by decide, by decide, rfl⟩) tI ?_
  refine ab_icmp_ge (tgt := 32) d_Row_push_9 (by decide) (fun q7 => ?_) (fun q7 => ?_)
  · rw [if_pos q7] at hG
    exact ab_vret d_Row_push_32 rfl (Nat.le_refl _) (Nat.le_refl _) (by have hr := Option.some.inj hG; subst hr; exact ⟨rfl, rfl⟩)
  · rw [if_neg q7] at hG
    refine ab_aload_n d_Row_push_12 rfl rfl rfl ?_
    obtain ⟨a8, e9, hF⟩ := rf_s hG; clear hG
    refine hp_getR (f := 5) d_Row_push_13 q1 (by decide) rfl (by decide) (k2 67 rfl rfl) rfl e9 ?_
    refine ab_aload_n d_Row_push_16 rfl rfl rfl ?_
    refine hp_getI (f := 6) d_Row_push_17 q1 (by decide) rfl (by decide) (k2 68 rfl rfl) rfl ?_
    refine ab_topi (fun x10 ex10 => ?_)
    replace hF := bnd_s ex10 hF
    refine ab_iload_n d_Row_push_20 rfl rfl ?_
    obtain ⟨n11, q12, hG⟩ := ar_s hF; clear hF
    obtain ⟨q13, hF⟩ := ck_s hG; clear hG
    refine hp_iast d_Row_push_21 tI q12 q13 ?_
    refine hp_gen (fun H14 eH14 => ?_)
    replace hF := bnd_s eH14 hF
    have s_1 : Sa H H14 := by rw [eH14]; exact Sa.rf _
    refine ab_aload_n d_Row_push_22 rfl rfl rfl ?_
    refine ab_dup d_Row_push_23 rfl ?_
    refine hp_getI (f := 6) d_Row_push_24 (by rw [(s_1).1]; exact q1) (by decide) rfl (by decide) (k2 68 rfl rfl) rfl ?_
    refine ab_topi (fun x15 ex15 => ?_)
    replace hF := bnd_s ex15 hF
    refine ab_iconst (v := 1) d_Row_push_27 (by decide) ?_
    refine ab_iadd d_Row_push_28 ?_
    refine hp_putI (v := x15 + (1 : Int32)) (f := 6) d_Row_push_29 (by rw [(s_1).1]; exact q1) (by decide) rfl (by decide) (k2 68 rfl rfl) rfl rfl (fun _ => rfl) (fun _ => rfl) rfl ?_
    refine hp_gen (fun H16 eH16 => ?_)
    replace hF := bnd_s eH16 hF
    have s_2 : Sa H H16 := by rw [eH16]; exact s_1
    exact ab_vret d_Row_push_32 rfl (Nat.le_refl _) (Nat.le_refl _) (by have hr := Option.some.inj hF; subst hr; exact ⟨rfl, rfl⟩)
def y_Math_abs : ab_Y := (⟨"java/lang/Math", "abs", "(J)J"⟩, prog_23_method_61_code, 2, (some FieldType.long), [])
theorem d_Math_abs_0 : decode y_Math_abs.2.1 0 = .ok (.lload_n 0, 1) := by decide +kernel
theorem d_Math_abs_1 : decode y_Math_abs.2.1 1 = .ok (.lconst 0, 1) := by decide +kernel
theorem d_Math_abs_2 : decode y_Math_abs.2.1 2 = .ok (.lcmp, 1) := by decide +kernel
theorem d_Math_abs_3 : decode y_Math_abs.2.1 3 = .ok (.ifCond .ge 8, 3) := by decide +kernel
theorem d_Math_abs_6 : decode y_Math_abs.2.1 6 = .ok (.lload_n 0, 1) := by decide +kernel
theorem d_Math_abs_7 : decode y_Math_abs.2.1 7 = .ok (.lneg, 1) := by decide +kernel
theorem d_Math_abs_8 : decode y_Math_abs.2.1 8 = .ok (.goto 4, 3) := by decide +kernel
theorem d_Math_abs_11 : decode y_Math_abs.2.1 11 = .ok (.lload_n 0, 1) := by decide +kernel
theorem d_Math_abs_12 : decode y_Math_abs.2.1 12 = .ok (.lreturn, 1) := by decide +kernel
theorem s_Math_abs : ab_Stat y_Math_abs 1 := ⟨(k6 229 rfl rfl), (k1 17 rfl rfl), ⟨by decide, by decide⟩, by decide +kernel⟩
theorem t_Math_abs : Cond.static y_Math_abs.1 ∈ ab_T := (k6 228 rfl rfl)
def F_Math_abs (N : Nat) (p0 : Int64) (H : Hp) : Option (Int64 × Hp) :=
    if (0 : Int32) ≤ (lg_cmp p0 (0 : Int64)) then
    some (p0, H)
    else
    some (-p0, H)
set_option maxRecDepth 20000 in
set_option maxHeartbeats 2000000 in
theorem m_Math_abs {N : Nat} {p0 : Int64} {H : Hp} {r : Int64 × Hp} (hF : F_Math_abs N p0 H = some r) : Sa H r.2 := by
  unfold F_Math_abs at hF
  have hm := Sa.rf H
  rcases ite_s hF with ⟨q_1, hG⟩ | ⟨q_1, hG⟩
  · clear hF
    have hr := Option.some.inj hG; subst hr
    exact hm
  · clear hF
    have hr := Option.some.inj hG; subst hr
    exact hm
set_option maxRecDepth 20000 in
set_option maxHeartbeats 2000000 in
theorem k_Math_abs {N : Nat} {p0 : Int64} {H : Hp} {r : Int64 × Hp} (hF : F_Math_abs N p0 H = some r) : ab_M y_Math_abs { frames := 0, cells := 0, slots := 0, locals := 0 } [.long p0] (hpw H) (po (.returned (some (.long r.1))) r.2) := by
  unfold F_Math_abs at hF
  refine ab_of2 (lv := [some (.long p0), none]) 0 rfl (by decide +kernel) (Nat.le_of_ble_eq_true rfl) ?_
  refine ab_lload_n d_Math_abs_0 rfl rfl ?_
  refine ab_lconst (v := 0) d_Math_abs_1 (by decide) ?_
  refine ab_lcmp d_Math_abs_2 ?_
  refine ab_if_ge (tgt := 11) d_Math_abs_3 (by decide) (fun q1 => ?_) (fun q1 => ?_)
  · rw [if_pos q1] at hF
    refine ab_lload_n d_Math_abs_11 rfl rfl ?_
    exact ab_lret d_Math_abs_12 rfl (Nat.le_refl _) (Nat.le_refl _) (by have hr := Option.some.inj hF; subst hr; exact ⟨rfl, rfl⟩)
  · rw [if_neg q1] at hF
    refine ab_lload_n d_Math_abs_6 rfl rfl ?_
    refine ab_lneg d_Math_abs_7 ?_
    refine ab_goto (tgt := 12) d_Math_abs_8 (by decide) ?_
    exact ab_lret d_Math_abs_12 rfl (Nat.le_refl _) (Nat.le_refl _) (by have hr := Option.some.inj hF; subst hr; exact ⟨rfl, rfl⟩)
def y_World_numberAt : ab_Y := (⟨"WorldEngine$World", "numberAt", "(I)I"⟩, prog_12_method_4_code, 2, (some FieldType.int), [])
theorem d_World_numberAt_0 : decode y_World_numberAt.2.1 0 = .ok (.sipush 256, 3) := by decide +kernel
theorem d_World_numberAt_3 : decode y_World_numberAt.2.1 3 = .ok (.aload_n 0, 1) := by decide +kernel
theorem d_World_numberAt_4 : decode y_World_numberAt.2.1 4 = .ok (.getfield 9, 3) := by decide +kernel
theorem d_World_numberAt_7 : decode y_World_numberAt.2.1 7 = .ok (.iload_n 1, 1) := by decide +kernel
theorem d_World_numberAt_8 : decode y_World_numberAt.2.1 8 = .ok (.iaload, 1) := by decide +kernel
theorem d_World_numberAt_9 : decode y_World_numberAt.2.1 9 = .ok (.imul, 1) := by decide +kernel
theorem d_World_numberAt_10 : decode y_World_numberAt.2.1 10 = .ok (.iload_n 1, 1) := by decide +kernel
theorem d_World_numberAt_11 : decode y_World_numberAt.2.1 11 = .ok (.iadd, 1) := by decide +kernel
theorem d_World_numberAt_12 : decode y_World_numberAt.2.1 12 = .ok (.ireturn, 1) := by decide +kernel
theorem s_World_numberAt : ab_Stat y_World_numberAt 1 := ⟨(k6 234 rfl rfl), (k1 10 rfl rfl), ⟨by decide, by decide⟩, by decide +kernel⟩
theorem i_World_numberAt : Cond.instanceMethod y_World_numberAt.1 ∈ ab_T := (k6 232 rfl rfl)
theorem v_World_numberAt : Cond.selects "WorldEngine$World" y_World_numberAt.1 y_World_numberAt.1 ∈ ab_T := (k6 233 rfl rfl)
def F_World_numberAt (N : Nat) (p0 : Nat) (p1 : Int32) (H : Hp) : Option (Int32 × Hp) :=
    ck (H.sh[p0]? = some (7, 0)) <|
    rf (H.P p0 7) fun a2 =>
    ar H 100 a2 fun n4 =>
    ck (inb p1 n4) <|
    bnd ((H.D a2 (p1).toNatClampNeg)) fun x7 =>
    some (((256 : Int32) * x7) + p1, H)
set_option maxRecDepth 20000 in
set_option maxHeartbeats 2000000 in
theorem m_World_numberAt {N : Nat} {p0 : Nat} {p1 : Int32} {H : Hp} {r : Int32 × Hp} (hF : F_World_numberAt N p0 p1 H = some r) : Sa H r.2 := by
  unfold F_World_numberAt at hF
  have hm := Sa.rf H
  obtain ⟨q8, hG⟩ := ck_s hF; clear hF
  obtain ⟨a9, e10, hF⟩ := rf_s hG; clear hG
  obtain ⟨n11, q12, hG⟩ := ar_s hF; clear hF
  obtain ⟨q13, hF⟩ := ck_s hG; clear hG
  obtain ⟨x14, -, hG⟩ := bnd_g hF; clear hF
  have hr := Option.some.inj hG; subst hr
  exact hm
set_option maxRecDepth 20000 in
set_option maxHeartbeats 2000000 in
theorem k_World_numberAt {N : Nat} {p0 : Nat} {p1 : Int32} {H : Hp} {r : Int32 × Hp} (hF : F_World_numberAt N p0 p1 H = some r) : ab_M y_World_numberAt { frames := 0, cells := 0, slots := 0, locals := 0 } [.ref p0, .int p1] (hpw H) (po (.returned (some (.int r.1))) r.2) := by
  unfold F_World_numberAt at hF
  refine ab_of2 (lv := [some (.ref p0), some (.int p1)]) 0 rfl rfl (Nat.le_of_ble_eq_true rfl) ?_
  refine ab_sipush (v := 256) d_World_numberAt_0 (by decide) ?_
  refine ab_aload_n d_World_numberAt_3 rfl rfl rfl ?_
  obtain ⟨q1, hG⟩ := ck_s hF; clear hF
  obtain ⟨a2, e3, hF⟩ := rf_s hG; clear hG
  refine hp_getR (f := 7) d_World_numberAt_4 q1 (by decide) rfl (by decide) (k1 227 rfl rfl) rfl e3 ?_
  refine ab_iload_n d_World_numberAt_7 rfl rfl ?_
  obtain ⟨n4, q5, hG⟩ := ar_s hF; clear hF
  obtain ⟨q6, hF⟩ := ck_s hG; clear hG
  refine hp_iald d_World_numberAt_8 tI q5 q6 ?_
  refine ab_topi (fun x7 ex7 => ?_)
  replace hF := bnd_s ex7 hF
  refine ab_imul d_World_numberAt_9 ?_
  refine ab_iload_n d_World_numberAt_10 rfl rfl ?_
  refine ab_iadd d_World_numberAt_11 ?_
  exact ab_iret d_World_numberAt_12 rfl (Nat.le_refl _) (Nat.le_refl _) (by have hr := Option.some.inj hF; subst hr; exact ⟨rfl, rfl⟩)
def y_Row_nextEntity : ab_Y := (⟨"WorldEngine$Row", "nextEntity", "(IZ)V"⟩, prog_8_method_8_code, 14, none, [])
theorem d_Row_nextEntity_0 : decode y_Row_nextEntity.2.1 0 = .ok (.aload_n 0, 1) := by decide +kernel
theorem d_Row_nextEntity_1 : decode y_Row_nextEntity.2.1 1 = .ok (.invokevirtual 88, 3) := by decide +kernel
theorem d_Row_nextEntity_4 : decode y_Row_nextEntity.2.1 4 = .ok (.istore_n 3, 1) := by decide +kernel
theorem d_Row_nextEntity_5 : decode y_Row_nextEntity.2.1 5 = .ok (.aload_n 0, 1) := by decide +kernel
theorem d_Row_nextEntity_6 : decode y_Row_nextEntity.2.1 6 = .ok (.invokevirtual 88, 3) := by decide +kernel
theorem d_Row_nextEntity_9 : decode y_Row_nextEntity.2.1 9 = .ok (.istore 4, 2) := by decide +kernel
theorem d_Row_nextEntity_11 : decode y_Row_nextEntity.2.1 11 = .ok (.aload_n 0, 1) := by decide +kernel
theorem d_Row_nextEntity_12 : decode y_Row_nextEntity.2.1 12 = .ok (.invokevirtual 88, 3) := by decide +kernel
theorem d_Row_nextEntity_15 : decode y_Row_nextEntity.2.1 15 = .ok (.istore 5, 2) := by decide +kernel
theorem d_Row_nextEntity_17 : decode y_Row_nextEntity.2.1 17 = .ok (.aload_n 0, 1) := by decide +kernel
theorem d_Row_nextEntity_18 : decode y_Row_nextEntity.2.1 18 = .ok (.getfield 50, 3) := by decide +kernel
theorem d_Row_nextEntity_21 : decode y_Row_nextEntity.2.1 21 = .ok (.aload_n 0, 1) := by decide +kernel
theorem d_Row_nextEntity_22 : decode y_Row_nextEntity.2.1 22 = .ok (.getfield 39, 3) := by decide +kernel
theorem d_Row_nextEntity_25 : decode y_Row_nextEntity.2.1 25 = .ok (.getfield 79, 3) := by decide +kernel
theorem d_Row_nextEntity_28 : decode y_Row_nextEntity.2.1 28 = .ok (.imul, 1) := by decide +kernel
theorem d_Row_nextEntity_29 : decode y_Row_nextEntity.2.1 29 = .ok (.aload_n 0, 1) := by decide +kernel
theorem d_Row_nextEntity_30 : decode y_Row_nextEntity.2.1 30 = .ok (.getfield 35, 3) := by decide +kernel
theorem d_Row_nextEntity_33 : decode y_Row_nextEntity.2.1 33 = .ok (.getfield 139, 3) := by decide +kernel
theorem d_Row_nextEntity_36 : decode y_Row_nextEntity.2.1 36 = .ok (.getfield 143, 3) := by decide +kernel
theorem d_Row_nextEntity_39 : decode y_Row_nextEntity.2.1 39 = .ok (.iload_n 3, 1) := by decide +kernel
theorem d_Row_nextEntity_40 : decode y_Row_nextEntity.2.1 40 = .ok (.iaload, 1) := by decide +kernel
theorem d_Row_nextEntity_41 : decode y_Row_nextEntity.2.1 41 = .ok (.iadd, 1) := by decide +kernel
theorem d_Row_nextEntity_42 : decode y_Row_nextEntity.2.1 42 = .ok (.istore 6, 2) := by decide +kernel
theorem d_Row_nextEntity_44 : decode y_Row_nextEntity.2.1 44 = .ok (.aload_n 0, 1) := by decide +kernel
theorem d_Row_nextEntity_45 : decode y_Row_nextEntity.2.1 45 = .ok (.getfield 21, 3) := by decide +kernel
theorem d_Row_nextEntity_48 : decode y_Row_nextEntity.2.1 48 = .ok (.iload_n 1, 1) := by decide +kernel
theorem d_Row_nextEntity_49 : decode y_Row_nextEntity.2.1 49 = .ok (.iaload, 1) := by decide +kernel
theorem d_Row_nextEntity_50 : decode y_Row_nextEntity.2.1 50 = .ok (.iconst 1, 1) := by decide +kernel
theorem d_Row_nextEntity_51 : decode y_Row_nextEntity.2.1 51 = .ok (.iadd, 1) := by decide +kernel
theorem d_Row_nextEntity_52 : decode y_Row_nextEntity.2.1 52 = .ok (.istore 7, 2) := by decide +kernel
theorem d_Row_nextEntity_54 : decode y_Row_nextEntity.2.1 54 = .ok (.iload 7, 2) := by decide +kernel
theorem d_Row_nextEntity_56 : decode y_Row_nextEntity.2.1 56 = .ok (.aload_n 0, 1) := by decide +kernel
theorem d_Row_nextEntity_57 : decode y_Row_nextEntity.2.1 57 = .ok (.getfield 39, 3) := by decide +kernel
theorem d_Row_nextEntity_60 : decode y_Row_nextEntity.2.1 60 = .ok (.getfield 148, 3) := by decide +kernel
theorem d_Row_nextEntity_63 : decode y_Row_nextEntity.2.1 63 = .ok (.if_icmp .ge 182, 3) := by decide +kernel
theorem d_Row_nextEntity_66 : decode y_Row_nextEntity.2.1 66 = .ok (.iload 7, 2) := by decide +kernel
theorem d_Row_nextEntity_68 : decode y_Row_nextEntity.2.1 68 = .ok (.aload_n 0, 1) := by decide +kernel
theorem d_Row_nextEntity_69 : decode y_Row_nextEntity.2.1 69 = .ok (.getfield 50, 3) := by decide +kernel
theorem d_Row_nextEntity_72 : decode y_Row_nextEntity.2.1 72 = .ok (.if_icmp .eq 20, 3) := by decide +kernel
theorem d_Row_nextEntity_75 : decode y_Row_nextEntity.2.1 75 = .ok (.aload_n 0, 1) := by decide +kernel
theorem d_Row_nextEntity_76 : decode y_Row_nextEntity.2.1 76 = .ok (.getfield 39, 3) := by decide +kernel
theorem d_Row_nextEntity_79 : decode y_Row_nextEntity.2.1 79 = .ok (.iload 7, 2) := by decide +kernel
theorem d_Row_nextEntity_81 : decode y_Row_nextEntity.2.1 81 = .ok (.iload_n 3, 1) := by decide +kernel
theorem d_Row_nextEntity_82 : decode y_Row_nextEntity.2.1 82 = .ok (.invokevirtual 151, 3) := by decide +kernel
theorem d_Row_nextEntity_85 : decode y_Row_nextEntity.2.1 85 = .ok (.ifCond .eq 7, 3) := by decide +kernel
theorem d_Row_nextEntity_88 : decode y_Row_nextEntity.2.1 88 = .ok (.iconst 1, 1) := by decide +kernel
theorem d_Row_nextEntity_89 : decode y_Row_nextEntity.2.1 89 = .ok (.goto 4, 3) := by decide +kernel
theorem d_Row_nextEntity_92 : decode y_Row_nextEntity.2.1 92 = .ok (.iconst 0, 1) := by decide +kernel
theorem d_Row_nextEntity_93 : decode y_Row_nextEntity.2.1 93 = .ok (.istore 8, 2) := by decide +kernel
theorem d_Row_nextEntity_95 : decode y_Row_nextEntity.2.1 95 = .ok (.iload 8, 2) := by decide +kernel
theorem d_Row_nextEntity_97 : decode y_Row_nextEntity.2.1 97 = .ok (.ifCond .eq 112, 3) := by decide +kernel
theorem d_Row_nextEntity_100 : decode y_Row_nextEntity.2.1 100 = .ok (.iload_n 2, 1) := by decide +kernel
theorem d_Row_nextEntity_101 : decode y_Row_nextEntity.2.1 101 = .ok (.ifCond .eq 108, 3) := by decide +kernel
theorem d_Row_nextEntity_104 : decode y_Row_nextEntity.2.1 104 = .ok (.iload 6, 2) := by decide +kernel
theorem d_Row_nextEntity_106 : decode y_Row_nextEntity.2.1 106 = .ok (.iload 7, 2) := by decide +kernel
theorem d_Row_nextEntity_108 : decode y_Row_nextEntity.2.1 108 = .ok (.aload_n 0, 1) := by decide +kernel
theorem d_Row_nextEntity_109 : decode y_Row_nextEntity.2.1 109 = .ok (.getfield 50, 3) := by decide +kernel
theorem d_Row_nextEntity_112 : decode y_Row_nextEntity.2.1 112 = .ok (.isub, 1) := by decide +kernel
theorem d_Row_nextEntity_113 : decode y_Row_nextEntity.2.1 113 = .ok (.aload_n 0, 1) := by decide +kernel
theorem d_Row_nextEntity_114 : decode y_Row_nextEntity.2.1 114 = .ok (.getfield 39, 3) := by decide +kernel
theorem d_Row_nextEntity_117 : decode y_Row_nextEntity.2.1 117 = .ok (.getfield 79, 3) := by decide +kernel
theorem d_Row_nextEntity_120 : decode y_Row_nextEntity.2.1 120 = .ok (.imul, 1) := by decide +kernel
theorem d_Row_nextEntity_121 : decode y_Row_nextEntity.2.1 121 = .ok (.iadd, 1) := by decide +kernel
theorem d_Row_nextEntity_122 : decode y_Row_nextEntity.2.1 122 = .ok (.istore 9, 2) := by decide +kernel
theorem d_Row_nextEntity_124 : decode y_Row_nextEntity.2.1 124 = .ok (.aload_n 0, 1) := by decide +kernel
theorem d_Row_nextEntity_125 : decode y_Row_nextEntity.2.1 125 = .ok (.getfield 39, 3) := by decide +kernel
theorem d_Row_nextEntity_128 : decode y_Row_nextEntity.2.1 128 = .ok (.getfield 74, 3) := by decide +kernel
theorem d_Row_nextEntity_131 : decode y_Row_nextEntity.2.1 131 = .ok (.iload 6, 2) := by decide +kernel
theorem d_Row_nextEntity_133 : decode y_Row_nextEntity.2.1 133 = .ok (.iaload, 1) := by decide +kernel
theorem d_Row_nextEntity_134 : decode y_Row_nextEntity.2.1 134 = .ok (.i2l, 1) := by decide +kernel
theorem d_Row_nextEntity_135 : decode y_Row_nextEntity.2.1 135 = .ok (.aload_n 0, 1) := by decide +kernel
theorem d_Row_nextEntity_136 : decode y_Row_nextEntity.2.1 136 = .ok (.getfield 39, 3) := by decide +kernel
theorem d_Row_nextEntity_139 : decode y_Row_nextEntity.2.1 139 = .ok (.getfield 74, 3) := by decide +kernel
theorem d_Row_nextEntity_142 : decode y_Row_nextEntity.2.1 142 = .ok (.iload 9, 2) := by decide +kernel
theorem d_Row_nextEntity_144 : decode y_Row_nextEntity.2.1 144 = .ok (.iaload, 1) := by decide +kernel
theorem d_Row_nextEntity_145 : decode y_Row_nextEntity.2.1 145 = .ok (.i2l, 1) := by decide +kernel
theorem d_Row_nextEntity_146 : decode y_Row_nextEntity.2.1 146 = .ok (.lsub, 1) := by decide +kernel
theorem d_Row_nextEntity_147 : decode y_Row_nextEntity.2.1 147 = .ok (.lstore 10, 2) := by decide +kernel
theorem d_Row_nextEntity_149 : decode y_Row_nextEntity.2.1 149 = .ok (.aload_n 0, 1) := by decide +kernel
theorem d_Row_nextEntity_150 : decode y_Row_nextEntity.2.1 150 = .ok (.getfield 39, 3) := by decide +kernel
theorem d_Row_nextEntity_153 : decode y_Row_nextEntity.2.1 153 = .ok (.getfield 74, 3) := by decide +kernel
theorem d_Row_nextEntity_156 : decode y_Row_nextEntity.2.1 156 = .ok (.iload 6, 2) := by decide +kernel
theorem d_Row_nextEntity_158 : decode y_Row_nextEntity.2.1 158 = .ok (.iconst 1, 1) := by decide +kernel
theorem d_Row_nextEntity_159 : decode y_Row_nextEntity.2.1 159 = .ok (.iadd, 1) := by decide +kernel
theorem d_Row_nextEntity_160 : decode y_Row_nextEntity.2.1 160 = .ok (.iaload, 1) := by decide +kernel
theorem d_Row_nextEntity_161 : decode y_Row_nextEntity.2.1 161 = .ok (.i2l, 1) := by decide +kernel
theorem d_Row_nextEntity_162 : decode y_Row_nextEntity.2.1 162 = .ok (.aload_n 0, 1) := by decide +kernel
theorem d_Row_nextEntity_163 : decode y_Row_nextEntity.2.1 163 = .ok (.getfield 39, 3) := by decide +kernel
theorem d_Row_nextEntity_166 : decode y_Row_nextEntity.2.1 166 = .ok (.getfield 74, 3) := by decide +kernel
theorem d_Row_nextEntity_169 : decode y_Row_nextEntity.2.1 169 = .ok (.iload 9, 2) := by decide +kernel
theorem d_Row_nextEntity_171 : decode y_Row_nextEntity.2.1 171 = .ok (.iconst 1, 1) := by decide +kernel
theorem d_Row_nextEntity_172 : decode y_Row_nextEntity.2.1 172 = .ok (.iadd, 1) := by decide +kernel
theorem d_Row_nextEntity_173 : decode y_Row_nextEntity.2.1 173 = .ok (.iaload, 1) := by decide +kernel
theorem d_Row_nextEntity_174 : decode y_Row_nextEntity.2.1 174 = .ok (.i2l, 1) := by decide +kernel
theorem d_Row_nextEntity_175 : decode y_Row_nextEntity.2.1 175 = .ok (.lsub, 1) := by decide +kernel
theorem d_Row_nextEntity_176 : decode y_Row_nextEntity.2.1 176 = .ok (.lstore 12, 2) := by decide +kernel
theorem d_Row_nextEntity_178 : decode y_Row_nextEntity.2.1 178 = .ok (.lload 10, 2) := by decide +kernel
theorem d_Row_nextEntity_180 : decode y_Row_nextEntity.2.1 180 = .ok (.invokestatic 155, 3) := by decide +kernel
theorem d_Row_nextEntity_183 : decode y_Row_nextEntity.2.1 183 = .ok (.lload 12, 2) := by decide +kernel
theorem d_Row_nextEntity_185 : decode y_Row_nextEntity.2.1 185 = .ok (.invokestatic 155, 3) := by decide +kernel
theorem d_Row_nextEntity_188 : decode y_Row_nextEntity.2.1 188 = .ok (.invokestatic 161, 3) := by decide +kernel
theorem d_Row_nextEntity_191 : decode y_Row_nextEntity.2.1 191 = .ok (.aload_n 0, 1) := by decide +kernel
theorem d_Row_nextEntity_192 : decode y_Row_nextEntity.2.1 192 = .ok (.getfield 24, 3) := by decide +kernel
theorem d_Row_nextEntity_195 : decode y_Row_nextEntity.2.1 195 = .ok (.iload_n 1, 1) := by decide +kernel
theorem d_Row_nextEntity_196 : decode y_Row_nextEntity.2.1 196 = .ok (.iaload, 1) := by decide +kernel
theorem d_Row_nextEntity_197 : decode y_Row_nextEntity.2.1 197 = .ok (.i2l, 1) := by decide +kernel
theorem d_Row_nextEntity_198 : decode y_Row_nextEntity.2.1 198 = .ok (.lcmp, 1) := by decide +kernel
theorem d_Row_nextEntity_199 : decode y_Row_nextEntity.2.1 199 = .ok (.ifCond .gt 7, 3) := by decide +kernel
theorem d_Row_nextEntity_202 : decode y_Row_nextEntity.2.1 202 = .ok (.iconst 1, 1) := by decide +kernel
theorem d_Row_nextEntity_203 : decode y_Row_nextEntity.2.1 203 = .ok (.goto 4, 3) := by decide +kernel
theorem d_Row_nextEntity_206 : decode y_Row_nextEntity.2.1 206 = .ok (.iconst 0, 1) := by decide +kernel
theorem d_Row_nextEntity_207 : decode y_Row_nextEntity.2.1 207 = .ok (.istore 8, 2) := by decide +kernel
theorem d_Row_nextEntity_209 : decode y_Row_nextEntity.2.1 209 = .ok (.iload 8, 2) := by decide +kernel
theorem d_Row_nextEntity_211 : decode y_Row_nextEntity.2.1 211 = .ok (.ifCond .eq 28, 3) := by decide +kernel
theorem d_Row_nextEntity_214 : decode y_Row_nextEntity.2.1 214 = .ok (.aload_n 0, 1) := by decide +kernel
theorem d_Row_nextEntity_215 : decode y_Row_nextEntity.2.1 215 = .ok (.getfield 21, 3) := by decide +kernel
theorem d_Row_nextEntity_218 : decode y_Row_nextEntity.2.1 218 = .ok (.iload_n 1, 1) := by decide +kernel
theorem d_Row_nextEntity_219 : decode y_Row_nextEntity.2.1 219 = .ok (.iload 7, 2) := by decide +kernel
theorem d_Row_nextEntity_221 : decode y_Row_nextEntity.2.1 221 = .ok (.iastore, 1) := by decide +kernel
theorem d_Row_nextEntity_222 : decode y_Row_nextEntity.2.1 222 = .ok (.aload_n 0, 1) := by decide +kernel
theorem d_Row_nextEntity_223 : decode y_Row_nextEntity.2.1 223 = .ok (.getfield 18, 3) := by decide +kernel
theorem d_Row_nextEntity_226 : decode y_Row_nextEntity.2.1 226 = .ok (.iload 4, 2) := by decide +kernel
theorem d_Row_nextEntity_228 : decode y_Row_nextEntity.2.1 228 = .ok (.aload_n 0, 1) := by decide +kernel
theorem d_Row_nextEntity_229 : decode y_Row_nextEntity.2.1 229 = .ok (.getfield 39, 3) := by decide +kernel
theorem d_Row_nextEntity_232 : decode y_Row_nextEntity.2.1 232 = .ok (.iload 7, 2) := by decide +kernel
theorem d_Row_nextEntity_234 : decode y_Row_nextEntity.2.1 234 = .ok (.invokevirtual 112, 3) := by decide +kernel
theorem d_Row_nextEntity_237 : decode y_Row_nextEntity.2.1 237 = .ok (.iastore, 1) := by decide +kernel
theorem d_Row_nextEntity_238 : decode y_Row_nextEntity.2.1 238 = .ok (.return_, 1) := by decide +kernel
theorem d_Row_nextEntity_239 : decode y_Row_nextEntity.2.1 239 = .ok (.iinc 7 1, 3) := by decide +kernel
theorem d_Row_nextEntity_242 : decode y_Row_nextEntity.2.1 242 = .ok (.goto (-188), 3) := by decide +kernel
theorem d_Row_nextEntity_245 : decode y_Row_nextEntity.2.1 245 = .ok (.aload_n 0, 1) := by decide +kernel
theorem d_Row_nextEntity_246 : decode y_Row_nextEntity.2.1 246 = .ok (.iload 5, 2) := by decide +kernel
theorem d_Row_nextEntity_248 : decode y_Row_nextEntity.2.1 248 = .ok (.putfield 56, 3) := by decide +kernel
theorem d_Row_nextEntity_251 : decode y_Row_nextEntity.2.1 251 = .ok (.return_, 1) := by decide +kernel
theorem s_Row_nextEntity : ab_Stat y_Row_nextEntity 2 := ⟨(k6 225 rfl rfl), (k1 13 rfl rfl), ⟨by decide, by decide⟩, by decide +kernel⟩
theorem i_Row_nextEntity : Cond.instanceMethod y_Row_nextEntity.1 ∈ ab_T := (k6 224 rfl rfl)
theorem v_Row_nextEntity : Cond.selects "WorldEngine$Row" y_Row_nextEntity.1 y_Row_nextEntity.1 ∈ ab_T := ab_s (List.mem_of_getElem? (i := 72) rfl) rfl
def B_Row_nextEntity_209 (N : Nat) (p0 : Nat) (p1 : Int32) (p2 : Int32) (kq54 : Int32 → Int32 → Int32 → Int32 → Int32 → Hp → Option (Unit × Hp)) (l3 : Int32) (l4 : Int32) (l5 : Int32) (l6 : Int32) (l7 : Int32) (l8 : Int32) (H : Hp) : Option (Unit × Hp) :=
    if l8 = (0 : Int32) then
    kq54 l3 l4 l5 l6 (l7 + 1) H
    else
    ck (H.sh[p0]? = some (8, 0)) <|
    rf (H.P p0 8) fun a48 =>
    ar H 100 a48 fun n50 =>
    ck (inb p1 n50) <|
    bnd (H.sD a48 (p1).toNatClampNeg l7) fun H53 =>
    rf (H53.P p0 7) fun a54 =>
    rf (H53.P p0 3) fun a56 =>
    ck (H53.sh[a56]? = some (7, 0)) <|
    bC (F_World_numberAt N a56 l7 H53) fun v60 H61 =>
    ar H61 100 a54 fun n62 =>
    ck (inb l4 n62) <|
    bnd (H61.sD a54 (l4).toNatClampNeg v60) fun H65 =>
    some ((), H65)
set_option maxRecDepth 20000 in
set_option maxHeartbeats 2000000 in
theorem mB_Row_nextEntity_209 {N : Nat} {p0 : Nat} {p1 : Int32} {p2 : Int32} {kq54 : Int32 → Int32 → Int32 → Int32 → Int32 → Hp → Option (Unit × Hp)} (hm54 : ∀ (l3 : Int32) (l4 : Int32) (l5 : Int32) (l6 : Int32) (l7 : Int32) (H : Hp) (r : Unit × Hp), kq54 l3 l4 l5 l6 l7 H = some r → Sa H r.2) {l3 : Int32} {l4 : Int32} {l5 : Int32} {l6 : Int32} {l7 : Int32} {l8 : Int32} {H : Hp} {r : Unit × Hp} (hF : B_Row_nextEntity_209 N p0 p1 p2 kq54 l3 l4 l5 l6 l7 l8 H = some r) : Sa H r.2 := by
  unfold B_Row_nextEntity_209 at hF
  have hm := Sa.rf H
  rcases ite_s hF with ⟨q_8, hG⟩ | ⟨q_8, hG⟩
  · clear hF
    exact hm.tr (hm54 l3 l4 l5 l6 (l7 + 1) H r hG)
  · clear hF
    obtain ⟨q67, hF⟩ := ck_s hG; clear hG
    obtain ⟨a68, e69, hG⟩ := rf_s hF; clear hF
    obtain ⟨n70, q71, hF⟩ := ar_s hG; clear hG
    obtain ⟨q72, hG⟩ := ck_s hF; clear hF
    obtain ⟨H73, eH73, hF⟩ := bnd_g hG; clear hG
    replace hm : Sa H H73 := by rw [eH73]; exact hm
    obtain ⟨a74, e75, hG⟩ := rf_s hF; clear hF
    obtain ⟨a76, e77, hF⟩ := rf_s hG; clear hG
    obtain ⟨q78, hG⟩ := ck_s hF; clear hF
    obtain ⟨v80, H81, z79, hF⟩ := bC_s hG; clear hG
    replace hm : Sa H H81 := hm.tr (m_World_numberAt z79)
    obtain ⟨n82, q83, hG⟩ := ar_s hF; clear hF
    obtain ⟨q84, hF⟩ := ck_s hG; clear hG
    obtain ⟨H85, eH85, hG⟩ := bnd_g hF; clear hF
    replace hm : Sa H H85 := by rw [eH85]; exact hm
    have hr := Option.some.inj hG; subst hr
    exact hm
set_option maxRecDepth 20000 in
set_option maxHeartbeats 2000000 in
theorem kB_Row_nextEntity_209 {N : Nat} {p0 : Nat} {p1 : Int32} {p2 : Int32} {kq54 : Int32 → Int32 → Int32 → Int32 → Int32 → Hp → Option (Unit × Hp)} (hm54 : ∀ (l3 : Int32) (l4 : Int32) (l5 : Int32) (l6 : Int32) (l7 : Int32) (H : Hp) (r : Unit × Hp), kq54 l3 l4 l5 l6 l7 H = some r → Sa H r.2) (hk54 : ∀ (l3 : Int32) (l4 : Int32) (l5 : Int32) (l6 : Int32) (l7 : Int32) (H : Hp) (r : Unit × Hp), kq54 l3 l4 l5 l6 l7 H = some r → ab_V y_Row_nextEntity { frames := 1, cells := 0, slots := 0, locals := 23 } (po (.returned none) r.2) 0 0 0 0 54 [some (.ref p0), some (.int p1), some (.int p2), some (.int l3), some (.int l4), some (.int l5), some (.int l6), some (.int l7), none, none, none, none, none, none] [] (hpw H)) {l3 : Int32} {l4 : Int32} {l5 : Int32} {l6 : Int32} {l7 : Int32} {l8 : Int32} {H : Hp} {r : Unit × Hp} (hF : B_Row_nextEntity_209 N p0 p1 p2 kq54 l3 l4 l5 l6 l7 l8 H = some r) : ab_V y_Row_nextEntity { frames := 1, cells := 0, slots := 0, locals := 23 } (po (.returned none) r.2) 0 0 0 0 209 [some (.ref p0), some (.int p1), some (.int p2), some (.int l3), some (.int l4), some (.int l5), some (.int l6), some (.int l7), some (.int l8), none, none, none, none, none] [] (hpw H) := by
  unfold B_Row_nextEntity_209 at hF
  refine ab_iload d_Row_nextEntity_209 rfl ?_
  refine ab_if_eq (tgt := 239) d_Row_nextEntity_211 (by decide) (fun q46 => ?_) (fun q46 => ?_)
  · rw [if_pos q46] at hF
    refine ab_iinc (v := l7 + 1) (lv' := [some (.ref p0), some (.int p1), some (.int p2), some (.int l3), some (.int l4), some (.int l5), some (.int l6), some (.int (l7 + 1)), some (.int l8), none, none, none, none, none]) d_Row_nextEntity_239 rfl rfl (by decide) rfl ?_
    refine ab_goto (tgt := 54) d_Row_nextEntity_242 (by decide) ?_
    refine ab_le (lv' := [some (.ref p0), some (.int p1), some (.int p2), some (.int l3), some (.int l4), some (.int l5), some (.int l6), some (.int (l7 + 1)), none, none, none, none, none, none]) ⟨rfl, ⟨rfl, ⟨rfl, ⟨rfl, ⟨rfl, ⟨rfl, ⟨rfl, ⟨rfl, trivial⟩⟩⟩⟩⟩⟩⟩⟩ ?_
    exact hk54 l3 l4 l5 l6 (l7 + 1) H r hF
  · rw [if_neg q46] at hF
    refine ab_aload_n d_Row_nextEntity_214 rfl rfl rfl ?_
    obtain ⟨q47, hG⟩ := ck_s hF; clear hF
    obtain ⟨a48, e49, hF⟩ := rf_s hG; clear hG
    refine hp_getR (f := 8) d_Row_nextEntity_215 q47 (by decide) rfl (by decide) (k2 70 rfl rfl) rfl e49 ?_
    refine ab_iload_n d_Row_nextEntity_218 rfl rfl ?_
    refine ab_iload d_Row_nextEntity_219 rfl ?_
    obtain ⟨n50, q51, hG⟩ := ar_s hF; clear hF
    obtain ⟨q52, hF⟩ := ck_s hG; clear hG
    refine hp_iast d_Row_nextEntity_221 tI q51 q52 ?_
    refine hp_gen (fun H53 eH53 => ?_)
    replace hF := bnd_s eH53 hF
    have s_5 : Sa H H53 := by rw [eH53]; exact Sa.rf _
    refine ab_aload_n d_Row_nextEntity_222 rfl rfl rfl ?_
    obtain ⟨a54, e55, hG⟩ := rf_s hF; clear hF
    refine hp_getR (f := 7) d_Row_nextEntity_223 (by rw [(s_5).1]; exact q47) (by decide) rfl (by decide) (k2 69 rfl rfl) rfl e55 ?_
    refine ab_iload d_Row_nextEntity_226 rfl ?_
    refine ab_aload_n d_Row_nextEntity_228 rfl rfl rfl ?_
    obtain ⟨a56, e57, hF⟩ := rf_s hG; clear hG
    refine hp_getR (f := 3) d_Row_nextEntity_229 (by rw [(s_5).1]; exact q47) (by decide) rfl (by decide) (k2 65 rfl rfl) rfl e57 ?_
    refine ab_iload d_Row_nextEntity_232 rfl ?_
    obtain ⟨q58, hG⟩ := ck_s hF; clear hF
    rw [(s_5).1] at q58
    obtain ⟨v60, H61, z59, hF⟩ := bC_s hG; clear hG
    refine hp_callV_a (v := .int v60) (H1 := H61) (As := [.int l7]) (rest := [.int l4, .ref a54]) d_Row_nextEntity_234 (k_World_numberAt z59) (ab_mkC s_World_numberAt (Nat.le_of_ble_eq_true rfl) (Nat.le_of_ble_eq_true rfl) (Nat.le_refl 0) (Nat.le_refl 0)) (k6 231 rfl rfl) i_World_numberAt v_World_numberAt (by rw [(s_5).1]; exact q58) (by decide) rfl rfl (Nat.le_of_ble_eq_true rfl) ?_
    have s_6 : Sa H H61 := (s_5).tr (m_World_numberAt z59)
    obtain ⟨n62, q63, hG⟩ := ar_s hF; clear hF
    rw [(s_6).1] at q63
    obtain ⟨q64, hF⟩ := ck_s hG; clear hG
    refine hp_iast d_Row_nextEntity_237 tI (by rw [(s_6).1]; exact q63) q64 ?_
    refine hp_gen (fun H65 eH65 => ?_)
    replace hF := bnd_s eH65 hF
    have s_7 : Sa H H65 := by rw [eH65]; exact s_6
    exact ab_vret d_Row_nextEntity_238 rfl (Nat.le_refl _) (Nat.le_refl _) (by have hr := Option.some.inj hF; subst hr; exact ⟨rfl, rfl⟩)
def B_Row_nextEntity_207 (N : Nat) (p0 : Nat) (p1 : Int32) (p2 : Int32) (kq54 : Int32 → Int32 → Int32 → Int32 → Int32 → Hp → Option (Unit × Hp)) (l3 : Int32) (l4 : Int32) (l5 : Int32) (l6 : Int32) (l7 : Int32) (w0 : Int32) (H : Hp) : Option (Unit × Hp) :=
    B_Row_nextEntity_209 N p0 p1 p2 kq54 l3 l4 l5 l6 l7 w0 H
set_option maxRecDepth 20000 in
set_option maxHeartbeats 2000000 in
theorem mB_Row_nextEntity_207 {N : Nat} {p0 : Nat} {p1 : Int32} {p2 : Int32} {kq54 : Int32 → Int32 → Int32 → Int32 → Int32 → Hp → Option (Unit × Hp)} (hm54 : ∀ (l3 : Int32) (l4 : Int32) (l5 : Int32) (l6 : Int32) (l7 : Int32) (H : Hp) (r : Unit × Hp), kq54 l3 l4 l5 l6 l7 H = some r → Sa H r.2) {l3 : Int32} {l4 : Int32} {l5 : Int32} {l6 : Int32} {l7 : Int32} {w0 : Int32} {H : Hp} {r : Unit × Hp} (hF : B_Row_nextEntity_207 N p0 p1 p2 kq54 l3 l4 l5 l6 l7 w0 H = some r) : Sa H r.2 := by
  unfold B_Row_nextEntity_207 at hF
  have hm := Sa.rf H
  exact hm.tr (mB_Row_nextEntity_209 hm54 hF)
set_option maxRecDepth 20000 in
set_option maxHeartbeats 2000000 in
theorem kB_Row_nextEntity_207 {N : Nat} {p0 : Nat} {p1 : Int32} {p2 : Int32} {kq54 : Int32 → Int32 → Int32 → Int32 → Int32 → Hp → Option (Unit × Hp)} (hm54 : ∀ (l3 : Int32) (l4 : Int32) (l5 : Int32) (l6 : Int32) (l7 : Int32) (H : Hp) (r : Unit × Hp), kq54 l3 l4 l5 l6 l7 H = some r → Sa H r.2) (hk54 : ∀ (l3 : Int32) (l4 : Int32) (l5 : Int32) (l6 : Int32) (l7 : Int32) (H : Hp) (r : Unit × Hp), kq54 l3 l4 l5 l6 l7 H = some r → ab_V y_Row_nextEntity { frames := 1, cells := 0, slots := 0, locals := 23 } (po (.returned none) r.2) 0 0 0 0 54 [some (.ref p0), some (.int p1), some (.int p2), some (.int l3), some (.int l4), some (.int l5), some (.int l6), some (.int l7), none, none, none, none, none, none] [] (hpw H)) {l3 : Int32} {l4 : Int32} {l5 : Int32} {l6 : Int32} {l7 : Int32} {w0 : Int32} {H : Hp} {r : Unit × Hp} (hF : B_Row_nextEntity_207 N p0 p1 p2 kq54 l3 l4 l5 l6 l7 w0 H = some r) : ab_V y_Row_nextEntity { frames := 1, cells := 0, slots := 0, locals := 23 } (po (.returned none) r.2) 0 0 0 0 207 [some (.ref p0), some (.int p1), some (.int p2), some (.int l3), some (.int l4), some (.int l5), some (.int l6), some (.int l7), none, none, none, none, none, none] [.int w0] (hpw H) := by
  unfold B_Row_nextEntity_207 at hF
  refine ab_istore (lv' := [some (.ref p0), some (.int p1), some (.int p2), some (.int l3), some (.int l4), some (.int l5), some (.int l6), some (.int l7), some (.int w0), none, none, none, none, none]) d_Row_nextEntity_207 (by decide) rfl ?_
  exact kB_Row_nextEntity_209 hm54 hk54 hF
def B_Row_nextEntity_93 (N : Nat) (p0 : Nat) (p1 : Int32) (p2 : Int32) (kq54 : Int32 → Int32 → Int32 → Int32 → Int32 → Hp → Option (Unit × Hp)) (l3 : Int32) (l4 : Int32) (l5 : Int32) (l6 : Int32) (l7 : Int32) (w0 : Int32) (H : Hp) : Option (Unit × Hp) :=
    if w0 = (0 : Int32) then
    B_Row_nextEntity_209 N p0 p1 p2 kq54 l3 l4 l5 l6 l7 w0 H
    else
    if p2 = (0 : Int32) then
    B_Row_nextEntity_209 N p0 p1 p2 kq54 l3 l4 l5 l6 l7 w0 H
    else
    ck (H.sh[p0]? = some (8, 0)) <|
    bnd ((H.D p0 18)) fun x88 =>
    rf (H.P p0 3) fun a89 =>
    ck (H.sh[a89]? = some (7, 0)) <|
    bnd ((H.D a89 10)) fun x92 =>
    bnd ((l6 + ((l7 - x88) * x92))) fun x93 =>
    rf (H.P p0 3) fun a94 =>
    ck (H.sh[a94]? = some (7, 0)) <|
    rf (H.P a94 11) fun a97 =>
    ar H 100 a97 fun n99 =>
    ck (inb l6 n99) <|
    bnd ((H.D a97 (l6).toNatClampNeg)) fun x102 =>
    rf (H.P p0 3) fun a103 =>
    ck (H.sh[a103]? = some (7, 0)) <|
    rf (H.P a103 11) fun a106 =>
    ar H 100 a106 fun n108 =>
    ck (inb x93 n108) <|
    bnd ((H.D a106 (x93).toNatClampNeg)) fun x111 =>
    bnd (((x102 : Int32).toInt64) - ((x111 : Int32).toInt64)) fun x112 =>
    rf (H.P p0 3) fun a113 =>
    ck (H.sh[a113]? = some (7, 0)) <|
    rf (H.P a113 11) fun a116 =>
    ar H 100 a116 fun n118 =>
    ck (inb (l6 + (1 : Int32)) n118) <|
    bnd ((H.D a116 ((l6 + (1 : Int32))).toNatClampNeg)) fun x121 =>
    rf (H.P p0 3) fun a122 =>
    ck (H.sh[a122]? = some (7, 0)) <|
    rf (H.P a122 11) fun a125 =>
    ar H 100 a125 fun n127 =>
    ck (inb (x93 + (1 : Int32)) n127) <|
    bnd ((H.D a125 ((x93 + (1 : Int32))).toNatClampNeg)) fun x130 =>
    bnd (((x121 : Int32).toInt64) - ((x130 : Int32).toInt64)) fun x131 =>
    bC (F_Math_abs N x112 H) fun v133 H134 =>
    bC (F_Math_abs N x131 H134) fun v136 H137 =>
    bC (F_Math_max2 N v133 v136 H137) fun v139 H140 =>
    rf (H140.P p0 9) fun a141 =>
    ar H140 100 a141 fun n143 =>
    ck (inb p1 n143) <|
    bnd ((H140.D a141 (p1).toNatClampNeg)) fun x146 =>
    if (0 : Int32) < (lg_cmp v139 ((x146 : Int32).toInt64)) then
    B_Row_nextEntity_207 N p0 p1 p2 kq54 l3 l4 l5 l6 l7 0 H140
    else
    B_Row_nextEntity_207 N p0 p1 p2 kq54 l3 l4 l5 l6 l7 1 H140
set_option maxRecDepth 20000 in
set_option maxHeartbeats 2000000 in
theorem mB_Row_nextEntity_93 {N : Nat} {p0 : Nat} {p1 : Int32} {p2 : Int32} {kq54 : Int32 → Int32 → Int32 → Int32 → Int32 → Hp → Option (Unit × Hp)} (hm54 : ∀ (l3 : Int32) (l4 : Int32) (l5 : Int32) (l6 : Int32) (l7 : Int32) (H : Hp) (r : Unit × Hp), kq54 l3 l4 l5 l6 l7 H = some r → Sa H r.2) {l3 : Int32} {l4 : Int32} {l5 : Int32} {l6 : Int32} {l7 : Int32} {w0 : Int32} {H : Hp} {r : Unit × Hp} (hF : B_Row_nextEntity_93 N p0 p1 p2 kq54 l3 l4 l5 l6 l7 w0 H = some r) : Sa H r.2 := by
  unfold B_Row_nextEntity_93 at hF
  have hm := Sa.rf H
  rcases ite_s hF with ⟨q_15, hG⟩ | ⟨q_15, hG⟩
  · clear hF
    exact hm.tr (mB_Row_nextEntity_209 hm54 hG)
  · clear hF
    rcases ite_s hG with ⟨q_16, hF⟩ | ⟨q_16, hF⟩
    · clear hG
      exact hm.tr (mB_Row_nextEntity_209 hm54 hF)
    · clear hG
      obtain ⟨q150, hG⟩ := ck_s hF; clear hF
      obtain ⟨x151, -, hF⟩ := bnd_g hG; clear hG
      obtain ⟨a152, e153, hG⟩ := rf_s hF; clear hF
      obtain ⟨q154, hF⟩ := ck_s hG; clear hG
      obtain ⟨x155, -, hG⟩ := bnd_g hF; clear hF
      obtain ⟨x156, -, hF⟩ := bnd_g hG; clear hG
      obtain ⟨a157, e158, hG⟩ := rf_s hF; clear hF
      obtain ⟨q159, hF⟩ := ck_s hG; clear hG
      obtain ⟨a160, e161, hG⟩ := rf_s hF; clear hF
      obtain ⟨n162, q163, hF⟩ := ar_s hG; clear hG
      obtain ⟨q164, hG⟩ := ck_s hF; clear hF
      obtain ⟨x165, -, hF⟩ := bnd_g hG; clear hG
      obtain ⟨a166, e167, hG⟩ := rf_s hF; clear hF
      obtain ⟨q168, hF⟩ := ck_s hG; clear hG
      obtain ⟨a169, e170, hG⟩ := rf_s hF; clear hF
      obtain ⟨n171, q172, hF⟩ := ar_s hG; clear hG
      obtain ⟨q173, hG⟩ := ck_s hF; clear hF
      obtain ⟨x174, -, hF⟩ := bnd_g hG; clear hG
      obtain ⟨x175, -, hG⟩ := bnd_g hF; clear hF
      obtain ⟨a176, e177, hF⟩ := rf_s hG; clear hG
      obtain ⟨q178, hG⟩ := ck_s hF; clear hF
      obtain ⟨a179, e180, hF⟩ := rf_s hG; clear hG
      obtain ⟨n181, q182, hG⟩ := ar_s hF; clear hF
      obtain ⟨q183, hF⟩ := ck_s hG; clear hG
      obtain ⟨x184, -, hG⟩ := bnd_g hF; clear hF
      obtain ⟨a185, e186, hF⟩ := rf_s hG; clear hG
      obtain ⟨q187, hG⟩ := ck_s hF; clear hF
      obtain ⟨a188, e189, hF⟩ := rf_s hG; clear hG
      obtain ⟨n190, q191, hG⟩ := ar_s hF; clear hF
      obtain ⟨q192, hF⟩ := ck_s hG; clear hG
      obtain ⟨x193, -, hG⟩ := bnd_g hF; clear hF
      obtain ⟨x194, -, hF⟩ := bnd_g hG; clear hG
      obtain ⟨v196, H197, z195, hG⟩ := bC_s hF; clear hF
      replace hm : Sa H H197 := hm.tr (m_Math_abs z195)
      obtain ⟨v199, H200, z198, hF⟩ := bC_s hG; clear hG
      replace hm : Sa H H200 := hm.tr (m_Math_abs z198)
      obtain ⟨v202, H203, z201, hG⟩ := bC_s hF; clear hF
      replace hm : Sa H H203 := hm.tr (m_Math_max2 z201)
      obtain ⟨a204, e205, hF⟩ := rf_s hG; clear hG
      obtain ⟨n206, q207, hG⟩ := ar_s hF; clear hF
      obtain ⟨q208, hF⟩ := ck_s hG; clear hG
      obtain ⟨x209, -, hG⟩ := bnd_g hF; clear hF
      rcases ite_s hG with ⟨q_20, hF⟩ | ⟨q_20, hF⟩
      · clear hG
        exact hm.tr (mB_Row_nextEntity_207 hm54 hF)
      · clear hG
        exact hm.tr (mB_Row_nextEntity_207 hm54 hF)
set_option maxRecDepth 20000 in
set_option maxHeartbeats 2000000 in
theorem kB_Row_nextEntity_93 {N : Nat} {p0 : Nat} {p1 : Int32} {p2 : Int32} {kq54 : Int32 → Int32 → Int32 → Int32 → Int32 → Hp → Option (Unit × Hp)} (hm54 : ∀ (l3 : Int32) (l4 : Int32) (l5 : Int32) (l6 : Int32) (l7 : Int32) (H : Hp) (r : Unit × Hp), kq54 l3 l4 l5 l6 l7 H = some r → Sa H r.2) (hk54 : ∀ (l3 : Int32) (l4 : Int32) (l5 : Int32) (l6 : Int32) (l7 : Int32) (H : Hp) (r : Unit × Hp), kq54 l3 l4 l5 l6 l7 H = some r → ab_V y_Row_nextEntity { frames := 1, cells := 0, slots := 0, locals := 23 } (po (.returned none) r.2) 0 0 0 0 54 [some (.ref p0), some (.int p1), some (.int p2), some (.int l3), some (.int l4), some (.int l5), some (.int l6), some (.int l7), none, none, none, none, none, none] [] (hpw H)) {l3 : Int32} {l4 : Int32} {l5 : Int32} {l6 : Int32} {l7 : Int32} {w0 : Int32} {H : Hp} {r : Unit × Hp} (hF : B_Row_nextEntity_93 N p0 p1 p2 kq54 l3 l4 l5 l6 l7 w0 H = some r) : ab_V y_Row_nextEntity { frames := 1, cells := 0, slots := 0, locals := 23 } (po (.returned none) r.2) 0 0 0 0 93 [some (.ref p0), some (.int p1), some (.int p2), some (.int l3), some (.int l4), some (.int l5), some (.int l6), some (.int l7), none, none, none, none, none, none] [.int w0] (hpw H) := by
  unfold B_Row_nextEntity_93 at hF
  refine ab_istore (lv' := [some (.ref p0), some (.int p1), some (.int p2), some (.int l3), some (.int l4), some (.int l5), some (.int l6), some (.int l7), some (.int w0), none, none, none, none, none]) d_Row_nextEntity_93 (by decide) rfl ?_
  refine ab_iload d_Row_nextEntity_95 rfl ?_
  refine ab_if_eq (tgt := 209) d_Row_nextEntity_97 (by decide) (fun q45 => ?_) (fun q45 => ?_)
  · rw [if_pos q45] at hF
    exact kB_Row_nextEntity_209 hm54 hk54 hF
  · rw [if_neg q45] at hF
    refine ab_iload_n d_Row_nextEntity_100 rfl rfl ?_
    refine ab_if_eq (tgt := 209) d_Row_nextEntity_101 (by decide) (fun q86 => ?_) (fun q86 => ?_)
    · rw [if_pos q86] at hF
      exact kB_Row_nextEntity_209 hm54 hk54 hF
    · rw [if_neg q86] at hF
      refine ab_iload d_Row_nextEntity_104 rfl ?_
      refine ab_iload d_Row_nextEntity_106 rfl ?_
      refine ab_aload_n d_Row_nextEntity_108 rfl rfl rfl ?_
      obtain ⟨q87, hG⟩ := ck_s hF; clear hF
      refine hp_getI (f := 18) d_Row_nextEntity_109 q87 (by decide) rfl (by decide) (k2 80 rfl rfl) rfl ?_
      refine ab_topi (fun x88 ex88 => ?_)
      replace hG := bnd_s ex88 hG
      refine ab_isub d_Row_nextEntity_112 ?_
      refine ab_aload_n d_Row_nextEntity_113 rfl rfl rfl ?_
      obtain ⟨a89, e90, hF⟩ := rf_s hG; clear hG
      refine hp_getR (f := 3) d_Row_nextEntity_114 q87 (by decide) rfl (by decide) (k2 65 rfl rfl) rfl e90 ?_
      obtain ⟨q91, hG⟩ := ck_s hF; clear hF
      refine hp_getI (f := 10) d_Row_nextEntity_117 q91 (by decide) rfl (by decide) (k1 235 rfl rfl) rfl ?_
      refine ab_topi (fun x92 ex92 => ?_)
      replace hG := bnd_s ex92 hG
      refine ab_imul d_Row_nextEntity_120 ?_
      refine ab_iadd d_Row_nextEntity_121 ?_
      refine ab_topi (fun x93 ex93 => ?_)
      replace hG := bnd_s ex93 hG
      refine ab_istore (lv' := [some (.ref p0), some (.int p1), some (.int p2), some (.int l3), some (.int l4), some (.int l5), some (.int l6), some (.int l7), some (.int w0), some (.int x93), none, none, none, none]) d_Row_nextEntity_122 (by decide) rfl ?_
      refine ab_aload_n d_Row_nextEntity_124 rfl rfl rfl ?_
      obtain ⟨a94, e95, hF⟩ := rf_s hG; clear hG
      refine hp_getR (f := 3) d_Row_nextEntity_125 q87 (by decide) rfl (by decide) (k2 65 rfl rfl) rfl e95 ?_
      obtain ⟨q96, hG⟩ := ck_s hF; clear hF
      obtain ⟨a97, e98, hF⟩ := rf_s hG; clear hG
      refine hp_getR (f := 11) d_Row_nextEntity_128 q96 (by decide) rfl (by decide) (k1 237 rfl rfl) rfl e98 ?_
      refine ab_iload d_Row_nextEntity_131 rfl ?_
      obtain ⟨n99, q100, hG⟩ := ar_s hF; clear hF
      obtain ⟨q101, hF⟩ := ck_s hG; clear hG
      refine hp_iald d_Row_nextEntity_133 tI q100 q101 ?_
      refine ab_topi (fun x102 ex102 => ?_)
      replace hF := bnd_s ex102 hF
      refine ab_i2l d_Row_nextEntity_134 ?_
      refine ab_aload_n d_Row_nextEntity_135 rfl rfl rfl ?_
      obtain ⟨a103, e104, hG⟩ := rf_s hF; clear hF
      refine hp_getR (f := 3) d_Row_nextEntity_136 q87 (by decide) rfl (by decide) (k2 65 rfl rfl) rfl e104 ?_
      obtain ⟨q105, hF⟩ := ck_s hG; clear hG
      obtain ⟨a106, e107, hG⟩ := rf_s hF; clear hF
      refine hp_getR (f := 11) d_Row_nextEntity_139 q105 (by decide) rfl (by decide) (k1 237 rfl rfl) rfl e107 ?_
      refine ab_iload d_Row_nextEntity_142 rfl ?_
      obtain ⟨n108, q109, hF⟩ := ar_s hG; clear hG
      obtain ⟨q110, hG⟩ := ck_s hF; clear hF
      refine hp_iald d_Row_nextEntity_144 tI q109 q110 ?_
      refine ab_topi (fun x111 ex111 => ?_)
      replace hG := bnd_s ex111 hG
      refine ab_i2l d_Row_nextEntity_145 ?_
      refine ab_lsub d_Row_nextEntity_146 ?_
      refine ab_topl (fun x112 ex112 => ?_)
      replace hG := bnd_s ex112 hG
      refine ab_lstore (lv' := [some (.ref p0), some (.int p1), some (.int p2), some (.int l3), some (.int l4), some (.int l5), some (.int l6), some (.int l7), some (.int w0), some (.int x93), some (.long x112), none, none, none]) d_Row_nextEntity_147 (by decide) rfl ?_
      refine ab_aload_n d_Row_nextEntity_149 rfl rfl rfl ?_
      obtain ⟨a113, e114, hF⟩ := rf_s hG; clear hG
      refine hp_getR (f := 3) d_Row_nextEntity_150 q87 (by decide) rfl (by decide) (k2 65 rfl rfl) rfl e114 ?_
      obtain ⟨q115, hG⟩ := ck_s hF; clear hF
      obtain ⟨a116, e117, hF⟩ := rf_s hG; clear hG
      refine hp_getR (f := 11) d_Row_nextEntity_153 q115 (by decide) rfl (by decide) (k1 237 rfl rfl) rfl e117 ?_
      refine ab_iload d_Row_nextEntity_156 rfl ?_
      refine ab_iconst (v := 1) d_Row_nextEntity_158 (by decide) ?_
      refine ab_iadd d_Row_nextEntity_159 ?_
      obtain ⟨n118, q119, hG⟩ := ar_s hF; clear hF
      obtain ⟨q120, hF⟩ := ck_s hG; clear hG
      refine hp_iald d_Row_nextEntity_160 tI q119 q120 ?_
      refine ab_topi (fun x121 ex121 => ?_)
      replace hF := bnd_s ex121 hF
      refine ab_i2l d_Row_nextEntity_161 ?_
      refine ab_aload_n d_Row_nextEntity_162 rfl rfl rfl ?_
      obtain ⟨a122, e123, hG⟩ := rf_s hF; clear hF
      refine hp_getR (f := 3) d_Row_nextEntity_163 q87 (by decide) rfl (by decide) (k2 65 rfl rfl) rfl e123 ?_
      obtain ⟨q124, hF⟩ := ck_s hG; clear hG
      obtain ⟨a125, e126, hG⟩ := rf_s hF; clear hF
      refine hp_getR (f := 11) d_Row_nextEntity_166 q124 (by decide) rfl (by decide) (k1 237 rfl rfl) rfl e126 ?_
      refine ab_iload d_Row_nextEntity_169 rfl ?_
      refine ab_iconst (v := 1) d_Row_nextEntity_171 (by decide) ?_
      refine ab_iadd d_Row_nextEntity_172 ?_
      obtain ⟨n127, q128, hF⟩ := ar_s hG; clear hG
      obtain ⟨q129, hG⟩ := ck_s hF; clear hF
      refine hp_iald d_Row_nextEntity_173 tI q128 q129 ?_
      refine ab_topi (fun x130 ex130 => ?_)
      replace hG := bnd_s ex130 hG
      refine ab_i2l d_Row_nextEntity_174 ?_
      refine ab_lsub d_Row_nextEntity_175 ?_
      refine ab_topl (fun x131 ex131 => ?_)
      replace hG := bnd_s ex131 hG
      refine ab_lstore (lv' := [some (.ref p0), some (.int p1), some (.int p2), some (.int l3), some (.int l4), some (.int l5), some (.int l6), some (.int l7), some (.int w0), some (.int x93), some (.long x112), none, some (.long x131), none]) d_Row_nextEntity_176 (by decide) rfl ?_
      refine ab_lload d_Row_nextEntity_178 rfl ?_
      obtain ⟨v133, H134, z132, hF⟩ := bC_s hG; clear hG
      refine hp_callS_a (v := .long v133) (H1 := H134) (As := [.long x112]) (rest := []) d_Row_nextEntity_180 (k_Math_abs z132) (ab_mkC s_Math_abs (Nat.le_of_ble_eq_true rfl) (Nat.le_of_ble_eq_true rfl) (Nat.le_refl 0) (Nat.le_refl 0)) (k6 227 rfl rfl) t_Math_abs rfl (Nat.le_of_ble_eq_true rfl) ?_
      have s_12 : Sa H H134 := (m_Math_abs z132)
      refine ab_lload d_Row_nextEntity_183 rfl ?_
      obtain ⟨v136, H137, z135, hG⟩ := bC_s hF; clear hF
      refine hp_callS_a (v := .long v136) (H1 := H137) (As := [.long x131]) (rest := [.long v133]) d_Row_nextEntity_185 (k_Math_abs z135) (ab_mkC s_Math_abs (Nat.le_of_ble_eq_true rfl) (Nat.le_of_ble_eq_true rfl) (Nat.le_refl 0) (Nat.le_refl 0)) (k6 227 rfl rfl) t_Math_abs rfl (Nat.le_of_ble_eq_true rfl) ?_
      have s_13 : Sa H H137 := (s_12).tr (m_Math_abs z135)
      obtain ⟨v139, H140, z138, hF⟩ := bC_s hG; clear hG
      refine hp_callS_a (v := .long v139) (H1 := H140) (As := [.long v133, .long v136]) (rest := []) d_Row_nextEntity_188 (k_Math_max2 z138) (ab_mkC s_Math_max2 (Nat.le_of_ble_eq_true rfl) (Nat.le_of_ble_eq_true rfl) (Nat.le_refl 0) (Nat.le_refl 0)) (k6 230 rfl rfl) t_Math_max2 rfl (Nat.le_of_ble_eq_true rfl) ?_
      have s_14 : Sa H H140 := (s_13).tr (m_Math_max2 z138)
      refine ab_aload_n d_Row_nextEntity_191 rfl rfl rfl ?_
      obtain ⟨a141, e142, hG⟩ := rf_s hF; clear hF
      refine hp_getR (f := 9) d_Row_nextEntity_192 (by rw [(s_14).1]; exact q87) (by decide) rfl (by decide) (k2 71 rfl rfl) rfl e142 ?_
      refine ab_iload_n d_Row_nextEntity_195 rfl rfl ?_
      obtain ⟨n143, q144, hF⟩ := ar_s hG; clear hG
      rw [(s_14).1] at q144
      obtain ⟨q145, hG⟩ := ck_s hF; clear hF
      refine hp_iald d_Row_nextEntity_196 tI (by rw [(s_14).1]; exact q144) q145 ?_
      refine ab_topi (fun x146 ex146 => ?_)
      replace hG := bnd_s ex146 hG
      refine ab_i2l d_Row_nextEntity_197 ?_
      refine ab_lcmp d_Row_nextEntity_198 ?_
      refine ab_if_gt (tgt := 206) d_Row_nextEntity_199 (by decide) (fun q147 => ?_) (fun q147 => ?_)
      · rw [if_pos q147] at hG
        refine ab_iconst (v := 0) d_Row_nextEntity_206 (by decide) ?_
        refine ab_le (lv' := [some (.ref p0), some (.int p1), some (.int p2), some (.int l3), some (.int l4), some (.int l5), some (.int l6), some (.int l7), none, none, none, none, none, none]) ⟨rfl, ⟨rfl, ⟨rfl, ⟨rfl, ⟨rfl, ⟨rfl, ⟨rfl, ⟨rfl, trivial⟩⟩⟩⟩⟩⟩⟩⟩ ?_
        exact kB_Row_nextEntity_207 hm54 hk54 hG
      · rw [if_neg q147] at hG
        refine ab_iconst (v := 1) d_Row_nextEntity_202 (by decide) ?_
        refine ab_goto (tgt := 207) d_Row_nextEntity_203 (by decide) ?_
        refine ab_le (lv' := [some (.ref p0), some (.int p1), some (.int p2), some (.int l3), some (.int l4), some (.int l5), some (.int l6), some (.int l7), none, none, none, none, none, none]) ⟨rfl, ⟨rfl, ⟨rfl, ⟨rfl, ⟨rfl, ⟨rfl, ⟨rfl, ⟨rfl, trivial⟩⟩⟩⟩⟩⟩⟩⟩ ?_
        exact kB_Row_nextEntity_207 hm54 hk54 hG
def B_Row_nextEntity_92 (N : Nat) (p0 : Nat) (p1 : Int32) (p2 : Int32) (kq54 : Int32 → Int32 → Int32 → Int32 → Int32 → Hp → Option (Unit × Hp)) (l3 : Int32) (l4 : Int32) (l5 : Int32) (l6 : Int32) (l7 : Int32) (H : Hp) : Option (Unit × Hp) :=
    B_Row_nextEntity_93 N p0 p1 p2 kq54 l3 l4 l5 l6 l7 0 H
set_option maxRecDepth 20000 in
set_option maxHeartbeats 2000000 in
theorem mB_Row_nextEntity_92 {N : Nat} {p0 : Nat} {p1 : Int32} {p2 : Int32} {kq54 : Int32 → Int32 → Int32 → Int32 → Int32 → Hp → Option (Unit × Hp)} (hm54 : ∀ (l3 : Int32) (l4 : Int32) (l5 : Int32) (l6 : Int32) (l7 : Int32) (H : Hp) (r : Unit × Hp), kq54 l3 l4 l5 l6 l7 H = some r → Sa H r.2) {l3 : Int32} {l4 : Int32} {l5 : Int32} {l6 : Int32} {l7 : Int32} {H : Hp} {r : Unit × Hp} (hF : B_Row_nextEntity_92 N p0 p1 p2 kq54 l3 l4 l5 l6 l7 H = some r) : Sa H r.2 := by
  unfold B_Row_nextEntity_92 at hF
  have hm := Sa.rf H
  exact hm.tr (mB_Row_nextEntity_93 hm54 hF)
set_option maxRecDepth 20000 in
set_option maxHeartbeats 2000000 in
theorem kB_Row_nextEntity_92 {N : Nat} {p0 : Nat} {p1 : Int32} {p2 : Int32} {kq54 : Int32 → Int32 → Int32 → Int32 → Int32 → Hp → Option (Unit × Hp)} (hm54 : ∀ (l3 : Int32) (l4 : Int32) (l5 : Int32) (l6 : Int32) (l7 : Int32) (H : Hp) (r : Unit × Hp), kq54 l3 l4 l5 l6 l7 H = some r → Sa H r.2) (hk54 : ∀ (l3 : Int32) (l4 : Int32) (l5 : Int32) (l6 : Int32) (l7 : Int32) (H : Hp) (r : Unit × Hp), kq54 l3 l4 l5 l6 l7 H = some r → ab_V y_Row_nextEntity { frames := 1, cells := 0, slots := 0, locals := 23 } (po (.returned none) r.2) 0 0 0 0 54 [some (.ref p0), some (.int p1), some (.int p2), some (.int l3), some (.int l4), some (.int l5), some (.int l6), some (.int l7), none, none, none, none, none, none] [] (hpw H)) {l3 : Int32} {l4 : Int32} {l5 : Int32} {l6 : Int32} {l7 : Int32} {H : Hp} {r : Unit × Hp} (hF : B_Row_nextEntity_92 N p0 p1 p2 kq54 l3 l4 l5 l6 l7 H = some r) : ab_V y_Row_nextEntity { frames := 1, cells := 0, slots := 0, locals := 23 } (po (.returned none) r.2) 0 0 0 0 92 [some (.ref p0), some (.int p1), some (.int p2), some (.int l3), some (.int l4), some (.int l5), some (.int l6), some (.int l7), none, none, none, none, none, none] [] (hpw H) := by
  unfold B_Row_nextEntity_92 at hF
  refine ab_iconst (v := 0) d_Row_nextEntity_92 (by decide) ?_
  exact kB_Row_nextEntity_93 hm54 hk54 hF
def B_Row_nextEntity_54 (N : Nat) (p0 : Nat) (p1 : Int32) (p2 : Int32) : Nat → Int32 → Int32 → Int32 → Int32 → Int32 → Hp → Option (Unit × Hp)
  | 0, _, _, _, _, _, _ => none
  | n + 1, l3, l4, l5, l6, l7, H =>
    ck (H.sh[p0]? = some (8, 0)) <|
    rf (H.P p0 3) fun a37 =>
    ck (H.sh[a37]? = some (7, 0)) <|
    bnd ((H.D a37 9)) fun x40 =>
    if x40 ≤ l7 then
    bnd (H.sD p0 12 l5) fun H42 =>
    some ((), H42)
    else
    bnd ((H.D p0 18)) fun x43 =>
    if l7 = x43 then
    B_Row_nextEntity_92 N p0 p1 p2 (fun l3 l4 l5 l6 l7 H => B_Row_nextEntity_54 N p0 p1 p2 n l3 l4 l5 l6 l7 H) l3 l4 l5 l6 l7 H
    else
    rf (H.P p0 3) fun a211 =>
    ck (H.sh[a211]? = some (7, 0)) <|
    bC (F_World_owns N a211 l7 l3 H) fun v215 H216 =>
    if v215 = (0 : Int32) then
    B_Row_nextEntity_92 N p0 p1 p2 (fun l3 l4 l5 l6 l7 H => B_Row_nextEntity_54 N p0 p1 p2 n l3 l4 l5 l6 l7 H) l3 l4 l5 l6 l7 H216
    else
    B_Row_nextEntity_93 N p0 p1 p2 (fun l3 l4 l5 l6 l7 H => B_Row_nextEntity_54 N p0 p1 p2 n l3 l4 l5 l6 l7 H) l3 l4 l5 l6 l7 1 H216
termination_by structural n => n
set_option maxRecDepth 20000 in
set_option maxHeartbeats 2000000 in
theorem mB_Row_nextEntity_54 {N : Nat} {p0 : Nat} {p1 : Int32} {p2 : Int32} : ∀ (n : Nat) (l3 : Int32) (l4 : Int32) (l5 : Int32) (l6 : Int32) (l7 : Int32) (H : Hp) (r : Unit × Hp), B_Row_nextEntity_54 N p0 p1 p2 n l3 l4 l5 l6 l7 H = some r → Sa H r.2 := by
  intro n
  induction n with
  | zero => intro l3 l4 l5 l6 l7 H r hF; rw [B_Row_nextEntity_54] at hF; cases hF
  | succ n ih =>
    intro l3 l4 l5 l6 l7 H r hF
    rw [B_Row_nextEntity_54] at hF
    have hm := Sa.rf H
    obtain ⟨q218, hG⟩ := ck_s hF; clear hF
    obtain ⟨a219, e220, hF⟩ := rf_s hG; clear hG
    obtain ⟨q221, hG⟩ := ck_s hF; clear hF
    obtain ⟨x222, -, hF⟩ := bnd_g hG; clear hG
    rcases ite_s hF with ⟨q_22, hG⟩ | ⟨q_22, hG⟩
    · clear hF
      obtain ⟨H224, eH224, hF⟩ := bnd_g hG; clear hG
      replace hm : Sa H H224 := by rw [eH224]; exact hm
      have hr := Option.some.inj hF; subst hr
      exact hm
    · clear hF
      obtain ⟨x225, -, hF⟩ := bnd_g hG; clear hG
      rcases ite_s hF with ⟨q_24, hG⟩ | ⟨q_24, hG⟩
      · clear hF
        exact hm.tr (mB_Row_nextEntity_92 ih hG)
      · clear hF
        obtain ⟨a227, e228, hF⟩ := rf_s hG; clear hG
        obtain ⟨q229, hG⟩ := ck_s hF; clear hF
        obtain ⟨v231, H232, z230, hF⟩ := bC_s hG; clear hG
        replace hm : Sa H H232 := hm.tr (m_World_owns z230)
        rcases ite_s hF with ⟨q_26, hG⟩ | ⟨q_26, hG⟩
        · clear hF
          exact hm.tr (mB_Row_nextEntity_92 ih hG)
        · clear hF
          exact hm.tr (mB_Row_nextEntity_93 ih hG)
set_option maxRecDepth 20000 in
set_option maxHeartbeats 2000000 in
theorem kB_Row_nextEntity_54 {N : Nat} {p0 : Nat} {p1 : Int32} {p2 : Int32} : ∀ (n : Nat) (l3 : Int32) (l4 : Int32) (l5 : Int32) (l6 : Int32) (l7 : Int32) (H : Hp) (r : Unit × Hp), B_Row_nextEntity_54 N p0 p1 p2 n l3 l4 l5 l6 l7 H = some r → ab_V y_Row_nextEntity { frames := 1, cells := 0, slots := 0, locals := 23 } (po (.returned none) r.2) 0 0 0 0 54 [some (.ref p0), some (.int p1), some (.int p2), some (.int l3), some (.int l4), some (.int l5), some (.int l6), some (.int l7), none, none, none, none, none, none] [] (hpw H) := by
  intro n
  induction n with
  | zero => intro l3 l4 l5 l6 l7 H r hF; rw [B_Row_nextEntity_54] at hF; cases hF
  | succ n ih =>
    intro l3 l4 l5 l6 l7 H r hF
    rw [B_Row_nextEntity_54] at hF
    refine ab_iload d_Row_nextEntity_54 rfl ?_
    refine ab_aload_n d_Row_nextEntity_56 rfl rfl rfl ?_
    obtain ⟨q36, hG⟩ := ck_s hF; clear hF
    obtain ⟨a37, e38, hF⟩ := rf_s hG; clear hG
    refine hp_getR (f := 3) d_Row_nextEntity_57 q36 (by decide) rfl (by decide) (k2 65 rfl rfl) rfl e38 ?_
    obtain ⟨q39, hG⟩ := ck_s hF; clear hF
    refine hp_getI (f := 9) d_Row_nextEntity_60 q39 (by decide) rfl (by decide) (k1 233 rfl rfl) rfl ?_
    refine ab_topi (fun x40 ex40 => ?_)
    replace hG := bnd_s ex40 hG
    refine ab_icmp_ge (tgt := 245) d_Row_nextEntity_63 (by decide) (fun q41 => ?_) (fun q41 => ?_)
    · rw [if_pos q41] at hG
      refine ab_aload_n d_Row_nextEntity_245 rfl rfl rfl ?_
      refine ab_iload d_Row_nextEntity_246 rfl ?_
      refine hp_putI (v := l5) (f := 12) d_Row_nextEntity_248 q36 (by decide) rfl (by decide) (k2 74 rfl rfl) rfl rfl (fun _ => rfl) (fun _ => rfl) rfl ?_
      refine hp_gen (fun H42 eH42 => ?_)
      replace hG := bnd_s eH42 hG
      have s_4 : Sa H H42 := by rw [eH42]; exact Sa.rf _
      exact ab_vret d_Row_nextEntity_251 rfl (Nat.le_refl _) (Nat.le_refl _) (by have hr := Option.some.inj hG; subst hr; exact ⟨rfl, rfl⟩)
    · rw [if_neg q41] at hG
      refine ab_iload d_Row_nextEntity_66 rfl ?_
      refine ab_aload_n d_Row_nextEntity_68 rfl rfl rfl ?_
      refine hp_getI (f := 18) d_Row_nextEntity_69 q36 (by decide) rfl (by decide) (k2 80 rfl rfl) rfl ?_
      refine ab_topi (fun x43 ex43 => ?_)
      replace hG := bnd_s ex43 hG
      refine ab_icmp_eq (tgt := 92) d_Row_nextEntity_72 (by decide) (fun q44 => ?_) (fun q44 => ?_)
      · rw [if_pos q44] at hG
        exact kB_Row_nextEntity_92 (mB_Row_nextEntity_54 n) ih hG
      · rw [if_neg q44] at hG
        refine ab_aload_n d_Row_nextEntity_75 rfl rfl rfl ?_
        obtain ⟨a211, e212, hF⟩ := rf_s hG; clear hG
        refine hp_getR (f := 3) d_Row_nextEntity_76 q36 (by decide) rfl (by decide) (k2 65 rfl rfl) rfl e212 ?_
        refine ab_iload d_Row_nextEntity_79 rfl ?_
        refine ab_iload_n d_Row_nextEntity_81 rfl rfl ?_
        obtain ⟨q213, hG⟩ := ck_s hF; clear hF
        obtain ⟨v215, H216, z214, hF⟩ := bC_s hG; clear hG
        refine hp_callV_a (v := .int v215) (H1 := H216) (As := [.int l7, .int l3]) (rest := []) d_Row_nextEntity_82 (k_World_owns z214) (ab_mkC s_World_owns (Nat.le_of_ble_eq_true rfl) (Nat.le_of_ble_eq_true rfl) (Nat.le_refl 0) (Nat.le_refl 0)) (k6 226 rfl rfl) i_World_owns v_World_owns q213 (by decide) rfl rfl (Nat.le_of_ble_eq_true rfl) ?_
        have s_21 : Sa H H216 := (m_World_owns z214)
        refine ab_if_eq (tgt := 92) d_Row_nextEntity_85 (by decide) (fun q217 => ?_) (fun q217 => ?_)
        · rw [if_pos q217] at hF
          exact kB_Row_nextEntity_92 (mB_Row_nextEntity_54 n) ih hF
        · rw [if_neg q217] at hF
          refine ab_iconst (v := 1) d_Row_nextEntity_88 (by decide) ?_
          refine ab_goto (tgt := 93) d_Row_nextEntity_89 (by decide) ?_
          exact kB_Row_nextEntity_93 (mB_Row_nextEntity_54 n) ih hF
def F_Row_nextEntity (N : Nat) (p0 : Nat) (p1 : Int32) (p2 : Int32) (H : Hp) : Option (Unit × Hp) :=
    ck (H.sh[p0]? = some (8, 0)) <|
    bC (F_Row_nextCode N p0 H) fun v3 H4 =>
    bC (F_Row_nextCode N p0 H4) fun v6 H7 =>
    bC (F_Row_nextCode N p0 H7) fun v9 H10 =>
    bnd ((H10.D p0 18)) fun x11 =>
    rf (H10.P p0 3) fun a12 =>
    ck (H10.sh[a12]? = some (7, 0)) <|
    bnd ((H10.D a12 10)) fun x15 =>
    rf (H10.P p0 2) fun a16 =>
    ck (H10.sh[a16]? = some (4, 0)) <|
    rf (H10.P a16 2) fun a19 =>
    ck (H10.sh[a19]? = some (3, 0)) <|
    rf (H10.P a19 2) fun a22 =>
    ar H10 100 a22 fun n24 =>
    ck (inb v3 n24) <|
    bnd ((H10.D a22 (v3).toNatClampNeg)) fun x27 =>
    bnd (((x11 * x15) + x27)) fun x28 =>
    rf (H10.P p0 8) fun a29 =>
    ar H10 100 a29 fun n31 =>
    ck (inb p1 n31) <|
    bnd ((H10.D a29 (p1).toNatClampNeg)) fun x34 =>
    bnd ((x34 + (1 : Int32))) fun x35 =>
    B_Row_nextEntity_54 N p0 p1 p2 N v3 v6 v9 x28 x35 H10
set_option maxRecDepth 20000 in
set_option maxHeartbeats 2000000 in
theorem m_Row_nextEntity {N : Nat} {p0 : Nat} {p1 : Int32} {p2 : Int32} {H : Hp} {r : Unit × Hp} (hF : F_Row_nextEntity N p0 p1 p2 H = some r) : Sa H r.2 := by
  unfold F_Row_nextEntity at hF
  have hm := Sa.rf H
  obtain ⟨q234, hG⟩ := ck_s hF; clear hF
  obtain ⟨v236, H237, z235, hF⟩ := bC_s hG; clear hG
  replace hm : Sa H H237 := hm.tr (m_Row_nextCode z235)
  obtain ⟨v239, H240, z238, hG⟩ := bC_s hF; clear hF
  replace hm : Sa H H240 := hm.tr (m_Row_nextCode z238)
  obtain ⟨v242, H243, z241, hF⟩ := bC_s hG; clear hG
  replace hm : Sa H H243 := hm.tr (m_Row_nextCode z241)
  obtain ⟨x244, -, hG⟩ := bnd_g hF; clear hF
  obtain ⟨a245, e246, hF⟩ := rf_s hG; clear hG
  obtain ⟨q247, hG⟩ := ck_s hF; clear hF
  obtain ⟨x248, -, hF⟩ := bnd_g hG; clear hG
  obtain ⟨a249, e250, hG⟩ := rf_s hF; clear hF
  obtain ⟨q251, hF⟩ := ck_s hG; clear hG
  obtain ⟨a252, e253, hG⟩ := rf_s hF; clear hF
  obtain ⟨q254, hF⟩ := ck_s hG; clear hG
  obtain ⟨a255, e256, hG⟩ := rf_s hF; clear hF
  obtain ⟨n257, q258, hF⟩ := ar_s hG; clear hG
  obtain ⟨q259, hG⟩ := ck_s hF; clear hF
  obtain ⟨x260, -, hF⟩ := bnd_g hG; clear hG
  obtain ⟨x261, -, hG⟩ := bnd_g hF; clear hF
  obtain ⟨a262, e263, hF⟩ := rf_s hG; clear hG
  obtain ⟨n264, q265, hG⟩ := ar_s hF; clear hF
  obtain ⟨q266, hF⟩ := ck_s hG; clear hG
  obtain ⟨x267, -, hG⟩ := bnd_g hF; clear hF
  obtain ⟨x268, -, hF⟩ := bnd_g hG; clear hG
  exact hm.tr (mB_Row_nextEntity_54 N v236 v239 v242 x261 x268 H243 r hF)
set_option maxRecDepth 20000 in
set_option maxHeartbeats 2000000 in
theorem k_Row_nextEntity {N : Nat} {p0 : Nat} {p1 : Int32} {p2 : Int32} {H : Hp} {r : Unit × Hp} (hF : F_Row_nextEntity N p0 p1 p2 H = some r) : ab_M y_Row_nextEntity { frames := 1, cells := 0, slots := 0, locals := 23 } [.ref p0, .int p1, .int p2] (hpw H) (po (.returned none) r.2) := by
  unfold F_Row_nextEntity at hF
  refine ab_of2 (lv := [some (.ref p0), some (.int p1), some (.int p2), none, none, none, none, none, none, none, none, none, none, none]) 11 rfl rfl (Nat.le_of_ble_eq_true rfl) ?_
  refine ab_aload_n d_Row_nextEntity_0 rfl rfl rfl ?_
  obtain ⟨q1, hG⟩ := ck_s hF; clear hF
  obtain ⟨v3, H4, z2, hF⟩ := bC_s hG; clear hG
  refine hp_callV_a (v := .int v3) (H1 := H4) (As := []) (rest := []) d_Row_nextEntity_1 (k_Row_nextCode z2) (ab_mkC s_Row_nextCode (Nat.le_of_ble_eq_true rfl) (Nat.le_of_ble_eq_true rfl) (Nat.le_refl 0) (Nat.le_refl 0)) (k6 205 rfl rfl) i_Row_nextCode v_Row_nextCode q1 (by decide) rfl rfl (Nat.le_of_ble_eq_true rfl) ?_
  have s_1 : Sa H H4 := (m_Row_nextCode z2)
  refine ab_istore_n (lv' := [some (.ref p0), some (.int p1), some (.int p2), some (.int v3), none, none, none, none, none, none, none, none, none, none]) d_Row_nextEntity_4 rfl (by decide) rfl ?_
  refine ab_aload_n d_Row_nextEntity_5 rfl rfl rfl ?_
  obtain ⟨v6, H7, z5, hG⟩ := bC_s hF; clear hF
  refine hp_callV_a (v := .int v6) (H1 := H7) (As := []) (rest := []) d_Row_nextEntity_6 (k_Row_nextCode z5) (ab_mkC s_Row_nextCode (Nat.le_of_ble_eq_true rfl) (Nat.le_of_ble_eq_true rfl) (Nat.le_refl 0) (Nat.le_refl 0)) (k6 205 rfl rfl) i_Row_nextCode v_Row_nextCode (by rw [(s_1).1]; exact q1) (by decide) rfl rfl (Nat.le_of_ble_eq_true rfl) ?_
  have s_2 : Sa H H7 := (s_1).tr (m_Row_nextCode z5)
  refine ab_istore (lv' := [some (.ref p0), some (.int p1), some (.int p2), some (.int v3), some (.int v6), none, none, none, none, none, none, none, none, none]) d_Row_nextEntity_9 (by decide) rfl ?_
  refine ab_aload_n d_Row_nextEntity_11 rfl rfl rfl ?_
  obtain ⟨v9, H10, z8, hF⟩ := bC_s hG; clear hG
  refine hp_callV_a (v := .int v9) (H1 := H10) (As := []) (rest := []) d_Row_nextEntity_12 (k_Row_nextCode z8) (ab_mkC s_Row_nextCode (Nat.le_of_ble_eq_true rfl) (Nat.le_of_ble_eq_true rfl) (Nat.le_refl 0) (Nat.le_refl 0)) (k6 205 rfl rfl) i_Row_nextCode v_Row_nextCode (by rw [(s_2).1]; exact q1) (by decide) rfl rfl (Nat.le_of_ble_eq_true rfl) ?_
  have s_3 : Sa H H10 := (s_2).tr (m_Row_nextCode z8)
  refine ab_istore (lv' := [some (.ref p0), some (.int p1), some (.int p2), some (.int v3), some (.int v6), some (.int v9), none, none, none, none, none, none, none, none]) d_Row_nextEntity_15 (by decide) rfl ?_
  refine ab_aload_n d_Row_nextEntity_17 rfl rfl rfl ?_
  refine hp_getI (f := 18) d_Row_nextEntity_18 (by rw [(s_3).1]; exact q1) (by decide) rfl (by decide) (k2 80 rfl rfl) rfl ?_
  refine ab_topi (fun x11 ex11 => ?_)
  replace hF := bnd_s ex11 hF
  refine ab_aload_n d_Row_nextEntity_21 rfl rfl rfl ?_
  obtain ⟨a12, e13, hG⟩ := rf_s hF; clear hF
  refine hp_getR (f := 3) d_Row_nextEntity_22 (by rw [(s_3).1]; exact q1) (by decide) rfl (by decide) (k2 65 rfl rfl) rfl e13 ?_
  obtain ⟨q14, hF⟩ := ck_s hG; clear hG
  rw [(s_3).1] at q14
  refine hp_getI (f := 10) d_Row_nextEntity_25 (by rw [(s_3).1]; exact q14) (by decide) rfl (by decide) (k1 235 rfl rfl) rfl ?_
  refine ab_topi (fun x15 ex15 => ?_)
  replace hF := bnd_s ex15 hF
  refine ab_imul d_Row_nextEntity_28 ?_
  refine ab_aload_n d_Row_nextEntity_29 rfl rfl rfl ?_
  obtain ⟨a16, e17, hG⟩ := rf_s hF; clear hF
  refine hp_getR (f := 2) d_Row_nextEntity_30 (by rw [(s_3).1]; exact q1) (by decide) rfl (by decide) (k2 64 rfl rfl) rfl e17 ?_
  obtain ⟨q18, hF⟩ := ck_s hG; clear hG
  rw [(s_3).1] at q18
  obtain ⟨a19, e20, hG⟩ := rf_s hF; clear hF
  refine hp_getR (f := 2) d_Row_nextEntity_33 (by rw [(s_3).1]; exact q18) (by decide) rfl (by decide) (k3 59 rfl rfl) rfl e20 ?_
  obtain ⟨q21, hF⟩ := ck_s hG; clear hG
  rw [(s_3).1] at q21
  obtain ⟨a22, e23, hG⟩ := rf_s hF; clear hF
  refine hp_getR (f := 2) d_Row_nextEntity_36 (by rw [(s_3).1]; exact q21) (by decide) rfl (by decide) (k3 34 rfl rfl) rfl e23 ?_
  refine ab_iload_n d_Row_nextEntity_39 rfl rfl ?_
  obtain ⟨n24, q25, hF⟩ := ar_s hG; clear hG
  rw [(s_3).1] at q25
  obtain ⟨q26, hG⟩ := ck_s hF; clear hF
  refine hp_iald d_Row_nextEntity_40 tI (by rw [(s_3).1]; exact q25) q26 ?_
  refine ab_topi (fun x27 ex27 => ?_)
  replace hG := bnd_s ex27 hG
  refine ab_iadd d_Row_nextEntity_41 ?_
  refine ab_topi (fun x28 ex28 => ?_)
  replace hG := bnd_s ex28 hG
  refine ab_istore (lv' := [some (.ref p0), some (.int p1), some (.int p2), some (.int v3), some (.int v6), some (.int v9), some (.int x28), none, none, none, none, none, none, none]) d_Row_nextEntity_42 (by decide) rfl ?_
  refine ab_aload_n d_Row_nextEntity_44 rfl rfl rfl ?_
  obtain ⟨a29, e30, hF⟩ := rf_s hG; clear hG
  refine hp_getR (f := 8) d_Row_nextEntity_45 (by rw [(s_3).1]; exact q1) (by decide) rfl (by decide) (k2 70 rfl rfl) rfl e30 ?_
  refine ab_iload_n d_Row_nextEntity_48 rfl rfl ?_
  obtain ⟨n31, q32, hG⟩ := ar_s hF; clear hF
  rw [(s_3).1] at q32
  obtain ⟨q33, hF⟩ := ck_s hG; clear hG
  refine hp_iald d_Row_nextEntity_49 tI (by rw [(s_3).1]; exact q32) q33 ?_
  refine ab_topi (fun x34 ex34 => ?_)
  replace hF := bnd_s ex34 hF
  refine ab_iconst (v := 1) d_Row_nextEntity_50 (by decide) ?_
  refine ab_iadd d_Row_nextEntity_51 ?_
  refine ab_topi (fun x35 ex35 => ?_)
  replace hF := bnd_s ex35 hF
  refine ab_istore (lv' := [some (.ref p0), some (.int p1), some (.int p2), some (.int v3), some (.int v6), some (.int v9), some (.int x28), some (.int x35), none, none, none, none, none, none]) d_Row_nextEntity_52 (by decide) rfl ?_
  exact kB_Row_nextEntity_54 N v3 v6 v9 x28 x35 H10 r hF
