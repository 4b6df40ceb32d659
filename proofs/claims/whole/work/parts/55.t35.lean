def y_Play_place : ab_Y := (⟨"WorldEngine$Play", "place", "(IZ)Z"⟩, prog_5_method_9_code, 4, (some FieldType.boolean), [])
theorem d_Play_place_0 : decode y_Play_place.2.1 0 = .ok (.iload_n 1, 1) := by decide +kernel
theorem d_Play_place_1 : decode y_Play_place.2.1 1 = .ok (.ifCond .lt 28, 3) := by decide +kernel
theorem d_Play_place_4 : decode y_Play_place.2.1 4 = .ok (.iload_n 1, 1) := by decide +kernel
theorem d_Play_place_5 : decode y_Play_place.2.1 5 = .ok (.iconst 4, 1) := by decide +kernel
theorem d_Play_place_6 : decode y_Play_place.2.1 6 = .ok (.if_icmp .ge 23, 3) := by decide +kernel
theorem d_Play_place_9 : decode y_Play_place.2.1 9 = .ok (.aload_n 0, 1) := by decide +kernel
theorem d_Play_place_10 : decode y_Play_place.2.1 10 = .ok (.getfield 20, 3) := by decide +kernel
theorem d_Play_place_13 : decode y_Play_place.2.1 13 = .ok (.iload_n 1, 1) := by decide +kernel
theorem d_Play_place_14 : decode y_Play_place.2.1 14 = .ok (.ishr, 1) := by decide +kernel
theorem d_Play_place_15 : decode y_Play_place.2.1 15 = .ok (.iconst 1, 1) := by decide +kernel
theorem d_Play_place_16 : decode y_Play_place.2.1 16 = .ok (.iand, 1) := by decide +kernel
theorem d_Play_place_17 : decode y_Play_place.2.1 17 = .ok (.iload_n 2, 1) := by decide +kernel
theorem d_Play_place_18 : decode y_Play_place.2.1 18 = .ok (.ifCond .eq 7, 3) := by decide +kernel
theorem d_Play_place_21 : decode y_Play_place.2.1 21 = .ok (.iconst 1, 1) := by decide +kernel
theorem d_Play_place_22 : decode y_Play_place.2.1 22 = .ok (.goto 4, 3) := by decide +kernel
theorem d_Play_place_25 : decode y_Play_place.2.1 25 = .ok (.iconst 0, 1) := by decide +kernel
theorem d_Play_place_26 : decode y_Play_place.2.1 26 = .ok (.if_icmp .ne 5, 3) := by decide +kernel
theorem d_Play_place_29 : decode y_Play_place.2.1 29 = .ok (.iconst 0, 1) := by decide +kernel
theorem d_Play_place_30 : decode y_Play_place.2.1 30 = .ok (.ireturn, 1) := by decide +kernel
theorem d_Play_place_31 : decode y_Play_place.2.1 31 = .ok (.aload_n 0, 1) := by decide +kernel
theorem d_Play_place_32 : decode y_Play_place.2.1 32 = .ok (.dup, 1) := by decide +kernel
theorem d_Play_place_33 : decode y_Play_place.2.1 33 = .ok (.getfield 20, 3) := by decide +kernel
theorem d_Play_place_36 : decode y_Play_place.2.1 36 = .ok (.iconst 1, 1) := by decide +kernel
theorem d_Play_place_37 : decode y_Play_place.2.1 37 = .ok (.iload_n 1, 1) := by decide +kernel
theorem d_Play_place_38 : decode y_Play_place.2.1 38 = .ok (.ishl, 1) := by decide +kernel
theorem d_Play_place_39 : decode y_Play_place.2.1 39 = .ok (.ixor, 1) := by decide +kernel
theorem d_Play_place_40 : decode y_Play_place.2.1 40 = .ok (.putfield 20, 3) := by decide +kernel
theorem d_Play_place_43 : decode y_Play_place.2.1 43 = .ok (.iconst 1, 1) := by decide +kernel
theorem d_Play_place_44 : decode y_Play_place.2.1 44 = .ok (.istore_n 3, 1) := by decide +kernel
theorem d_Play_place_45 : decode y_Play_place.2.1 45 = .ok (.iload_n 3, 1) := by decide +kernel
theorem d_Play_place_46 : decode y_Play_place.2.1 46 = .ok (.bipush 16, 2) := by decide +kernel
theorem d_Play_place_48 : decode y_Play_place.2.1 48 = .ok (.if_icmp .gt 32, 3) := by decide +kernel
theorem d_Play_place_51 : decode y_Play_place.2.1 51 = .ok (.iload_n 2, 1) := by decide +kernel
theorem d_Play_place_52 : decode y_Play_place.2.1 52 = .ok (.ifCond .ne 28, 3) := by decide +kernel
theorem d_Play_place_55 : decode y_Play_place.2.1 55 = .ok (.aload_n 0, 1) := by decide +kernel
theorem d_Play_place_56 : decode y_Play_place.2.1 56 = .ok (.getfield 35, 3) := by decide +kernel
theorem d_Play_place_59 : decode y_Play_place.2.1 59 = .ok (.iload_n 1, 1) := by decide +kernel
theorem d_Play_place_60 : decode y_Play_place.2.1 60 = .ok (.aload_n 0, 1) := by decide +kernel
theorem d_Play_place_61 : decode y_Play_place.2.1 61 = .ok (.getfield 10, 3) := by decide +kernel
theorem d_Play_place_64 : decode y_Play_place.2.1 64 = .ok (.getfield 54, 3) := by decide +kernel
theorem d_Play_place_67 : decode y_Play_place.2.1 67 = .ok (.iload_n 3, 1) := by decide +kernel
theorem d_Play_place_68 : decode y_Play_place.2.1 68 = .ok (.iadd, 1) := by decide +kernel
theorem d_Play_place_69 : decode y_Play_place.2.1 69 = .ok (.invokestatic 91, 3) := by decide +kernel
theorem d_Play_place_72 : decode y_Play_place.2.1 72 = .ok (.iconst 0, 1) := by decide +kernel
theorem d_Play_place_73 : decode y_Play_place.2.1 73 = .ok (.bastore, 1) := by decide +kernel
theorem d_Play_place_74 : decode y_Play_place.2.1 74 = .ok (.iinc 3 1, 3) := by decide +kernel
theorem d_Play_place_77 : decode y_Play_place.2.1 77 = .ok (.goto (-32), 3) := by decide +kernel
theorem d_Play_place_80 : decode y_Play_place.2.1 80 = .ok (.iconst 1, 1) := by decide +kernel
theorem d_Play_place_81 : decode y_Play_place.2.1 81 = .ok (.ireturn, 1) := by decide +kernel
theorem s_Play_place : ab_Stat y_Play_place 2 := ⟨(k7 166 rfl rfl), (k1 9 rfl rfl), ⟨by decide, by decide⟩, by decide +kernel⟩
theorem i_Play_place : Cond.instanceMethod y_Play_place.1 ∈ ab_T := (k7 164 rfl rfl)
theorem v_Play_place : Cond.selects "WorldEngine$Play" y_Play_place.1 y_Play_place.1 ∈ ab_T := (k7 165 rfl rfl)
def B_Play_place_45 (N : Nat) (p0 : Nat) (p1 : Int32) (p2 : Int32) : Nat → Int32 → Hp → Option (Int32 × Hp)
  | 0, _, _ => none
  | n + 1, l3, H =>
    if (16 : Int32) < l3 then
    some (1, H)
    else
    if p2 = (0 : Int32) then
    ck (H.sh[p0]? = some (10, 0)) <|
    rf (H.P p0 8) fun a13 =>
    rf (H.P p0 0) fun a15 =>
    ck (H.sh[a15]? = some (7, 0)) <|
    bnd ((H.D a15 0)) fun x18 =>
    bC (F_Play_slot N p1 (x18 + l3) H) fun v20 H21 =>
    ar H21 102 a13 fun n22 =>
    ck (inb v20 n22) <|
    bnd (H21.sD a13 (v20).toNatClampNeg (vp_nar .boolean (0 : Int32))) fun H25 =>
    B_Play_place_45 N p0 p1 p2 n (l3 + 1) H25
    else
    some (1, H)
termination_by structural n => n
set_option maxRecDepth 20000 in
set_option maxHeartbeats 2000000 in
theorem mB_Play_place_45 {N : Nat} {p0 : Nat} {p1 : Int32} {p2 : Int32} : ∀ (n : Nat) (l3 : Int32) (H : Hp) (r : Int32 × Hp), B_Play_place_45 N p0 p1 p2 n l3 H = some r → Sa H r.2 := by
  intro n
  induction n with
  | zero => intro l3 H r hF; rw [B_Play_place_45] at hF; cases hF
  | succ n ih =>
    intro l3 H r hF
    rw [B_Play_place_45] at hF
    have hm := Sa.rf H
    rcases ite_s hF with ⟨q_4, hG⟩ | ⟨q_4, hG⟩
    · clear hF
      have hr := Option.some.inj hG; subst hr
      exact hm
    · clear hF
      rcases ite_s hG with ⟨q_5, hF⟩ | ⟨q_5, hF⟩
      · clear hG
        obtain ⟨q28, hG⟩ := ck_s hF; clear hF
        obtain ⟨a29, e30, hF⟩ := rf_s hG; clear hG
        obtain ⟨a31, e32, hG⟩ := rf_s hF; clear hF
        obtain ⟨q33, hF⟩ := ck_s hG; clear hG
        obtain ⟨x34, -, hG⟩ := bnd_g hF; clear hF
        obtain ⟨v36, H37, z35, hF⟩ := bC_s hG; clear hG
        replace hm : Sa H H37 := hm.tr (m_Play_slot z35)
        obtain ⟨n38, q39, hG⟩ := ar_s hF; clear hF
        obtain ⟨q40, hF⟩ := ck_s hG; clear hG
        obtain ⟨H41, eH41, hG⟩ := bnd_g hF; clear hF
        replace hm : Sa H H41 := by rw [eH41]; exact hm
        exact hm.tr (ih (l3 + 1) H41 r hG)
      · clear hG
        have hr := Option.some.inj hF; subst hr
        exact hm
set_option maxRecDepth 20000 in
set_option maxHeartbeats 2000000 in
theorem kB_Play_place_45 {N : Nat} {p0 : Nat} {p1 : Int32} {p2 : Int32} : ∀ (n : Nat) (l3 : Int32) (H : Hp) (r : Int32 × Hp), B_Play_place_45 N p0 p1 p2 n l3 H = some r → ab_V y_Play_place { frames := 1, cells := 0, slots := 0, locals := 21 } (po (.returned (some (.int r.1))) r.2) 0 0 0 0 45 [some (.ref p0), some (.int p1), some (.int p2), some (.int l3)] [] (hpw H) := by
  intro n
  induction n with
  | zero => intro l3 H r hF; rw [B_Play_place_45] at hF; cases hF
  | succ n ih =>
    intro l3 H r hF
    rw [B_Play_place_45] at hF
    refine ab_iload_n d_Play_place_45 rfl rfl ?_
    refine ab_bipush (v := 16) d_Play_place_46 (by decide) ?_
    refine ab_icmp_gt (tgt := 80) d_Play_place_48 (by decide) (fun q10 => ?_) (fun q10 => ?_)
    · rw [if_pos q10] at hF
      refine ab_iconst (v := 1) d_Play_place_80 (by decide) ?_
      exact ab_zret d_Play_place_81 rfl rfl (Nat.le_refl _) (Nat.le_refl _) (by have hr := Option.some.inj hF; subst hr; exact ⟨rfl, rfl⟩)
    · rw [if_neg q10] at hF
      refine ab_iload_n d_Play_place_51 rfl rfl ?_
      refine ab_if_ne (tgt := 80) d_Play_place_52 (by decide) (fun q11 => ?_) (fun q11 => ?_)
      · rw [if_neg q11] at hF
        refine ab_iconst (v := 1) d_Play_place_80 (by decide) ?_
        exact ab_zret d_Play_place_81 rfl rfl (Nat.le_refl _) (Nat.le_refl _) (by have hr := Option.some.inj hF; subst hr; exact ⟨rfl, rfl⟩)
      · rw [if_pos q11] at hF
        refine ab_aload_n d_Play_place_55 rfl rfl rfl ?_
        obtain ⟨q12, hG⟩ := ck_s hF; clear hF
        obtain ⟨a13, e14, hF⟩ := rf_s hG; clear hG
        refine hp_getR (f := 8) d_Play_place_56 q12 (by decide) rfl (by decide) (k2 144 rfl rfl) rfl e14 ?_
        refine ab_iload_n d_Play_place_59 rfl rfl ?_
        refine ab_aload_n d_Play_place_60 rfl rfl rfl ?_
        obtain ⟨a15, e16, hG⟩ := rf_s hF; clear hF
        refine hp_getR (f := 0) d_Play_place_61 q12 (by decide) rfl (by decide) (k2 130 rfl rfl) rfl e16 ?_
        obtain ⟨q17, hF⟩ := ck_s hG; clear hG
        refine hp_getI (f := 0) d_Play_place_64 q17 (by decide) rfl (by decide) (k1 205 rfl rfl) rfl ?_
        refine ab_topi (fun x18 ex18 => ?_)
        replace hF := bnd_s ex18 hF
        refine ab_iload_n d_Play_place_67 rfl rfl ?_
        refine ab_iadd d_Play_place_68 ?_
        obtain ⟨v20, H21, z19, hG⟩ := bC_s hF; clear hF
        refine hp_callS_a (v := .int v20) (H1 := H21) (As := [.int p1, .int (x18 + l3)]) (rest := [.ref a13]) d_Play_place_69 (k_Play_slot z19) (ab_mkC s_Play_slot (Nat.le_of_ble_eq_true rfl) (Nat.le_of_ble_eq_true rfl) (Nat.le_refl 0) (Nat.le_refl 0)) (k6 181 rfl rfl) t_Play_slot rfl (Nat.le_of_ble_eq_true rfl) ?_
        have s_2 : Sa H H21 := (m_Play_slot z19)
        refine ab_iconst (v := 0) d_Play_place_72 (by decide) ?_
        obtain ⟨n22, q23, hF⟩ := ar_s hG; clear hG
        rw [(s_2).1] at q23
        obtain ⟨q24, hG⟩ := ck_s hF; clear hF
        refine hp_zast d_Play_place_73 tZ (by rw [(s_2).1]; exact q23) q24 ?_
        refine hp_gen (fun H25 eH25 => ?_)
        replace hG := bnd_s eH25 hG
        have s_3 : Sa H H25 := by rw [eH25]; exact s_2
        refine ab_iinc (v := l3 + 1) (lv' := [some (.ref p0), some (.int p1), some (.int p2), some (.int (l3 + 1))]) d_Play_place_74 rfl rfl (by decide) rfl ?_
        refine ab_goto (tgt := 45) d_Play_place_77 (by decide) ?_
        exact ih (l3 + 1) H25 r hG
def B_Play_place_26 (N : Nat) (p0 : Nat) (p1 : Int32) (p2 : Int32) (w0 : Int32) (w1 : Int32) (H : Hp) : Option (Int32 × Hp) :=
    if w0 = w1 then
    some (0, H)
    else
    ck (H.sh[p0]? = some (10, 0)) <|
    bnd ((H.D p0 2)) fun x8 =>
    bnd (H.sD p0 2 (x8 ^^^ ((1 : Int32) <<< (p1 &&& 31)))) fun H9 =>
    B_Play_place_45 N p0 p1 p2 N 1 H9
set_option maxRecDepth 20000 in
set_option maxHeartbeats 2000000 in
theorem mB_Play_place_26 {N : Nat} {p0 : Nat} {p1 : Int32} {p2 : Int32} {w0 : Int32} {w1 : Int32} {H : Hp} {r : Int32 × Hp} (hF : B_Play_place_26 N p0 p1 p2 w0 w1 H = some r) : Sa H r.2 := by
  unfold B_Play_place_26 at hF
  have hm := Sa.rf H
  rcases ite_s hF with ⟨q_8, hG⟩ | ⟨q_8, hG⟩
  · clear hF
    have hr := Option.some.inj hG; subst hr
    exact hm
  · clear hF
    obtain ⟨q43, hF⟩ := ck_s hG; clear hG
    obtain ⟨x44, -, hG⟩ := bnd_g hF; clear hF
    obtain ⟨H45, eH45, hF⟩ := bnd_g hG; clear hG
    replace hm : Sa H H45 := by rw [eH45]; exact hm
    exact hm.tr (mB_Play_place_45 N 1 H45 r hF)
set_option maxRecDepth 20000 in
set_option maxHeartbeats 2000000 in
theorem kB_Play_place_26 {N : Nat} {p0 : Nat} {p1 : Int32} {p2 : Int32} {w0 : Int32} {w1 : Int32} {H : Hp} {r : Int32 × Hp} (hF : B_Play_place_26 N p0 p1 p2 w0 w1 H = some r) : ab_V y_Play_place { frames := 1, cells := 0, slots := 0, locals := 21 } (po (.returned (some (.int r.1))) r.2) 0 0 0 0 26 [some (.ref p0), some (.int p1), some (.int p2), none] [.int w1, .int w0] (hpw H) := by
  unfold B_Play_place_26 at hF
  refine ab_icmp_ne (tgt := 31) d_Play_place_26 (by decide) (fun q6 => ?_) (fun q6 => ?_)
  · rw [if_neg q6] at hF
    refine ab_aload_n d_Play_place_31 rfl rfl rfl ?_
    refine ab_dup d_Play_place_32 rfl ?_
    obtain ⟨q7, hG⟩ := ck_s hF; clear hF
    refine hp_getI (f := 2) d_Play_place_33 q7 (by decide) rfl (by decide) (k2 134 rfl rfl) rfl ?_
    refine ab_topi (fun x8 ex8 => ?_)
    replace hG := bnd_s ex8 hG
    refine ab_iconst (v := 1) d_Play_place_36 (by decide) ?_
    refine ab_iload_n d_Play_place_37 rfl rfl ?_
    refine ab_ishl d_Play_place_38 ?_
    refine ab_ixor d_Play_place_39 ?_
    refine hp_putI (v := x8 ^^^ ((1 : Int32) <<< (p1 &&& 31))) (f := 2) d_Play_place_40 q7 (by decide) rfl (by decide) (k2 134 rfl rfl) rfl rfl (fun _ => rfl) (fun _ => rfl) rfl ?_
    refine hp_gen (fun H9 eH9 => ?_)
    replace hG := bnd_s eH9 hG
    have s_1 : Sa H H9 := by rw [eH9]; exact Sa.rf _
    refine ab_iconst (v := 1) d_Play_place_43 (by decide) ?_
    refine ab_istore_n (lv' := [some (.ref p0), some (.int p1), some (.int p2), some (.int 1)]) d_Play_place_44 rfl (by decide) rfl ?_
    exact kB_Play_place_45 N 1 H9 r hG
  · rw [if_pos q6] at hF
    refine ab_iconst (v := 0) d_Play_place_29 (by decide) ?_
    exact ab_zret d_Play_place_30 rfl rfl (Nat.le_refl _) (Nat.le_refl _) (by have hr := Option.some.inj hF; subst hr; exact ⟨rfl, rfl⟩)
def F_Play_place (N : Nat) (p0 : Nat) (p1 : Int32) (p2 : Int32) (H : Hp) : Option (Int32 × Hp) :=
    if p1 < (0 : Int32) then
    some (0, H)
    else
    if (4 : Int32) ≤ p1 then
    some (0, H)
    else
    ck (H.sh[p0]? = some (10, 0)) <|
    bnd ((H.D p0 2)) fun x4 =>
    if p2 = (0 : Int32) then
    B_Play_place_26 N p0 p1 p2 ((x4 >>> (p1 &&& 31)) &&& (1 : Int32)) 0 H
    else
    B_Play_place_26 N p0 p1 p2 ((x4 >>> (p1 &&& 31)) &&& (1 : Int32)) 1 H
set_option maxRecDepth 20000 in
set_option maxHeartbeats 2000000 in
theorem m_Play_place {N : Nat} {p0 : Nat} {p1 : Int32} {p2 : Int32} {H : Hp} {r : Int32 × Hp} (hF : F_Play_place N p0 p1 p2 H = some r) : Sa H r.2 := by
  unfold F_Play_place at hF
  have hm := Sa.rf H
  rcases ite_s hF with ⟨q_10, hG⟩ | ⟨q_10, hG⟩
  · clear hF
    have hr := Option.some.inj hG; subst hr
    exact hm
  · clear hF
    rcases ite_s hG with ⟨q_11, hF⟩ | ⟨q_11, hF⟩
    · clear hG
      have hr := Option.some.inj hF; subst hr
      exact hm
    · clear hG
      obtain ⟨q48, hG⟩ := ck_s hF; clear hF
      obtain ⟨x49, -, hF⟩ := bnd_g hG; clear hG
      rcases ite_s hF with ⟨q_12, hG⟩ | ⟨q_12, hG⟩
      · clear hF
        exact hm.tr (mB_Play_place_26 hG)
      · clear hF
        exact hm.tr (mB_Play_place_26 hG)
set_option maxRecDepth 20000 in
set_option maxHeartbeats 2000000 in
theorem k_Play_place {N : Nat} {p0 : Nat} {p1 : Int32} {p2 : Int32} {H : Hp} {r : Int32 × Hp} (hF : F_Play_place N p0 p1 p2 H = some r) : ab_M y_Play_place { frames := 1, cells := 0, slots := 0, locals := 21 } [.ref p0, .int p1, .int p2] (hpw H) (po (.returned (some (.int r.1))) r.2) := by
  unfold F_Play_place at hF
  refine ab_of2 (lv := [some (.ref p0), some (.int p1), some (.int p2), none]) 1 rfl rfl (Nat.le_of_ble_eq_true rfl) ?_
  refine ab_iload_n d_Play_place_0 rfl rfl ?_
  refine ab_if_lt (tgt := 29) d_Play_place_1 (by decide) (fun q1 => ?_) (fun q1 => ?_)
  · rw [if_pos q1] at hF
    refine ab_iconst (v := 0) d_Play_place_29 (by decide) ?_
    exact ab_zret d_Play_place_30 rfl rfl (Nat.le_refl _) (Nat.le_refl _) (by have hr := Option.some.inj hF; subst hr; exact ⟨rfl, rfl⟩)
  · rw [if_neg q1] at hF
    refine ab_iload_n d_Play_place_4 rfl rfl ?_
    refine ab_iconst (v := 4) d_Play_place_5 (by decide) ?_
    refine ab_icmp_ge (tgt := 29) d_Play_place_6 (by decide) (fun q2 => ?_) (fun q2 => ?_)
    · rw [if_pos q2] at hF
      refine ab_iconst (v := 0) d_Play_place_29 (by decide) ?_
      exact ab_zret d_Play_place_30 rfl rfl (Nat.le_refl _) (Nat.le_refl _) (by have hr := Option.some.inj hF; subst hr; exact ⟨rfl, rfl⟩)
    · rw [if_neg q2] at hF
      refine ab_aload_n d_Play_place_9 rfl rfl rfl ?_
      obtain ⟨q3, hG⟩ := ck_s hF; clear hF
      refine hp_getI (f := 2) d_Play_place_10 q3 (by decide) rfl (by decide) (k2 134 rfl rfl) rfl ?_
      refine ab_topi (fun x4 ex4 => ?_)
      replace hG := bnd_s ex4 hG
      refine ab_iload_n d_Play_place_13 rfl rfl ?_
      refine ab_ishr d_Play_place_14 ?_
      refine ab_iconst (v := 1) d_Play_place_15 (by decide) ?_
      refine ab_iand d_Play_place_16 ?_
      refine ab_iload_n d_Play_place_17 rfl rfl ?_
      refine ab_if_eq (tgt := 25) d_Play_place_18 (by decide) (fun q5 => ?_) (fun q5 => ?_)
      · rw [if_pos q5] at hG
        refine ab_iconst (v := 0) d_Play_place_25 (by decide) ?_
        exact kB_Play_place_26 hG
      · rw [if_neg q5] at hG
        refine ab_iconst (v := 1) d_Play_place_21 (by decide) ?_
        refine ab_goto (tgt := 26) d_Play_place_22 (by decide) ?_
        exact kB_Play_place_26 hG
def y_W_seat : ab_Y := (⟨"WorldEngine", "seat", "(IZ)Z"⟩, prog_1_method_10_code, 3, (some FieldType.boolean), [])
theorem d_W_seat_0 : decode y_W_seat.2.1 0 = .ok (.aload_n 0, 1) := by decide +kernel
theorem d_W_seat_1 : decode y_W_seat.2.1 1 = .ok (.getfield 28, 3) := by decide +kernel
theorem d_W_seat_4 : decode y_W_seat.2.1 4 = .ok (.iload_n 1, 1) := by decide +kernel
theorem d_W_seat_5 : decode y_W_seat.2.1 5 = .ok (.iload_n 2, 1) := by decide +kernel
theorem d_W_seat_6 : decode y_W_seat.2.1 6 = .ok (.invokevirtual 142, 3) := by decide +kernel
theorem d_W_seat_9 : decode y_W_seat.2.1 9 = .ok (.ireturn, 1) := by decide +kernel
theorem s_W_seat : ab_Stat y_W_seat 2 := ⟨(k7 162 rfl rfl), (k1 1 rfl rfl), ⟨by decide, by decide⟩, by decide +kernel⟩
theorem i_W_seat : Cond.instanceMethod y_W_seat.1 ∈ ab_T := (k7 160 rfl rfl)
theorem v_W_seat : Cond.selects "WorldEngine" y_W_seat.1 y_W_seat.1 ∈ ab_T := (k7 161 rfl rfl)
def F_W_seat (N : Nat) (p0 : Nat) (p1 : Int32) (p2 : Int32) (H : Hp) : Option (Int32 × Hp) :=
    ck (H.sh[p0]? = some (0, 0)) <|
    rf (H.P p0 2) fun a2 =>
    ck (H.sh[a2]? = some (10, 0)) <|
    bC (F_Play_place N a2 p1 p2 H) fun v6 H7 =>
    ck (v6 &&& 1 = v6) <|
    some (v6, H7)
set_option maxRecDepth 20000 in
set_option maxHeartbeats 2000000 in
theorem m_W_seat {N : Nat} {p0 : Nat} {p1 : Int32} {p2 : Int32} {H : Hp} {r : Int32 × Hp} (hF : F_W_seat N p0 p1 p2 H = some r) : Sa H r.2 := by
  unfold F_W_seat at hF
  have hm := Sa.rf H
  obtain ⟨q9, hG⟩ := ck_s hF; clear hF
  obtain ⟨a10, e11, hF⟩ := rf_s hG; clear hG
  obtain ⟨q12, hG⟩ := ck_s hF; clear hF
  obtain ⟨v14, H15, z13, hF⟩ := bC_s hG; clear hG
  replace hm : Sa H H15 := hm.tr (m_Play_place z13)
  obtain ⟨q16, hG⟩ := ck_s hF; clear hF
  have hr := Option.some.inj hG; subst hr
  exact hm
set_option maxRecDepth 20000 in
set_option maxHeartbeats 2000000 in
theorem k_W_seat {N : Nat} {p0 : Nat} {p1 : Int32} {p2 : Int32} {H : Hp} {r : Int32 × Hp} (hF : F_W_seat N p0 p1 p2 H = some r) : ab_M y_W_seat { frames := 2, cells := 0, slots := 0, locals := 44 } [.ref p0, .int p1, .int p2] (hpw H) (po (.returned (some (.int r.1))) r.2) := by
  unfold F_W_seat at hF
  refine ab_of2 (lv := [some (.ref p0), some (.int p1), some (.int p2)]) 0 rfl rfl (Nat.le_of_ble_eq_true rfl) ?_
  refine ab_aload_n d_W_seat_0 rfl rfl rfl ?_
  obtain ⟨q1, hG⟩ := ck_s hF; clear hF
  obtain ⟨a2, e3, hF⟩ := rf_s hG; clear hG
  refine hp_getR (f := 2) d_W_seat_1 q1 (by decide) rfl (by decide) (k3 159 rfl rfl) rfl e3 ?_
  refine ab_iload_n d_W_seat_4 rfl rfl ?_
  refine ab_iload_n d_W_seat_5 rfl rfl ?_
  obtain ⟨q4, hG⟩ := ck_s hF; clear hF
  obtain ⟨v6, H7, z5, hF⟩ := bC_s hG; clear hG
  refine hp_callV_a (v := .int v6) (H1 := H7) (As := [.int p1, .int p2]) (rest := []) d_W_seat_6 (k_Play_place z5) (ab_mkC s_Play_place (Nat.le_of_ble_eq_true rfl) (Nat.le_of_ble_eq_true rfl) (Nat.le_refl 0) (Nat.le_refl 0)) (k7 163 rfl rfl) i_Play_place v_Play_place q4 (by decide) rfl rfl (Nat.le_of_ble_eq_true rfl) ?_
  have s_1 : Sa H H7 := (m_Play_place z5)
  obtain ⟨q8, hG⟩ := ck_s hF; clear hF
  exact ab_zret d_W_seat_9 rfl (congrArg Value.int q8) (Nat.le_refl _) (Nat.le_refl _) (by have hr := Option.some.inj hG; subst hr; exact ⟨rfl, rfl⟩)
def y_W_make : ab_Y := (⟨"WorldEngine", "make", "(I)I"⟩, prog_1_method_11_code, 3, (some FieldType.int), [])
theorem d_W_make_0 : decode y_W_make.2.1 0 = .ok (.aload_n 0, 1) := by decide +kernel
theorem d_W_make_1 : decode y_W_make.2.1 1 = .ok (.getfield 28, 3) := by decide +kernel
theorem d_W_make_4 : decode y_W_make.2.1 4 = .ok (.invokevirtual 110, 3) := by decide +kernel
theorem d_W_make_7 : decode y_W_make.2.1 7 = .ok (.ifCond .ne 6, 3) := by decide +kernel
theorem d_W_make_10 : decode y_W_make.2.1 10 = .ok (.bipush (-10), 2) := by decide +kernel
theorem d_W_make_12 : decode y_W_make.2.1 12 = .ok (.ireturn, 1) := by decide +kernel
theorem d_W_make_13 : decode y_W_make.2.1 13 = .ok (.iload_n 1, 1) := by decide +kernel
theorem d_W_make_14 : decode y_W_make.2.1 14 = .ok (.ifCond .lt 14, 3) := by decide +kernel
theorem d_W_make_17 : decode y_W_make.2.1 17 = .ok (.iload_n 1, 1) := by decide +kernel
theorem d_W_make_18 : decode y_W_make.2.1 18 = .ok (.aload_n 0, 1) := by decide +kernel
theorem d_W_make_19 : decode y_W_make.2.1 19 = .ok (.getfield 42, 3) := by decide +kernel
theorem d_W_make_22 : decode y_W_make.2.1 22 = .ok (.getfield 146, 3) := by decide +kernel
theorem d_W_make_25 : decode y_W_make.2.1 25 = .ok (.if_icmp .lt 5, 3) := by decide +kernel
theorem d_W_make_28 : decode y_W_make.2.1 28 = .ok (.iconst (-1), 1) := by decide +kernel
theorem d_W_make_29 : decode y_W_make.2.1 29 = .ok (.ireturn, 1) := by decide +kernel
theorem d_W_make_30 : decode y_W_make.2.1 30 = .ok (.aload_n 0, 1) := by decide +kernel
theorem d_W_make_31 : decode y_W_make.2.1 31 = .ok (.getfield 28, 3) := by decide +kernel
theorem d_W_make_34 : decode y_W_make.2.1 34 = .ok (.getfield 121, 3) := by decide +kernel
theorem d_W_make_37 : decode y_W_make.2.1 37 = .ok (.aload_n 0, 1) := by decide +kernel
theorem d_W_make_38 : decode y_W_make.2.1 38 = .ok (.getfield 42, 3) := by decide +kernel
theorem d_W_make_41 : decode y_W_make.2.1 41 = .ok (.iload_n 1, 1) := by decide +kernel
theorem d_W_make_42 : decode y_W_make.2.1 42 = .ok (.invokevirtual 149, 3) := by decide +kernel
theorem d_W_make_45 : decode y_W_make.2.1 45 = .ok (.istore_n 2, 1) := by decide +kernel
theorem d_W_make_46 : decode y_W_make.2.1 46 = .ok (.iload_n 2, 1) := by decide +kernel
theorem d_W_make_47 : decode y_W_make.2.1 47 = .ok (.ifCond .ge 8, 3) := by decide +kernel
theorem d_W_make_50 : decode y_W_make.2.1 50 = .ok (.bipush (-2), 2) := by decide +kernel
theorem d_W_make_52 : decode y_W_make.2.1 52 = .ok (.goto 14, 3) := by decide +kernel
theorem d_W_make_55 : decode y_W_make.2.1 55 = .ok (.aload_n 0, 1) := by decide +kernel
theorem d_W_make_56 : decode y_W_make.2.1 56 = .ok (.getfield 28, 3) := by decide +kernel
theorem d_W_make_59 : decode y_W_make.2.1 59 = .ok (.getfield 121, 3) := by decide +kernel
theorem d_W_make_62 : decode y_W_make.2.1 62 = .ok (.iload_n 2, 1) := by decide +kernel
theorem d_W_make_63 : decode y_W_make.2.1 63 = .ok (.invokevirtual 153, 3) := by decide +kernel
theorem d_W_make_66 : decode y_W_make.2.1 66 = .ok (.ireturn, 1) := by decide +kernel
theorem s_W_make : ab_Stat y_W_make 1 := ⟨(k7 170 rfl rfl), (k1 1 rfl rfl), ⟨by decide, by decide⟩, by decide +kernel⟩
theorem i_W_make : Cond.instanceMethod y_W_make.1 ∈ ab_T := (k7 168 rfl rfl)
theorem v_W_make : Cond.selects "WorldEngine" y_W_make.1 y_W_make.1 ∈ ab_T := (k7 169 rfl rfl)
def F_W_make (N : Nat) (p0 : Nat) (p1 : Int32) (H : Hp) : Option (Int32 × Hp) :=
    ck (H.sh[p0]? = some (0, 0)) <|
    rf (H.P p0 2) fun a2 =>
    ck (H.sh[a2]? = some (10, 0)) <|
    bC (F_Play_isQuiet N a2 H) fun v6 H7 =>
    if v6 = (0 : Int32) then
    some ((-10), H7)
    else
    if p1 < (0 : Int32) then
    some ((-1), H7)
    else
    rf (H7.P p0 4) fun a10 =>
    ck (H7.sh[a10]? = some (4, 0)) <|
    bnd ((H7.D a10 4)) fun x13 =>
    if p1 < x13 then
    rf (H7.P p0 2) fun a15 =>
    ck (H7.sh[a15]? = some (10, 0)) <|
    rf (H7.P a15 0) fun a18 =>
    rf (H7.P p0 4) fun a20 =>
    ck (H7.sh[a18]? = some (7, 0)) <|
    bC (F_World_bear N a18 a20 p1 H7) fun v24 H25 =>
    if (0 : Int32) ≤ v24 then
    rf (H25.P p0 2) fun a27 =>
    ck (H25.sh[a27]? = some (10, 0)) <|
    rf (H25.P a27 0) fun a30 =>
    ck (H25.sh[a30]? = some (7, 0)) <|
    bC (F_World_numberAt N a30 v24 H25) fun v34 H35 =>
    some (v34, H35)
    else
    some ((-2), H25)
    else
    some ((-1), H7)
set_option maxRecDepth 20000 in
set_option maxHeartbeats 2000000 in
theorem m_W_make {N : Nat} {p0 : Nat} {p1 : Int32} {H : Hp} {r : Int32 × Hp} (hF : F_W_make N p0 p1 H = some r) : Sa H r.2 := by
  unfold F_W_make at hF
  have hm := Sa.rf H
  obtain ⟨q36, hG⟩ := ck_s hF; clear hF
  obtain ⟨a37, e38, hF⟩ := rf_s hG; clear hG
  obtain ⟨q39, hG⟩ := ck_s hF; clear hF
  obtain ⟨v41, H42, z40, hF⟩ := bC_s hG; clear hG
  replace hm : Sa H H42 := hm.tr (m_Play_isQuiet z40)
  rcases ite_s hF with ⟨q_5, hG⟩ | ⟨q_5, hG⟩
  · clear hF
    have hr := Option.some.inj hG; subst hr
    exact hm
  · clear hF
    rcases ite_s hG with ⟨q_6, hF⟩ | ⟨q_6, hF⟩
    · clear hG
      have hr := Option.some.inj hF; subst hr
      exact hm
    · clear hG
      obtain ⟨a45, e46, hG⟩ := rf_s hF; clear hF
      obtain ⟨q47, hF⟩ := ck_s hG; clear hG
      obtain ⟨x48, -, hG⟩ := bnd_g hF; clear hF
      rcases ite_s hG with ⟨q_7, hF⟩ | ⟨q_7, hF⟩
      · clear hG
        obtain ⟨a50, e51, hG⟩ := rf_s hF; clear hF
        obtain ⟨q52, hF⟩ := ck_s hG; clear hG
        obtain ⟨a53, e54, hG⟩ := rf_s hF; clear hF
        obtain ⟨a55, e56, hF⟩ := rf_s hG; clear hG
        obtain ⟨q57, hG⟩ := ck_s hF; clear hF
        obtain ⟨v59, H60, z58, hF⟩ := bC_s hG; clear hG
        replace hm : Sa H H60 := hm.tr (m_World_bear z58)
        rcases ite_s hF with ⟨q_9, hG⟩ | ⟨q_9, hG⟩
        · clear hF
          obtain ⟨a62, e63, hF⟩ := rf_s hG; clear hG
          obtain ⟨q64, hG⟩ := ck_s hF; clear hF
          obtain ⟨a65, e66, hF⟩ := rf_s hG; clear hG
          obtain ⟨q67, hG⟩ := ck_s hF; clear hF
          obtain ⟨v69, H70, z68, hF⟩ := bC_s hG; clear hG
          replace hm : Sa H H70 := hm.tr (m_World_numberAt z68)
          have hr := Option.some.inj hF; subst hr
          exact hm
        · clear hF
          have hr := Option.some.inj hG; subst hr
          exact hm
      · clear hG
        have hr := Option.some.inj hF; subst hr
        exact hm
set_option maxRecDepth 20000 in
set_option maxHeartbeats 2000000 in
theorem k_W_make {N : Nat} {p0 : Nat} {p1 : Int32} {H : Hp} {r : Int32 × Hp} (hF : F_W_make N p0 p1 H = some r) : ab_M y_W_make { frames := 3, cells := 0, slots := 0, locals := 83 } [.ref p0, .int p1] (hpw H) (po (.returned (some (.int r.1))) r.2) := by
  unfold F_W_make at hF
  refine ab_of2 (lv := [some (.ref p0), some (.int p1), none]) 1 rfl rfl (Nat.le_of_ble_eq_true rfl) ?_
  refine ab_aload_n d_W_make_0 rfl rfl rfl ?_
  obtain ⟨q1, hG⟩ := ck_s hF; clear hF
  obtain ⟨a2, e3, hF⟩ := rf_s hG; clear hG
  refine hp_getR (f := 2) d_W_make_1 q1 (by decide) rfl (by decide) (k3 159 rfl rfl) rfl e3 ?_
  obtain ⟨q4, hG⟩ := ck_s hF; clear hF
  obtain ⟨v6, H7, z5, hF⟩ := bC_s hG; clear hG
  refine hp_callV_a (v := .int v6) (H1 := H7) (As := []) (rest := []) d_W_make_4 (k_Play_isQuiet z5) (ab_mkC s_Play_isQuiet (Nat.le_of_ble_eq_true rfl) (Nat.le_of_ble_eq_true rfl) (Nat.le_refl 0) (Nat.le_refl 0)) (k6 95 rfl rfl) i_Play_isQuiet v_Play_isQuiet q4 (by decide) rfl rfl (Nat.le_of_ble_eq_true rfl) ?_
  have s_1 : Sa H H7 := (m_Play_isQuiet z5)
  refine ab_if_ne (tgt := 13) d_W_make_7 (by decide) (fun q8 => ?_) (fun q8 => ?_)
  · rw [if_neg q8] at hF
    refine ab_iload_n d_W_make_13 rfl rfl ?_
    refine ab_if_lt (tgt := 28) d_W_make_14 (by decide) (fun q9 => ?_) (fun q9 => ?_)
    · rw [if_pos q9] at hF
      refine ab_iconst (v := (-1)) d_W_make_28 (by decide) ?_
      exact ab_iret d_W_make_29 rfl (Nat.le_refl _) (Nat.le_refl _) (by have hr := Option.some.inj hF; subst hr; exact ⟨rfl, rfl⟩)
    · rw [if_neg q9] at hF
      refine ab_iload_n d_W_make_17 rfl rfl ?_
      refine ab_aload_n d_W_make_18 rfl rfl rfl ?_
      obtain ⟨a10, e11, hG⟩ := rf_s hF; clear hF
      refine hp_getR (f := 4) d_W_make_19 (by rw [(s_1).1]; exact q1) (by decide) rfl (by decide) (k3 161 rfl rfl) rfl e11 ?_
      obtain ⟨q12, hF⟩ := ck_s hG; clear hG
      rw [(s_1).1] at q12
      refine hp_getI (f := 4) d_W_make_22 (by rw [(s_1).1]; exact q12) (by decide) rfl (by decide) (k3 71 rfl rfl) rfl ?_
      refine ab_topi (fun x13 ex13 => ?_)
      replace hF := bnd_s ex13 hF
      refine ab_icmp_lt (tgt := 30) d_W_make_25 (by decide) (fun q14 => ?_) (fun q14 => ?_)
      · rw [if_pos q14] at hF
        refine ab_aload_n d_W_make_30 rfl rfl rfl ?_
        obtain ⟨a15, e16, hG⟩ := rf_s hF; clear hF
        refine hp_getR (f := 2) d_W_make_31 (by rw [(s_1).1]; exact q1) (by decide) rfl (by decide) (k3 159 rfl rfl) rfl e16 ?_
        obtain ⟨q17, hF⟩ := ck_s hG; clear hG
        rw [(s_1).1] at q17
        obtain ⟨a18, e19, hG⟩ := rf_s hF; clear hF
        refine hp_getR (f := 0) d_W_make_34 (by rw [(s_1).1]; exact q17) (by decide) rfl (by decide) (k2 131 rfl rfl) rfl e19 ?_
        refine ab_aload_n d_W_make_37 rfl rfl rfl ?_
        obtain ⟨a20, e21, hF⟩ := rf_s hG; clear hG
        refine hp_getR (f := 4) d_W_make_38 (by rw [(s_1).1]; exact q1) (by decide) rfl (by decide) (k3 161 rfl rfl) rfl e21 ?_
        refine ab_iload_n d_W_make_41 rfl rfl ?_
        obtain ⟨q22, hG⟩ := ck_s hF; clear hF
        rw [(s_1).1] at q22
        obtain ⟨v24, H25, z23, hF⟩ := bC_s hG; clear hG
        refine hp_callV_a (v := .int v24) (H1 := H25) (As := [.ref a20, .int p1]) (rest := []) d_W_make_42 (k_World_bear z23) (ab_mkC s_World_bear (Nat.le_of_ble_eq_true rfl) (Nat.le_of_ble_eq_true rfl) (Nat.le_refl 0) (Nat.le_refl 0)) (k7 171 rfl rfl) i_World_bear v_World_bear (by rw [(s_1).1]; exact q22) (by decide) rfl rfl (Nat.le_of_ble_eq_true rfl) ?_
        have s_2 : Sa H H25 := (s_1).tr (m_World_bear z23)
        refine ab_istore_n (lv' := [some (.ref p0), some (.int p1), some (.int v24)]) d_W_make_45 rfl (by decide) rfl ?_
        refine ab_iload_n d_W_make_46 rfl rfl ?_
        refine ab_if_ge (tgt := 55) d_W_make_47 (by decide) (fun q26 => ?_) (fun q26 => ?_)
        · rw [if_pos q26] at hF
          refine ab_aload_n d_W_make_55 rfl rfl rfl ?_
          obtain ⟨a27, e28, hG⟩ := rf_s hF; clear hF
          refine hp_getR (f := 2) d_W_make_56 (by rw [(s_2).1]; exact q1) (by decide) rfl (by decide) (k3 159 rfl rfl) rfl e28 ?_
          obtain ⟨q29, hF⟩ := ck_s hG; clear hG
          rw [(s_2).1] at q29
          obtain ⟨a30, e31, hG⟩ := rf_s hF; clear hF
          refine hp_getR (f := 0) d_W_make_59 (by rw [(s_2).1]; exact q29) (by decide) rfl (by decide) (k2 131 rfl rfl) rfl e31 ?_
          refine ab_iload_n d_W_make_62 rfl rfl ?_
          obtain ⟨q32, hF⟩ := ck_s hG; clear hG
          rw [(s_2).1] at q32
          obtain ⟨v34, H35, z33, hG⟩ := bC_s hF; clear hF
          refine hp_callV_a (v := .int v34) (H1 := H35) (As := [.int v24]) (rest := []) d_W_make_63 (k_World_numberAt z33) (ab_mkC s_World_numberAt (Nat.le_of_ble_eq_true rfl) (Nat.le_of_ble_eq_true rfl) (Nat.le_refl 0) (Nat.le_refl 0)) (k7 172 rfl rfl) i_World_numberAt v_World_numberAt (by rw [(s_2).1]; exact q32) (by decide) rfl rfl (Nat.le_of_ble_eq_true rfl) ?_
          have s_3 : Sa H H35 := (s_2).tr (m_World_numberAt z33)
          exact ab_iret d_W_make_66 rfl (Nat.le_refl _) (Nat.le_refl _) (by have hr := Option.some.inj hG; subst hr; exact ⟨rfl, rfl⟩)
        · rw [if_neg q26] at hF
          refine ab_bipush (v := (-2)) d_W_make_50 (by decide) ?_
          refine ab_goto (tgt := 66) d_W_make_52 (by decide) ?_
          exact ab_iret d_W_make_66 rfl (Nat.le_refl _) (Nat.le_refl _) (by have hr := Option.some.inj hF; subst hr; exact ⟨rfl, rfl⟩)
      · rw [if_neg q14] at hF
        refine ab_iconst (v := (-1)) d_W_make_28 (by decide) ?_
        exact ab_iret d_W_make_29 rfl (Nat.le_refl _) (Nat.le_refl _) (by have hr := Option.some.inj hF; subst hr; exact ⟨rfl, rfl⟩)
  · rw [if_pos q8] at hF
    refine ab_bipush (v := (-10)) d_W_make_10 (by decide) ?_
    exact ab_iret d_W_make_12 rfl (Nat.le_refl _) (Nat.le_refl _) (by have hr := Option.some.inj hF; subst hr; exact ⟨rfl, rfl⟩)
def y_W_change : ab_Y := (⟨"WorldEngine", "change", "(III)I"⟩, prog_1_method_12_code, 6, (some FieldType.int), [])
theorem d_W_change_0 : decode y_W_change.2.1 0 = .ok (.aload_n 0, 1) := by decide +kernel
theorem d_W_change_1 : decode y_W_change.2.1 1 = .ok (.getfield 28, 3) := by decide +kernel
theorem d_W_change_4 : decode y_W_change.2.1 4 = .ok (.invokevirtual 110, 3) := by decide +kernel
theorem d_W_change_7 : decode y_W_change.2.1 7 = .ok (.ifCond .ne 6, 3) := by decide +kernel
theorem d_W_change_10 : decode y_W_change.2.1 10 = .ok (.bipush (-10), 2) := by decide +kernel
theorem d_W_change_12 : decode y_W_change.2.1 12 = .ok (.ireturn, 1) := by decide +kernel
theorem d_W_change_13 : decode y_W_change.2.1 13 = .ok (.aload_n 0, 1) := by decide +kernel
theorem d_W_change_14 : decode y_W_change.2.1 14 = .ok (.getfield 28, 3) := by decide +kernel
theorem d_W_change_17 : decode y_W_change.2.1 17 = .ok (.getfield 121, 3) := by decide +kernel
theorem d_W_change_20 : decode y_W_change.2.1 20 = .ok (.astore 4, 2) := by decide +kernel
theorem d_W_change_22 : decode y_W_change.2.1 22 = .ok (.aload 4, 2) := by decide +kernel
theorem d_W_change_24 : decode y_W_change.2.1 24 = .ok (.iload_n 2, 1) := by decide +kernel
theorem d_W_change_25 : decode y_W_change.2.1 25 = .ok (.invokevirtual 157, 3) := by decide +kernel
theorem d_W_change_28 : decode y_W_change.2.1 28 = .ok (.istore 5, 2) := by decide +kernel
theorem d_W_change_30 : decode y_W_change.2.1 30 = .ok (.iload_n 1, 1) := by decide +kernel
theorem d_W_change_31 : decode y_W_change.2.1 31 = .ok (.ifCond .lt 13, 3) := by decide +kernel
theorem d_W_change_34 : decode y_W_change.2.1 34 = .ok (.iload_n 1, 1) := by decide +kernel
theorem d_W_change_35 : decode y_W_change.2.1 35 = .ok (.iconst 2, 1) := by decide +kernel
theorem d_W_change_36 : decode y_W_change.2.1 36 = .ok (.if_icmp .gt 8, 3) := by decide +kernel
theorem d_W_change_39 : decode y_W_change.2.1 39 = .ok (.iload 5, 2) := by decide +kernel
theorem d_W_change_41 : decode y_W_change.2.1 41 = .ok (.ifCond .ge 5, 3) := by decide +kernel
theorem d_W_change_44 : decode y_W_change.2.1 44 = .ok (.iconst (-1), 1) := by decide +kernel
theorem d_W_change_45 : decode y_W_change.2.1 45 = .ok (.ireturn, 1) := by decide +kernel
theorem d_W_change_46 : decode y_W_change.2.1 46 = .ok (.iload_n 1, 1) := by decide +kernel
theorem d_W_change_47 : decode y_W_change.2.1 47 = .ok (.ifCond .ne 12, 3) := by decide +kernel
theorem d_W_change_50 : decode y_W_change.2.1 50 = .ok (.aload 4, 2) := by decide +kernel
theorem d_W_change_52 : decode y_W_change.2.1 52 = .ok (.iload 5, 2) := by decide +kernel
theorem d_W_change_54 : decode y_W_change.2.1 54 = .ok (.invokevirtual 160, 3) := by decide +kernel
theorem d_W_change_57 : decode y_W_change.2.1 57 = .ok (.iconst 0, 1) := by decide +kernel
theorem d_W_change_58 : decode y_W_change.2.1 58 = .ok (.ireturn, 1) := by decide +kernel
theorem d_W_change_59 : decode y_W_change.2.1 59 = .ok (.iload_n 3, 1) := by decide +kernel
theorem d_W_change_60 : decode y_W_change.2.1 60 = .ok (.ifCond .lt 17, 3) := by decide +kernel
theorem d_W_change_63 : decode y_W_change.2.1 63 = .ok (.iload_n 3, 1) := by decide +kernel
theorem d_W_change_64 : decode y_W_change.2.1 64 = .ok (.aload_n 0, 1) := by decide +kernel
theorem d_W_change_65 : decode y_W_change.2.1 65 = .ok (.getfield 42, 3) := by decide +kernel
theorem d_W_change_68 : decode y_W_change.2.1 68 = .ok (.getfield 90, 3) := by decide +kernel
theorem d_W_change_71 : decode y_W_change.2.1 71 = .ok (.getfield 163, 3) := by decide +kernel
theorem d_W_change_74 : decode y_W_change.2.1 74 = .ok (.if_icmp .lt 5, 3) := by decide +kernel
theorem d_W_change_77 : decode y_W_change.2.1 77 = .ok (.iconst (-1), 1) := by decide +kernel
theorem d_W_change_78 : decode y_W_change.2.1 78 = .ok (.ireturn, 1) := by decide +kernel
theorem d_W_change_79 : decode y_W_change.2.1 79 = .ok (.aload 4, 2) := by decide +kernel
theorem d_W_change_81 : decode y_W_change.2.1 81 = .ok (.iload 5, 2) := by decide +kernel
theorem d_W_change_83 : decode y_W_change.2.1 83 = .ok (.iload_n 3, 1) := by decide +kernel
theorem d_W_change_84 : decode y_W_change.2.1 84 = .ok (.invokevirtual 166, 3) := by decide +kernel
theorem d_W_change_87 : decode y_W_change.2.1 87 = .ok (.iload_n 1, 1) := by decide +kernel
theorem d_W_change_88 : decode y_W_change.2.1 88 = .ok (.iconst 1, 1) := by decide +kernel
theorem d_W_change_89 : decode y_W_change.2.1 89 = .ok (.if_icmp .ne 7, 3) := by decide +kernel
theorem d_W_change_92 : decode y_W_change.2.1 92 = .ok (.iconst 1, 1) := by decide +kernel
theorem d_W_change_93 : decode y_W_change.2.1 93 = .ok (.goto 4, 3) := by decide +kernel
theorem d_W_change_96 : decode y_W_change.2.1 96 = .ok (.iconst 0, 1) := by decide +kernel
theorem d_W_change_97 : decode y_W_change.2.1 97 = .ok (.if_icmp .ne 6, 3) := by decide +kernel
theorem d_W_change_100 : decode y_W_change.2.1 100 = .ok (.bipush (-2), 2) := by decide +kernel
theorem d_W_change_102 : decode y_W_change.2.1 102 = .ok (.ireturn, 1) := by decide +kernel
theorem d_W_change_103 : decode y_W_change.2.1 103 = .ok (.iload_n 1, 1) := by decide +kernel
theorem d_W_change_104 : decode y_W_change.2.1 104 = .ok (.iconst 1, 1) := by decide +kernel
theorem d_W_change_105 : decode y_W_change.2.1 105 = .ok (.if_icmp .ne 18, 3) := by decide +kernel
theorem d_W_change_108 : decode y_W_change.2.1 108 = .ok (.aload 4, 2) := by decide +kernel
theorem d_W_change_110 : decode y_W_change.2.1 110 = .ok (.aload_n 0, 1) := by decide +kernel
theorem d_W_change_111 : decode y_W_change.2.1 111 = .ok (.getfield 42, 3) := by decide +kernel
theorem d_W_change_114 : decode y_W_change.2.1 114 = .ok (.iload 5, 2) := by decide +kernel
theorem d_W_change_116 : decode y_W_change.2.1 116 = .ok (.iload_n 3, 1) := by decide +kernel
theorem d_W_change_117 : decode y_W_change.2.1 117 = .ok (.invokevirtual 170, 3) := by decide +kernel
theorem d_W_change_120 : decode y_W_change.2.1 120 = .ok (.goto 11, 3) := by decide +kernel
theorem d_W_change_123 : decode y_W_change.2.1 123 = .ok (.aload 4, 2) := by decide +kernel
theorem d_W_change_125 : decode y_W_change.2.1 125 = .ok (.iload 5, 2) := by decide +kernel
theorem d_W_change_127 : decode y_W_change.2.1 127 = .ok (.iload_n 3, 1) := by decide +kernel
theorem d_W_change_128 : decode y_W_change.2.1 128 = .ok (.invokevirtual 174, 3) := by decide +kernel
theorem d_W_change_131 : decode y_W_change.2.1 131 = .ok (.iconst 0, 1) := by decide +kernel
theorem d_W_change_132 : decode y_W_change.2.1 132 = .ok (.ireturn, 1) := by decide +kernel
theorem s_W_change : ab_Stat y_W_change 3 := ⟨(k7 176 rfl rfl), (k1 1 rfl rfl), ⟨by decide, by decide⟩, by decide +kernel⟩
theorem i_W_change : Cond.instanceMethod y_W_change.1 ∈ ab_T := (k7 174 rfl rfl)
theorem v_W_change : Cond.selects "WorldEngine" y_W_change.1 y_W_change.1 ∈ ab_T := (k7 175 rfl rfl)
def B_W_change_97 (N : Nat) (p0 : Nat) (p1 : Int32) (p2 : Int32) (p3 : Int32) (l4 : Nat) (l5 : Int32) (w0 : Int32) (w1 : Int32) (H : Hp) : Option (Int32 × Hp) :=
    if w0 = w1 then
    some ((-2), H)
    else
    if p1 = (1 : Int32) then
    ck (H.sh[p0]? = some (0, 0)) <|
    rf (H.P p0 4) fun a42 =>
    ck (H.sh[l4]? = some (7, 0)) <|
    bC (F_World_giveAt N l4 a42 l5 p3 H) fun v46 H47 =>
    some (0, H47)
    else
    ck (H.sh[l4]? = some (7, 0)) <|
    bC (F_World_takeAt N l4 l5 p3 H) fun v39 H40 =>
    some (0, H40)
set_option maxRecDepth 20000 in
set_option maxHeartbeats 2000000 in
theorem mB_W_change_97 {N : Nat} {p0 : Nat} {p1 : Int32} {p2 : Int32} {p3 : Int32} {l4 : Nat} {l5 : Int32} {w0 : Int32} {w1 : Int32} {H : Hp} {r : Int32 × Hp} (hF : B_W_change_97 N p0 p1 p2 p3 l4 l5 w0 w1 H = some r) : Sa H r.2 := by
  unfold B_W_change_97 at hF
  have hm := Sa.rf H
  rcases ite_s hF with ⟨q_6, hG⟩ | ⟨q_6, hG⟩
  · clear hF
    have hr := Option.some.inj hG; subst hr
    exact hm
  · clear hF
    rcases ite_s hG with ⟨q_7, hF⟩ | ⟨q_7, hF⟩
    · clear hG
      obtain ⟨q50, hG⟩ := ck_s hF; clear hF
      obtain ⟨a51, e52, hF⟩ := rf_s hG; clear hG
      obtain ⟨q53, hG⟩ := ck_s hF; clear hF
      obtain ⟨v55, H56, z54, hF⟩ := bC_s hG; clear hG
      replace hm : Sa H H56 := hm.tr (m_World_giveAt z54)
      have hr := Option.some.inj hF; subst hr
      exact hm
    · clear hG
      obtain ⟨q57, hG⟩ := ck_s hF; clear hF
      obtain ⟨v59, H60, z58, hF⟩ := bC_s hG; clear hG
      replace hm : Sa H H60 := hm.tr (m_World_takeAt z58)
      have hr := Option.some.inj hF; subst hr
      exact hm
set_option maxRecDepth 20000 in
set_option maxHeartbeats 2000000 in
theorem kB_W_change_97 {N : Nat} {p0 : Nat} {p1 : Int32} {p2 : Int32} {p3 : Int32} {l4 : Nat} {l5 : Int32} {w0 : Int32} {w1 : Int32} {H : Hp} {r : Int32 × Hp} (hF : B_W_change_97 N p0 p1 p2 p3 l4 l5 w0 w1 H = some r) : ab_V y_W_change { frames := 2, cells := 0, slots := 0, locals := 49 } (po (.returned (some (.int r.1))) r.2) 0 0 0 0 97 [some (.ref p0), some (.int p1), some (.int p2), some (.int p3), some (.ref l4), some (.int l5)] [.int w1, .int w0] (hpw H) := by
  unfold B_W_change_97 at hF
  refine ab_icmp_ne (tgt := 103) d_W_change_97 (by decide) (fun q35 => ?_) (fun q35 => ?_)
  · rw [if_neg q35] at hF
    refine ab_iload_n d_W_change_103 rfl rfl ?_
    refine ab_iconst (v := 1) d_W_change_104 (by decide) ?_
    refine ab_icmp_ne (tgt := 123) d_W_change_105 (by decide) (fun q36 => ?_) (fun q36 => ?_)
    · rw [if_neg q36] at hF
      refine ab_aload d_W_change_123 rfl rfl ?_
      refine ab_iload d_W_change_125 rfl ?_
      refine ab_iload_n d_W_change_127 rfl rfl ?_
      obtain ⟨q37, hG⟩ := ck_s hF; clear hF
      obtain ⟨v39, H40, z38, hF⟩ := bC_s hG; clear hG
      refine hp_callV_v (H1 := H40) (As := [.int l5, .int p3]) (rest := []) d_W_change_128 (k_World_takeAt z38) (ab_mkC s_World_takeAt (Nat.le_of_ble_eq_true rfl) (Nat.le_of_ble_eq_true rfl) (Nat.le_refl 0) (Nat.le_refl 0)) (k7 181 rfl rfl) i_World_takeAt v_World_takeAt q37 (by decide) rfl rfl (Nat.le_of_ble_eq_true rfl) ?_
      have s_4 : Sa H H40 := (m_World_takeAt z38)
      refine ab_iconst (v := 0) d_W_change_131 (by decide) ?_
      exact ab_iret d_W_change_132 rfl (Nat.le_refl _) (Nat.le_refl _) (by have hr := Option.some.inj hF; subst hr; exact ⟨rfl, rfl⟩)
    · rw [if_pos q36] at hF
      refine ab_aload d_W_change_108 rfl rfl ?_
      refine ab_aload_n d_W_change_110 rfl rfl rfl ?_
      obtain ⟨q41, hG⟩ := ck_s hF; clear hF
      obtain ⟨a42, e43, hF⟩ := rf_s hG; clear hG
      refine hp_getR (f := 4) d_W_change_111 q41 (by decide) rfl (by decide) (k3 161 rfl rfl) rfl e43 ?_
      refine ab_iload d_W_change_114 rfl ?_
      refine ab_iload_n d_W_change_116 rfl rfl ?_
      obtain ⟨q44, hG⟩ := ck_s hF; clear hF
      obtain ⟨v46, H47, z45, hF⟩ := bC_s hG; clear hG
      refine hp_callV_v (H1 := H47) (As := [.ref a42, .int l5, .int p3]) (rest := []) d_W_change_117 (k_World_giveAt z45) (ab_mkC s_World_giveAt (Nat.le_of_ble_eq_true rfl) (Nat.le_of_ble_eq_true rfl) (Nat.le_refl 0) (Nat.le_refl 0)) (k7 180 rfl rfl) i_World_giveAt v_World_giveAt q44 (by decide) rfl rfl (Nat.le_of_ble_eq_true rfl) ?_
      have s_5 : Sa H H47 := (m_World_giveAt z45)
      refine ab_goto (tgt := 131) d_W_change_120 (by decide) ?_
      refine ab_iconst (v := 0) d_W_change_131 (by decide) ?_
      exact ab_iret d_W_change_132 rfl (Nat.le_refl _) (Nat.le_refl _) (by have hr := Option.some.inj hF; subst hr; exact ⟨rfl, rfl⟩)
  · rw [if_pos q35] at hF
    refine ab_bipush (v := (-2)) d_W_change_100 (by decide) ?_
    exact ab_iret d_W_change_102 rfl (Nat.le_refl _) (Nat.le_refl _) (by have hr := Option.some.inj hF; subst hr; exact ⟨rfl, rfl⟩)
def F_W_change (N : Nat) (p0 : Nat) (p1 : Int32) (p2 : Int32) (p3 : Int32) (H : Hp) : Option (Int32 × Hp) :=
    ck (H.sh[p0]? = some (0, 0)) <|
    rf (H.P p0 2) fun a2 =>
    ck (H.sh[a2]? = some (10, 0)) <|
    bC (F_Play_isQuiet N a2 H) fun v6 H7 =>
    if v6 = (0 : Int32) then
    some ((-10), H7)
    else
    rf (H7.P p0 2) fun a9 =>
    ck (H7.sh[a9]? = some (10, 0)) <|
    rf (H7.P a9 0) fun a12 =>
    ck (H7.sh[a12]? = some (7, 0)) <|
    bC (F_World_placeOf N a12 p2 H7) fun v16 H17 =>
    if p1 < (0 : Int32) then
    some ((-1), H17)
    else
    if (2 : Int32) < p1 then
    some ((-1), H17)
    else
    if (0 : Int32) ≤ v16 then
    if p1 = (0 : Int32) then
    bC (F_World_remove N a12 v16 H17) fun v62 H63 =>
    some (0, H63)
    else
    if p3 < (0 : Int32) then
    some ((-1), H17)
    else
    rf (H17.P p0 4) fun a23 =>
    ck (H17.sh[a23]? = some (4, 0)) <|
    rf (H17.P a23 2) fun a26 =>
    ck (H17.sh[a26]? = some (3, 0)) <|
    bnd ((H17.D a26 3)) fun x29 =>
    if p3 < x29 then
    bC (F_World_owns N a12 v16 p3 H17) fun v32 H33 =>
    if p1 = (1 : Int32) then
    B_W_change_97 N p0 p1 p2 p3 a12 v16 v32 1 H33
    else
    B_W_change_97 N p0 p1 p2 p3 a12 v16 v32 0 H33
    else
    some ((-1), H17)
    else
    some ((-1), H17)
set_option maxRecDepth 20000 in
set_option maxHeartbeats 2000000 in
theorem m_W_change {N : Nat} {p0 : Nat} {p1 : Int32} {p2 : Int32} {p3 : Int32} {H : Hp} {r : Int32 × Hp} (hF : F_W_change N p0 p1 p2 p3 H = some r) : Sa H r.2 := by
  unfold F_W_change at hF
  have hm := Sa.rf H
  obtain ⟨q64, hG⟩ := ck_s hF; clear hF
  obtain ⟨a65, e66, hF⟩ := rf_s hG; clear hG
  obtain ⟨q67, hG⟩ := ck_s hF; clear hF
  obtain ⟨v69, H70, z68, hF⟩ := bC_s hG; clear hG
  replace hm : Sa H H70 := hm.tr (m_Play_isQuiet z68)
  rcases ite_s hF with ⟨q_12, hG⟩ | ⟨q_12, hG⟩
  · clear hF
    have hr := Option.some.inj hG; subst hr
    exact hm
  · clear hF
    obtain ⟨a72, e73, hF⟩ := rf_s hG; clear hG
    obtain ⟨q74, hG⟩ := ck_s hF; clear hF
    obtain ⟨a75, e76, hF⟩ := rf_s hG; clear hG
    obtain ⟨q77, hG⟩ := ck_s hF; clear hF
    obtain ⟨v79, H80, z78, hF⟩ := bC_s hG; clear hG
    replace hm : Sa H H80 := hm.tr (m_World_placeOf z78)
    rcases ite_s hF with ⟨q_14, hG⟩ | ⟨q_14, hG⟩
    · clear hF
      have hr := Option.some.inj hG; subst hr
      exact hm
    · clear hF
      rcases ite_s hG with ⟨q_15, hF⟩ | ⟨q_15, hF⟩
      · clear hG
        have hr := Option.some.inj hF; subst hr
        exact hm
      · clear hG
        rcases ite_s hF with ⟨q_16, hG⟩ | ⟨q_16, hG⟩
        · clear hF
          rcases ite_s hG with ⟨q_17, hF⟩ | ⟨q_17, hF⟩
          · clear hG
            obtain ⟨v86, H87, z85, hG⟩ := bC_s hF; clear hF
            replace hm : Sa H H87 := hm.tr (m_World_remove z85)
            have hr := Option.some.inj hG; subst hr
            exact hm
          · clear hG
            rcases ite_s hF with ⟨q_19, hG⟩ | ⟨q_19, hG⟩
            · clear hF
              have hr := Option.some.inj hG; subst hr
              exact hm
            · clear hF
              obtain ⟨a89, e90, hF⟩ := rf_s hG; clear hG
              obtain ⟨q91, hG⟩ := ck_s hF; clear hF
              obtain ⟨a92, e93, hF⟩ := rf_s hG; clear hG
              obtain ⟨q94, hG⟩ := ck_s hF; clear hF
              obtain ⟨x95, -, hF⟩ := bnd_g hG; clear hG
              rcases ite_s hF with ⟨q_20, hG⟩ | ⟨q_20, hG⟩
              · clear hF
                obtain ⟨v98, H99, z97, hF⟩ := bC_s hG; clear hG
                replace hm : Sa H H99 := hm.tr (m_World_owns z97)
                rcases ite_s hF with ⟨q_22, hG⟩ | ⟨q_22, hG⟩
                · clear hF
                  exact hm.tr (mB_W_change_97 hG)
                · clear hF
                  exact hm.tr (mB_W_change_97 hG)
              · clear hF
                have hr := Option.some.inj hG; subst hr
                exact hm
        · clear hF
          have hr := Option.some.inj hG; subst hr
          exact hm
set_option maxRecDepth 20000 in
set_option maxHeartbeats 2000000 in
theorem k_W_change {N : Nat} {p0 : Nat} {p1 : Int32} {p2 : Int32} {p3 : Int32} {H : Hp} {r : Int32 × Hp} (hF : F_W_change N p0 p1 p2 p3 H = some r) : ab_M y_W_change { frames := 2, cells := 0, slots := 0, locals := 49 } [.ref p0, .int p1, .int p2, .int p3] (hpw H) (po (.returned (some (.int r.1))) r.2) := by
  unfold F_W_change at hF
  refine ab_of2 (lv := [some (.ref p0), some (.int p1), some (.int p2), some (.int p3), none, none]) 2 rfl rfl (Nat.le_of_ble_eq_true rfl) ?_
  refine ab_aload_n d_W_change_0 rfl rfl rfl ?_
  obtain ⟨q1, hG⟩ := ck_s hF; clear hF
  obtain ⟨a2, e3, hF⟩ := rf_s hG; clear hG
  refine hp_getR (f := 2) d_W_change_1 q1 (by decide) rfl (by decide) (k3 159 rfl rfl) rfl e3 ?_
  obtain ⟨q4, hG⟩ := ck_s hF; clear hF
  obtain ⟨v6, H7, z5, hF⟩ := bC_s hG; clear hG
  refine hp_callV_a (v := .int v6) (H1 := H7) (As := []) (rest := []) d_W_change_4 (k_Play_isQuiet z5) (ab_mkC s_Play_isQuiet (Nat.le_of_ble_eq_true rfl) (Nat.le_of_ble_eq_true rfl) (Nat.le_refl 0) (Nat.le_refl 0)) (k6 95 rfl rfl) i_Play_isQuiet v_Play_isQuiet q4 (by decide) rfl rfl (Nat.le_of_ble_eq_true rfl) ?_
  have s_1 : Sa H H7 := (m_Play_isQuiet z5)
  refine ab_if_ne (tgt := 13) d_W_change_7 (by decide) (fun q8 => ?_) (fun q8 => ?_)
  · rw [if_neg q8] at hF
    refine ab_aload_n d_W_change_13 rfl rfl rfl ?_
    obtain ⟨a9, e10, hG⟩ := rf_s hF; clear hF
    refine hp_getR (f := 2) d_W_change_14 (by rw [(s_1).1]; exact q1) (by decide) rfl (by decide) (k3 159 rfl rfl) rfl e10 ?_
    obtain ⟨q11, hF⟩ := ck_s hG; clear hG
    rw [(s_1).1] at q11
    obtain ⟨a12, e13, hG⟩ := rf_s hF; clear hF
    refine hp_getR (f := 0) d_W_change_17 (by rw [(s_1).1]; exact q11) (by decide) rfl (by decide) (k2 131 rfl rfl) rfl e13 ?_
    refine ab_astore (lv' := [some (.ref p0), some (.int p1), some (.int p2), some (.int p3), some (.ref a12), none]) d_W_change_20 (by decide) rfl rfl ?_
    refine ab_aload d_W_change_22 rfl rfl ?_
    refine ab_iload_n d_W_change_24 rfl rfl ?_
    obtain ⟨q14, hF⟩ := ck_s hG; clear hG
    rw [(s_1).1] at q14
    obtain ⟨v16, H17, z15, hG⟩ := bC_s hF; clear hF
    refine hp_callV_a (v := .int v16) (H1 := H17) (As := [.int p2]) (rest := []) d_W_change_25 (k_World_placeOf z15) (ab_mkC s_World_placeOf (Nat.le_of_ble_eq_true rfl) (Nat.le_of_ble_eq_true rfl) (Nat.le_refl 0) (Nat.le_refl 0)) (k7 177 rfl rfl) i_World_placeOf v_World_placeOf (by rw [(s_1).1]; exact q14) (by decide) rfl rfl (Nat.le_of_ble_eq_true rfl) ?_
    have s_2 : Sa H H17 := (s_1).tr (m_World_placeOf z15)
    refine ab_istore (lv' := [some (.ref p0), some (.int p1), some (.int p2), some (.int p3), some (.ref a12), some (.int v16)]) d_W_change_28 (by decide) rfl ?_
    refine ab_iload_n d_W_change_30 rfl rfl ?_
    refine ab_if_lt (tgt := 44) d_W_change_31 (by decide) (fun q18 => ?_) (fun q18 => ?_)
    · rw [if_pos q18] at hG
      refine ab_iconst (v := (-1)) d_W_change_44 (by decide) ?_
      exact ab_iret d_W_change_45 rfl (Nat.le_refl _) (Nat.le_refl _) (by have hr := Option.some.inj hG; subst hr; exact ⟨rfl, rfl⟩)
    · rw [if_neg q18] at hG
      refine ab_iload_n d_W_change_34 rfl rfl ?_
      refine ab_iconst (v := 2) d_W_change_35 (by decide) ?_
      refine ab_icmp_gt (tgt := 44) d_W_change_36 (by decide) (fun q19 => ?_) (fun q19 => ?_)
      · rw [if_pos q19] at hG
        refine ab_iconst (v := (-1)) d_W_change_44 (by decide) ?_
        exact ab_iret d_W_change_45 rfl (Nat.le_refl _) (Nat.le_refl _) (by have hr := Option.some.inj hG; subst hr; exact ⟨rfl, rfl⟩)
      · rw [if_neg q19] at hG
        refine ab_iload d_W_change_39 rfl ?_
        refine ab_if_ge (tgt := 46) d_W_change_41 (by decide) (fun q20 => ?_) (fun q20 => ?_)
        · rw [if_pos q20] at hG
          refine ab_iload_n d_W_change_46 rfl rfl ?_
          refine ab_if_ne (tgt := 59) d_W_change_47 (by decide) (fun q21 => ?_) (fun q21 => ?_)
          · rw [if_neg q21] at hG
            refine ab_iload_n d_W_change_59 rfl rfl ?_
            refine ab_if_lt (tgt := 77) d_W_change_60 (by decide) (fun q22 => ?_) (fun q22 => ?_)
            · rw [if_pos q22] at hG
              refine ab_iconst (v := (-1)) d_W_change_77 (by decide) ?_
              exact ab_iret d_W_change_78 rfl (Nat.le_refl _) (Nat.le_refl _) (by have hr := Option.some.inj hG; subst hr; exact ⟨rfl, rfl⟩)
            · rw [if_neg q22] at hG
              refine ab_iload_n d_W_change_63 rfl rfl ?_
              refine ab_aload_n d_W_change_64 rfl rfl rfl ?_
              obtain ⟨a23, e24, hF⟩ := rf_s hG; clear hG
              refine hp_getR (f := 4) d_W_change_65 (by rw [(s_2).1]; exact q1) (by decide) rfl (by decide) (k3 161 rfl rfl) rfl e24 ?_
              obtain ⟨q25, hG⟩ := ck_s hF; clear hF
              rw [(s_2).1] at q25
              obtain ⟨a26, e27, hF⟩ := rf_s hG; clear hG
              refine hp_getR (f := 2) d_W_change_68 (by rw [(s_2).1]; exact q25) (by decide) rfl (by decide) (k3 57 rfl rfl) rfl e27 ?_
              obtain ⟨q28, hG⟩ := ck_s hF; clear hF
              rw [(s_2).1] at q28
              refine hp_getI (f := 3) d_W_change_71 (by rw [(s_2).1]; exact q28) (by decide) rfl (by decide) (k3 42 rfl rfl) rfl ?_
              refine ab_topi (fun x29 ex29 => ?_)
              replace hG := bnd_s ex29 hG
              refine ab_icmp_lt (tgt := 79) d_W_change_74 (by decide) (fun q30 => ?_) (fun q30 => ?_)
              · rw [if_pos q30] at hG
                refine ab_aload d_W_change_79 rfl rfl ?_
                refine ab_iload d_W_change_81 rfl ?_
                refine ab_iload_n d_W_change_83 rfl rfl ?_
                obtain ⟨v32, H33, z31, hF⟩ := bC_s hG; clear hG
                refine hp_callV_a (v := .int v32) (H1 := H33) (As := [.int v16, .int p3]) (rest := []) d_W_change_84 (k_World_owns z31) (ab_mkC s_World_owns (Nat.le_of_ble_eq_true rfl) (Nat.le_of_ble_eq_true rfl) (Nat.le_refl 0) (Nat.le_refl 0)) (k7 179 rfl rfl) i_World_owns v_World_owns (by rw [(s_2).1]; exact q14) (by decide) rfl rfl (Nat.le_of_ble_eq_true rfl) ?_
                have s_3 : Sa H H33 := (s_2).tr (m_World_owns z31)
                refine ab_iload_n d_W_change_87 rfl rfl ?_
                refine ab_iconst (v := 1) d_W_change_88 (by decide) ?_
                refine ab_icmp_ne (tgt := 96) d_W_change_89 (by decide) (fun q34 => ?_) (fun q34 => ?_)
                · rw [if_neg q34] at hF
                  refine ab_iconst (v := 0) d_W_change_96 (by decide) ?_
                  exact kB_W_change_97 hF
                · rw [if_pos q34] at hF
                  refine ab_iconst (v := 1) d_W_change_92 (by decide) ?_
                  refine ab_goto (tgt := 97) d_W_change_93 (by decide) ?_
                  exact kB_W_change_97 hF
              · rw [if_neg q30] at hG
                refine ab_iconst (v := (-1)) d_W_change_77 (by decide) ?_
                exact ab_iret d_W_change_78 rfl (Nat.le_refl _) (Nat.le_refl _) (by have hr := Option.some.inj hG; subst hr; exact ⟨rfl, rfl⟩)
          · rw [if_pos q21] at hG
            refine ab_aload d_W_change_50 rfl rfl ?_
            refine ab_iload d_W_change_52 rfl ?_
            obtain ⟨v62, H63, z61, hF⟩ := bC_s hG; clear hG
            refine hp_callV_v (H1 := H63) (As := [.int v16]) (rest := []) d_W_change_54 (k_World_remove z61) (ab_mkC s_World_remove (Nat.le_of_ble_eq_true rfl) (Nat.le_of_ble_eq_true rfl) (Nat.le_refl 0) (Nat.le_refl 0)) (k7 178 rfl rfl) i_World_remove v_World_remove (by rw [(s_2).1]; exact q14) (by decide) rfl rfl (Nat.le_of_ble_eq_true rfl) ?_
            have s_10 : Sa H H63 := (s_2).tr (m_World_remove z61)
            refine ab_iconst (v := 0) d_W_change_57 (by decide) ?_
            exact ab_iret d_W_change_58 rfl (Nat.le_refl _) (Nat.le_refl _) (by have hr := Option.some.inj hF; subst hr; exact ⟨rfl, rfl⟩)
        · rw [if_neg q20] at hG
          refine ab_iconst (v := (-1)) d_W_change_44 (by decide) ?_
          exact ab_iret d_W_change_45 rfl (Nat.le_refl _) (Nat.le_refl _) (by have hr := Option.some.inj hG; subst hr; exact ⟨rfl, rfl⟩)
  · rw [if_pos q8] at hF
    refine ab_bipush (v := (-10)) d_W_change_10 (by decide) ?_
    exact ab_iret d_W_change_12 rfl (Nat.le_refl _) (Nat.le_refl _) (by have hr := Option.some.inj hF; subst hr; exact ⟨rfl, rfl⟩)
def y_W_has : ab_Y := (⟨"WorldEngine", "has", "(II)Z"⟩, prog_1_method_16_code, 4, (some FieldType.boolean), [])
theorem d_W_has_0 : decode y_W_has.2.1 0 = .ok (.aload_n 0, 1) := by decide +kernel
theorem d_W_has_1 : decode y_W_has.2.1 1 = .ok (.getfield 28, 3) := by decide +kernel
theorem d_W_has_4 : decode y_W_has.2.1 4 = .ok (.getfield 121, 3) := by decide +kernel
theorem d_W_has_7 : decode y_W_has.2.1 7 = .ok (.iload_n 1, 1) := by decide +kernel
theorem d_W_has_8 : decode y_W_has.2.1 8 = .ok (.invokevirtual 157, 3) := by decide +kernel
theorem d_W_has_11 : decode y_W_has.2.1 11 = .ok (.istore_n 3, 1) := by decide +kernel
theorem d_W_has_12 : decode y_W_has.2.1 12 = .ok (.iload_n 3, 1) := by decide +kernel
theorem d_W_has_13 : decode y_W_has.2.1 13 = .ok (.ifCond .lt 21, 3) := by decide +kernel
theorem d_W_has_16 : decode y_W_has.2.1 16 = .ok (.iload_n 2, 1) := by decide +kernel
theorem d_W_has_17 : decode y_W_has.2.1 17 = .ok (.ifCond .lt 17, 3) := by decide +kernel
theorem d_W_has_20 : decode y_W_has.2.1 20 = .ok (.iload_n 2, 1) := by decide +kernel
theorem d_W_has_21 : decode y_W_has.2.1 21 = .ok (.aload_n 0, 1) := by decide +kernel
theorem d_W_has_22 : decode y_W_has.2.1 22 = .ok (.getfield 42, 3) := by decide +kernel
theorem d_W_has_25 : decode y_W_has.2.1 25 = .ok (.getfield 90, 3) := by decide +kernel
theorem d_W_has_28 : decode y_W_has.2.1 28 = .ok (.getfield 163, 3) := by decide +kernel
theorem d_W_has_31 : decode y_W_has.2.1 31 = .ok (.if_icmp .lt 5, 3) := by decide +kernel
theorem d_W_has_34 : decode y_W_has.2.1 34 = .ok (.iconst 0, 1) := by decide +kernel
theorem d_W_has_35 : decode y_W_has.2.1 35 = .ok (.ireturn, 1) := by decide +kernel
theorem d_W_has_36 : decode y_W_has.2.1 36 = .ok (.aload_n 0, 1) := by decide +kernel
theorem d_W_has_37 : decode y_W_has.2.1 37 = .ok (.getfield 28, 3) := by decide +kernel
theorem d_W_has_40 : decode y_W_has.2.1 40 = .ok (.getfield 121, 3) := by decide +kernel
theorem d_W_has_43 : decode y_W_has.2.1 43 = .ok (.iload_n 3, 1) := by decide +kernel
theorem d_W_has_44 : decode y_W_has.2.1 44 = .ok (.iload_n 2, 1) := by decide +kernel
theorem d_W_has_45 : decode y_W_has.2.1 45 = .ok (.invokevirtual 166, 3) := by decide +kernel
theorem d_W_has_48 : decode y_W_has.2.1 48 = .ok (.ireturn, 1) := by decide +kernel
theorem s_W_has : ab_Stat y_W_has 2 := ⟨(k7 193 rfl rfl), (k1 1 rfl rfl), ⟨by decide, by decide⟩, by decide +kernel⟩
theorem i_W_has : Cond.instanceMethod y_W_has.1 ∈ ab_T := (k7 191 rfl rfl)
theorem v_W_has : Cond.selects "WorldEngine" y_W_has.1 y_W_has.1 ∈ ab_T := (k7 192 rfl rfl)
def F_W_has (N : Nat) (p0 : Nat) (p1 : Int32) (p2 : Int32) (H : Hp) : Option (Int32 × Hp) :=
    ck (H.sh[p0]? = some (0, 0)) <|
    rf (H.P p0 2) fun a2 =>
    ck (H.sh[a2]? = some (10, 0)) <|
    rf (H.P a2 0) fun a5 =>
    ck (H.sh[a5]? = some (7, 0)) <|
    bC (F_World_placeOf N a5 p1 H) fun v9 H10 =>
    if v9 < (0 : Int32) then
    some (0, H10)
    else
    if p2 < (0 : Int32) then
    some (0, H10)
    else
    rf (H10.P p0 4) fun a13 =>
    ck (H10.sh[a13]? = some (4, 0)) <|
    rf (H10.P a13 2) fun a16 =>
    ck (H10.sh[a16]? = some (3, 0)) <|
    bnd ((H10.D a16 3)) fun x19 =>
    if p2 < x19 then
    rf (H10.P p0 2) fun a21 =>
    ck (H10.sh[a21]? = some (10, 0)) <|
    rf (H10.P a21 0) fun a24 =>
    ck (H10.sh[a24]? = some (7, 0)) <|
    bC (F_World_owns N a24 v9 p2 H10) fun v28 H29 =>
    ck (v28 &&& 1 = v28) <|
    some (v28, H29)
    else
    some (0, H10)
set_option maxRecDepth 20000 in
set_option maxHeartbeats 2000000 in
theorem m_W_has {N : Nat} {p0 : Nat} {p1 : Int32} {p2 : Int32} {H : Hp} {r : Int32 × Hp} (hF : F_W_has N p0 p1 p2 H = some r) : Sa H r.2 := by
  unfold F_W_has at hF
  have hm := Sa.rf H
  obtain ⟨q31, hG⟩ := ck_s hF; clear hF
  obtain ⟨a32, e33, hF⟩ := rf_s hG; clear hG
  obtain ⟨q34, hG⟩ := ck_s hF; clear hF
  obtain ⟨a35, e36, hF⟩ := rf_s hG; clear hG
  obtain ⟨q37, hG⟩ := ck_s hF; clear hF
  obtain ⟨v39, H40, z38, hF⟩ := bC_s hG; clear hG
  replace hm : Sa H H40 := hm.tr (m_World_placeOf z38)
  rcases ite_s hF with ⟨q_4, hG⟩ | ⟨q_4, hG⟩
  · clear hF
    have hr := Option.some.inj hG; subst hr
    exact hm
  · clear hF
    rcases ite_s hG with ⟨q_5, hF⟩ | ⟨q_5, hF⟩
    · clear hG
      have hr := Option.some.inj hF; subst hr
      exact hm
    · clear hG
      obtain ⟨a43, e44, hG⟩ := rf_s hF; clear hF
      obtain ⟨q45, hF⟩ := ck_s hG; clear hG
      obtain ⟨a46, e47, hG⟩ := rf_s hF; clear hF
      obtain ⟨q48, hF⟩ := ck_s hG; clear hG
      obtain ⟨x49, -, hG⟩ := bnd_g hF; clear hF
      rcases ite_s hG with ⟨q_6, hF⟩ | ⟨q_6, hF⟩
      · clear hG
        obtain ⟨a51, e52, hG⟩ := rf_s hF; clear hF
        obtain ⟨q53, hF⟩ := ck_s hG; clear hG
        obtain ⟨a54, e55, hG⟩ := rf_s hF; clear hF
        obtain ⟨q56, hF⟩ := ck_s hG; clear hG
        obtain ⟨v58, H59, z57, hG⟩ := bC_s hF; clear hF
        replace hm : Sa H H59 := hm.tr (m_World_owns z57)
        obtain ⟨q60, hF⟩ := ck_s hG; clear hG
        have hr := Option.some.inj hF; subst hr
        exact hm
      · clear hG
        have hr := Option.some.inj hF; subst hr
        exact hm
set_option maxRecDepth 20000 in
set_option maxHeartbeats 2000000 in
theorem k_W_has {N : Nat} {p0 : Nat} {p1 : Int32} {p2 : Int32} {H : Hp} {r : Int32 × Hp} (hF : F_W_has N p0 p1 p2 H = some r) : ab_M y_W_has { frames := 1, cells := 0, slots := 0, locals := 22 } [.ref p0, .int p1, .int p2] (hpw H) (po (.returned (some (.int r.1))) r.2) := by
  unfold F_W_has at hF
  refine ab_of2 (lv := [some (.ref p0), some (.int p1), some (.int p2), none]) 1 rfl rfl (Nat.le_of_ble_eq_true rfl) ?_
  refine ab_aload_n d_W_has_0 rfl rfl rfl ?_
  obtain ⟨q1, hG⟩ := ck_s hF; clear hF
  obtain ⟨a2, e3, hF⟩ := rf_s hG; clear hG
  refine hp_getR (f := 2) d_W_has_1 q1 (by decide) rfl (by decide) (k3 159 rfl rfl) rfl e3 ?_
  obtain ⟨q4, hG⟩ := ck_s hF; clear hF
  obtain ⟨a5, e6, hF⟩ := rf_s hG; clear hG
  refine hp_getR (f := 0) d_W_has_4 q4 (by decide) rfl (by decide) (k2 131 rfl rfl) rfl e6 ?_
  refine ab_iload_n d_W_has_7 rfl rfl ?_
  obtain ⟨q7, hG⟩ := ck_s hF; clear hF
  obtain ⟨v9, H10, z8, hF⟩ := bC_s hG; clear hG
  refine hp_callV_a (v := .int v9) (H1 := H10) (As := [.int p1]) (rest := []) d_W_has_8 (k_World_placeOf z8) (ab_mkC s_World_placeOf (Nat.le_of_ble_eq_true rfl) (Nat.le_of_ble_eq_true rfl) (Nat.le_refl 0) (Nat.le_refl 0)) (k7 177 rfl rfl) i_World_placeOf v_World_placeOf q7 (by decide) rfl rfl (Nat.le_of_ble_eq_true rfl) ?_
  have s_1 : Sa H H10 := (m_World_placeOf z8)
  refine ab_istore_n (lv' := [some (.ref p0), some (.int p1), some (.int p2), some (.int v9)]) d_W_has_11 rfl (by decide) rfl ?_
  refine ab_iload_n d_W_has_12 rfl rfl ?_
  refine ab_if_lt (tgt := 34) d_W_has_13 (by decide) (fun q11 => ?_) (fun q11 => ?_)
  · rw [if_pos q11] at hF
    refine ab_iconst (v := 0) d_W_has_34 (by decide) ?_
    exact ab_zret d_W_has_35 rfl rfl (Nat.le_refl _) (Nat.le_refl _) (by have hr := Option.some.inj hF; subst hr; exact ⟨rfl, rfl⟩)
  · rw [if_neg q11] at hF
    refine ab_iload_n d_W_has_16 rfl rfl ?_
    refine ab_if_lt (tgt := 34) d_W_has_17 (by decide) (fun q12 => ?_) (fun q12 => ?_)
    · rw [if_pos q12] at hF
      refine ab_iconst (v := 0) d_W_has_34 (by decide) ?_
      exact ab_zret d_W_has_35 rfl rfl (Nat.le_refl _) (Nat.le_refl _) (by have hr := Option.some.inj hF; subst hr; exact ⟨rfl, rfl⟩)
    · rw [if_neg q12] at hF
      refine ab_iload_n d_W_has_20 rfl rfl ?_
      refine ab_aload_n d_W_has_21 rfl rfl rfl ?_
      obtain ⟨a13, e14, hG⟩ := rf_s hF; clear hF
      refine hp_getR (f := 4) d_W_has_22 (by rw [(s_1).1]; exact q1) (by decide) rfl (by decide) (k3 161 rfl rfl) rfl e14 ?_
      obtain ⟨q15, hF⟩ := ck_s hG; clear hG
      rw [(s_1).1] at q15
      obtain ⟨a16, e17, hG⟩ := rf_s hF; clear hF
      refine hp_getR (f := 2) d_W_has_25 (by rw [(s_1).1]; exact q15) (by decide) rfl (by decide) (k3 57 rfl rfl) rfl e17 ?_
      obtain ⟨q18, hF⟩ := ck_s hG; clear hG
      rw [(s_1).1] at q18
      refine hp_getI (f := 3) d_W_has_28 (by rw [(s_1).1]; exact q18) (by decide) rfl (by decide) (k3 42 rfl rfl) rfl ?_
      refine ab_topi (fun x19 ex19 => ?_)
      replace hF := bnd_s ex19 hF
      refine ab_icmp_lt (tgt := 36) d_W_has_31 (by decide) (fun q20 => ?_) (fun q20 => ?_)
      · rw [if_pos q20] at hF
        refine ab_aload_n d_W_has_36 rfl rfl rfl ?_
        obtain ⟨a21, e22, hG⟩ := rf_s hF; clear hF
        refine hp_getR (f := 2) d_W_has_37 (by rw [(s_1).1]; exact q1) (by decide) rfl (by decide) (k3 159 rfl rfl) rfl e22 ?_
        obtain ⟨q23, hF⟩ := ck_s hG; clear hG
        rw [(s_1).1] at q23
        obtain ⟨a24, e25, hG⟩ := rf_s hF; clear hF
        refine hp_getR (f := 0) d_W_has_40 (by rw [(s_1).1]; exact q23) (by decide) rfl (by decide) (k2 131 rfl rfl) rfl e25 ?_
        refine ab_iload_n d_W_has_43 rfl rfl ?_
        refine ab_iload_n d_W_has_44 rfl rfl ?_
        obtain ⟨q26, hF⟩ := ck_s hG; clear hG
        rw [(s_1).1] at q26
        obtain ⟨v28, H29, z27, hG⟩ := bC_s hF; clear hF
        refine hp_callV_a (v := .int v28) (H1 := H29) (As := [.int v9, .int p2]) (rest := []) d_W_has_45 (k_World_owns z27) (ab_mkC s_World_owns (Nat.le_of_ble_eq_true rfl) (Nat.le_of_ble_eq_true rfl) (Nat.le_refl 0) (Nat.le_refl 0)) (k7 179 rfl rfl) i_World_owns v_World_owns (by rw [(s_1).1]; exact q26) (by decide) rfl rfl (Nat.le_of_ble_eq_true rfl) ?_
        have s_2 : Sa H H29 := (s_1).tr (m_World_owns z27)
        obtain ⟨q30, hF⟩ := ck_s hG; clear hG
        exact ab_zret d_W_has_48 rfl (congrArg Value.int q30) (Nat.le_refl _) (Nat.le_refl _) (by have hr := Option.some.inj hF; subst hr; exact ⟨rfl, rfl⟩)
      · rw [if_neg q20] at hF
        refine ab_iconst (v := 0) d_W_has_34 (by decide) ?_
        exact ab_zret d_W_has_35 rfl rfl (Nat.le_refl _) (Nat.le_refl _) (by have hr := Option.some.inj hF; subst hr; exact ⟨rfl, rfl⟩)
def y_W_offsetOf : ab_Y := (⟨"WorldEngine", "offsetOf", "(III)I"⟩, prog_1_method_15_code, 5, (some FieldType.int), [])
theorem d_W_offsetOf_0 : decode y_W_offsetOf.2.1 0 = .ok (.aload_n 0, 1) := by decide +kernel
theorem d_W_offsetOf_1 : decode y_W_offsetOf.2.1 1 = .ok (.iload_n 1, 1) := by decide +kernel
theorem d_W_offsetOf_2 : decode y_W_offsetOf.2.1 2 = .ok (.iload_n 2, 1) := by decide +kernel
theorem d_W_offsetOf_3 : decode y_W_offsetOf.2.1 3 = .ok (.invokevirtual 204, 3) := by decide +kernel
theorem d_W_offsetOf_6 : decode y_W_offsetOf.2.1 6 = .ok (.ifCond .ne 5, 3) := by decide +kernel
theorem d_W_offsetOf_9 : decode y_W_offsetOf.2.1 9 = .ok (.iconst (-1), 1) := by decide +kernel
theorem d_W_offsetOf_10 : decode y_W_offsetOf.2.1 10 = .ok (.ireturn, 1) := by decide +kernel
theorem d_W_offsetOf_11 : decode y_W_offsetOf.2.1 11 = .ok (.aload_n 0, 1) := by decide +kernel
theorem d_W_offsetOf_12 : decode y_W_offsetOf.2.1 12 = .ok (.getfield 42, 3) := by decide +kernel
theorem d_W_offsetOf_15 : decode y_W_offsetOf.2.1 15 = .ok (.getfield 90, 3) := by decide +kernel
theorem d_W_offsetOf_18 : decode y_W_offsetOf.2.1 18 = .ok (.astore 4, 2) := by decide +kernel
theorem d_W_offsetOf_20 : decode y_W_offsetOf.2.1 20 = .ok (.iload_n 3, 1) := by decide +kernel
theorem d_W_offsetOf_21 : decode y_W_offsetOf.2.1 21 = .ok (.ifCond .lt 13, 3) := by decide +kernel
theorem d_W_offsetOf_24 : decode y_W_offsetOf.2.1 24 = .ok (.iload_n 3, 1) := by decide +kernel
theorem d_W_offsetOf_25 : decode y_W_offsetOf.2.1 25 = .ok (.aload 4, 2) := by decide +kernel
theorem d_W_offsetOf_27 : decode y_W_offsetOf.2.1 27 = .ok (.iload_n 2, 1) := by decide +kernel
theorem d_W_offsetOf_28 : decode y_W_offsetOf.2.1 28 = .ok (.invokevirtual 207, 3) := by decide +kernel
theorem d_W_offsetOf_31 : decode y_W_offsetOf.2.1 31 = .ok (.if_icmp .lt 5, 3) := by decide +kernel
theorem d_W_offsetOf_34 : decode y_W_offsetOf.2.1 34 = .ok (.iconst (-1), 1) := by decide +kernel
theorem d_W_offsetOf_35 : decode y_W_offsetOf.2.1 35 = .ok (.ireturn, 1) := by decide +kernel
theorem d_W_offsetOf_36 : decode y_W_offsetOf.2.1 36 = .ok (.aload 4, 2) := by decide +kernel
theorem d_W_offsetOf_38 : decode y_W_offsetOf.2.1 38 = .ok (.getfield 210, 3) := by decide +kernel
theorem d_W_offsetOf_41 : decode y_W_offsetOf.2.1 41 = .ok (.iload_n 2, 1) := by decide +kernel
theorem d_W_offsetOf_42 : decode y_W_offsetOf.2.1 42 = .ok (.iaload, 1) := by decide +kernel
theorem d_W_offsetOf_43 : decode y_W_offsetOf.2.1 43 = .ok (.iload_n 3, 1) := by decide +kernel
theorem d_W_offsetOf_44 : decode y_W_offsetOf.2.1 44 = .ok (.iadd, 1) := by decide +kernel
theorem d_W_offsetOf_45 : decode y_W_offsetOf.2.1 45 = .ok (.ireturn, 1) := by decide +kernel
theorem s_W_offsetOf : ab_Stat y_W_offsetOf 3 := ⟨(k7 189 rfl rfl), (k1 1 rfl rfl), ⟨by decide, by decide⟩, by decide +kernel⟩
theorem i_W_offsetOf : Cond.instanceMethod y_W_offsetOf.1 ∈ ab_T := (k7 188 rfl rfl)
theorem v_W_offsetOf : Cond.selects "WorldEngine" y_W_offsetOf.1 y_W_offsetOf.1 ∈ ab_T := ab_s (List.mem_of_getElem? (i := 92) rfl) rfl
def F_W_offsetOf (N : Nat) (p0 : Nat) (p1 : Int32) (p2 : Int32) (p3 : Int32) (H : Hp) : Option (Int32 × Hp) :=
    ck (H.sh[p0]? = some (0, 0)) <|
    bC (F_W_has N p0 p1 p2 H) fun v3 H4 =>
    if v3 = (0 : Int32) then
    some ((-1), H4)
    else
    rf (H4.P p0 4) fun a6 =>
    ck (H4.sh[a6]? = some (4, 0)) <|
    rf (H4.P a6 2) fun a9 =>
    if p3 < (0 : Int32) then
    some ((-1), H4)
    else
    ck (H4.sh[a9]? = some (3, 0)) <|
    bC (F_Shapes_sizeOf N a9 p2 H4) fun v14 H15 =>
    if p3 < v14 then
    rf (H15.P a9 2) fun a17 =>
    ar H15 100 a17 fun n19 =>
    ck (inb p2 n19) <|
    bnd ((H15.D a17 (p2).toNatClampNeg)) fun x22 =>
    some (x22 + p3, H15)
    else
    some ((-1), H15)
set_option maxRecDepth 20000 in
set_option maxHeartbeats 2000000 in
theorem m_W_offsetOf {N : Nat} {p0 : Nat} {p1 : Int32} {p2 : Int32} {p3 : Int32} {H : Hp} {r : Int32 × Hp} (hF : F_W_offsetOf N p0 p1 p2 p3 H = some r) : Sa H r.2 := by
  unfold F_W_offsetOf at hF
  have hm := Sa.rf H
  obtain ⟨q23, hG⟩ := ck_s hF; clear hF
  obtain ⟨v25, H26, z24, hF⟩ := bC_s hG; clear hG
  replace hm : Sa H H26 := hm.tr (m_W_has z24)
  rcases ite_s hF with ⟨q_4, hG⟩ | ⟨q_4, hG⟩
  · clear hF
    have hr := Option.some.inj hG; subst hr
    exact hm
  · clear hF
    obtain ⟨a28, e29, hF⟩ := rf_s hG; clear hG
    obtain ⟨q30, hG⟩ := ck_s hF; clear hF
    obtain ⟨a31, e32, hF⟩ := rf_s hG; clear hG
    rcases ite_s hF with ⟨q_5, hG⟩ | ⟨q_5, hG⟩
    · clear hF
      have hr := Option.some.inj hG; subst hr
      exact hm
    · clear hF
      obtain ⟨q34, hF⟩ := ck_s hG; clear hG
      obtain ⟨v36, H37, z35, hG⟩ := bC_s hF; clear hF
      replace hm : Sa H H37 := hm.tr (m_Shapes_sizeOf z35)
      rcases ite_s hG with ⟨q_7, hF⟩ | ⟨q_7, hF⟩
      · clear hG
        obtain ⟨a39, e40, hG⟩ := rf_s hF; clear hF
        obtain ⟨n41, q42, hF⟩ := ar_s hG; clear hG
        obtain ⟨q43, hG⟩ := ck_s hF; clear hF
        obtain ⟨x44, -, hF⟩ := bnd_g hG; clear hG
        have hr := Option.some.inj hF; subst hr
        exact hm
      · clear hG
        have hr := Option.some.inj hF; subst hr
        exact hm
set_option maxRecDepth 20000 in
set_option maxHeartbeats 2000000 in
theorem k_W_offsetOf {N : Nat} {p0 : Nat} {p1 : Int32} {p2 : Int32} {p3 : Int32} {H : Hp} {r : Int32 × Hp} (hF : F_W_offsetOf N p0 p1 p2 p3 H = some r) : ab_M y_W_offsetOf { frames := 2, cells := 0, slots := 0, locals := 45 } [.ref p0, .int p1, .int p2, .int p3] (hpw H) (po (.returned (some (.int r.1))) r.2) := by
  unfold F_W_offsetOf at hF
  refine ab_of2 (lv := [some (.ref p0), some (.int p1), some (.int p2), some (.int p3), none]) 1 rfl rfl (Nat.le_of_ble_eq_true rfl) ?_
  refine ab_aload_n d_W_offsetOf_0 rfl rfl rfl ?_
  refine ab_iload_n d_W_offsetOf_1 rfl rfl ?_
  refine ab_iload_n d_W_offsetOf_2 rfl rfl ?_
  obtain ⟨q1, hG⟩ := ck_s hF; clear hF
  obtain ⟨v3, H4, z2, hF⟩ := bC_s hG; clear hG
  refine hp_callV_a (v := .int v3) (H1 := H4) (As := [.int p1, .int p2]) (rest := []) d_W_offsetOf_3 (k_W_has z2) (ab_mkC s_W_has (Nat.le_of_ble_eq_true rfl) (Nat.le_of_ble_eq_true rfl) (Nat.le_refl 0) (Nat.le_refl 0)) (k7 190 rfl rfl) i_W_has v_W_has q1 (by decide) rfl rfl (Nat.le_of_ble_eq_true rfl) ?_
  have s_1 : Sa H H4 := (m_W_has z2)
  refine ab_if_ne (tgt := 11) d_W_offsetOf_6 (by decide) (fun q5 => ?_) (fun q5 => ?_)
  · rw [if_neg q5] at hF
    refine ab_aload_n d_W_offsetOf_11 rfl rfl rfl ?_
    obtain ⟨a6, e7, hG⟩ := rf_s hF; clear hF
    refine hp_getR (f := 4) d_W_offsetOf_12 (by rw [(s_1).1]; exact q1) (by decide) rfl (by decide) (k3 161 rfl rfl) rfl e7 ?_
    obtain ⟨q8, hF⟩ := ck_s hG; clear hG
    rw [(s_1).1] at q8
    obtain ⟨a9, e10, hG⟩ := rf_s hF; clear hF
    refine hp_getR (f := 2) d_W_offsetOf_15 (by rw [(s_1).1]; exact q8) (by decide) rfl (by decide) (k3 57 rfl rfl) rfl e10 ?_
    refine ab_astore (lv' := [some (.ref p0), some (.int p1), some (.int p2), some (.int p3), some (.ref a9)]) d_W_offsetOf_18 (by decide) rfl rfl ?_
    refine ab_iload_n d_W_offsetOf_20 rfl rfl ?_
    refine ab_if_lt (tgt := 34) d_W_offsetOf_21 (by decide) (fun q11 => ?_) (fun q11 => ?_)
    · rw [if_pos q11] at hG
      refine ab_iconst (v := (-1)) d_W_offsetOf_34 (by decide) ?_
      exact ab_iret d_W_offsetOf_35 rfl (Nat.le_refl _) (Nat.le_refl _) (by have hr := Option.some.inj hG; subst hr; exact ⟨rfl, rfl⟩)
    · rw [if_neg q11] at hG
      refine ab_iload_n d_W_offsetOf_24 rfl rfl ?_
      refine ab_aload d_W_offsetOf_25 rfl rfl ?_
      refine ab_iload_n d_W_offsetOf_27 rfl rfl ?_
      obtain ⟨q12, hF⟩ := ck_s hG; clear hG
      rw [(s_1).1] at q12
      obtain ⟨v14, H15, z13, hG⟩ := bC_s hF; clear hF
      refine hp_callV_a (v := .int v14) (H1 := H15) (As := [.int p2]) (rest := [.int p3]) d_W_offsetOf_28 (k_Shapes_sizeOf z13) (ab_mkC s_Shapes_sizeOf (Nat.le_of_ble_eq_true rfl) (Nat.le_of_ble_eq_true rfl) (Nat.le_refl 0) (Nat.le_refl 0)) (k7 194 rfl rfl) i_Shapes_sizeOf v_Shapes_sizeOf (by rw [(s_1).1]; exact q12) (by decide) rfl rfl (Nat.le_of_ble_eq_true rfl) ?_
      have s_2 : Sa H H15 := (s_1).tr (m_Shapes_sizeOf z13)
      refine ab_icmp_lt (tgt := 36) d_W_offsetOf_31 (by decide) (fun q16 => ?_) (fun q16 => ?_)
      · rw [if_pos q16] at hG
        refine ab_aload d_W_offsetOf_36 rfl rfl ?_
        obtain ⟨a17, e18, hF⟩ := rf_s hG; clear hG
        refine hp_getR (f := 2) d_W_offsetOf_38 (by rw [(s_2).1]; exact q12) (by decide) rfl (by decide) (k3 38 rfl rfl) rfl e18 ?_
        refine ab_iload_n d_W_offsetOf_41 rfl rfl ?_
        obtain ⟨n19, q20, hG⟩ := ar_s hF; clear hF
        rw [(s_2).1] at q20
        obtain ⟨q21, hF⟩ := ck_s hG; clear hG
        refine hp_iald d_W_offsetOf_42 tI (by rw [(s_2).1]; exact q20) q21 ?_
        refine ab_topi (fun x22 ex22 => ?_)
        replace hF := bnd_s ex22 hF
        refine ab_iload_n d_W_offsetOf_43 rfl rfl ?_
        refine ab_iadd d_W_offsetOf_44 ?_
        exact ab_iret d_W_offsetOf_45 rfl (Nat.le_refl _) (Nat.le_refl _) (by have hr := Option.some.inj hF; subst hr; exact ⟨rfl, rfl⟩)
      · rw [if_neg q16] at hG
        refine ab_iconst (v := (-1)) d_W_offsetOf_34 (by decide) ?_
        exact ab_iret d_W_offsetOf_35 rfl (Nat.le_refl _) (Nat.le_refl _) (by have hr := Option.some.inj hG; subst hr; exact ⟨rfl, rfl⟩)
  · rw [if_pos q5] at hF
    refine ab_iconst (v := (-1)) d_W_offsetOf_9 (by decide) ?_
    exact ab_iret d_W_offsetOf_10 rfl (Nat.le_refl _) (Nat.le_refl _) (by have hr := Option.some.inj hF; subst hr; exact ⟨rfl, rfl⟩)
def y_W_set : ab_Y := (⟨"WorldEngine", "set", "(IIII)I"⟩, prog_1_method_13_code, 8, (some FieldType.int), [])
theorem d_W_set_0 : decode y_W_set.2.1 0 = .ok (.aload_n 0, 1) := by decide +kernel
theorem d_W_set_1 : decode y_W_set.2.1 1 = .ok (.getfield 28, 3) := by decide +kernel
theorem d_W_set_4 : decode y_W_set.2.1 4 = .ok (.invokevirtual 110, 3) := by decide +kernel
theorem d_W_set_7 : decode y_W_set.2.1 7 = .ok (.ifCond .ne 6, 3) := by decide +kernel
theorem d_W_set_10 : decode y_W_set.2.1 10 = .ok (.bipush (-10), 2) := by decide +kernel
theorem d_W_set_12 : decode y_W_set.2.1 12 = .ok (.ireturn, 1) := by decide +kernel
theorem d_W_set_13 : decode y_W_set.2.1 13 = .ok (.aload_n 0, 1) := by decide +kernel
theorem d_W_set_14 : decode y_W_set.2.1 14 = .ok (.iload_n 1, 1) := by decide +kernel
theorem d_W_set_15 : decode y_W_set.2.1 15 = .ok (.iload_n 2, 1) := by decide +kernel
theorem d_W_set_16 : decode y_W_set.2.1 16 = .ok (.iload_n 3, 1) := by decide +kernel
theorem d_W_set_17 : decode y_W_set.2.1 17 = .ok (.invokevirtual 177, 3) := by decide +kernel
theorem d_W_set_20 : decode y_W_set.2.1 20 = .ok (.istore 5, 2) := by decide +kernel
theorem d_W_set_22 : decode y_W_set.2.1 22 = .ok (.iload 5, 2) := by decide +kernel
theorem d_W_set_24 : decode y_W_set.2.1 24 = .ok (.ifCond .ge 5, 3) := by decide +kernel
theorem d_W_set_27 : decode y_W_set.2.1 27 = .ok (.iconst (-1), 1) := by decide +kernel
theorem d_W_set_28 : decode y_W_set.2.1 28 = .ok (.ireturn, 1) := by decide +kernel
theorem d_W_set_29 : decode y_W_set.2.1 29 = .ok (.aload_n 0, 1) := by decide +kernel
theorem d_W_set_30 : decode y_W_set.2.1 30 = .ok (.getfield 42, 3) := by decide +kernel
theorem d_W_set_33 : decode y_W_set.2.1 33 = .ok (.getfield 90, 3) := by decide +kernel
theorem d_W_set_36 : decode y_W_set.2.1 36 = .ok (.getfield 181, 3) := by decide +kernel
theorem d_W_set_39 : decode y_W_set.2.1 39 = .ok (.iload 5, 2) := by decide +kernel
theorem d_W_set_41 : decode y_W_set.2.1 41 = .ok (.aaload, 1) := by decide +kernel
theorem d_W_set_42 : decode y_W_set.2.1 42 = .ok (.getfield 185, 3) := by decide +kernel
theorem d_W_set_45 : decode y_W_set.2.1 45 = .ok (.istore 6, 2) := by decide +kernel
theorem d_W_set_47 : decode y_W_set.2.1 47 = .ok (.iload 4, 2) := by decide +kernel
theorem d_W_set_49 : decode y_W_set.2.1 49 = .ok (.istore 7, 2) := by decide +kernel
theorem d_W_set_51 : decode y_W_set.2.1 51 = .ok (.iload 6, 2) := by decide +kernel
theorem d_W_set_53 : decode y_W_set.2.1 53 = .ok (.iconst 1, 1) := by decide +kernel
theorem d_W_set_54 : decode y_W_set.2.1 54 = .ok (.if_icmp .ne 20, 3) := by decide +kernel
theorem d_W_set_57 : decode y_W_set.2.1 57 = .ok (.bipush (-128), 2) := by decide +kernel
theorem d_W_set_59 : decode y_W_set.2.1 59 = .ok (.bipush 127, 2) := by decide +kernel
theorem d_W_set_61 : decode y_W_set.2.1 61 = .ok (.iload 4, 2) := by decide +kernel
theorem d_W_set_63 : decode y_W_set.2.1 63 = .ok (.invokestatic 53, 3) := by decide +kernel
theorem d_W_set_66 : decode y_W_set.2.1 66 = .ok (.invokestatic 59, 3) := by decide +kernel
theorem d_W_set_69 : decode y_W_set.2.1 69 = .ok (.istore 7, 2) := by decide +kernel
theorem d_W_set_71 : decode y_W_set.2.1 71 = .ok (.goto 32, 3) := by decide +kernel
theorem d_W_set_74 : decode y_W_set.2.1 74 = .ok (.iload 6, 2) := by decide +kernel
theorem d_W_set_76 : decode y_W_set.2.1 76 = .ok (.iconst 3, 1) := by decide +kernel
theorem d_W_set_77 : decode y_W_set.2.1 77 = .ok (.if_icmp .ne 12, 3) := by decide +kernel
theorem d_W_set_80 : decode y_W_set.2.1 80 = .ok (.iload 4, 2) := by decide +kernel
theorem d_W_set_82 : decode y_W_set.2.1 82 = .ok (.iconst 1, 1) := by decide +kernel
theorem d_W_set_83 : decode y_W_set.2.1 83 = .ok (.iand, 1) := by decide +kernel
theorem d_W_set_84 : decode y_W_set.2.1 84 = .ok (.istore 7, 2) := by decide +kernel
theorem d_W_set_86 : decode y_W_set.2.1 86 = .ok (.goto 17, 3) := by decide +kernel
theorem d_W_set_89 : decode y_W_set.2.1 89 = .ok (.iload 6, 2) := by decide +kernel
theorem d_W_set_91 : decode y_W_set.2.1 91 = .ok (.iconst 4, 1) := by decide +kernel
theorem d_W_set_92 : decode y_W_set.2.1 92 = .ok (.if_icmp .ne 11, 3) := by decide +kernel
theorem d_W_set_95 : decode y_W_set.2.1 95 = .ok (.iconst (-1), 1) := by decide +kernel
theorem d_W_set_96 : decode y_W_set.2.1 96 = .ok (.iload 4, 2) := by decide +kernel
theorem d_W_set_98 : decode y_W_set.2.1 98 = .ok (.invokestatic 59, 3) := by decide +kernel
theorem d_W_set_101 : decode y_W_set.2.1 101 = .ok (.istore 7, 2) := by decide +kernel
theorem d_W_set_103 : decode y_W_set.2.1 103 = .ok (.aload_n 0, 1) := by decide +kernel
theorem d_W_set_104 : decode y_W_set.2.1 104 = .ok (.getfield 28, 3) := by decide +kernel
theorem d_W_set_107 : decode y_W_set.2.1 107 = .ok (.getfield 121, 3) := by decide +kernel
theorem d_W_set_110 : decode y_W_set.2.1 110 = .ok (.aload_n 0, 1) := by decide +kernel
theorem d_W_set_111 : decode y_W_set.2.1 111 = .ok (.getfield 28, 3) := by decide +kernel
theorem d_W_set_114 : decode y_W_set.2.1 114 = .ok (.getfield 121, 3) := by decide +kernel
theorem d_W_set_117 : decode y_W_set.2.1 117 = .ok (.iload_n 1, 1) := by decide +kernel
theorem d_W_set_118 : decode y_W_set.2.1 118 = .ok (.invokevirtual 157, 3) := by decide +kernel
theorem d_W_set_121 : decode y_W_set.2.1 121 = .ok (.iload 5, 2) := by decide +kernel
theorem d_W_set_123 : decode y_W_set.2.1 123 = .ok (.iload 7, 2) := by decide +kernel
theorem d_W_set_125 : decode y_W_set.2.1 125 = .ok (.invokevirtual 190, 3) := by decide +kernel
theorem d_W_set_128 : decode y_W_set.2.1 128 = .ok (.iconst 0, 1) := by decide +kernel
theorem d_W_set_129 : decode y_W_set.2.1 129 = .ok (.ireturn, 1) := by decide +kernel
theorem s_W_set : ab_Stat y_W_set 4 := ⟨(k7 185 rfl rfl), (k1 1 rfl rfl), ⟨by decide, by decide⟩, by decide +kernel⟩
theorem i_W_set : Cond.instanceMethod y_W_set.1 ∈ ab_T := (k7 183 rfl rfl)
theorem v_W_set : Cond.selects "WorldEngine" y_W_set.1 y_W_set.1 ∈ ab_T := (k7 184 rfl rfl)
def B_W_set_103 (N : Nat) (p0 : Nat) (p1 : Int32) (p2 : Int32) (p3 : Int32) (p4 : Int32) (l5 : Int32) (l7 : Int32) (H : Hp) : Option (Int32 × Hp) :=
    ck (H.sh[p0]? = some (0, 0)) <|
    rf (H.P p0 2) fun a32 =>
    ck (H.sh[a32]? = some (10, 0)) <|
    rf (H.P a32 0) fun a35 =>
    rf (H.P p0 2) fun a37 =>
    ck (H.sh[a37]? = some (10, 0)) <|
    rf (H.P a37 0) fun a40 =>
    ck (H.sh[a40]? = some (7, 0)) <|
    bC (F_World_placeOf N a40 p1 H) fun v44 H45 =>
    ck (H45.sh[a35]? = some (7, 0)) <|
    bC (F_World_write N a35 v44 l5 l7 H45) fun v48 H49 =>
    some (0, H49)
set_option maxRecDepth 20000 in
set_option maxHeartbeats 2000000 in
theorem mB_W_set_103 {N : Nat} {p0 : Nat} {p1 : Int32} {p2 : Int32} {p3 : Int32} {p4 : Int32} {l5 : Int32} {l7 : Int32} {H : Hp} {r : Int32 × Hp} (hF : B_W_set_103 N p0 p1 p2 p3 p4 l5 l7 H = some r) : Sa H r.2 := by
  unfold B_W_set_103 at hF
  have hm := Sa.rf H
  obtain ⟨q50, hG⟩ := ck_s hF; clear hF
  obtain ⟨a51, e52, hF⟩ := rf_s hG; clear hG
  obtain ⟨q53, hG⟩ := ck_s hF; clear hF
  obtain ⟨a54, e55, hF⟩ := rf_s hG; clear hG
  obtain ⟨a56, e57, hG⟩ := rf_s hF; clear hF
  obtain ⟨q58, hF⟩ := ck_s hG; clear hG
  obtain ⟨a59, e60, hG⟩ := rf_s hF; clear hF
  obtain ⟨q61, hF⟩ := ck_s hG; clear hG
  obtain ⟨v63, H64, z62, hG⟩ := bC_s hF; clear hF
  replace hm : Sa H H64 := hm.tr (m_World_placeOf z62)
  obtain ⟨q65, hF⟩ := ck_s hG; clear hG
  obtain ⟨v67, H68, z66, hG⟩ := bC_s hF; clear hF
  replace hm : Sa H H68 := hm.tr (m_World_write z66)
  have hr := Option.some.inj hG; subst hr
  exact hm
set_option maxRecDepth 20000 in
set_option maxHeartbeats 2000000 in
theorem kB_W_set_103 {N : Nat} {p0 : Nat} {p1 : Int32} {p2 : Int32} {p3 : Int32} {p4 : Int32} {l5 : Int32} {l7 : Int32} {H : Hp} {r : Int32 × Hp} (hF : B_W_set_103 N p0 p1 p2 p3 p4 l5 l7 H = some r) : ab_V y_W_set { frames := 3, cells := 0, slots := 0, locals := 69 } (po (.returned (some (.int r.1))) r.2) 0 0 0 0 103 [some (.ref p0), some (.int p1), some (.int p2), some (.int p3), some (.int p4), some (.int l5), none, some (.int l7)] [] (hpw H) := by
  unfold B_W_set_103 at hF
  refine ab_aload_n d_W_set_103 rfl rfl rfl ?_
  obtain ⟨q31, hG⟩ := ck_s hF; clear hF
  obtain ⟨a32, e33, hF⟩ := rf_s hG; clear hG
  refine hp_getR (f := 2) d_W_set_104 q31 (by decide) rfl (by decide) (k3 159 rfl rfl) rfl e33 ?_
  obtain ⟨q34, hG⟩ := ck_s hF; clear hF
  obtain ⟨a35, e36, hF⟩ := rf_s hG; clear hG
  refine hp_getR (f := 0) d_W_set_107 q34 (by decide) rfl (by decide) (k2 131 rfl rfl) rfl e36 ?_
  refine ab_aload_n d_W_set_110 rfl rfl rfl ?_
  obtain ⟨a37, e38, hG⟩ := rf_s hF; clear hF
  refine hp_getR (f := 2) d_W_set_111 q31 (by decide) rfl (by decide) (k3 159 rfl rfl) rfl e38 ?_
  obtain ⟨q39, hF⟩ := ck_s hG; clear hG
  obtain ⟨a40, e41, hG⟩ := rf_s hF; clear hF
  refine hp_getR (f := 0) d_W_set_114 q39 (by decide) rfl (by decide) (k2 131 rfl rfl) rfl e41 ?_
  refine ab_iload_n d_W_set_117 rfl rfl ?_
  obtain ⟨q42, hF⟩ := ck_s hG; clear hG
  obtain ⟨v44, H45, z43, hG⟩ := bC_s hF; clear hF
  refine hp_callV_a (v := .int v44) (H1 := H45) (As := [.int p1]) (rest := [.ref a35]) d_W_set_118 (k_World_placeOf z43) (ab_mkC s_World_placeOf (Nat.le_of_ble_eq_true rfl) (Nat.le_of_ble_eq_true rfl) (Nat.le_refl 0) (Nat.le_refl 0)) (k7 177 rfl rfl) i_World_placeOf v_World_placeOf q42 (by decide) rfl rfl (Nat.le_of_ble_eq_true rfl) ?_
  have s_3 : Sa H H45 := (m_World_placeOf z43)
  refine ab_iload d_W_set_121 rfl ?_
  refine ab_iload d_W_set_123 rfl ?_
  obtain ⟨q46, hF⟩ := ck_s hG; clear hG
  rw [(s_3).1] at q46
  obtain ⟨v48, H49, z47, hG⟩ := bC_s hF; clear hF
  refine hp_callV_v (H1 := H49) (As := [.int v44, .int l5, .int l7]) (rest := []) d_W_set_125 (k_World_write z47) (ab_mkC s_World_write (Nat.le_of_ble_eq_true rfl) (Nat.le_of_ble_eq_true rfl) (Nat.le_refl 0) (Nat.le_refl 0)) (k7 195 rfl rfl) i_World_write v_World_write (by rw [(s_3).1]; exact q46) (by decide) rfl rfl (Nat.le_of_ble_eq_true rfl) ?_
  have s_4 : Sa H H49 := (s_3).tr (m_World_write z47)
  refine ab_iconst (v := 0) d_W_set_128 (by decide) ?_
  exact ab_iret d_W_set_129 rfl (Nat.le_refl _) (Nat.le_refl _) (by have hr := Option.some.inj hG; subst hr; exact ⟨rfl, rfl⟩)
def F_W_set (N : Nat) (p0 : Nat) (p1 : Int32) (p2 : Int32) (p3 : Int32) (p4 : Int32) (H : Hp) : Option (Int32 × Hp) :=
    ck (H.sh[p0]? = some (0, 0)) <|
    rf (H.P p0 2) fun a2 =>
    ck (H.sh[a2]? = some (10, 0)) <|
    bC (F_Play_isQuiet N a2 H) fun v6 H7 =>
    if v6 = (0 : Int32) then
    some ((-10), H7)
    else
    bC (F_W_offsetOf N p0 p1 p2 p3 H7) fun v10 H11 =>
    if (0 : Int32) ≤ v10 then
    rf (H11.P p0 4) fun a13 =>
    ck (H11.sh[a13]? = some (4, 0)) <|
    rf (H11.P a13 2) fun a16 =>
    ck (H11.sh[a16]? = some (3, 0)) <|
    rf (H11.P a16 1) fun a19 =>
    ar H11 106 a19 fun n21 =>
    ck (inb v10 n21) <|
    rf (H11.P a19 (v10).toNatClampNeg) fun a24 =>
    ck (H11.sh[a24]? = some (2, 0)) <|
    bnd ((H11.D a24 3)) fun x27 =>
    if x27 = (1 : Int32) then
    bC (F_Math_min N (127 : Int32) p4 H11) fun v74 H75 =>
    bC (F_Math_max N ((-128) : Int32) v74 H75) fun v77 H78 =>
    B_W_set_103 N p0 p1 p2 p3 p4 v10 v77 H78
    else
    if x27 = (3 : Int32) then
    bnd ((p4 &&& (1 : Int32))) fun x72 =>
    B_W_set_103 N p0 p1 p2 p3 p4 v10 x72 H11
    else
    if x27 = (4 : Int32) then
    bC (F_Math_max N ((-1) : Int32) p4 H11) fun v70 H71 =>
    B_W_set_103 N p0 p1 p2 p3 p4 v10 v70 H71
    else
    B_W_set_103 N p0 p1 p2 p3 p4 v10 p4 H11
    else
    some ((-1), H11)
set_option maxRecDepth 20000 in
set_option maxHeartbeats 2000000 in
theorem m_W_set {N : Nat} {p0 : Nat} {p1 : Int32} {p2 : Int32} {p3 : Int32} {p4 : Int32} {H : Hp} {r : Int32 × Hp} (hF : F_W_set N p0 p1 p2 p3 p4 H = some r) : Sa H r.2 := by
  unfold F_W_set at hF
  have hm := Sa.rf H
  obtain ⟨q79, hG⟩ := ck_s hF; clear hF
  obtain ⟨a80, e81, hF⟩ := rf_s hG; clear hG
  obtain ⟨q82, hG⟩ := ck_s hF; clear hF
  obtain ⟨v84, H85, z83, hF⟩ := bC_s hG; clear hG
  replace hm : Sa H H85 := hm.tr (m_Play_isQuiet z83)
  rcases ite_s hF with ⟨q_11, hG⟩ | ⟨q_11, hG⟩
  · clear hF
    have hr := Option.some.inj hG; subst hr
    exact hm
  · clear hF
    obtain ⟨v88, H89, z87, hF⟩ := bC_s hG; clear hG
    replace hm : Sa H H89 := hm.tr (m_W_offsetOf z87)
    rcases ite_s hF with ⟨q_13, hG⟩ | ⟨q_13, hG⟩
    · clear hF
      obtain ⟨a91, e92, hF⟩ := rf_s hG; clear hG
      obtain ⟨q93, hG⟩ := ck_s hF; clear hF
      obtain ⟨a94, e95, hF⟩ := rf_s hG; clear hG
      obtain ⟨q96, hG⟩ := ck_s hF; clear hF
      obtain ⟨a97, e98, hF⟩ := rf_s hG; clear hG
      obtain ⟨n99, q100, hG⟩ := ar_s hF; clear hF
      obtain ⟨q101, hF⟩ := ck_s hG; clear hG
      obtain ⟨a102, e103, hG⟩ := rf_s hF; clear hF
      obtain ⟨q104, hF⟩ := ck_s hG; clear hG
      obtain ⟨x105, -, hG⟩ := bnd_g hF; clear hF
      rcases ite_s hG with ⟨q_14, hF⟩ | ⟨q_14, hF⟩
      · clear hG
        obtain ⟨v108, H109, z107, hG⟩ := bC_s hF; clear hF
        replace hm : Sa H H109 := hm.tr (m_Math_min z107)
        obtain ⟨v111, H112, z110, hF⟩ := bC_s hG; clear hG
        replace hm : Sa H H112 := hm.tr (m_Math_max z110)
        exact hm.tr (mB_W_set_103 hF)
      · clear hG
        rcases ite_s hF with ⟨q_17, hG⟩ | ⟨q_17, hG⟩
        · clear hF
          obtain ⟨x114, -, hF⟩ := bnd_g hG; clear hG
          exact hm.tr (mB_W_set_103 hF)
        · clear hF
          rcases ite_s hG with ⟨q_18, hF⟩ | ⟨q_18, hF⟩
          · clear hG
            obtain ⟨v117, H118, z116, hG⟩ := bC_s hF; clear hF
            replace hm : Sa H H118 := hm.tr (m_Math_max z116)
            exact hm.tr (mB_W_set_103 hG)
          · clear hG
            exact hm.tr (mB_W_set_103 hF)
    · clear hF
      have hr := Option.some.inj hG; subst hr
      exact hm
set_option maxRecDepth 20000 in
set_option maxHeartbeats 2000000 in
theorem k_W_set {N : Nat} {p0 : Nat} {p1 : Int32} {p2 : Int32} {p3 : Int32} {p4 : Int32} {H : Hp} {r : Int32 × Hp} (hF : F_W_set N p0 p1 p2 p3 p4 H = some r) : ab_M y_W_set { frames := 3, cells := 0, slots := 0, locals := 69 } [.ref p0, .int p1, .int p2, .int p3, .int p4] (hpw H) (po (.returned (some (.int r.1))) r.2) := by
  unfold F_W_set at hF
  refine ab_of2 (lv := [some (.ref p0), some (.int p1), some (.int p2), some (.int p3), some (.int p4), none, none, none]) 3 rfl rfl (Nat.le_of_ble_eq_true rfl) ?_
  refine ab_aload_n d_W_set_0 rfl rfl rfl ?_
  obtain ⟨q1, hG⟩ := ck_s hF; clear hF
  obtain ⟨a2, e3, hF⟩ := rf_s hG; clear hG
  refine hp_getR (f := 2) d_W_set_1 q1 (by decide) rfl (by decide) (k3 159 rfl rfl) rfl e3 ?_
  obtain ⟨q4, hG⟩ := ck_s hF; clear hF
  obtain ⟨v6, H7, z5, hF⟩ := bC_s hG; clear hG
  refine hp_callV_a (v := .int v6) (H1 := H7) (As := []) (rest := []) d_W_set_4 (k_Play_isQuiet z5) (ab_mkC s_Play_isQuiet (Nat.le_of_ble_eq_true rfl) (Nat.le_of_ble_eq_true rfl) (Nat.le_refl 0) (Nat.le_refl 0)) (k6 95 rfl rfl) i_Play_isQuiet v_Play_isQuiet q4 (by decide) rfl rfl (Nat.le_of_ble_eq_true rfl) ?_
  have s_1 : Sa H H7 := (m_Play_isQuiet z5)
  refine ab_if_ne (tgt := 13) d_W_set_7 (by decide) (fun q8 => ?_) (fun q8 => ?_)
  · rw [if_neg q8] at hF
    refine ab_aload_n d_W_set_13 rfl rfl rfl ?_
    refine ab_iload_n d_W_set_14 rfl rfl ?_
    refine ab_iload_n d_W_set_15 rfl rfl ?_
    refine ab_iload_n d_W_set_16 rfl rfl ?_
    obtain ⟨v10, H11, z9, hG⟩ := bC_s hF; clear hF
    refine hp_callV_a (v := .int v10) (H1 := H11) (As := [.int p1, .int p2, .int p3]) (rest := []) d_W_set_17 (k_W_offsetOf z9) (ab_mkC s_W_offsetOf (Nat.le_of_ble_eq_true rfl) (Nat.le_of_ble_eq_true rfl) (Nat.le_refl 0) (Nat.le_refl 0)) (k7 186 rfl rfl) i_W_offsetOf v_W_offsetOf (by rw [(s_1).1]; exact q1) (by decide) rfl rfl (Nat.le_of_ble_eq_true rfl) ?_
    have s_2 : Sa H H11 := (s_1).tr (m_W_offsetOf z9)
    refine ab_istore (lv' := [some (.ref p0), some (.int p1), some (.int p2), some (.int p3), some (.int p4), some (.int v10), none, none]) d_W_set_20 (by decide) rfl ?_
    refine ab_iload d_W_set_22 rfl ?_
    refine ab_if_ge (tgt := 29) d_W_set_24 (by decide) (fun q12 => ?_) (fun q12 => ?_)
    · rw [if_pos q12] at hG
      refine ab_aload_n d_W_set_29 rfl rfl rfl ?_
      obtain ⟨a13, e14, hF⟩ := rf_s hG; clear hG
      refine hp_getR (f := 4) d_W_set_30 (by rw [(s_2).1]; exact q1) (by decide) rfl (by decide) (k3 161 rfl rfl) rfl e14 ?_
      obtain ⟨q15, hG⟩ := ck_s hF; clear hF
      rw [(s_2).1] at q15
      obtain ⟨a16, e17, hF⟩ := rf_s hG; clear hG
      refine hp_getR (f := 2) d_W_set_33 (by rw [(s_2).1]; exact q15) (by decide) rfl (by decide) (k3 57 rfl rfl) rfl e17 ?_
      obtain ⟨q18, hG⟩ := ck_s hF; clear hF
      rw [(s_2).1] at q18
      obtain ⟨a19, e20, hF⟩ := rf_s hG; clear hG
      refine hp_getR (f := 1) d_W_set_36 (by rw [(s_2).1]; exact q18) (by decide) rfl (by decide) (k3 30 rfl rfl) rfl e20 ?_
      refine ab_iload d_W_set_39 rfl ?_
      obtain ⟨n21, q22, hG⟩ := ar_s hF; clear hF
      rw [(s_2).1] at q22
      obtain ⟨q23, hF⟩ := ck_s hG; clear hG
      obtain ⟨a24, e25, hG⟩ := rf_s hF; clear hF
      refine hp_aald (q := 106) d_W_set_41 (by decide) tN (by rw [(s_2).1]; exact q22) q23 e25 ?_
      obtain ⟨q26, hF⟩ := ck_s hG; clear hG
      rw [(s_2).1] at q26
      refine hp_getI (f := 3) d_W_set_42 (by rw [(s_2).1]; exact q26) (by decide) rfl (by decide) (k3 4 rfl rfl) rfl ?_
      refine ab_topi (fun x27 ex27 => ?_)
      replace hF := bnd_s ex27 hF
      refine ab_istore (lv' := [some (.ref p0), some (.int p1), some (.int p2), some (.int p3), some (.int p4), some (.int v10), some (.int x27), none]) d_W_set_45 (by decide) rfl ?_
      refine ab_iload d_W_set_47 rfl ?_
      refine ab_istore (lv' := [some (.ref p0), some (.int p1), some (.int p2), some (.int p3), some (.int p4), some (.int v10), some (.int x27), some (.int p4)]) d_W_set_49 (by decide) rfl ?_
      refine ab_iload d_W_set_51 rfl ?_
      refine ab_iconst (v := 1) d_W_set_53 (by decide) ?_
      refine ab_icmp_ne (tgt := 74) d_W_set_54 (by decide) (fun q28 => ?_) (fun q28 => ?_)
      · rw [if_neg q28] at hF
        refine ab_iload d_W_set_74 rfl ?_
        refine ab_iconst (v := 3) d_W_set_76 (by decide) ?_
        refine ab_icmp_ne (tgt := 89) d_W_set_77 (by decide) (fun q29 => ?_) (fun q29 => ?_)
        · rw [if_neg q29] at hF
          refine ab_iload d_W_set_89 rfl ?_
          refine ab_iconst (v := 4) d_W_set_91 (by decide) ?_
          refine ab_icmp_ne (tgt := 103) d_W_set_92 (by decide) (fun q30 => ?_) (fun q30 => ?_)
          · rw [if_neg q30] at hF
            refine ab_le (lv' := [some (.ref p0), some (.int p1), some (.int p2), some (.int p3), some (.int p4), some (.int v10), none, some (.int p4)]) ⟨rfl, ⟨rfl, ⟨rfl, ⟨rfl, ⟨rfl, ⟨rfl, ⟨rfl, trivial⟩⟩⟩⟩⟩⟩⟩ ?_
            exact kB_W_set_103 hF
          · rw [if_pos q30] at hF
            refine ab_iconst (v := (-1)) d_W_set_95 (by decide) ?_
            refine ab_iload d_W_set_96 rfl ?_
            obtain ⟨v70, H71, z69, hG⟩ := bC_s hF; clear hF
            refine hp_callS_a (v := .int v70) (H1 := H71) (As := [.int (-1), .int p4]) (rest := []) d_W_set_98 (k_Math_max z69) (ab_mkC s_Math_max (Nat.le_of_ble_eq_true rfl) (Nat.le_of_ble_eq_true rfl) (Nat.le_refl 0) (Nat.le_refl 0)) (k3 156 rfl rfl) t_Math_max rfl (Nat.le_of_ble_eq_true rfl) ?_
            have s_7 : Sa H H71 := (s_2).tr (m_Math_max z69)
            refine ab_istore (lv' := [some (.ref p0), some (.int p1), some (.int p2), some (.int p3), some (.int p4), some (.int v10), some (.int x27), some (.int v70)]) d_W_set_101 (by decide) rfl ?_
            refine ab_le (lv' := [some (.ref p0), some (.int p1), some (.int p2), some (.int p3), some (.int p4), some (.int v10), none, some (.int v70)]) ⟨rfl, ⟨rfl, ⟨rfl, ⟨rfl, ⟨rfl, ⟨rfl, ⟨rfl, trivial⟩⟩⟩⟩⟩⟩⟩ ?_
            exact kB_W_set_103 hG
        · rw [if_pos q29] at hF
          refine ab_iload d_W_set_80 rfl ?_
          refine ab_iconst (v := 1) d_W_set_82 (by decide) ?_
          refine ab_iand d_W_set_83 ?_
          refine ab_topi (fun x72 ex72 => ?_)
          replace hF := bnd_s ex72 hF
          refine ab_istore (lv' := [some (.ref p0), some (.int p1), some (.int p2), some (.int p3), some (.int p4), some (.int v10), some (.int x27), some (.int x72)]) d_W_set_84 (by decide) rfl ?_
          refine ab_goto (tgt := 103) d_W_set_86 (by decide) ?_
          refine ab_le (lv' := [some (.ref p0), some (.int p1), some (.int p2), some (.int p3), some (.int p4), some (.int v10), none, some (.int x72)]) ⟨rfl, ⟨rfl, ⟨rfl, ⟨rfl, ⟨rfl, ⟨rfl, ⟨rfl, trivial⟩⟩⟩⟩⟩⟩⟩ ?_
          exact kB_W_set_103 hF
      · rw [if_pos q28] at hF
        refine ab_bipush (v := (-128)) d_W_set_57 (by decide) ?_
        refine ab_bipush (v := 127) d_W_set_59 (by decide) ?_
        refine ab_iload d_W_set_61 rfl ?_
        obtain ⟨v74, H75, z73, hG⟩ := bC_s hF; clear hF
        refine hp_callS_a (v := .int v74) (H1 := H75) (As := [.int 127, .int p4]) (rest := [.int (-128)]) d_W_set_63 (k_Math_min z73) (ab_mkC s_Math_min (Nat.le_of_ble_eq_true rfl) (Nat.le_of_ble_eq_true rfl) (Nat.le_refl 0) (Nat.le_refl 0)) (k3 153 rfl rfl) t_Math_min rfl (Nat.le_of_ble_eq_true rfl) ?_
        have s_8 : Sa H H75 := (s_2).tr (m_Math_min z73)
        obtain ⟨v77, H78, z76, hF⟩ := bC_s hG; clear hG
        refine hp_callS_a (v := .int v77) (H1 := H78) (As := [.int (-128), .int v74]) (rest := []) d_W_set_66 (k_Math_max z76) (ab_mkC s_Math_max (Nat.le_of_ble_eq_true rfl) (Nat.le_of_ble_eq_true rfl) (Nat.le_refl 0) (Nat.le_refl 0)) (k3 156 rfl rfl) t_Math_max rfl (Nat.le_of_ble_eq_true rfl) ?_
        have s_9 : Sa H H78 := (s_8).tr (m_Math_max z76)
        refine ab_istore (lv' := [some (.ref p0), some (.int p1), some (.int p2), some (.int p3), some (.int p4), some (.int v10), some (.int x27), some (.int v77)]) d_W_set_69 (by decide) rfl ?_
        refine ab_goto (tgt := 103) d_W_set_71 (by decide) ?_
        refine ab_le (lv' := [some (.ref p0), some (.int p1), some (.int p2), some (.int p3), some (.int p4), some (.int v10), none, some (.int v77)]) ⟨rfl, ⟨rfl, ⟨rfl, ⟨rfl, ⟨rfl, ⟨rfl, ⟨rfl, trivial⟩⟩⟩⟩⟩⟩⟩ ?_
        exact kB_W_set_103 hF
    · rw [if_neg q12] at hG
      refine ab_iconst (v := (-1)) d_W_set_27 (by decide) ?_
      exact ab_iret d_W_set_28 rfl (Nat.le_refl _) (Nat.le_refl _) (by have hr := Option.some.inj hG; subst hr; exact ⟨rfl, rfl⟩)
  · rw [if_pos q8] at hF
    refine ab_bipush (v := (-10)) d_W_set_10 (by decide) ?_
    exact ab_iret d_W_set_12 rfl (Nat.le_refl _) (Nat.le_refl _) (by have hr := Option.some.inj hF; subst hr; exact ⟨rfl, rfl⟩)
def y_World_matchAt : ab_Y := (⟨"WorldEngine$World", "matchAt", "(III)I"⟩, prog_12_method_8_code, 6, (some FieldType.int), [])
theorem d_World_matchAt_0 : decode y_World_matchAt.2.1 0 = .ok (.iload_n 3, 1) := by decide +kernel
theorem d_World_matchAt_1 : decode y_World_matchAt.2.1 1 = .ok (.istore 4, 2) := by decide +kernel
theorem d_World_matchAt_3 : decode y_World_matchAt.2.1 3 = .ok (.iconst 0, 1) := by decide +kernel
theorem d_World_matchAt_4 : decode y_World_matchAt.2.1 4 = .ok (.istore 5, 2) := by decide +kernel
theorem d_World_matchAt_6 : decode y_World_matchAt.2.1 6 = .ok (.iload 5, 2) := by decide +kernel
theorem d_World_matchAt_8 : decode y_World_matchAt.2.1 8 = .ok (.aload_n 0, 1) := by decide +kernel
theorem d_World_matchAt_9 : decode y_World_matchAt.2.1 9 = .ok (.getfield 49, 3) := by decide +kernel
theorem d_World_matchAt_12 : decode y_World_matchAt.2.1 12 = .ok (.if_icmp .ge 35, 3) := by decide +kernel
theorem d_World_matchAt_15 : decode y_World_matchAt.2.1 15 = .ok (.aload_n 0, 1) := by decide +kernel
theorem d_World_matchAt_16 : decode y_World_matchAt.2.1 16 = .ok (.iload 5, 2) := by decide +kernel
theorem d_World_matchAt_18 : decode y_World_matchAt.2.1 18 = .ok (.iload_n 1, 1) := by decide +kernel
theorem d_World_matchAt_19 : decode y_World_matchAt.2.1 19 = .ok (.iload_n 2, 1) := by decide +kernel
theorem d_World_matchAt_20 : decode y_World_matchAt.2.1 20 = .ok (.invokevirtual 73, 3) := by decide +kernel
theorem d_World_matchAt_23 : decode y_World_matchAt.2.1 23 = .ok (.ifCond .eq 18, 3) := by decide +kernel
theorem d_World_matchAt_26 : decode y_World_matchAt.2.1 26 = .ok (.iload 4, 2) := by decide +kernel
theorem d_World_matchAt_28 : decode y_World_matchAt.2.1 28 = .ok (.ifCond .ne 10, 3) := by decide +kernel
theorem d_World_matchAt_31 : decode y_World_matchAt.2.1 31 = .ok (.aload_n 0, 1) := by decide +kernel
theorem d_World_matchAt_32 : decode y_World_matchAt.2.1 32 = .ok (.iload 5, 2) := by decide +kernel
theorem d_World_matchAt_34 : decode y_World_matchAt.2.1 34 = .ok (.invokevirtual 77, 3) := by decide +kernel
theorem d_World_matchAt_37 : decode y_World_matchAt.2.1 37 = .ok (.ireturn, 1) := by decide +kernel
theorem d_World_matchAt_38 : decode y_World_matchAt.2.1 38 = .ok (.iinc 4 (-1), 3) := by decide +kernel
theorem d_World_matchAt_41 : decode y_World_matchAt.2.1 41 = .ok (.iinc 5 1, 3) := by decide +kernel
theorem d_World_matchAt_44 : decode y_World_matchAt.2.1 44 = .ok (.goto (-38), 3) := by decide +kernel
theorem d_World_matchAt_47 : decode y_World_matchAt.2.1 47 = .ok (.iconst (-1), 1) := by decide +kernel
theorem d_World_matchAt_48 : decode y_World_matchAt.2.1 48 = .ok (.ireturn, 1) := by decide +kernel
theorem s_World_matchAt : ab_Stat y_World_matchAt 3 := ⟨(k7 204 rfl rfl), (k1 10 rfl rfl), ⟨by decide, by decide⟩, by decide +kernel⟩
theorem i_World_matchAt : Cond.instanceMethod y_World_matchAt.1 ∈ ab_T := (k7 202 rfl rfl)
theorem v_World_matchAt : Cond.selects "WorldEngine$World" y_World_matchAt.1 y_World_matchAt.1 ∈ ab_T := (k7 203 rfl rfl)
def B_World_matchAt_41 (N : Nat) (p0 : Nat) (p1 : Int32) (p2 : Int32) (p3 : Int32) (kq6 : Int32 → Int32 → Hp → Option (Int32 × Hp)) (l4 : Int32) (l5 : Int32) (H : Hp) : Option (Int32 × Hp) :=
    kq6 l4 (l5 + 1) H
set_option maxRecDepth 20000 in
set_option maxHeartbeats 2000000 in
theorem mB_World_matchAt_41 {N : Nat} {p0 : Nat} {p1 : Int32} {p2 : Int32} {p3 : Int32} {kq6 : Int32 → Int32 → Hp → Option (Int32 × Hp)} (hm6 : ∀ (l4 : Int32) (l5 : Int32) (H : Hp) (r : Int32 × Hp), kq6 l4 l5 H = some r → Sa H r.2) {l4 : Int32} {l5 : Int32} {H : Hp} {r : Int32 × Hp} (hF : B_World_matchAt_41 N p0 p1 p2 p3 kq6 l4 l5 H = some r) : Sa H r.2 := by
  unfold B_World_matchAt_41 at hF
  have hm := Sa.rf H
  exact hm.tr (hm6 l4 (l5 + 1) H r hF)
set_option maxRecDepth 20000 in
set_option maxHeartbeats 2000000 in
theorem kB_World_matchAt_41 {N : Nat} {p0 : Nat} {p1 : Int32} {p2 : Int32} {p3 : Int32} {kq6 : Int32 → Int32 → Hp → Option (Int32 × Hp)} (hm6 : ∀ (l4 : Int32) (l5 : Int32) (H : Hp) (r : Int32 × Hp), kq6 l4 l5 H = some r → Sa H r.2) (hk6 : ∀ (l4 : Int32) (l5 : Int32) (H : Hp) (r : Int32 × Hp), kq6 l4 l5 H = some r → ab_V y_World_matchAt { frames := 1, cells := 0, slots := 0, locals := 23 } (po (.returned (some (.int r.1))) r.2) 0 0 0 0 6 [some (.ref p0), some (.int p1), some (.int p2), some (.int p3), some (.int l4), some (.int l5)] [] (hpw H)) {l4 : Int32} {l5 : Int32} {H : Hp} {r : Int32 × Hp} (hF : B_World_matchAt_41 N p0 p1 p2 p3 kq6 l4 l5 H = some r) : ab_V y_World_matchAt { frames := 1, cells := 0, slots := 0, locals := 23 } (po (.returned (some (.int r.1))) r.2) 0 0 0 0 41 [some (.ref p0), some (.int p1), some (.int p2), some (.int p3), some (.int l4), some (.int l5)] [] (hpw H) := by
  unfold B_World_matchAt_41 at hF
  refine ab_iinc (v := l5 + 1) (lv' := [some (.ref p0), some (.int p1), some (.int p2), some (.int p3), some (.int l4), some (.int (l5 + 1))]) d_World_matchAt_41 rfl rfl (by decide) rfl ?_
  refine ab_goto (tgt := 6) d_World_matchAt_44 (by decide) ?_
  exact hk6 l4 (l5 + 1) H r hF
def B_World_matchAt_6 (N : Nat) (p0 : Nat) (p1 : Int32) (p2 : Int32) (p3 : Int32) : Nat → Int32 → Int32 → Hp → Option (Int32 × Hp)
  | 0, _, _, _ => none
  | n + 1, l4, l5, H =>
    ck (H.sh[p0]? = some (7, 0)) <|
    bnd ((H.D p0 9)) fun x2 =>
    if x2 ≤ l5 then
    some ((-1), H)
    else
    bC (F_World_matches N p0 l5 p1 p2 H) fun v5 H6 =>
    if v5 = (0 : Int32) then
    B_World_matchAt_41 N p0 p1 p2 p3 (fun l4 l5 H => B_World_matchAt_6 N p0 p1 p2 p3 n l4 l5 H) l4 l5 H6
    else
    if l4 = (0 : Int32) then
    bC (F_World_numberAt N p0 l5 H6) fun v10 H11 =>
    some (v10, H11)
    else
    B_World_matchAt_41 N p0 p1 p2 p3 (fun l4 l5 H => B_World_matchAt_6 N p0 p1 p2 p3 n l4 l5 H) (l4 + (-1)) l5 H6
termination_by structural n => n
set_option maxRecDepth 20000 in
set_option maxHeartbeats 2000000 in
theorem mB_World_matchAt_6 {N : Nat} {p0 : Nat} {p1 : Int32} {p2 : Int32} {p3 : Int32} : ∀ (n : Nat) (l4 : Int32) (l5 : Int32) (H : Hp) (r : Int32 × Hp), B_World_matchAt_6 N p0 p1 p2 p3 n l4 l5 H = some r → Sa H r.2 := by
  intro n
  induction n with
  | zero => intro l4 l5 H r hF; rw [B_World_matchAt_6] at hF; cases hF
  | succ n ih =>
    intro l4 l5 H r hF
    rw [B_World_matchAt_6] at hF
    have hm := Sa.rf H
    obtain ⟨q12, hG⟩ := ck_s hF; clear hF
    obtain ⟨x13, -, hF⟩ := bnd_g hG; clear hG
    rcases ite_s hF with ⟨q_3, hG⟩ | ⟨q_3, hG⟩
    · clear hF
      have hr := Option.some.inj hG; subst hr
      exact hm
    · clear hF
      obtain ⟨v16, H17, z15, hF⟩ := bC_s hG; clear hG
      replace hm : Sa H H17 := hm.tr (m_World_matches z15)
      rcases ite_s hF with ⟨q_5, hG⟩ | ⟨q_5, hG⟩
      · clear hF
        exact hm.tr (mB_World_matchAt_41 ih hG)
      · clear hF
        rcases ite_s hG with ⟨q_6, hF⟩ | ⟨q_6, hF⟩
        · clear hG
          obtain ⟨v21, H22, z20, hG⟩ := bC_s hF; clear hF
          replace hm : Sa H H22 := hm.tr (m_World_numberAt z20)
          have hr := Option.some.inj hG; subst hr
          exact hm
        · clear hG
          exact hm.tr (mB_World_matchAt_41 ih hF)
set_option maxRecDepth 20000 in
set_option maxHeartbeats 2000000 in
theorem kB_World_matchAt_6 {N : Nat} {p0 : Nat} {p1 : Int32} {p2 : Int32} {p3 : Int32} : ∀ (n : Nat) (l4 : Int32) (l5 : Int32) (H : Hp) (r : Int32 × Hp), B_World_matchAt_6 N p0 p1 p2 p3 n l4 l5 H = some r → ab_V y_World_matchAt { frames := 1, cells := 0, slots := 0, locals := 23 } (po (.returned (some (.int r.1))) r.2) 0 0 0 0 6 [some (.ref p0), some (.int p1), some (.int p2), some (.int p3), some (.int l4), some (.int l5)] [] (hpw H) := by
  intro n
  induction n with
  | zero => intro l4 l5 H r hF; rw [B_World_matchAt_6] at hF; cases hF
  | succ n ih =>
    intro l4 l5 H r hF
    rw [B_World_matchAt_6] at hF
    refine ab_iload d_World_matchAt_6 rfl ?_
    refine ab_aload_n d_World_matchAt_8 rfl rfl rfl ?_
    obtain ⟨q1, hG⟩ := ck_s hF; clear hF
    refine hp_getI (f := 9) d_World_matchAt_9 q1 (by decide) rfl (by decide) (k1 231 rfl rfl) rfl ?_
    refine ab_topi (fun x2 ex2 => ?_)
    replace hG := bnd_s ex2 hG
    refine ab_icmp_ge (tgt := 47) d_World_matchAt_12 (by decide) (fun q3 => ?_) (fun q3 => ?_)
    · rw [if_pos q3] at hG
      refine ab_iconst (v := (-1)) d_World_matchAt_47 (by decide) ?_
      exact ab_iret d_World_matchAt_48 rfl (Nat.le_refl _) (Nat.le_refl _) (by have hr := Option.some.inj hG; subst hr; exact ⟨rfl, rfl⟩)
    · rw [if_neg q3] at hG
      refine ab_aload_n d_World_matchAt_15 rfl rfl rfl ?_
      refine ab_iload d_World_matchAt_16 rfl ?_
      refine ab_iload_n d_World_matchAt_18 rfl rfl ?_
      refine ab_iload_n d_World_matchAt_19 rfl rfl ?_
      obtain ⟨v5, H6, z4, hF⟩ := bC_s hG; clear hG
      refine hp_callV_a (v := .int v5) (H1 := H6) (As := [.int l5, .int p1, .int p2]) (rest := []) d_World_matchAt_20 (k_World_matches z4) (ab_mkC s_World_matches (Nat.le_of_ble_eq_true rfl) (Nat.le_of_ble_eq_true rfl) (Nat.le_refl 0) (Nat.le_refl 0)) (k7 205 rfl rfl) i_World_matches v_World_matches q1 (by decide) rfl rfl (Nat.le_of_ble_eq_true rfl) ?_
      have s_1 : Sa H H6 := (m_World_matches z4)
      refine ab_if_eq (tgt := 41) d_World_matchAt_23 (by decide) (fun q7 => ?_) (fun q7 => ?_)
      · rw [if_pos q7] at hF
        exact kB_World_matchAt_41 (mB_World_matchAt_6 n) ih hF
      · rw [if_neg q7] at hF
        refine ab_iload d_World_matchAt_26 rfl ?_
        refine ab_if_ne (tgt := 38) d_World_matchAt_28 (by decide) (fun q8 => ?_) (fun q8 => ?_)
        · rw [if_neg q8] at hF
          refine ab_iinc (v := l4 + (-1)) (lv' := [some (.ref p0), some (.int p1), some (.int p2), some (.int p3), some (.int (l4 + (-1))), some (.int l5)]) d_World_matchAt_38 rfl rfl (by decide) rfl ?_
          exact kB_World_matchAt_41 (mB_World_matchAt_6 n) ih hF
        · rw [if_pos q8] at hF
          refine ab_aload_n d_World_matchAt_31 rfl rfl rfl ?_
          refine ab_iload d_World_matchAt_32 rfl ?_
          obtain ⟨v10, H11, z9, hG⟩ := bC_s hF; clear hF
          refine hp_callV_a (v := .int v10) (H1 := H11) (As := [.int l5]) (rest := []) d_World_matchAt_34 (k_World_numberAt z9) (ab_mkC s_World_numberAt (Nat.le_of_ble_eq_true rfl) (Nat.le_of_ble_eq_true rfl) (Nat.le_refl 0) (Nat.le_refl 0)) (k7 206 rfl rfl) i_World_numberAt v_World_numberAt (by rw [(s_1).1]; exact q1) (by decide) rfl rfl (Nat.le_of_ble_eq_true rfl) ?_
          have s_2 : Sa H H11 := (s_1).tr (m_World_numberAt z9)
          exact ab_iret d_World_matchAt_37 rfl (Nat.le_refl _) (Nat.le_refl _) (by have hr := Option.some.inj hG; subst hr; exact ⟨rfl, rfl⟩)
def F_World_matchAt (N : Nat) (p0 : Nat) (p1 : Int32) (p2 : Int32) (p3 : Int32) (H : Hp) : Option (Int32 × Hp) :=
    B_World_matchAt_6 N p0 p1 p2 p3 N p3 0 H
set_option maxRecDepth 20000 in
set_option maxHeartbeats 2000000 in
theorem m_World_matchAt {N : Nat} {p0 : Nat} {p1 : Int32} {p2 : Int32} {p3 : Int32} {H : Hp} {r : Int32 × Hp} (hF : F_World_matchAt N p0 p1 p2 p3 H = some r) : Sa H r.2 := by
  unfold F_World_matchAt at hF
  have hm := Sa.rf H
  exact hm.tr (mB_World_matchAt_6 N p3 0 H r hF)
set_option maxRecDepth 20000 in
set_option maxHeartbeats 2000000 in
theorem k_World_matchAt {N : Nat} {p0 : Nat} {p1 : Int32} {p2 : Int32} {p3 : Int32} {H : Hp} {r : Int32 × Hp} (hF : F_World_matchAt N p0 p1 p2 p3 H = some r) : ab_M y_World_matchAt { frames := 1, cells := 0, slots := 0, locals := 23 } [.ref p0, .int p1, .int p2, .int p3] (hpw H) (po (.returned (some (.int r.1))) r.2) := by
  unfold F_World_matchAt at hF
  refine ab_of2 (lv := [some (.ref p0), some (.int p1), some (.int p2), some (.int p3), none, none]) 2 rfl rfl (Nat.le_of_ble_eq_true rfl) ?_
  refine ab_iload_n d_World_matchAt_0 rfl rfl ?_
  refine ab_istore (lv' := [some (.ref p0), some (.int p1), some (.int p2), some (.int p3), some (.int p3), none]) d_World_matchAt_1 (by decide) rfl ?_
  refine ab_iconst (v := 0) d_World_matchAt_3 (by decide) ?_
  refine ab_istore (lv' := [some (.ref p0), some (.int p1), some (.int p2), some (.int p3), some (.int p3), some (.int 0)]) d_World_matchAt_4 (by decide) rfl ?_
  exact kB_World_matchAt_6 N p3 0 H r hF
def y_W_entity : ab_Y := (⟨"WorldEngine", "entity", "(I)I"⟩, prog_1_method_17_code, 2, (some FieldType.int), [])
theorem d_W_entity_0 : decode y_W_entity.2.1 0 = .ok (.aload_n 0, 1) := by decide +kernel
theorem d_W_entity_1 : decode y_W_entity.2.1 1 = .ok (.getfield 28, 3) := by decide +kernel
theorem d_W_entity_4 : decode y_W_entity.2.1 4 = .ok (.getfield 121, 3) := by decide +kernel
theorem d_W_entity_7 : decode y_W_entity.2.1 7 = .ok (.iconst 0, 1) := by decide +kernel
theorem d_W_entity_8 : decode y_W_entity.2.1 8 = .ok (.iconst 0, 1) := by decide +kernel
theorem d_W_entity_9 : decode y_W_entity.2.1 9 = .ok (.iload_n 1, 1) := by decide +kernel
theorem d_W_entity_10 : decode y_W_entity.2.1 10 = .ok (.invokevirtual 214, 3) := by decide +kernel
theorem d_W_entity_13 : decode y_W_entity.2.1 13 = .ok (.ireturn, 1) := by decide +kernel
theorem s_W_entity : ab_Stat y_W_entity 1 := ⟨(k7 200 rfl rfl), (k1 1 rfl rfl), ⟨by decide, by decide⟩, by decide +kernel⟩
theorem i_W_entity : Cond.instanceMethod y_W_entity.1 ∈ ab_T := (k7 198 rfl rfl)
theorem v_W_entity : Cond.selects "WorldEngine" y_W_entity.1 y_W_entity.1 ∈ ab_T := (k7 199 rfl rfl)
def F_W_entity (N : Nat) (p0 : Nat) (p1 : Int32) (H : Hp) : Option (Int32 × Hp) :=
    ck (H.sh[p0]? = some (0, 0)) <|
    rf (H.P p0 2) fun a2 =>
    ck (H.sh[a2]? = some (10, 0)) <|
    rf (H.P a2 0) fun a5 =>
    ck (H.sh[a5]? = some (7, 0)) <|
    bC (F_World_matchAt N a5 (0 : Int32) (0 : Int32) p1 H) fun v9 H10 =>
    some (v9, H10)
set_option maxRecDepth 20000 in
set_option maxHeartbeats 2000000 in
theorem m_W_entity {N : Nat} {p0 : Nat} {p1 : Int32} {H : Hp} {r : Int32 × Hp} (hF : F_W_entity N p0 p1 H = some r) : Sa H r.2 := by
  unfold F_W_entity at hF
  have hm := Sa.rf H
  obtain ⟨q11, hG⟩ := ck_s hF; clear hF
  obtain ⟨a12, e13, hF⟩ := rf_s hG; clear hG
  obtain ⟨q14, hG⟩ := ck_s hF; clear hF
  obtain ⟨a15, e16, hF⟩ := rf_s hG; clear hG
  obtain ⟨q17, hG⟩ := ck_s hF; clear hF
  obtain ⟨v19, H20, z18, hF⟩ := bC_s hG; clear hG
  replace hm : Sa H H20 := hm.tr (m_World_matchAt z18)
  have hr := Option.some.inj hF; subst hr
  exact hm
set_option maxRecDepth 20000 in
set_option maxHeartbeats 2000000 in
theorem k_W_entity {N : Nat} {p0 : Nat} {p1 : Int32} {H : Hp} {r : Int32 × Hp} (hF : F_W_entity N p0 p1 H = some r) : ab_M y_W_entity { frames := 2, cells := 0, slots := 0, locals := 48 } [.ref p0, .int p1] (hpw H) (po (.returned (some (.int r.1))) r.2) := by
  unfold F_W_entity at hF
  refine ab_of2 (lv := [some (.ref p0), some (.int p1)]) 0 rfl rfl (Nat.le_of_ble_eq_true rfl) ?_
  refine ab_aload_n d_W_entity_0 rfl rfl rfl ?_
  obtain ⟨q1, hG⟩ := ck_s hF; clear hF
  obtain ⟨a2, e3, hF⟩ := rf_s hG; clear hG
  refine hp_getR (f := 2) d_W_entity_1 q1 (by decide) rfl (by decide) (k3 159 rfl rfl) rfl e3 ?_
  obtain ⟨q4, hG⟩ := ck_s hF; clear hF
  obtain ⟨a5, e6, hF⟩ := rf_s hG; clear hG
  refine hp_getR (f := 0) d_W_entity_4 q4 (by decide) rfl (by decide) (k2 131 rfl rfl) rfl e6 ?_
  refine ab_iconst (v := 0) d_W_entity_7 (by decide) ?_
  refine ab_iconst (v := 0) d_W_entity_8 (by decide) ?_
  refine ab_iload_n d_W_entity_9 rfl rfl ?_
  obtain ⟨q7, hG⟩ := ck_s hF; clear hF
  obtain ⟨v9, H10, z8, hF⟩ := bC_s hG; clear hG
  refine hp_callV_a (v := .int v9) (H1 := H10) (As := [.int 0, .int 0, .int p1]) (rest := []) d_W_entity_10 (k_World_matchAt z8) (ab_mkC s_World_matchAt (Nat.le_of_ble_eq_true rfl) (Nat.le_of_ble_eq_true rfl) (Nat.le_refl 0) (Nat.le_refl 0)) (k7 201 rfl rfl) i_World_matchAt v_World_matchAt q7 (by decide) rfl rfl (Nat.le_of_ble_eq_true rfl) ?_
  have s_1 : Sa H H10 := (m_World_matchAt z8)
  exact ab_iret d_W_entity_13 rfl (Nat.le_refl _) (Nat.le_refl _) (by have hr := Option.some.inj hF; subst hr; exact ⟨rfl, rfl⟩)
def y_W_row : ab_Y := (⟨"WorldEngine", "row", "(II)I"⟩, prog_1_method_18_code, 3, (some FieldType.int), [])
theorem d_W_row_0 : decode y_W_row.2.1 0 = .ok (.iload_n 1, 1) := by decide +kernel
theorem d_W_row_1 : decode y_W_row.2.1 1 = .ok (.ifCond .lt 14, 3) := by decide +kernel
theorem d_W_row_4 : decode y_W_row.2.1 4 = .ok (.iload_n 1, 1) := by decide +kernel
theorem d_W_row_5 : decode y_W_row.2.1 5 = .ok (.aload_n 0, 1) := by decide +kernel
theorem d_W_row_6 : decode y_W_row.2.1 6 = .ok (.getfield 42, 3) := by decide +kernel
theorem d_W_row_9 : decode y_W_row.2.1 9 = .ok (.getfield 104, 3) := by decide +kernel
theorem d_W_row_12 : decode y_W_row.2.1 12 = .ok (.if_icmp .lt 5, 3) := by decide +kernel
theorem d_W_row_15 : decode y_W_row.2.1 15 = .ok (.iconst (-1), 1) := by decide +kernel
theorem d_W_row_16 : decode y_W_row.2.1 16 = .ok (.ireturn, 1) := by decide +kernel
theorem d_W_row_17 : decode y_W_row.2.1 17 = .ok (.aload_n 0, 1) := by decide +kernel
theorem d_W_row_18 : decode y_W_row.2.1 18 = .ok (.getfield 28, 3) := by decide +kernel
theorem d_W_row_21 : decode y_W_row.2.1 21 = .ok (.getfield 121, 3) := by decide +kernel
theorem d_W_row_24 : decode y_W_row.2.1 24 = .ok (.aload_n 0, 1) := by decide +kernel
theorem d_W_row_25 : decode y_W_row.2.1 25 = .ok (.getfield 42, 3) := by decide +kernel
theorem d_W_row_28 : decode y_W_row.2.1 28 = .ok (.getfield 217, 3) := by decide +kernel
theorem d_W_row_31 : decode y_W_row.2.1 31 = .ok (.iload_n 1, 1) := by decide +kernel
theorem d_W_row_32 : decode y_W_row.2.1 32 = .ok (.iaload, 1) := by decide +kernel
theorem d_W_row_33 : decode y_W_row.2.1 33 = .ok (.aload_n 0, 1) := by decide +kernel
theorem d_W_row_34 : decode y_W_row.2.1 34 = .ok (.getfield 42, 3) := by decide +kernel
theorem d_W_row_37 : decode y_W_row.2.1 37 = .ok (.getfield 220, 3) := by decide +kernel
theorem d_W_row_40 : decode y_W_row.2.1 40 = .ok (.iload_n 1, 1) := by decide +kernel
theorem d_W_row_41 : decode y_W_row.2.1 41 = .ok (.iaload, 1) := by decide +kernel
theorem d_W_row_42 : decode y_W_row.2.1 42 = .ok (.iload_n 2, 1) := by decide +kernel
theorem d_W_row_43 : decode y_W_row.2.1 43 = .ok (.invokevirtual 214, 3) := by decide +kernel
theorem d_W_row_46 : decode y_W_row.2.1 46 = .ok (.ireturn, 1) := by decide +kernel
theorem s_W_row : ab_Stat y_W_row 2 := ⟨(k7 210 rfl rfl), (k1 1 rfl rfl), ⟨by decide, by decide⟩, by decide +kernel⟩
theorem i_W_row : Cond.instanceMethod y_W_row.1 ∈ ab_T := (k7 208 rfl rfl)
theorem v_W_row : Cond.selects "WorldEngine" y_W_row.1 y_W_row.1 ∈ ab_T := (k7 209 rfl rfl)
def F_W_row (N : Nat) (p0 : Nat) (p1 : Int32) (p2 : Int32) (H : Hp) : Option (Int32 × Hp) :=
    if p1 < (0 : Int32) then
    some ((-1), H)
    else
    ck (H.sh[p0]? = some (0, 0)) <|
    rf (H.P p0 4) fun a3 =>
    ck (H.sh[a3]? = some (4, 0)) <|
    bnd ((H.D a3 7)) fun x6 =>
    if p1 < x6 then
    rf (H.P p0 2) fun a8 =>
    ck (H.sh[a8]? = some (10, 0)) <|
    rf (H.P a8 0) fun a11 =>
    rf (H.P p0 4) fun a13 =>
    ck (H.sh[a13]? = some (4, 0)) <|
    rf (H.P a13 9) fun a16 =>
    ar H 100 a16 fun n18 =>
    ck (inb p1 n18) <|
    bnd ((H.D a16 (p1).toNatClampNeg)) fun x21 =>
    rf (H.P p0 4) fun a22 =>
    ck (H.sh[a22]? = some (4, 0)) <|
    rf (H.P a22 10) fun a25 =>
    ar H 100 a25 fun n27 =>
    ck (inb p1 n27) <|
    bnd ((H.D a25 (p1).toNatClampNeg)) fun x30 =>
    ck (H.sh[a11]? = some (7, 0)) <|
    bC (F_World_matchAt N a11 x21 x30 p2 H) fun v33 H34 =>
    some (v33, H34)
    else
    some ((-1), H)
set_option maxRecDepth 20000 in
set_option maxHeartbeats 2000000 in
theorem m_W_row {N : Nat} {p0 : Nat} {p1 : Int32} {p2 : Int32} {H : Hp} {r : Int32 × Hp} (hF : F_W_row N p0 p1 p2 H = some r) : Sa H r.2 := by
  unfold F_W_row at hF
  have hm := Sa.rf H
  rcases ite_s hF with ⟨q_2, hG⟩ | ⟨q_2, hG⟩
  · clear hF
    have hr := Option.some.inj hG; subst hr
    exact hm
  · clear hF
    obtain ⟨q36, hF⟩ := ck_s hG; clear hG
    obtain ⟨a37, e38, hG⟩ := rf_s hF; clear hF
    obtain ⟨q39, hF⟩ := ck_s hG; clear hG
    obtain ⟨x40, -, hG⟩ := bnd_g hF; clear hF
    rcases ite_s hG with ⟨q_3, hF⟩ | ⟨q_3, hF⟩
    · clear hG
      obtain ⟨a42, e43, hG⟩ := rf_s hF; clear hF
      obtain ⟨q44, hF⟩ := ck_s hG; clear hG
      obtain ⟨a45, e46, hG⟩ := rf_s hF; clear hF
      obtain ⟨a47, e48, hF⟩ := rf_s hG; clear hG
      obtain ⟨q49, hG⟩ := ck_s hF; clear hF
      obtain ⟨a50, e51, hF⟩ := rf_s hG; clear hG
      obtain ⟨n52, q53, hG⟩ := ar_s hF; clear hF
      obtain ⟨q54, hF⟩ := ck_s hG; clear hG
      obtain ⟨x55, -, hG⟩ := bnd_g hF; clear hF
      obtain ⟨a56, e57, hF⟩ := rf_s hG; clear hG
      obtain ⟨q58, hG⟩ := ck_s hF; clear hF
      obtain ⟨a59, e60, hF⟩ := rf_s hG; clear hG
      obtain ⟨n61, q62, hG⟩ := ar_s hF; clear hF
      obtain ⟨q63, hF⟩ := ck_s hG; clear hG
      obtain ⟨x64, -, hG⟩ := bnd_g hF; clear hF
      obtain ⟨q65, hF⟩ := ck_s hG; clear hG
      obtain ⟨v67, H68, z66, hG⟩ := bC_s hF; clear hF
      replace hm : Sa H H68 := hm.tr (m_World_matchAt z66)
      have hr := Option.some.inj hG; subst hr
      exact hm
    · clear hG
      have hr := Option.some.inj hF; subst hr
      exact hm
set_option maxRecDepth 20000 in
set_option maxHeartbeats 2000000 in
theorem k_W_row {N : Nat} {p0 : Nat} {p1 : Int32} {p2 : Int32} {H : Hp} {r : Int32 × Hp} (hF : F_W_row N p0 p1 p2 H = some r) : ab_M y_W_row { frames := 2, cells := 0, slots := 0, locals := 48 } [.ref p0, .int p1, .int p2] (hpw H) (po (.returned (some (.int r.1))) r.2) := by
  unfold F_W_row at hF
  refine ab_of2 (lv := [some (.ref p0), some (.int p1), some (.int p2)]) 0 rfl rfl (Nat.le_of_ble_eq_true rfl) ?_
  refine ab_iload_n d_W_row_0 rfl rfl ?_
  refine ab_if_lt (tgt := 15) d_W_row_1 (by decide) (fun q1 => ?_) (fun q1 => ?_)
  · rw [if_pos q1] at hF
    refine ab_iconst (v := (-1)) d_W_row_15 (by decide) ?_
    exact ab_iret d_W_row_16 rfl (Nat.le_refl _) (Nat.le_refl _) (by have hr := Option.some.inj hF; subst hr; exact ⟨rfl, rfl⟩)
  · rw [if_neg q1] at hF
    refine ab_iload_n d_W_row_4 rfl rfl ?_
    refine ab_aload_n d_W_row_5 rfl rfl rfl ?_
    obtain ⟨q2, hG⟩ := ck_s hF; clear hF
    obtain ⟨a3, e4, hF⟩ := rf_s hG; clear hG
    refine hp_getR (f := 4) d_W_row_6 q2 (by decide) rfl (by decide) (k3 161 rfl rfl) rfl e4 ?_
    obtain ⟨q5, hG⟩ := ck_s hF; clear hF
    refine hp_getI (f := 7) d_W_row_9 q5 (by decide) rfl (by decide) (k3 82 rfl rfl) rfl ?_
    refine ab_topi (fun x6 ex6 => ?_)
    replace hG := bnd_s ex6 hG
    refine ab_icmp_lt (tgt := 17) d_W_row_12 (by decide) (fun q7 => ?_) (fun q7 => ?_)
    · rw [if_pos q7] at hG
      refine ab_aload_n d_W_row_17 rfl rfl rfl ?_
      obtain ⟨a8, e9, hF⟩ := rf_s hG; clear hG
      refine hp_getR (f := 2) d_W_row_18 q2 (by decide) rfl (by decide) (k3 159 rfl rfl) rfl e9 ?_
      obtain ⟨q10, hG⟩ := ck_s hF; clear hF
      obtain ⟨a11, e12, hF⟩ := rf_s hG; clear hG
      refine hp_getR (f := 0) d_W_row_21 q10 (by decide) rfl (by decide) (k2 131 rfl rfl) rfl e12 ?_
      refine ab_aload_n d_W_row_24 rfl rfl rfl ?_
      obtain ⟨a13, e14, hG⟩ := rf_s hF; clear hF
      refine hp_getR (f := 4) d_W_row_25 q2 (by decide) rfl (by decide) (k3 161 rfl rfl) rfl e14 ?_
      obtain ⟨q15, hF⟩ := ck_s hG; clear hG
      obtain ⟨a16, e17, hG⟩ := rf_s hF; clear hF
      refine hp_getR (f := 9) d_W_row_28 q15 (by decide) rfl (by decide) (k3 90 rfl rfl) rfl e17 ?_
      refine ab_iload_n d_W_row_31 rfl rfl ?_
      obtain ⟨n18, q19, hF⟩ := ar_s hG; clear hG
      obtain ⟨q20, hG⟩ := ck_s hF; clear hF
      refine hp_iald d_W_row_32 tI q19 q20 ?_
      refine ab_topi (fun x21 ex21 => ?_)
      replace hG := bnd_s ex21 hG
      refine ab_aload_n d_W_row_33 rfl rfl rfl ?_
      obtain ⟨a22, e23, hF⟩ := rf_s hG; clear hG
      refine hp_getR (f := 4) d_W_row_34 q2 (by decide) rfl (by decide) (k3 161 rfl rfl) rfl e23 ?_
      obtain ⟨q24, hG⟩ := ck_s hF; clear hF
      obtain ⟨a25, e26, hF⟩ := rf_s hG; clear hG
      refine hp_getR (f := 10) d_W_row_37 q24 (by decide) rfl (by decide) (k3 94 rfl rfl) rfl e26 ?_
      refine ab_iload_n d_W_row_40 rfl rfl ?_
      obtain ⟨n27, q28, hG⟩ := ar_s hF; clear hF
      obtain ⟨q29, hF⟩ := ck_s hG; clear hG
      refine hp_iald d_W_row_41 tI q28 q29 ?_
      refine ab_topi (fun x30 ex30 => ?_)
      replace hF := bnd_s ex30 hF
      refine ab_iload_n d_W_row_42 rfl rfl ?_
      obtain ⟨q31, hG⟩ := ck_s hF; clear hF
      obtain ⟨v33, H34, z32, hF⟩ := bC_s hG; clear hG
      refine hp_callV_a (v := .int v33) (H1 := H34) (As := [.int x21, .int x30, .int p2]) (rest := []) d_W_row_43 (k_World_matchAt z32) (ab_mkC s_World_matchAt (Nat.le_of_ble_eq_true rfl) (Nat.le_of_ble_eq_true rfl) (Nat.le_refl 0) (Nat.le_refl 0)) (k7 201 rfl rfl) i_World_matchAt v_World_matchAt q31 (by decide) rfl rfl (Nat.le_of_ble_eq_true rfl) ?_
      have s_1 : Sa H H34 := (m_World_matchAt z32)
      exact ab_iret d_W_row_46 rfl (Nat.le_refl _) (Nat.le_refl _) (by have hr := Option.some.inj hF; subst hr; exact ⟨rfl, rfl⟩)
    · rw [if_neg q7] at hG
      refine ab_iconst (v := (-1)) d_W_row_15 (by decide) ?_
      exact ab_iret d_W_row_16 rfl (Nat.le_refl _) (Nat.le_refl _) (by have hr := Option.some.inj hG; subst hr; exact ⟨rfl, rfl⟩)
def y_W_group : ab_Y := (⟨"WorldEngine", "group", "(I)I"⟩, prog_1_method_19_code, 2, (some FieldType.int), [])
theorem d_W_group_0 : decode y_W_group.2.1 0 = .ok (.iload_n 1, 1) := by decide +kernel
theorem d_W_group_1 : decode y_W_group.2.1 1 = .ok (.ifCond .lt 14, 3) := by decide +kernel
theorem d_W_group_4 : decode y_W_group.2.1 4 = .ok (.iload_n 1, 1) := by decide +kernel
theorem d_W_group_5 : decode y_W_group.2.1 5 = .ok (.aload_n 0, 1) := by decide +kernel
theorem d_W_group_6 : decode y_W_group.2.1 6 = .ok (.getfield 42, 3) := by decide +kernel
theorem d_W_group_9 : decode y_W_group.2.1 9 = .ok (.getfield 104, 3) := by decide +kernel
theorem d_W_group_12 : decode y_W_group.2.1 12 = .ok (.if_icmp .lt 5, 3) := by decide +kernel
theorem d_W_group_15 : decode y_W_group.2.1 15 = .ok (.iconst (-1), 1) := by decide +kernel
theorem d_W_group_16 : decode y_W_group.2.1 16 = .ok (.ireturn, 1) := by decide +kernel
theorem d_W_group_17 : decode y_W_group.2.1 17 = .ok (.aload_n 0, 1) := by decide +kernel
theorem d_W_group_18 : decode y_W_group.2.1 18 = .ok (.getfield 42, 3) := by decide +kernel
theorem d_W_group_21 : decode y_W_group.2.1 21 = .ok (.getfield 223, 3) := by decide +kernel
theorem d_W_group_24 : decode y_W_group.2.1 24 = .ok (.iload_n 1, 1) := by decide +kernel
theorem d_W_group_25 : decode y_W_group.2.1 25 = .ok (.iaload, 1) := by decide +kernel
theorem d_W_group_26 : decode y_W_group.2.1 26 = .ok (.ireturn, 1) := by decide +kernel
theorem s_W_group : ab_Stat y_W_group 1 := ⟨(k7 214 rfl rfl), (k1 1 rfl rfl), ⟨by decide, by decide⟩, by decide +kernel⟩
theorem i_W_group : Cond.instanceMethod y_W_group.1 ∈ ab_T := (k7 212 rfl rfl)
theorem v_W_group : Cond.selects "WorldEngine" y_W_group.1 y_W_group.1 ∈ ab_T := (k7 213 rfl rfl)
def F_W_group (N : Nat) (p0 : Nat) (p1 : Int32) (H : Hp) : Option (Int32 × Hp) :=
    if p1 < (0 : Int32) then
    some ((-1), H)
    else
    ck (H.sh[p0]? = some (0, 0)) <|
    rf (H.P p0 4) fun a3 =>
    ck (H.sh[a3]? = some (4, 0)) <|
    bnd ((H.D a3 7)) fun x6 =>
    if p1 < x6 then
    rf (H.P p0 4) fun a8 =>
    ck (H.sh[a8]? = some (4, 0)) <|
    rf (H.P a8 14) fun a11 =>
    ar H 100 a11 fun n13 =>
    ck (inb p1 n13) <|
    bnd ((H.D a11 (p1).toNatClampNeg)) fun x16 =>
    some (x16, H)
    else
    some ((-1), H)
set_option maxRecDepth 20000 in
set_option maxHeartbeats 2000000 in
theorem m_W_group {N : Nat} {p0 : Nat} {p1 : Int32} {H : Hp} {r : Int32 × Hp} (hF : F_W_group N p0 p1 H = some r) : Sa H r.2 := by
  unfold F_W_group at hF
  have hm := Sa.rf H
  rcases ite_s hF with ⟨q_1, hG⟩ | ⟨q_1, hG⟩
  · clear hF
    have hr := Option.some.inj hG; subst hr
    exact hm
  · clear hF
    obtain ⟨q18, hF⟩ := ck_s hG; clear hG
    obtain ⟨a19, e20, hG⟩ := rf_s hF; clear hF
    obtain ⟨q21, hF⟩ := ck_s hG; clear hG
    obtain ⟨x22, -, hG⟩ := bnd_g hF; clear hF
    rcases ite_s hG with ⟨q_2, hF⟩ | ⟨q_2, hF⟩
    · clear hG
      obtain ⟨a24, e25, hG⟩ := rf_s hF; clear hF
      obtain ⟨q26, hF⟩ := ck_s hG; clear hG
      obtain ⟨a27, e28, hG⟩ := rf_s hF; clear hF
      obtain ⟨n29, q30, hF⟩ := ar_s hG; clear hG
      obtain ⟨q31, hG⟩ := ck_s hF; clear hF
      obtain ⟨x32, -, hF⟩ := bnd_g hG; clear hG
      have hr := Option.some.inj hF; subst hr
      exact hm
    · clear hG
      have hr := Option.some.inj hF; subst hr
      exact hm
set_option maxRecDepth 20000 in
set_option maxHeartbeats 2000000 in
theorem k_W_group {N : Nat} {p0 : Nat} {p1 : Int32} {H : Hp} {r : Int32 × Hp} (hF : F_W_group N p0 p1 H = some r) : ab_M y_W_group { frames := 0, cells := 0, slots := 0, locals := 0 } [.ref p0, .int p1] (hpw H) (po (.returned (some (.int r.1))) r.2) := by
  unfold F_W_group at hF
  refine ab_of2 (lv := [some (.ref p0), some (.int p1)]) 0 rfl rfl (Nat.le_of_ble_eq_true rfl) ?_
  refine ab_iload_n d_W_group_0 rfl rfl ?_
  refine ab_if_lt (tgt := 15) d_W_group_1 (by decide) (fun q1 => ?_) (fun q1 => ?_)
  · rw [if_pos q1] at hF
    refine ab_iconst (v := (-1)) d_W_group_15 (by decide) ?_
    exact ab_iret d_W_group_16 rfl (Nat.le_refl _) (Nat.le_refl _) (by have hr := Option.some.inj hF; subst hr; exact ⟨rfl, rfl⟩)
  · rw [if_neg q1] at hF
    refine ab_iload_n d_W_group_4 rfl rfl ?_
    refine ab_aload_n d_W_group_5 rfl rfl rfl ?_
    obtain ⟨q2, hG⟩ := ck_s hF; clear hF
    obtain ⟨a3, e4, hF⟩ := rf_s hG; clear hG
    refine hp_getR (f := 4) d_W_group_6 q2 (by decide) rfl (by decide) (k3 161 rfl rfl) rfl e4 ?_
    obtain ⟨q5, hG⟩ := ck_s hF; clear hF
    refine hp_getI (f := 7) d_W_group_9 q5 (by decide) rfl (by decide) (k3 82 rfl rfl) rfl ?_
    refine ab_topi (fun x6 ex6 => ?_)
    replace hG := bnd_s ex6 hG
    refine ab_icmp_lt (tgt := 17) d_W_group_12 (by decide) (fun q7 => ?_) (fun q7 => ?_)
    · rw [if_pos q7] at hG
      refine ab_aload_n d_W_group_17 rfl rfl rfl ?_
      obtain ⟨a8, e9, hF⟩ := rf_s hG; clear hG
      refine hp_getR (f := 4) d_W_group_18 q2 (by decide) rfl (by decide) (k3 161 rfl rfl) rfl e9 ?_
      obtain ⟨q10, hG⟩ := ck_s hF; clear hF
      obtain ⟨a11, e12, hF⟩ := rf_s hG; clear hG
      refine hp_getR (f := 14) d_W_group_21 q10 (by decide) rfl (by decide) (k3 106 rfl rfl) rfl e12 ?_
      refine ab_iload_n d_W_group_24 rfl rfl ?_
      obtain ⟨n13, q14, hG⟩ := ar_s hF; clear hF
      obtain ⟨q15, hF⟩ := ck_s hG; clear hG
      refine hp_iald d_W_group_25 tI q14 q15 ?_
      refine ab_topi (fun x16 ex16 => ?_)
      replace hF := bnd_s ex16 hF
      exact ab_iret d_W_group_26 rfl (Nat.le_refl _) (Nat.le_refl _) (by have hr := Option.some.inj hF; subst hr; exact ⟨rfl, rfl⟩)
    · rw [if_neg q7] at hG
      refine ab_iconst (v := (-1)) d_W_group_15 (by decide) ?_
      exact ab_iret d_W_group_16 rfl (Nat.le_refl _) (Nat.le_refl _) (by have hr := Option.some.inj hG; subst hr; exact ⟨rfl, rfl⟩)
