def y_Program_settleGroup : ab_Y := (⟨"WorldEngine$Program", "settleGroup", "()V"⟩, prog_6_method_9_code, 4, none, [])
theorem d_Program_settleGroup_0 : decode y_Program_settleGroup.2.1 0 = .ok (.aload_n 0, 1) := by decide +kernel
theorem d_Program_settleGroup_1 : decode y_Program_settleGroup.2.1 1 = .ok (.getfield 72, 3) := by decide +kernel
theorem d_Program_settleGroup_4 : decode y_Program_settleGroup.2.1 4 = .ok (.iconst 1, 1) := by decide +kernel
theorem d_Program_settleGroup_5 : decode y_Program_settleGroup.2.1 5 = .ok (.isub, 1) := by decide +kernel
theorem d_Program_settleGroup_6 : decode y_Program_settleGroup.2.1 6 = .ok (.istore_n 1, 1) := by decide +kernel
theorem d_Program_settleGroup_7 : decode y_Program_settleGroup.2.1 7 = .ok (.iload_n 1, 1) := by decide +kernel
theorem d_Program_settleGroup_8 : decode y_Program_settleGroup.2.1 8 = .ok (.ifCond .ne 7, 3) := by decide +kernel
theorem d_Program_settleGroup_11 : decode y_Program_settleGroup.2.1 11 = .ok (.iconst 1, 1) := by decide +kernel
theorem d_Program_settleGroup_12 : decode y_Program_settleGroup.2.1 12 = .ok (.goto 4, 3) := by decide +kernel
theorem d_Program_settleGroup_15 : decode y_Program_settleGroup.2.1 15 = .ok (.iconst 0, 1) := by decide +kernel
theorem d_Program_settleGroup_16 : decode y_Program_settleGroup.2.1 16 = .ok (.istore_n 2, 1) := by decide +kernel
theorem d_Program_settleGroup_17 : decode y_Program_settleGroup.2.1 17 = .ok (.iconst 0, 1) := by decide +kernel
theorem d_Program_settleGroup_18 : decode y_Program_settleGroup.2.1 18 = .ok (.istore_n 3, 1) := by decide +kernel
theorem d_Program_settleGroup_19 : decode y_Program_settleGroup.2.1 19 = .ok (.iload_n 3, 1) := by decide +kernel
theorem d_Program_settleGroup_20 : decode y_Program_settleGroup.2.1 20 = .ok (.iload_n 1, 1) := by decide +kernel
theorem d_Program_settleGroup_21 : decode y_Program_settleGroup.2.1 21 = .ok (.if_icmp .ge 35, 3) := by decide +kernel
theorem d_Program_settleGroup_24 : decode y_Program_settleGroup.2.1 24 = .ok (.aload_n 0, 1) := by decide +kernel
theorem d_Program_settleGroup_25 : decode y_Program_settleGroup.2.1 25 = .ok (.getfield 56, 3) := by decide +kernel
theorem d_Program_settleGroup_28 : decode y_Program_settleGroup.2.1 28 = .ok (.iload_n 3, 1) := by decide +kernel
theorem d_Program_settleGroup_29 : decode y_Program_settleGroup.2.1 29 = .ok (.iaload, 1) := by decide +kernel
theorem d_Program_settleGroup_30 : decode y_Program_settleGroup.2.1 30 = .ok (.aload_n 0, 1) := by decide +kernel
theorem d_Program_settleGroup_31 : decode y_Program_settleGroup.2.1 31 = .ok (.getfield 75, 3) := by decide +kernel
theorem d_Program_settleGroup_34 : decode y_Program_settleGroup.2.1 34 = .ok (.iconst 1, 1) := by decide +kernel
theorem d_Program_settleGroup_35 : decode y_Program_settleGroup.2.1 35 = .ok (.isub, 1) := by decide +kernel
theorem d_Program_settleGroup_36 : decode y_Program_settleGroup.2.1 36 = .ok (.if_icmp .ne 14, 3) := by decide +kernel
theorem d_Program_settleGroup_39 : decode y_Program_settleGroup.2.1 39 = .ok (.aload_n 0, 1) := by decide +kernel
theorem d_Program_settleGroup_40 : decode y_Program_settleGroup.2.1 40 = .ok (.iload_n 1, 1) := by decide +kernel
theorem d_Program_settleGroup_41 : decode y_Program_settleGroup.2.1 41 = .ok (.iload_n 3, 1) := by decide +kernel
theorem d_Program_settleGroup_42 : decode y_Program_settleGroup.2.1 42 = .ok (.invokevirtual 107, 3) := by decide +kernel
theorem d_Program_settleGroup_45 : decode y_Program_settleGroup.2.1 45 = .ok (.ifCond .eq 5, 3) := by decide +kernel
theorem d_Program_settleGroup_48 : decode y_Program_settleGroup.2.1 48 = .ok (.iconst 1, 1) := by decide +kernel
theorem d_Program_settleGroup_49 : decode y_Program_settleGroup.2.1 49 = .ok (.istore_n 2, 1) := by decide +kernel
theorem d_Program_settleGroup_50 : decode y_Program_settleGroup.2.1 50 = .ok (.iinc 3 1, 3) := by decide +kernel
theorem d_Program_settleGroup_53 : decode y_Program_settleGroup.2.1 53 = .ok (.goto (-34), 3) := by decide +kernel
theorem d_Program_settleGroup_56 : decode y_Program_settleGroup.2.1 56 = .ok (.iload_n 2, 1) := by decide +kernel
theorem d_Program_settleGroup_57 : decode y_Program_settleGroup.2.1 57 = .ok (.ifCond .eq 13, 3) := by decide +kernel
theorem d_Program_settleGroup_60 : decode y_Program_settleGroup.2.1 60 = .ok (.aload_n 0, 1) := by decide +kernel
theorem d_Program_settleGroup_61 : decode y_Program_settleGroup.2.1 61 = .ok (.dup, 1) := by decide +kernel
theorem d_Program_settleGroup_62 : decode y_Program_settleGroup.2.1 62 = .ok (.getfield 75, 3) := by decide +kernel
theorem d_Program_settleGroup_65 : decode y_Program_settleGroup.2.1 65 = .ok (.iconst 1, 1) := by decide +kernel
theorem d_Program_settleGroup_66 : decode y_Program_settleGroup.2.1 66 = .ok (.iadd, 1) := by decide +kernel
theorem d_Program_settleGroup_67 : decode y_Program_settleGroup.2.1 67 = .ok (.putfield 75, 3) := by decide +kernel
theorem d_Program_settleGroup_70 : decode y_Program_settleGroup.2.1 70 = .ok (.aload_n 0, 1) := by decide +kernel
theorem d_Program_settleGroup_71 : decode y_Program_settleGroup.2.1 71 = .ok (.getfield 56, 3) := by decide +kernel
theorem d_Program_settleGroup_74 : decode y_Program_settleGroup.2.1 74 = .ok (.iload_n 1, 1) := by decide +kernel
theorem d_Program_settleGroup_75 : decode y_Program_settleGroup.2.1 75 = .ok (.aload_n 0, 1) := by decide +kernel
theorem d_Program_settleGroup_76 : decode y_Program_settleGroup.2.1 76 = .ok (.getfield 75, 3) := by decide +kernel
theorem d_Program_settleGroup_79 : decode y_Program_settleGroup.2.1 79 = .ok (.iconst 1, 1) := by decide +kernel
theorem d_Program_settleGroup_80 : decode y_Program_settleGroup.2.1 80 = .ok (.isub, 1) := by decide +kernel
theorem d_Program_settleGroup_81 : decode y_Program_settleGroup.2.1 81 = .ok (.iastore, 1) := by decide +kernel
theorem d_Program_settleGroup_82 : decode y_Program_settleGroup.2.1 82 = .ok (.return_, 1) := by decide +kernel
theorem s_Program_settleGroup : ab_Stat y_Program_settleGroup 0 := ⟨(k5 103 rfl rfl), (k1 15 rfl rfl), ⟨by decide, by decide⟩, by decide +kernel⟩
theorem i_Program_settleGroup : Cond.instanceMethod y_Program_settleGroup.1 ∈ ab_T := (k5 101 rfl rfl)
theorem v_Program_settleGroup : Cond.selects "WorldEngine$Program" y_Program_settleGroup.1 y_Program_settleGroup.1 ∈ ab_T := (k5 102 rfl rfl)
def B_Program_settleGroup_70 (N : Nat) (p0 : Nat) (l1 : Int32) (H : Hp) : Option (Unit × Hp) :=
    ck (H.sh[p0]? = some (4, 0)) <|
    rf (H.P p0 14) fun a8 =>
    bnd ((H.D p0 15)) fun x10 =>
    ar H 100 a8 fun n11 =>
    ck (inb l1 n11) <|
    bnd (H.sD a8 (l1).toNatClampNeg (x10 - (1 : Int32))) fun H14 =>
    some ((), H14)
set_option maxRecDepth 20000 in
set_option maxHeartbeats 2000000 in
theorem mB_Program_settleGroup_70 {N : Nat} {p0 : Nat} {l1 : Int32} {H : Hp} {r : Unit × Hp} (hF : B_Program_settleGroup_70 N p0 l1 H = some r) : Sa H r.2 := by
  unfold B_Program_settleGroup_70 at hF
  have hm := Sa.rf H
  obtain ⟨q15, hG⟩ := ck_s hF; clear hF
  obtain ⟨a16, e17, hF⟩ := rf_s hG; clear hG
  obtain ⟨x18, -, hG⟩ := bnd_g hF; clear hF
  obtain ⟨n19, q20, hF⟩ := ar_s hG; clear hG
  obtain ⟨q21, hG⟩ := ck_s hF; clear hF
  obtain ⟨H22, eH22, hF⟩ := bnd_g hG; clear hG
  replace hm : Sa H H22 := by rw [eH22]; exact hm
  have hr := Option.some.inj hF; subst hr
  exact hm
set_option maxRecDepth 20000 in
set_option maxHeartbeats 2000000 in
theorem kB_Program_settleGroup_70 {N : Nat} {p0 : Nat} {l1 : Int32} {H : Hp} {r : Unit × Hp} (hF : B_Program_settleGroup_70 N p0 l1 H = some r) : ab_V y_Program_settleGroup { frames := 1, cells := 0, slots := 0, locals := 24 } (po (.returned none) r.2) 0 0 0 0 70 [some (.ref p0), some (.int l1), none, none] [] (hpw H) := by
  unfold B_Program_settleGroup_70 at hF
  refine ab_aload_n d_Program_settleGroup_70 rfl rfl rfl ?_
  obtain ⟨q7, hG⟩ := ck_s hF; clear hF
  obtain ⟨a8, e9, hF⟩ := rf_s hG; clear hG
  refine hp_getR (f := 14) d_Program_settleGroup_71 q7 (by decide) rfl (by decide) (k3 104 rfl rfl) rfl e9 ?_
  refine ab_iload_n d_Program_settleGroup_74 rfl rfl ?_
  refine ab_aload_n d_Program_settleGroup_75 rfl rfl rfl ?_
  refine hp_getI (f := 15) d_Program_settleGroup_76 q7 (by decide) rfl (by decide) (k3 107 rfl rfl) rfl ?_
  refine ab_topi (fun x10 ex10 => ?_)
  replace hF := bnd_s ex10 hF
  refine ab_iconst (v := 1) d_Program_settleGroup_79 (by decide) ?_
  refine ab_isub d_Program_settleGroup_80 ?_
  obtain ⟨n11, q12, hG⟩ := ar_s hF; clear hF
  obtain ⟨q13, hF⟩ := ck_s hG; clear hG
  refine hp_iast d_Program_settleGroup_81 tI q12 q13 ?_
  refine hp_gen (fun H14 eH14 => ?_)
  replace hF := bnd_s eH14 hF
  have s_1 : Sa H H14 := by rw [eH14]; exact Sa.rf _
  exact ab_vret d_Program_settleGroup_82 rfl (Nat.le_refl _) (Nat.le_refl _) (by have hr := Option.some.inj hF; subst hr; exact ⟨rfl, rfl⟩)
def B_Program_settleGroup_50 (N : Nat) (p0 : Nat) (kq19 : Int32 → Int32 → Int32 → Hp → Option (Unit × Hp)) (l1 : Int32) (l2 : Int32) (l3 : Int32) (H : Hp) : Option (Unit × Hp) :=
    kq19 l1 l2 (l3 + 1) H
set_option maxRecDepth 20000 in
set_option maxHeartbeats 2000000 in
theorem mB_Program_settleGroup_50 {N : Nat} {p0 : Nat} {kq19 : Int32 → Int32 → Int32 → Hp → Option (Unit × Hp)} (hm19 : ∀ (l1 : Int32) (l2 : Int32) (l3 : Int32) (H : Hp) (r : Unit × Hp), kq19 l1 l2 l3 H = some r → Sa H r.2) {l1 : Int32} {l2 : Int32} {l3 : Int32} {H : Hp} {r : Unit × Hp} (hF : B_Program_settleGroup_50 N p0 kq19 l1 l2 l3 H = some r) : Sa H r.2 := by
  unfold B_Program_settleGroup_50 at hF
  have hm := Sa.rf H
  exact hm.tr (hm19 l1 l2 (l3 + 1) H r hF)
set_option maxRecDepth 20000 in
set_option maxHeartbeats 2000000 in
theorem kB_Program_settleGroup_50 {N : Nat} {p0 : Nat} {kq19 : Int32 → Int32 → Int32 → Hp → Option (Unit × Hp)} (hm19 : ∀ (l1 : Int32) (l2 : Int32) (l3 : Int32) (H : Hp) (r : Unit × Hp), kq19 l1 l2 l3 H = some r → Sa H r.2) (hk19 : ∀ (l1 : Int32) (l2 : Int32) (l3 : Int32) (H : Hp) (r : Unit × Hp), kq19 l1 l2 l3 H = some r → ab_V y_Program_settleGroup { frames := 1, cells := 0, slots := 0, locals := 24 } (po (.returned none) r.2) 0 0 0 0 19 [some (.ref p0), some (.int l1), some (.int l2), some (.int l3)] [] (hpw H)) {l1 : Int32} {l2 : Int32} {l3 : Int32} {H : Hp} {r : Unit × Hp} (hF : B_Program_settleGroup_50 N p0 kq19 l1 l2 l3 H = some r) : ab_V y_Program_settleGroup { frames := 1, cells := 0, slots := 0, locals := 24 } (po (.returned none) r.2) 0 0 0 0 50 [some (.ref p0), some (.int l1), some (.int l2), some (.int l3)] [] (hpw H) := by
  unfold B_Program_settleGroup_50 at hF
  refine ab_iinc (v := l3 + 1) (lv' := [some (.ref p0), some (.int l1), some (.int l2), some (.int (l3 + 1))]) d_Program_settleGroup_50 rfl rfl (by decide) rfl ?_
  refine ab_goto (tgt := 19) d_Program_settleGroup_53 (by decide) ?_
  exact hk19 l1 l2 (l3 + 1) H r hF
def B_Program_settleGroup_19 (N : Nat) (p0 : Nat) : Nat → Int32 → Int32 → Int32 → Hp → Option (Unit × Hp)
  | 0, _, _, _, _ => none
  | n + 1, l1, l2, l3, H =>
    if l1 ≤ l3 then
    if l2 = (0 : Int32) then
    B_Program_settleGroup_70 N p0 l1 H
    else
    ck (H.sh[p0]? = some (4, 0)) <|
    bnd ((H.D p0 15)) fun x24 =>
    bnd (H.sD p0 15 (x24 + (1 : Int32))) fun H25 =>
    B_Program_settleGroup_70 N p0 l1 H25
    else
    ck (H.sh[p0]? = some (4, 0)) <|
    rf (H.P p0 14) fun a27 =>
    ar H 100 a27 fun n29 =>
    ck (inb l3 n29) <|
    bnd ((H.D a27 (l3).toNatClampNeg)) fun x32 =>
    bnd ((H.D p0 15)) fun x33 =>
    if x32 = (x33 - (1 : Int32)) then
    bC (F_Program_isApart N p0 l1 l3 H) fun v36 H37 =>
    if v36 = (0 : Int32) then
    B_Program_settleGroup_50 N p0 (fun l1 l2 l3 H => B_Program_settleGroup_19 N p0 n l1 l2 l3 H) l1 l2 l3 H37
    else
    B_Program_settleGroup_50 N p0 (fun l1 l2 l3 H => B_Program_settleGroup_19 N p0 n l1 l2 l3 H) l1 1 l3 H37
    else
    B_Program_settleGroup_50 N p0 (fun l1 l2 l3 H => B_Program_settleGroup_19 N p0 n l1 l2 l3 H) l1 l2 l3 H
termination_by structural n => n
set_option maxRecDepth 20000 in
set_option maxHeartbeats 2000000 in
theorem mB_Program_settleGroup_19 {N : Nat} {p0 : Nat} : ∀ (n : Nat) (l1 : Int32) (l2 : Int32) (l3 : Int32) (H : Hp) (r : Unit × Hp), B_Program_settleGroup_19 N p0 n l1 l2 l3 H = some r → Sa H r.2 := by
  intro n
  induction n with
  | zero => intro l1 l2 l3 H r hF; rw [B_Program_settleGroup_19] at hF; cases hF
  | succ n ih =>
    intro l1 l2 l3 H r hF
    rw [B_Program_settleGroup_19] at hF
    have hm := Sa.rf H
    rcases ite_s hF with ⟨q_5, hG⟩ | ⟨q_5, hG⟩
    · clear hF
      rcases ite_s hG with ⟨q_6, hF⟩ | ⟨q_6, hF⟩
      · clear hG
        exact hm.tr (mB_Program_settleGroup_70 hF)
      · clear hG
        obtain ⟨q41, hG⟩ := ck_s hF; clear hF
        obtain ⟨x42, -, hF⟩ := bnd_g hG; clear hG
        obtain ⟨H43, eH43, hG⟩ := bnd_g hF; clear hF
        replace hm : Sa H H43 := by rw [eH43]; exact hm
        exact hm.tr (mB_Program_settleGroup_70 hG)
    · clear hF
      obtain ⟨q44, hF⟩ := ck_s hG; clear hG
      obtain ⟨a45, e46, hG⟩ := rf_s hF; clear hF
      obtain ⟨n47, q48, hF⟩ := ar_s hG; clear hG
      obtain ⟨q49, hG⟩ := ck_s hF; clear hF
      obtain ⟨x50, -, hF⟩ := bnd_g hG; clear hG
      obtain ⟨x51, -, hG⟩ := bnd_g hF; clear hF
      rcases ite_s hG with ⟨q_8, hF⟩ | ⟨q_8, hF⟩
      · clear hG
        obtain ⟨v54, H55, z53, hG⟩ := bC_s hF; clear hF
        replace hm : Sa H H55 := hm.tr (m_Program_isApart z53)
        rcases ite_s hG with ⟨q_10, hF⟩ | ⟨q_10, hF⟩
        · clear hG
          exact hm.tr (mB_Program_settleGroup_50 ih hF)
        · clear hG
          exact hm.tr (mB_Program_settleGroup_50 ih hF)
      · clear hG
        exact hm.tr (mB_Program_settleGroup_50 ih hF)
set_option maxRecDepth 20000 in
set_option maxHeartbeats 2000000 in
theorem kB_Program_settleGroup_19 {N : Nat} {p0 : Nat} : ∀ (n : Nat) (l1 : Int32) (l2 : Int32) (l3 : Int32) (H : Hp) (r : Unit × Hp), B_Program_settleGroup_19 N p0 n l1 l2 l3 H = some r → ab_V y_Program_settleGroup { frames := 1, cells := 0, slots := 0, locals := 24 } (po (.returned none) r.2) 0 0 0 0 19 [some (.ref p0), some (.int l1), some (.int l2), some (.int l3)] [] (hpw H) := by
  intro n
  induction n with
  | zero => intro l1 l2 l3 H r hF; rw [B_Program_settleGroup_19] at hF; cases hF
  | succ n ih =>
    intro l1 l2 l3 H r hF
    rw [B_Program_settleGroup_19] at hF
    refine ab_iload_n d_Program_settleGroup_19 rfl rfl ?_
    refine ab_iload_n d_Program_settleGroup_20 rfl rfl ?_
    refine ab_icmp_ge (tgt := 56) d_Program_settleGroup_21 (by decide) (fun q5 => ?_) (fun q5 => ?_)
    · rw [if_pos q5] at hF
      refine ab_iload_n d_Program_settleGroup_56 rfl rfl ?_
      refine ab_if_eq (tgt := 70) d_Program_settleGroup_57 (by decide) (fun q6 => ?_) (fun q6 => ?_)
      · rw [if_pos q6] at hF
        refine ab_le (lv' := [some (.ref p0), some (.int l1), none, none]) ⟨rfl, ⟨rfl, trivial⟩⟩ ?_
        exact kB_Program_settleGroup_70 hF
      · rw [if_neg q6] at hF
        refine ab_aload_n d_Program_settleGroup_60 rfl rfl rfl ?_
        refine ab_dup d_Program_settleGroup_61 rfl ?_
        obtain ⟨q23, hG⟩ := ck_s hF; clear hF
        refine hp_getI (f := 15) d_Program_settleGroup_62 q23 (by decide) rfl (by decide) (k3 107 rfl rfl) rfl ?_
        refine ab_topi (fun x24 ex24 => ?_)
        replace hG := bnd_s ex24 hG
        refine ab_iconst (v := 1) d_Program_settleGroup_65 (by decide) ?_
        refine ab_iadd d_Program_settleGroup_66 ?_
        refine hp_putI (v := x24 + (1 : Int32)) (f := 15) d_Program_settleGroup_67 q23 (by decide) rfl (by decide) (k3 107 rfl rfl) rfl rfl (fun _ => rfl) (fun _ => rfl) rfl ?_
        refine hp_gen (fun H25 eH25 => ?_)
        replace hG := bnd_s eH25 hG
        have s_3 : Sa H H25 := by rw [eH25]; exact Sa.rf _
        refine ab_le (lv' := [some (.ref p0), some (.int l1), none, none]) ⟨rfl, ⟨rfl, trivial⟩⟩ ?_
        exact kB_Program_settleGroup_70 hG
    · rw [if_neg q5] at hF
      refine ab_aload_n d_Program_settleGroup_24 rfl rfl rfl ?_
      obtain ⟨q26, hG⟩ := ck_s hF; clear hF
      obtain ⟨a27, e28, hF⟩ := rf_s hG; clear hG
      refine hp_getR (f := 14) d_Program_settleGroup_25 q26 (by decide) rfl (by decide) (k3 104 rfl rfl) rfl e28 ?_
      refine ab_iload_n d_Program_settleGroup_28 rfl rfl ?_
      obtain ⟨n29, q30, hG⟩ := ar_s hF; clear hF
      obtain ⟨q31, hF⟩ := ck_s hG; clear hG
      refine hp_iald d_Program_settleGroup_29 tI q30 q31 ?_
      refine ab_topi (fun x32 ex32 => ?_)
      replace hF := bnd_s ex32 hF
      refine ab_aload_n d_Program_settleGroup_30 rfl rfl rfl ?_
      refine hp_getI (f := 15) d_Program_settleGroup_31 q26 (by decide) rfl (by decide) (k3 107 rfl rfl) rfl ?_
      refine ab_topi (fun x33 ex33 => ?_)
      replace hF := bnd_s ex33 hF
      refine ab_iconst (v := 1) d_Program_settleGroup_34 (by decide) ?_
      refine ab_isub d_Program_settleGroup_35 ?_
      refine ab_icmp_ne (tgt := 50) d_Program_settleGroup_36 (by decide) (fun q34 => ?_) (fun q34 => ?_)
      · rw [if_neg q34] at hF
        exact kB_Program_settleGroup_50 (mB_Program_settleGroup_19 n) ih hF
      · rw [if_pos q34] at hF
        refine ab_aload_n d_Program_settleGroup_39 rfl rfl rfl ?_
        refine ab_iload_n d_Program_settleGroup_40 rfl rfl ?_
        refine ab_iload_n d_Program_settleGroup_41 rfl rfl ?_
        obtain ⟨v36, H37, z35, hG⟩ := bC_s hF; clear hF
        refine hp_callV_a (v := .int v36) (H1 := H37) (As := [.int l1, .int l3]) (rest := []) d_Program_settleGroup_42 (k_Program_isApart z35) (ab_mkC s_Program_isApart (Nat.le_of_ble_eq_true rfl) (Nat.le_of_ble_eq_true rfl) (Nat.le_refl 0) (Nat.le_refl 0)) (k5 104 rfl rfl) i_Program_isApart v_Program_isApart q26 (by decide) rfl rfl (Nat.le_of_ble_eq_true rfl) ?_
        have s_4 : Sa H H37 := (m_Program_isApart z35)
        refine ab_if_eq (tgt := 50) d_Program_settleGroup_45 (by decide) (fun q38 => ?_) (fun q38 => ?_)
        · rw [if_pos q38] at hG
          exact kB_Program_settleGroup_50 (mB_Program_settleGroup_19 n) ih hG
        · rw [if_neg q38] at hG
          refine ab_iconst (v := 1) d_Program_settleGroup_48 (by decide) ?_
          refine ab_istore_n (lv' := [some (.ref p0), some (.int l1), some (.int 1), some (.int l3)]) d_Program_settleGroup_49 rfl (by decide) rfl ?_
          exact kB_Program_settleGroup_50 (mB_Program_settleGroup_19 n) ih hG
def B_Program_settleGroup_16 (N : Nat) (p0 : Nat) (l1 : Int32) (w0 : Int32) (H : Hp) : Option (Unit × Hp) :=
    B_Program_settleGroup_19 N p0 N l1 w0 0 H
set_option maxRecDepth 20000 in
set_option maxHeartbeats 2000000 in
theorem mB_Program_settleGroup_16 {N : Nat} {p0 : Nat} {l1 : Int32} {w0 : Int32} {H : Hp} {r : Unit × Hp} (hF : B_Program_settleGroup_16 N p0 l1 w0 H = some r) : Sa H r.2 := by
  unfold B_Program_settleGroup_16 at hF
  have hm := Sa.rf H
  exact hm.tr (mB_Program_settleGroup_19 N l1 w0 0 H r hF)
set_option maxRecDepth 20000 in
set_option maxHeartbeats 2000000 in
theorem kB_Program_settleGroup_16 {N : Nat} {p0 : Nat} {l1 : Int32} {w0 : Int32} {H : Hp} {r : Unit × Hp} (hF : B_Program_settleGroup_16 N p0 l1 w0 H = some r) : ab_V y_Program_settleGroup { frames := 1, cells := 0, slots := 0, locals := 24 } (po (.returned none) r.2) 0 0 0 0 16 [some (.ref p0), some (.int l1), none, none] [.int w0] (hpw H) := by
  unfold B_Program_settleGroup_16 at hF
  refine ab_istore_n (lv' := [some (.ref p0), some (.int l1), some (.int w0), none]) d_Program_settleGroup_16 rfl (by decide) rfl ?_
  refine ab_iconst (v := 0) d_Program_settleGroup_17 (by decide) ?_
  refine ab_istore_n (lv' := [some (.ref p0), some (.int l1), some (.int w0), some (.int 0)]) d_Program_settleGroup_18 rfl (by decide) rfl ?_
  exact kB_Program_settleGroup_19 N l1 w0 0 H r hF
def F_Program_settleGroup (N : Nat) (p0 : Nat) (H : Hp) : Option (Unit × Hp) :=
    ck (H.sh[p0]? = some (4, 0)) <|
    bnd ((H.D p0 7)) fun x2 =>
    bnd ((x2 - (1 : Int32))) fun x3 =>
    if x3 = (0 : Int32) then
    B_Program_settleGroup_16 N p0 x3 1 H
    else
    B_Program_settleGroup_16 N p0 x3 0 H
set_option maxRecDepth 20000 in
set_option maxHeartbeats 2000000 in
theorem m_Program_settleGroup {N : Nat} {p0 : Nat} {H : Hp} {r : Unit × Hp} (hF : F_Program_settleGroup N p0 H = some r) : Sa H r.2 := by
  unfold F_Program_settleGroup at hF
  have hm := Sa.rf H
  obtain ⟨q57, hG⟩ := ck_s hF; clear hF
  obtain ⟨x58, -, hF⟩ := bnd_g hG; clear hG
  obtain ⟨x59, -, hG⟩ := bnd_g hF; clear hF
  rcases ite_s hG with ⟨q_11, hF⟩ | ⟨q_11, hF⟩
  · clear hG
    exact hm.tr (mB_Program_settleGroup_16 hF)
  · clear hG
    exact hm.tr (mB_Program_settleGroup_16 hF)
set_option maxRecDepth 20000 in
set_option maxHeartbeats 2000000 in
theorem k_Program_settleGroup {N : Nat} {p0 : Nat} {H : Hp} {r : Unit × Hp} (hF : F_Program_settleGroup N p0 H = some r) : ab_M y_Program_settleGroup { frames := 1, cells := 0, slots := 0, locals := 24 } [.ref p0] (hpw H) (po (.returned none) r.2) := by
  unfold F_Program_settleGroup at hF
  refine ab_of2 (lv := [some (.ref p0), none, none, none]) 3 rfl rfl (Nat.le_of_ble_eq_true rfl) ?_
  refine ab_aload_n d_Program_settleGroup_0 rfl rfl rfl ?_
  obtain ⟨q1, hG⟩ := ck_s hF; clear hF
  refine hp_getI (f := 7) d_Program_settleGroup_1 q1 (by decide) rfl (by decide) (k3 80 rfl rfl) rfl ?_
  refine ab_topi (fun x2 ex2 => ?_)
  replace hG := bnd_s ex2 hG
  refine ab_iconst (v := 1) d_Program_settleGroup_4 (by decide) ?_
  refine ab_isub d_Program_settleGroup_5 ?_
  refine ab_topi (fun x3 ex3 => ?_)
  replace hG := bnd_s ex3 hG
  refine ab_istore_n (lv' := [some (.ref p0), some (.int x3), none, none]) d_Program_settleGroup_6 rfl (by decide) rfl ?_
  refine ab_iload_n d_Program_settleGroup_7 rfl rfl ?_
  refine ab_if_ne (tgt := 15) d_Program_settleGroup_8 (by decide) (fun q4 => ?_) (fun q4 => ?_)
  · rw [if_neg q4] at hG
    refine ab_iconst (v := 0) d_Program_settleGroup_15 (by decide) ?_
    exact kB_Program_settleGroup_16 hG
  · rw [if_pos q4] at hG
    refine ab_iconst (v := 1) d_Program_settleGroup_11 (by decide) ?_
    refine ab_goto (tgt := 16) d_Program_settleGroup_12 (by decide) ?_
    exact kB_Program_settleGroup_16 hG
def y_Reader_readHead : ab_Y := (⟨"WorldEngine$Reader", "readHead", "()V"⟩, prog_7_method_13_code, 5, none, [])
theorem d_Reader_readHead_0 : decode y_Reader_readHead.2.1 0 = .ok (.aload_n 0, 1) := by decide +kernel
theorem d_Reader_readHead_1 : decode y_Reader_readHead.2.1 1 = .ok (.aload_n 0, 1) := by decide +kernel
theorem d_Reader_readHead_2 : decode y_Reader_readHead.2.1 2 = .ok (.getfield 22, 3) := by decide +kernel
theorem d_Reader_readHead_5 : decode y_Reader_readHead.2.1 5 = .ok (.getfield 198, 3) := by decide +kernel
theorem d_Reader_readHead_8 : decode y_Reader_readHead.2.1 8 = .ok (.bipush 16, 2) := by decide +kernel
theorem d_Reader_readHead_10 : decode y_Reader_readHead.2.1 10 = .ok (.invokevirtual 103, 3) := by decide +kernel
theorem d_Reader_readHead_13 : decode y_Reader_readHead.2.1 13 = .ok (.aload_n 0, 1) := by decide +kernel
theorem d_Reader_readHead_14 : decode y_Reader_readHead.2.1 14 = .ok (.getfield 22, 3) := by decide +kernel
theorem d_Reader_readHead_17 : decode y_Reader_readHead.2.1 17 = .ok (.getfield 198, 3) := by decide +kernel
theorem d_Reader_readHead_20 : decode y_Reader_readHead.2.1 20 = .ok (.istore_n 1, 1) := by decide +kernel
theorem d_Reader_readHead_21 : decode y_Reader_readHead.2.1 21 = .ok (.aload_n 0, 1) := by decide +kernel
theorem d_Reader_readHead_22 : decode y_Reader_readHead.2.1 22 = .ok (.iconst 3, 1) := by decide +kernel
theorem d_Reader_readHead_23 : decode y_Reader_readHead.2.1 23 = .ok (.iload_n 1, 1) := by decide +kernel
theorem d_Reader_readHead_24 : decode y_Reader_readHead.2.1 24 = .ok (.invokevirtual 106, 3) := by decide +kernel
theorem d_Reader_readHead_27 : decode y_Reader_readHead.2.1 27 = .ok (.pop, 1) := by decide +kernel
theorem d_Reader_readHead_28 : decode y_Reader_readHead.2.1 28 = .ok (.aload_n 0, 1) := by decide +kernel
theorem d_Reader_readHead_29 : decode y_Reader_readHead.2.1 29 = .ok (.getfield 22, 3) := by decide +kernel
theorem d_Reader_readHead_32 : decode y_Reader_readHead.2.1 32 = .ok (.iload_n 1, 1) := by decide +kernel
theorem d_Reader_readHead_33 : decode y_Reader_readHead.2.1 33 = .ok (.iconst 1, 1) := by decide +kernel
theorem d_Reader_readHead_34 : decode y_Reader_readHead.2.1 34 = .ok (.iadd, 1) := by decide +kernel
theorem d_Reader_readHead_35 : decode y_Reader_readHead.2.1 35 = .ok (.putfield 198, 3) := by decide +kernel
theorem d_Reader_readHead_38 : decode y_Reader_readHead.2.1 38 = .ok (.ldc 201, 2) := by decide +kernel
theorem d_Reader_readHead_40 : decode y_Reader_readHead.2.1 40 = .ok (.istore_n 2, 1) := by decide +kernel
theorem d_Reader_readHead_41 : decode y_Reader_readHead.2.1 41 = .ok (.aload_n 0, 1) := by decide +kernel
theorem d_Reader_readHead_42 : decode y_Reader_readHead.2.1 42 = .ok (.getfield 22, 3) := by decide +kernel
theorem d_Reader_readHead_45 : decode y_Reader_readHead.2.1 45 = .ok (.getfield 202, 3) := by decide +kernel
theorem d_Reader_readHead_48 : decode y_Reader_readHead.2.1 48 = .ok (.iload_n 1, 1) := by decide +kernel
theorem d_Reader_readHead_49 : decode y_Reader_readHead.2.1 49 = .ok (.aload_n 0, 1) := by decide +kernel
theorem d_Reader_readHead_50 : decode y_Reader_readHead.2.1 50 = .ok (.bipush 44, 2) := by decide +kernel
theorem d_Reader_readHead_52 : decode y_Reader_readHead.2.1 52 = .ok (.iconst 3, 1) := by decide +kernel
theorem d_Reader_readHead_53 : decode y_Reader_readHead.2.1 53 = .ok (.iconst 0, 1) := by decide +kernel
theorem d_Reader_readHead_54 : decode y_Reader_readHead.2.1 54 = .ok (.iload_n 2, 1) := by decide +kernel
theorem d_Reader_readHead_55 : decode y_Reader_readHead.2.1 55 = .ok (.invokevirtual 205, 3) := by decide +kernel
theorem d_Reader_readHead_58 : decode y_Reader_readHead.2.1 58 = .ok (.iastore, 1) := by decide +kernel
theorem d_Reader_readHead_59 : decode y_Reader_readHead.2.1 59 = .ok (.aload_n 0, 1) := by decide +kernel
theorem d_Reader_readHead_60 : decode y_Reader_readHead.2.1 60 = .ok (.getfield 7, 3) := by decide +kernel
theorem d_Reader_readHead_63 : decode y_Reader_readHead.2.1 63 = .ok (.getfield 36, 3) := by decide +kernel
theorem d_Reader_readHead_66 : decode y_Reader_readHead.2.1 66 = .ok (.bipush 45, 2) := by decide +kernel
theorem d_Reader_readHead_68 : decode y_Reader_readHead.2.1 68 = .ok (.if_icmp .eq 18, 3) := by decide +kernel
theorem d_Reader_readHead_71 : decode y_Reader_readHead.2.1 71 = .ok (.aload_n 0, 1) := by decide +kernel
theorem d_Reader_readHead_72 : decode y_Reader_readHead.2.1 72 = .ok (.getfield 7, 3) := by decide +kernel
theorem d_Reader_readHead_75 : decode y_Reader_readHead.2.1 75 = .ok (.iconst 1, 1) := by decide +kernel
theorem d_Reader_readHead_76 : decode y_Reader_readHead.2.1 76 = .ok (.aload_n 0, 1) := by decide +kernel
theorem d_Reader_readHead_77 : decode y_Reader_readHead.2.1 77 = .ok (.getfield 7, 3) := by decide +kernel
theorem d_Reader_readHead_80 : decode y_Reader_readHead.2.1 80 = .ok (.getfield 65, 3) := by decide +kernel
theorem d_Reader_readHead_83 : decode y_Reader_readHead.2.1 83 = .ok (.invokevirtual 68, 3) := by decide +kernel
theorem d_Reader_readHead_86 : decode y_Reader_readHead.2.1 86 = .ok (.aload_n 0, 1) := by decide +kernel
theorem d_Reader_readHead_87 : decode y_Reader_readHead.2.1 87 = .ok (.bipush 45, 2) := by decide +kernel
theorem d_Reader_readHead_89 : decode y_Reader_readHead.2.1 89 = .ok (.iconst 0, 1) := by decide +kernel
theorem d_Reader_readHead_90 : decode y_Reader_readHead.2.1 90 = .ok (.iconst 0, 1) := by decide +kernel
theorem d_Reader_readHead_91 : decode y_Reader_readHead.2.1 91 = .ok (.iload_n 2, 1) := by decide +kernel
theorem d_Reader_readHead_92 : decode y_Reader_readHead.2.1 92 = .ok (.invokevirtual 205, 3) := by decide +kernel
theorem d_Reader_readHead_95 : decode y_Reader_readHead.2.1 95 = .ok (.istore_n 3, 1) := by decide +kernel
theorem d_Reader_readHead_96 : decode y_Reader_readHead.2.1 96 = .ok (.aload_n 0, 1) := by decide +kernel
theorem d_Reader_readHead_97 : decode y_Reader_readHead.2.1 97 = .ok (.getfield 22, 3) := by decide +kernel
theorem d_Reader_readHead_100 : decode y_Reader_readHead.2.1 100 = .ok (.getfield 209, 3) := by decide +kernel
theorem d_Reader_readHead_103 : decode y_Reader_readHead.2.1 103 = .ok (.iload_n 1, 1) := by decide +kernel
theorem d_Reader_readHead_104 : decode y_Reader_readHead.2.1 104 = .ok (.iload_n 3, 1) := by decide +kernel
theorem d_Reader_readHead_105 : decode y_Reader_readHead.2.1 105 = .ok (.iastore, 1) := by decide +kernel
theorem d_Reader_readHead_106 : decode y_Reader_readHead.2.1 106 = .ok (.aload_n 0, 1) := by decide +kernel
theorem d_Reader_readHead_107 : decode y_Reader_readHead.2.1 107 = .ok (.getfield 22, 3) := by decide +kernel
theorem d_Reader_readHead_110 : decode y_Reader_readHead.2.1 110 = .ok (.getfield 212, 3) := by decide +kernel
theorem d_Reader_readHead_113 : decode y_Reader_readHead.2.1 113 = .ok (.iload_n 1, 1) := by decide +kernel
theorem d_Reader_readHead_114 : decode y_Reader_readHead.2.1 114 = .ok (.aload_n 0, 1) := by decide +kernel
theorem d_Reader_readHead_115 : decode y_Reader_readHead.2.1 115 = .ok (.bipush 46, 2) := by decide +kernel
theorem d_Reader_readHead_117 : decode y_Reader_readHead.2.1 117 = .ok (.iconst 0, 1) := by decide +kernel
theorem d_Reader_readHead_118 : decode y_Reader_readHead.2.1 118 = .ok (.iload_n 3, 1) := by decide +kernel
theorem d_Reader_readHead_119 : decode y_Reader_readHead.2.1 119 = .ok (.iload_n 2, 1) := by decide +kernel
theorem d_Reader_readHead_120 : decode y_Reader_readHead.2.1 120 = .ok (.invokevirtual 205, 3) := by decide +kernel
theorem d_Reader_readHead_123 : decode y_Reader_readHead.2.1 123 = .ok (.iastore, 1) := by decide +kernel
theorem d_Reader_readHead_124 : decode y_Reader_readHead.2.1 124 = .ok (.aload_n 0, 1) := by decide +kernel
theorem d_Reader_readHead_125 : decode y_Reader_readHead.2.1 125 = .ok (.bipush 47, 2) := by decide +kernel
theorem d_Reader_readHead_127 : decode y_Reader_readHead.2.1 127 = .ok (.iconst 0, 1) := by decide +kernel
theorem d_Reader_readHead_128 : decode y_Reader_readHead.2.1 128 = .ok (.iconst 0, 1) := by decide +kernel
theorem d_Reader_readHead_129 : decode y_Reader_readHead.2.1 129 = .ok (.iload_n 3, 1) := by decide +kernel
theorem d_Reader_readHead_130 : decode y_Reader_readHead.2.1 130 = .ok (.invokevirtual 205, 3) := by decide +kernel
theorem d_Reader_readHead_133 : decode y_Reader_readHead.2.1 133 = .ok (.istore 4, 2) := by decide +kernel
theorem d_Reader_readHead_135 : decode y_Reader_readHead.2.1 135 = .ok (.aload_n 0, 1) := by decide +kernel
theorem d_Reader_readHead_136 : decode y_Reader_readHead.2.1 136 = .ok (.getfield 22, 3) := by decide +kernel
theorem d_Reader_readHead_139 : decode y_Reader_readHead.2.1 139 = .ok (.getfield 215, 3) := by decide +kernel
theorem d_Reader_readHead_142 : decode y_Reader_readHead.2.1 142 = .ok (.iload_n 1, 1) := by decide +kernel
theorem d_Reader_readHead_143 : decode y_Reader_readHead.2.1 143 = .ok (.iload 4, 2) := by decide +kernel
theorem d_Reader_readHead_145 : decode y_Reader_readHead.2.1 145 = .ok (.iastore, 1) := by decide +kernel
theorem d_Reader_readHead_146 : decode y_Reader_readHead.2.1 146 = .ok (.aload_n 0, 1) := by decide +kernel
theorem d_Reader_readHead_147 : decode y_Reader_readHead.2.1 147 = .ok (.getfield 22, 3) := by decide +kernel
theorem d_Reader_readHead_150 : decode y_Reader_readHead.2.1 150 = .ok (.getfield 218, 3) := by decide +kernel
theorem d_Reader_readHead_153 : decode y_Reader_readHead.2.1 153 = .ok (.iload_n 1, 1) := by decide +kernel
theorem d_Reader_readHead_154 : decode y_Reader_readHead.2.1 154 = .ok (.aload_n 0, 1) := by decide +kernel
theorem d_Reader_readHead_155 : decode y_Reader_readHead.2.1 155 = .ok (.bipush 48, 2) := by decide +kernel
theorem d_Reader_readHead_157 : decode y_Reader_readHead.2.1 157 = .ok (.iconst 0, 1) := by decide +kernel
theorem d_Reader_readHead_158 : decode y_Reader_readHead.2.1 158 = .ok (.iconst 0, 1) := by decide +kernel
theorem d_Reader_readHead_159 : decode y_Reader_readHead.2.1 159 = .ok (.iload_n 2, 1) := by decide +kernel
theorem d_Reader_readHead_160 : decode y_Reader_readHead.2.1 160 = .ok (.iload 4, 2) := by decide +kernel
theorem d_Reader_readHead_162 : decode y_Reader_readHead.2.1 162 = .ok (.iconst (-1), 1) := by decide +kernel
theorem d_Reader_readHead_163 : decode y_Reader_readHead.2.1 163 = .ok (.ixor, 1) := by decide +kernel
theorem d_Reader_readHead_164 : decode y_Reader_readHead.2.1 164 = .ok (.iand, 1) := by decide +kernel
theorem d_Reader_readHead_165 : decode y_Reader_readHead.2.1 165 = .ok (.invokevirtual 205, 3) := by decide +kernel
theorem d_Reader_readHead_168 : decode y_Reader_readHead.2.1 168 = .ok (.iastore, 1) := by decide +kernel
theorem d_Reader_readHead_169 : decode y_Reader_readHead.2.1 169 = .ok (.aload_n 0, 1) := by decide +kernel
theorem d_Reader_readHead_170 : decode y_Reader_readHead.2.1 170 = .ok (.getfield 22, 3) := by decide +kernel
theorem d_Reader_readHead_173 : decode y_Reader_readHead.2.1 173 = .ok (.getfield 221, 3) := by decide +kernel
theorem d_Reader_readHead_176 : decode y_Reader_readHead.2.1 176 = .ok (.iload_n 1, 1) := by decide +kernel
theorem d_Reader_readHead_177 : decode y_Reader_readHead.2.1 177 = .ok (.aload_n 0, 1) := by decide +kernel
theorem d_Reader_readHead_178 : decode y_Reader_readHead.2.1 178 = .ok (.getfield 22, 3) := by decide +kernel
theorem d_Reader_readHead_181 : decode y_Reader_readHead.2.1 181 = .ok (.getfield 224, 3) := by decide +kernel
theorem d_Reader_readHead_184 : decode y_Reader_readHead.2.1 184 = .ok (.iastore, 1) := by decide +kernel
theorem d_Reader_readHead_185 : decode y_Reader_readHead.2.1 185 = .ok (.aload_n 0, 1) := by decide +kernel
theorem d_Reader_readHead_186 : decode y_Reader_readHead.2.1 186 = .ok (.getfield 22, 3) := by decide +kernel
theorem d_Reader_readHead_189 : decode y_Reader_readHead.2.1 189 = .ok (.invokevirtual 227, 3) := by decide +kernel
theorem d_Reader_readHead_192 : decode y_Reader_readHead.2.1 192 = .ok (.return_, 1) := by decide +kernel
theorem s_Reader_readHead : ab_Stat y_Reader_readHead 0 := ⟨(k5 94 rfl rfl), (k1 7 rfl rfl), ⟨by decide, by decide⟩, by decide +kernel⟩
theorem i_Reader_readHead : Cond.instanceMethod y_Reader_readHead.1 ∈ ab_T := (k5 93 rfl rfl)
theorem v_Reader_readHead : Cond.selects "WorldEngine$Reader" y_Reader_readHead.1 y_Reader_readHead.1 ∈ ab_T := ab_s (List.mem_of_getElem? (i := 19) rfl) rfl
def B_Reader_readHead_86 (N : Nat) (p0 : Nat) (l1 : Int32) (l2 : Int32) (H : Hp) : Option ((Ot Unit) × Hp) :=
    ck (H.sh[p0]? = some (5, 0)) <|
    bT (F_Reader_namesBehind N p0 (45 : Int32) (0 : Int32) (0 : Int32) l2 H) fun v43 H44 =>
    rf (H44.P p0 2) fun a46 =>
    ck (H44.sh[a46]? = some (4, 0)) <|
    rf (H44.P a46 9) fun a49 =>
    ar H44 100 a49 fun n51 =>
    ck (inb l1 n51) <|
    bnd (H44.sD a49 (l1).toNatClampNeg v43) fun H54 =>
    rf (H54.P p0 2) fun a55 =>
    ck (H54.sh[a55]? = some (4, 0)) <|
    rf (H54.P a55 10) fun a58 =>
    bT (F_Reader_namesBehind N p0 (46 : Int32) (0 : Int32) v43 l2 H54) fun v61 H62 =>
    ar H62 100 a58 fun n64 =>
    ck (inb l1 n64) <|
    bnd (H62.sD a58 (l1).toNatClampNeg v61) fun H67 =>
    bT (F_Reader_namesBehind N p0 (47 : Int32) (0 : Int32) (0 : Int32) v43 H67) fun v69 H70 =>
    rf (H70.P p0 2) fun a72 =>
    ck (H70.sh[a72]? = some (4, 0)) <|
    rf (H70.P a72 11) fun a75 =>
    ar H70 100 a75 fun n77 =>
    ck (inb l1 n77) <|
    bnd (H70.sD a75 (l1).toNatClampNeg v69) fun H80 =>
    rf (H80.P p0 2) fun a81 =>
    ck (H80.sh[a81]? = some (4, 0)) <|
    rf (H80.P a81 12) fun a84 =>
    bT (F_Reader_namesBehind N p0 (48 : Int32) (0 : Int32) (0 : Int32) (l2 &&& (v69 ^^^ ((-1) : Int32))) H80) fun v87 H88 =>
    ar H88 100 a84 fun n90 =>
    ck (inb l1 n90) <|
    bnd (H88.sD a84 (l1).toNatClampNeg v87) fun H93 =>
    rf (H93.P p0 2) fun a94 =>
    ck (H93.sh[a94]? = some (4, 0)) <|
    rf (H93.P a94 13) fun a97 =>
    rf (H93.P p0 2) fun a99 =>
    ck (H93.sh[a99]? = some (4, 0)) <|
    bnd ((H93.D a99 17)) fun x102 =>
    ar H93 100 a97 fun n103 =>
    ck (inb l1 n103) <|
    bnd (H93.sD a97 (l1).toNatClampNeg x102) fun H106 =>
    rf (H106.P p0 2) fun a107 =>
    ck (H106.sh[a107]? = some (4, 0)) <|
    bC (F_Program_settleGroup N a107 H106) fun v111 H112 =>
    some (.inl (), H112)
set_option maxRecDepth 20000 in
set_option maxHeartbeats 2000000 in
theorem mB_Reader_readHead_86 {N : Nat} {p0 : Nat} {l1 : Int32} {l2 : Int32} {H : Hp} {r : (Ot Unit) × Hp} (hF : B_Reader_readHead_86 N p0 l1 l2 H = some r) : Mo H r.2 := by
  unfold B_Reader_readHead_86 at hF
  have hm := Mo.rf H
  obtain ⟨q113, hG⟩ := ck_s hF; clear hF
  refine bT_c hG (fun x117 H116 z114 er => ?_) (fun v115 H116 z114 hF => ?_)
  · subst er; exact hm.tr (m_Reader_namesBehind z114)
  clear hG
  replace hm : Mo H H116 := hm.tr (m_Reader_namesBehind z114)
  obtain ⟨a118, e119, hG⟩ := rf_s hF; clear hF
  obtain ⟨q120, hF⟩ := ck_s hG; clear hG
  obtain ⟨a121, e122, hG⟩ := rf_s hF; clear hF
  obtain ⟨n123, q124, hF⟩ := ar_s hG; clear hG
  obtain ⟨q125, hG⟩ := ck_s hF; clear hF
  obtain ⟨H126, eH126, hF⟩ := bnd_g hG; clear hG
  replace hm : Mo H H126 := by rw [eH126]; exact hm
  obtain ⟨a127, e128, hG⟩ := rf_s hF; clear hF
  obtain ⟨q129, hF⟩ := ck_s hG; clear hG
  obtain ⟨a130, e131, hG⟩ := rf_s hF; clear hF
  refine bT_c hG (fun x135 H134 z132 er => ?_) (fun v133 H134 z132 hF => ?_)
  · subst er; exact hm.tr (m_Reader_namesBehind z132)
  clear hG
  replace hm : Mo H H134 := hm.tr (m_Reader_namesBehind z132)
  obtain ⟨n136, q137, hG⟩ := ar_s hF; clear hF
  obtain ⟨q138, hF⟩ := ck_s hG; clear hG
  obtain ⟨H139, eH139, hG⟩ := bnd_g hF; clear hF
  replace hm : Mo H H139 := by rw [eH139]; exact hm
  refine bT_c hG (fun x143 H142 z140 er => ?_) (fun v141 H142 z140 hF => ?_)
  · subst er; exact hm.tr (m_Reader_namesBehind z140)
  clear hG
  replace hm : Mo H H142 := hm.tr (m_Reader_namesBehind z140)
  obtain ⟨a144, e145, hG⟩ := rf_s hF; clear hF
  obtain ⟨q146, hF⟩ := ck_s hG; clear hG
  obtain ⟨a147, e148, hG⟩ := rf_s hF; clear hF
  obtain ⟨n149, q150, hF⟩ := ar_s hG; clear hG
  obtain ⟨q151, hG⟩ := ck_s hF; clear hF
  obtain ⟨H152, eH152, hF⟩ := bnd_g hG; clear hG
  replace hm : Mo H H152 := by rw [eH152]; exact hm
  obtain ⟨a153, e154, hG⟩ := rf_s hF; clear hF
  obtain ⟨q155, hF⟩ := ck_s hG; clear hG
  obtain ⟨a156, e157, hG⟩ := rf_s hF; clear hF
  refine bT_c hG (fun x161 H160 z158 er => ?_) (fun v159 H160 z158 hF => ?_)
  · subst er; exact hm.tr (m_Reader_namesBehind z158)
  clear hG
  replace hm : Mo H H160 := hm.tr (m_Reader_namesBehind z158)
  obtain ⟨n162, q163, hG⟩ := ar_s hF; clear hF
  obtain ⟨q164, hF⟩ := ck_s hG; clear hG
  obtain ⟨H165, eH165, hG⟩ := bnd_g hF; clear hF
  replace hm : Mo H H165 := by rw [eH165]; exact hm
  obtain ⟨a166, e167, hF⟩ := rf_s hG; clear hG
  obtain ⟨q168, hG⟩ := ck_s hF; clear hF
  obtain ⟨a169, e170, hF⟩ := rf_s hG; clear hG
  obtain ⟨a171, e172, hG⟩ := rf_s hF; clear hF
  obtain ⟨q173, hF⟩ := ck_s hG; clear hG
  obtain ⟨x174, -, hG⟩ := bnd_g hF; clear hF
  obtain ⟨n175, q176, hF⟩ := ar_s hG; clear hG
  obtain ⟨q177, hG⟩ := ck_s hF; clear hF
  obtain ⟨H178, eH178, hF⟩ := bnd_g hG; clear hG
  replace hm : Mo H H178 := by rw [eH178]; exact hm
  obtain ⟨a179, e180, hG⟩ := rf_s hF; clear hF
  obtain ⟨q181, hF⟩ := ck_s hG; clear hG
  obtain ⟨v183, H184, z182, hG⟩ := bC_s hF; clear hF
  replace hm : Mo H H184 := hm.tr ((m_Program_settleGroup z182)).mo
  have hr := Option.some.inj hG; subst hr
  exact hm
set_option maxRecDepth 20000 in
set_option maxHeartbeats 2000000 in
theorem kB_Reader_readHead_86 {N : Nat} {p0 : Nat} {c0 s0 C Sl : Nat} {l1 : Int32} {l2 : Int32} {H : Hp} {r : (Ot Unit) × Hp} (hF : B_Reader_readHead_86 N p0 l1 l2 H = some r) (hc0 : c0 ≤ H.sh.length) (hs0 : s0 ≤ H.sl) (hcc : H.sh.length ≤ c0 + C) (hss : H.sl ≤ s0 + Sl) (hC : r.2.sh.length ≤ c0 + C) (hS : r.2.sl ≤ s0 + Sl) : ab_V y_Reader_readHead { frames := 9, cells := C, slots := Sl, locals := 174 } (po (oV r.1) r.2) C Sl (H.sh.length - c0) (H.sl - s0) 86 [some (.ref p0), some (.int l1), some (.int l2), none, none] [] (hpw H) := by
  unfold B_Reader_readHead_86 at hF
  refine ab_aload_n d_Reader_readHead_86 rfl rfl rfl ?_
  refine ab_bipush (v := 45) d_Reader_readHead_87 (by decide) ?_
  refine ab_iconst (v := 0) d_Reader_readHead_89 (by decide) ?_
  refine ab_iconst (v := 0) d_Reader_readHead_90 (by decide) ?_
  refine ab_iload_n d_Reader_readHead_91 rfl rfl ?_
  obtain ⟨q41, hG⟩ := ck_s hF; clear hF
  refine bT_c hG (fun x45 H44 z42 er => ?_) (fun v43 H44 z42 hF => ?_)
  · subst er
    have mz : Mo H H44 := (m_Reader_namesBehind z42)
    have ml := mz.len
    have m2 := mz.2
    have hC9 : H44.sh.length ≤ c0 + C := hC
    have hS9 : H44.sl ≤ s0 + Sl := hS
    refine hp_callV_t (x := x45) (H1 := H44) (As := [.int 45, .int 0, .int 0, .int l2]) (rest := []) d_Reader_readHead_92 (k_Reader_namesBehind z42 (C := H44.sh.length - H.sh.length) (Sl := H44.sl - H.sl) (by show H44.sh.length ≤ _; omega) (by show H44.sl ≤ _; omega)) (ab_mkC s_Reader_namesBehind (Nat.le_of_ble_eq_true rfl) (Nat.le_of_ble_eq_true rfl) (show (H.sh.length - c0) + (H44.sh.length - H.sh.length) ≤ C from by omega) (show (H.sl - s0) + (H44.sl - H.sl) ≤ Sl from by omega)) (k5 96 rfl rfl) i_Reader_namesBehind v_Reader_namesBehind q41 (by decide) rfl rfl (Nat.le_of_ble_eq_true rfl) ?_
    exact ab_U_out rfl (by show _ + (H44.sh.length - H.sh.length) ≤ C; omega) (by show _ + (H44.sl - H.sl) ≤ Sl; omega) ⟨rfl, rfl⟩
  clear hG
  have mz_18 : Mo H H44 := (m_Reader_namesBehind z42)
  have b_19l := (mz_18).len
  have b_19s := (mz_18).2
  have b_19c : c0 ≤ H44.sh.length := by omega
  have b_19d : s0 ≤ H44.sl := by omega
  have q_20 := (mz_18).get q41
  obtain ⟨a46, e47, hG⟩ := rf_s hF; clear hF
  obtain ⟨q48, hF⟩ := ck_s hG; clear hG
  obtain ⟨a49, e50, hG⟩ := rf_s hF; clear hF
  obtain ⟨n51, q52, hF⟩ := ar_s hG; clear hG
  obtain ⟨q53, hG⟩ := ck_s hF; clear hF
  obtain ⟨H54, eH54, hF⟩ := bnd_g hG; clear hG
  have jH54 : Mo H44 H54 := by rw [eH54]; exact Mo.rf _
  obtain ⟨a55, e56, hG⟩ := rf_s hF; clear hF
  obtain ⟨q57, hF⟩ := ck_s hG; clear hG
  obtain ⟨a58, e59, hG⟩ := rf_s hF; clear hF
  have fH54 : Mo H54 r.2 := by
    have hm := Mo.rf H54
    refine bT_c hG (fun x63 H62 z60 er => ?_) (fun v61 H62 z60 hF => ?_)
    · subst er; exact hm.tr (m_Reader_namesBehind z60)
    clear hG
    replace hm : Mo H54 H62 := hm.tr (m_Reader_namesBehind z60)
    obtain ⟨n64, q65, hG⟩ := ar_s hF; clear hF
    obtain ⟨q66, hF⟩ := ck_s hG; clear hG
    obtain ⟨H67, eH67, hG⟩ := bnd_g hF; clear hF
    replace hm : Mo H54 H67 := by rw [eH67]; exact hm
    refine bT_c hG (fun x71 H70 z68 er => ?_) (fun v69 H70 z68 hF => ?_)
    · subst er; exact hm.tr (m_Reader_namesBehind z68)
    clear hG
    replace hm : Mo H54 H70 := hm.tr (m_Reader_namesBehind z68)
    obtain ⟨a72, e73, hG⟩ := rf_s hF; clear hF
    obtain ⟨q74, hF⟩ := ck_s hG; clear hG
    obtain ⟨a75, e76, hG⟩ := rf_s hF; clear hF
    obtain ⟨n77, q78, hF⟩ := ar_s hG; clear hG
    obtain ⟨q79, hG⟩ := ck_s hF; clear hF
    obtain ⟨H80, eH80, hF⟩ := bnd_g hG; clear hG
    replace hm : Mo H54 H80 := by rw [eH80]; exact hm
    obtain ⟨a81, e82, hG⟩ := rf_s hF; clear hF
    obtain ⟨q83, hF⟩ := ck_s hG; clear hG
    obtain ⟨a84, e85, hG⟩ := rf_s hF; clear hF
    refine bT_c hG (fun x89 H88 z86 er => ?_) (fun v87 H88 z86 hF => ?_)
    · subst er; exact hm.tr (m_Reader_namesBehind z86)
    clear hG
    replace hm : Mo H54 H88 := hm.tr (m_Reader_namesBehind z86)
    obtain ⟨n90, q91, hG⟩ := ar_s hF; clear hF
    obtain ⟨q92, hF⟩ := ck_s hG; clear hG
    obtain ⟨H93, eH93, hG⟩ := bnd_g hF; clear hF
    replace hm : Mo H54 H93 := by rw [eH93]; exact hm
    obtain ⟨a94, e95, hF⟩ := rf_s hG; clear hG
    obtain ⟨q96, hG⟩ := ck_s hF; clear hF
    obtain ⟨a97, e98, hF⟩ := rf_s hG; clear hG
    obtain ⟨a99, e100, hG⟩ := rf_s hF; clear hF
    obtain ⟨q101, hF⟩ := ck_s hG; clear hG
    obtain ⟨x102, -, hG⟩ := bnd_g hF; clear hF
    obtain ⟨n103, q104, hF⟩ := ar_s hG; clear hG
    obtain ⟨q105, hG⟩ := ck_s hF; clear hF
    obtain ⟨H106, eH106, hF⟩ := bnd_g hG; clear hG
    replace hm : Mo H54 H106 := by rw [eH106]; exact hm
    obtain ⟨a107, e108, hG⟩ := rf_s hF; clear hF
    obtain ⟨q109, hF⟩ := ck_s hG; clear hG
    obtain ⟨v111, H112, z110, hG⟩ := bC_s hF; clear hF
    replace hm : Mo H54 H112 := hm.tr ((m_Program_settleGroup z110)).mo
    have hr := Option.some.inj hG; subst hr
    exact hm
  have fH44 : Mo H44 r.2 := jH54.tr fH54
  have b_19m := (fH44).len
  have b_19n := (fH44).2
  have b_19p : H44.sh.length ≤ c0 + C := by omega
  have b_19q : H44.sl ≤ s0 + Sl := by omega
  refine hp_callV_a (v := .int v43) (H1 := H44) (As := [.int 45, .int 0, .int 0, .int l2]) (rest := []) d_Reader_readHead_92 (k_Reader_namesBehind z42 (C := H44.sh.length - H.sh.length) (Sl := H44.sl - H.sl) (by show H44.sh.length ≤ _; omega) (by show H44.sl ≤ _; omega)) (ab_mkC s_Reader_namesBehind (Nat.le_of_ble_eq_true rfl) (Nat.le_of_ble_eq_true rfl) (show (H.sh.length - c0) + (H44.sh.length - H.sh.length) ≤ C from by omega) (show (H.sl - s0) + (H44.sl - H.sl) ≤ Sl from by omega)) (k5 96 rfl rfl) i_Reader_namesBehind v_Reader_namesBehind q41 (by decide) rfl rfl (Nat.le_of_ble_eq_true rfl) ?_
  refine ab_widen (cells' := H44.sh.length - c0) (slots' := H44.sl - s0) (by show _ + (H44.sh.length - H.sh.length) ≤ _; omega) (by show _ + (H44.sl - H.sl) ≤ _; omega) ?_
  clear b_19l b_19s b_19m b_19n
  refine ab_istore_n (lv' := [some (.ref p0), some (.int l1), some (.int l2), some (.int v43), none]) d_Reader_readHead_95 rfl (by decide) rfl ?_
  refine ab_aload_n d_Reader_readHead_96 rfl rfl rfl ?_
  refine hp_getR (f := 2) d_Reader_readHead_97 q_20 (by decide) rfl (by decide) (k1 181 rfl rfl) rfl e47 ?_
  refine hp_getR (f := 9) d_Reader_readHead_100 q48 (by decide) rfl (by decide) (k3 89 rfl rfl) rfl e50 ?_
  refine ab_iload_n d_Reader_readHead_103 rfl rfl ?_
  refine ab_iload_n d_Reader_readHead_104 rfl rfl ?_
  refine hp_iast d_Reader_readHead_105 tI q52 q53 ?_
  refine hp_genx eH54 ?_
  have s_46 : Sa H44 H54 := by rw [eH54]; exact Sa.rf _
  refine ab_aload_n d_Reader_readHead_106 rfl rfl rfl ?_
  refine hp_getR (f := 2) d_Reader_readHead_107 (by rw [(s_46).1]; exact q_20) (by decide) rfl (by decide) (k1 181 rfl rfl) rfl e56 ?_
  rw [(s_46).1] at q57
  refine hp_getR (f := 10) d_Reader_readHead_110 (by rw [(s_46).1]; exact q57) (by decide) rfl (by decide) (k3 93 rfl rfl) rfl e59 ?_
  refine ab_iload_n d_Reader_readHead_113 rfl rfl ?_
  refine ab_aload_n d_Reader_readHead_114 rfl rfl rfl ?_
  refine ab_bipush (v := 46) d_Reader_readHead_115 (by decide) ?_
  refine ab_iconst (v := 0) d_Reader_readHead_117 (by decide) ?_
  refine ab_iload_n d_Reader_readHead_118 rfl rfl ?_
  refine ab_iload_n d_Reader_readHead_119 rfl rfl ?_
  refine bT_c hG (fun x63 H62 z60 er => ?_) (fun v61 H62 z60 hF => ?_)
  · subst er
    refine ab_widen (cells' := H54.sh.length - c0) (slots' := H54.sl - s0) (by rw [(s_46).1]; exact Nat.le_refl _) (by rw [(s_46).2]; exact Nat.le_refl _) ?_
    have mz : Mo H54 H62 := (m_Reader_namesBehind z60)
    have ml := mz.len
    have m2 := mz.2
    have be := congrArg List.length (s_46).1
    have bfx := (s_46).2
    have hC9 : H62.sh.length ≤ c0 + C := hC
    have hS9 : H62.sl ≤ s0 + Sl := hS
    refine hp_callV_t (x := x63) (H1 := H62) (As := [.int 46, .int 0, .int v43, .int l2]) (rest := [.int l1, .ref a58]) d_Reader_readHead_120 (k_Reader_namesBehind z60 (C := H62.sh.length - H54.sh.length) (Sl := H62.sl - H54.sl) (by show H62.sh.length ≤ _; omega) (by show H62.sl ≤ _; omega)) (ab_mkC s_Reader_namesBehind (Nat.le_of_ble_eq_true rfl) (Nat.le_of_ble_eq_true rfl) (show (H54.sh.length - c0) + (H62.sh.length - H54.sh.length) ≤ C from by omega) (show (H54.sl - s0) + (H62.sl - H54.sl) ≤ Sl from by omega)) (k5 96 rfl rfl) i_Reader_namesBehind v_Reader_namesBehind (by rw [(s_46).1]; exact q_20) (by decide) rfl rfl (Nat.le_of_ble_eq_true rfl) ?_
    exact ab_U_out rfl (by show _ + (H62.sh.length - H54.sh.length) ≤ C; omega) (by show _ + (H62.sl - H54.sl) ≤ Sl; omega) ⟨rfl, rfl⟩
  clear hG
  refine ab_widen (cells' := H54.sh.length - c0) (slots' := H54.sl - s0) (by rw [(s_46).1]; exact Nat.le_refl _) (by rw [(s_46).2]; exact Nat.le_refl _) ?_
  have mz_47 : Mo H54 H62 := (m_Reader_namesBehind z60)
  have b_48l := (mz_47).len
  have b_48s := (mz_47).2
  have b_48e := congrArg List.length (s_46).1
  have b_48f := (s_46).2
  have b_48c : c0 ≤ H62.sh.length := by omega
  have b_48d : s0 ≤ H62.sl := by omega
  have q_49 := (mz_47).get (by rw [(s_46).1]; exact q_20)
  have q_50 := (mz_47).get (by rw [(s_46).1]; exact q48)
  have q_51 := (mz_47).get (by rw [(s_46).1]; exact q52)
  have q_52 := (mz_47).get (by rw [(s_46).1]; exact q57)
  obtain ⟨n64, q65, hG⟩ := ar_s hF; clear hF
  obtain ⟨q66, hF⟩ := ck_s hG; clear hG
  obtain ⟨H67, eH67, hG⟩ := bnd_g hF; clear hF
  have jH67 : Mo H62 H67 := by rw [eH67]; exact Mo.rf _
  have fH67 : Mo H67 r.2 := by
    have hm := Mo.rf H67
    refine bT_c hG (fun x71 H70 z68 er => ?_) (fun v69 H70 z68 hF => ?_)
    · subst er; exact hm.tr (m_Reader_namesBehind z68)
    clear hG
    replace hm : Mo H67 H70 := hm.tr (m_Reader_namesBehind z68)
    obtain ⟨a72, e73, hG⟩ := rf_s hF; clear hF
    obtain ⟨q74, hF⟩ := ck_s hG; clear hG
    obtain ⟨a75, e76, hG⟩ := rf_s hF; clear hF
    obtain ⟨n77, q78, hF⟩ := ar_s hG; clear hG
    obtain ⟨q79, hG⟩ := ck_s hF; clear hF
    obtain ⟨H80, eH80, hF⟩ := bnd_g hG; clear hG
    replace hm : Mo H67 H80 := by rw [eH80]; exact hm
    obtain ⟨a81, e82, hG⟩ := rf_s hF; clear hF
    obtain ⟨q83, hF⟩ := ck_s hG; clear hG
    obtain ⟨a84, e85, hG⟩ := rf_s hF; clear hF
    refine bT_c hG (fun x89 H88 z86 er => ?_) (fun v87 H88 z86 hF => ?_)
    · subst er; exact hm.tr (m_Reader_namesBehind z86)
    clear hG
    replace hm : Mo H67 H88 := hm.tr (m_Reader_namesBehind z86)
    obtain ⟨n90, q91, hG⟩ := ar_s hF; clear hF
    obtain ⟨q92, hF⟩ := ck_s hG; clear hG
    obtain ⟨H93, eH93, hG⟩ := bnd_g hF; clear hF
    replace hm : Mo H67 H93 := by rw [eH93]; exact hm
    obtain ⟨a94, e95, hF⟩ := rf_s hG; clear hG
    obtain ⟨q96, hG⟩ := ck_s hF; clear hF
    obtain ⟨a97, e98, hF⟩ := rf_s hG; clear hG
    obtain ⟨a99, e100, hG⟩ := rf_s hF; clear hF
    obtain ⟨q101, hF⟩ := ck_s hG; clear hG
    obtain ⟨x102, -, hG⟩ := bnd_g hF; clear hF
    obtain ⟨n103, q104, hF⟩ := ar_s hG; clear hG
    obtain ⟨q105, hG⟩ := ck_s hF; clear hF
    obtain ⟨H106, eH106, hF⟩ := bnd_g hG; clear hG
    replace hm : Mo H67 H106 := by rw [eH106]; exact hm
    obtain ⟨a107, e108, hG⟩ := rf_s hF; clear hF
    obtain ⟨q109, hF⟩ := ck_s hG; clear hG
    obtain ⟨v111, H112, z110, hG⟩ := bC_s hF; clear hF
    replace hm : Mo H67 H112 := hm.tr ((m_Program_settleGroup z110)).mo
    have hr := Option.some.inj hG; subst hr
    exact hm
  have fH62 : Mo H62 r.2 := jH67.tr fH67
  have b_48m := (fH62).len
  have b_48n := (fH62).2
  have b_48p : H62.sh.length ≤ c0 + C := by omega
  have b_48q : H62.sl ≤ s0 + Sl := by omega
  refine hp_callV_a (v := .int v61) (H1 := H62) (As := [.int 46, .int 0, .int v43, .int l2]) (rest := [.int l1, .ref a58]) d_Reader_readHead_120 (k_Reader_namesBehind z60 (C := H62.sh.length - H54.sh.length) (Sl := H62.sl - H54.sl) (by show H62.sh.length ≤ _; omega) (by show H62.sl ≤ _; omega)) (ab_mkC s_Reader_namesBehind (Nat.le_of_ble_eq_true rfl) (Nat.le_of_ble_eq_true rfl) (show (H54.sh.length - c0) + (H62.sh.length - H54.sh.length) ≤ C from by omega) (show (H54.sl - s0) + (H62.sl - H54.sl) ≤ Sl from by omega)) (k5 96 rfl rfl) i_Reader_namesBehind v_Reader_namesBehind (by rw [(s_46).1]; exact q_20) (by decide) rfl rfl (Nat.le_of_ble_eq_true rfl) ?_
  refine ab_widen (cells' := H62.sh.length - c0) (slots' := H62.sl - s0) (by show _ + (H62.sh.length - H54.sh.length) ≤ _; omega) (by show _ + (H62.sl - H54.sl) ≤ _; omega) ?_
  clear b_48l b_48s b_48m b_48n b_48e b_48f b_19c b_19d b_19p b_19q
  refine hp_iast d_Reader_readHead_123 tI q65 q66 ?_
  refine hp_genx eH67 ?_
  have s_72 : Sa H62 H67 := by rw [eH67]; exact Sa.rf _
  refine ab_aload_n d_Reader_readHead_124 rfl rfl rfl ?_
  refine ab_bipush (v := 47) d_Reader_readHead_125 (by decide) ?_
  refine ab_iconst (v := 0) d_Reader_readHead_127 (by decide) ?_
  refine ab_iconst (v := 0) d_Reader_readHead_128 (by decide) ?_
  refine ab_iload_n d_Reader_readHead_129 rfl rfl ?_
  refine bT_c hG (fun x71 H70 z68 er => ?_) (fun v69 H70 z68 hF => ?_)
  · subst er
    refine ab_widen (cells' := H67.sh.length - c0) (slots' := H67.sl - s0) (by rw [(s_72).1]; exact Nat.le_refl _) (by rw [(s_72).2]; exact Nat.le_refl _) ?_
    have mz : Mo H67 H70 := (m_Reader_namesBehind z68)
    have ml := mz.len
    have m2 := mz.2
    have be := congrArg List.length (s_72).1
    have bfx := (s_72).2
    have hC9 : H70.sh.length ≤ c0 + C := hC
    have hS9 : H70.sl ≤ s0 + Sl := hS
    refine hp_callV_t (x := x71) (H1 := H70) (As := [.int 47, .int 0, .int 0, .int v43]) (rest := []) d_Reader_readHead_130 (k_Reader_namesBehind z68 (C := H70.sh.length - H67.sh.length) (Sl := H70.sl - H67.sl) (by show H70.sh.length ≤ _; omega) (by show H70.sl ≤ _; omega)) (ab_mkC s_Reader_namesBehind (Nat.le_of_ble_eq_true rfl) (Nat.le_of_ble_eq_true rfl) (show (H67.sh.length - c0) + (H70.sh.length - H67.sh.length) ≤ C from by omega) (show (H67.sl - s0) + (H70.sl - H67.sl) ≤ Sl from by omega)) (k5 96 rfl rfl) i_Reader_namesBehind v_Reader_namesBehind (by rw [(s_72).1]; exact q_49) (by decide) rfl rfl (Nat.le_of_ble_eq_true rfl) ?_
    exact ab_U_out rfl (by show _ + (H70.sh.length - H67.sh.length) ≤ C; omega) (by show _ + (H70.sl - H67.sl) ≤ Sl; omega) ⟨rfl, rfl⟩
  clear hG
  refine ab_widen (cells' := H67.sh.length - c0) (slots' := H67.sl - s0) (by rw [(s_72).1]; exact Nat.le_refl _) (by rw [(s_72).2]; exact Nat.le_refl _) ?_
  have mz_73 : Mo H67 H70 := (m_Reader_namesBehind z68)
  have b_74l := (mz_73).len
  have b_74s := (mz_73).2
  have b_74e := congrArg List.length (s_72).1
  have b_74f := (s_72).2
  have b_74c : c0 ≤ H70.sh.length := by omega
  have b_74d : s0 ≤ H70.sl := by omega
  have q_75 := (mz_73).get (by rw [(s_72).1]; exact q_49)
  have q_76 := (mz_73).get (by rw [(s_72).1]; exact q_50)
  have q_77 := (mz_73).get (by rw [(s_72).1]; exact q_51)
  have q_78 := (mz_73).get (by rw [(s_72).1]; exact q_52)
  have q_79 := (mz_73).get (by rw [(s_72).1]; exact q65)
  obtain ⟨a72, e73, hG⟩ := rf_s hF; clear hF
  obtain ⟨q74, hF⟩ := ck_s hG; clear hG
  obtain ⟨a75, e76, hG⟩ := rf_s hF; clear hF
  obtain ⟨n77, q78, hF⟩ := ar_s hG; clear hG
  obtain ⟨q79, hG⟩ := ck_s hF; clear hF
  obtain ⟨H80, eH80, hF⟩ := bnd_g hG; clear hG
  have jH80 : Mo H70 H80 := by rw [eH80]; exact Mo.rf _
  obtain ⟨a81, e82, hG⟩ := rf_s hF; clear hF
  obtain ⟨q83, hF⟩ := ck_s hG; clear hG
  obtain ⟨a84, e85, hG⟩ := rf_s hF; clear hF
  have fH80 : Mo H80 r.2 := by
    have hm := Mo.rf H80
    refine bT_c hG (fun x89 H88 z86 er => ?_) (fun v87 H88 z86 hF => ?_)
    · subst er; exact hm.tr (m_Reader_namesBehind z86)
    clear hG
    replace hm : Mo H80 H88 := hm.tr (m_Reader_namesBehind z86)
    obtain ⟨n90, q91, hG⟩ := ar_s hF; clear hF
    obtain ⟨q92, hF⟩ := ck_s hG; clear hG
    obtain ⟨H93, eH93, hG⟩ := bnd_g hF; clear hF
    replace hm : Mo H80 H93 := by rw [eH93]; exact hm
    obtain ⟨a94, e95, hF⟩ := rf_s hG; clear hG
    obtain ⟨q96, hG⟩ := ck_s hF; clear hF
    obtain ⟨a97, e98, hF⟩ := rf_s hG; clear hG
    obtain ⟨a99, e100, hG⟩ := rf_s hF; clear hF
    obtain ⟨q101, hF⟩ := ck_s hG; clear hG
    obtain ⟨x102, -, hG⟩ := bnd_g hF; clear hF
    obtain ⟨n103, q104, hF⟩ := ar_s hG; clear hG
    obtain ⟨q105, hG⟩ := ck_s hF; clear hF
    obtain ⟨H106, eH106, hF⟩ := bnd_g hG; clear hG
    replace hm : Mo H80 H106 := by rw [eH106]; exact hm
    obtain ⟨a107, e108, hG⟩ := rf_s hF; clear hF
    obtain ⟨q109, hF⟩ := ck_s hG; clear hG
    obtain ⟨v111, H112, z110, hG⟩ := bC_s hF; clear hF
    replace hm : Mo H80 H112 := hm.tr ((m_Program_settleGroup z110)).mo
    have hr := Option.some.inj hG; subst hr
    exact hm
  have fH70 : Mo H70 r.2 := jH80.tr fH80
  have b_74m := (fH70).len
  have b_74n := (fH70).2
  have b_74p : H70.sh.length ≤ c0 + C := by omega
  have b_74q : H70.sl ≤ s0 + Sl := by omega
  refine hp_callV_a (v := .int v69) (H1 := H70) (As := [.int 47, .int 0, .int 0, .int v43]) (rest := []) d_Reader_readHead_130 (k_Reader_namesBehind z68 (C := H70.sh.length - H67.sh.length) (Sl := H70.sl - H67.sl) (by show H70.sh.length ≤ _; omega) (by show H70.sl ≤ _; omega)) (ab_mkC s_Reader_namesBehind (Nat.le_of_ble_eq_true rfl) (Nat.le_of_ble_eq_true rfl) (show (H67.sh.length - c0) + (H70.sh.length - H67.sh.length) ≤ C from by omega) (show (H67.sl - s0) + (H70.sl - H67.sl) ≤ Sl from by omega)) (k5 96 rfl rfl) i_Reader_namesBehind v_Reader_namesBehind (by rw [(s_72).1]; exact q_49) (by decide) rfl rfl (Nat.le_of_ble_eq_true rfl) ?_
  refine ab_widen (cells' := H70.sh.length - c0) (slots' := H70.sl - s0) (by show _ + (H70.sh.length - H67.sh.length) ≤ _; omega) (by show _ + (H70.sl - H67.sl) ≤ _; omega) ?_
  clear b_74l b_74s b_74m b_74n b_74e b_74f b_48c b_48d b_48p b_48q
  refine ab_istore (lv' := [some (.ref p0), some (.int l1), some (.int l2), some (.int v43), some (.int v69)]) d_Reader_readHead_133 (by decide) rfl ?_
  refine ab_aload_n d_Reader_readHead_135 rfl rfl rfl ?_
  refine hp_getR (f := 2) d_Reader_readHead_136 q_75 (by decide) rfl (by decide) (k1 181 rfl rfl) rfl e73 ?_
  refine hp_getR (f := 11) d_Reader_readHead_139 q74 (by decide) rfl (by decide) (k3 96 rfl rfl) rfl e76 ?_
  refine ab_iload_n d_Reader_readHead_142 rfl rfl ?_
  refine ab_iload d_Reader_readHead_143 rfl ?_
  refine hp_iast d_Reader_readHead_145 tI q78 q79 ?_
  refine hp_genx eH80 ?_
  have s_92 : Sa H70 H80 := by rw [eH80]; exact Sa.rf _
  refine ab_aload_n d_Reader_readHead_146 rfl rfl rfl ?_
  refine hp_getR (f := 2) d_Reader_readHead_147 (by rw [(s_92).1]; exact q_75) (by decide) rfl (by decide) (k1 181 rfl rfl) rfl e82 ?_
  rw [(s_92).1] at q83
  refine hp_getR (f := 12) d_Reader_readHead_150 (by rw [(s_92).1]; exact q83) (by decide) rfl (by decide) (k3 100 rfl rfl) rfl e85 ?_
  refine ab_iload_n d_Reader_readHead_153 rfl rfl ?_
  refine ab_aload_n d_Reader_readHead_154 rfl rfl rfl ?_
  refine ab_bipush (v := 48) d_Reader_readHead_155 (by decide) ?_
  refine ab_iconst (v := 0) d_Reader_readHead_157 (by decide) ?_
  refine ab_iconst (v := 0) d_Reader_readHead_158 (by decide) ?_
  refine ab_iload_n d_Reader_readHead_159 rfl rfl ?_
  refine ab_iload d_Reader_readHead_160 rfl ?_
  refine ab_iconst (v := (-1)) d_Reader_readHead_162 (by decide) ?_
  refine ab_ixor d_Reader_readHead_163 ?_
  refine ab_iand d_Reader_readHead_164 ?_
  refine bT_c hG (fun x89 H88 z86 er => ?_) (fun v87 H88 z86 hF => ?_)
  · subst er
    refine ab_widen (cells' := H80.sh.length - c0) (slots' := H80.sl - s0) (by rw [(s_92).1]; exact Nat.le_refl _) (by rw [(s_92).2]; exact Nat.le_refl _) ?_
    have mz : Mo H80 H88 := (m_Reader_namesBehind z86)
    have ml := mz.len
    have m2 := mz.2
    have be := congrArg List.length (s_92).1
    have bfx := (s_92).2
    have hC9 : H88.sh.length ≤ c0 + C := hC
    have hS9 : H88.sl ≤ s0 + Sl := hS
    refine hp_callV_t (x := x89) (H1 := H88) (As := [.int 48, .int 0, .int 0, .int (l2 &&& (v69 ^^^ ((-1) : Int32)))]) (rest := [.int l1, .ref a84]) d_Reader_readHead_165 (k_Reader_namesBehind z86 (C := H88.sh.length - H80.sh.length) (Sl := H88.sl - H80.sl) (by show H88.sh.length ≤ _; omega) (by show H88.sl ≤ _; omega)) (ab_mkC s_Reader_namesBehind (Nat.le_of_ble_eq_true rfl) (Nat.le_of_ble_eq_true rfl) (show (H80.sh.length - c0) + (H88.sh.length - H80.sh.length) ≤ C from by omega) (show (H80.sl - s0) + (H88.sl - H80.sl) ≤ Sl from by omega)) (k5 96 rfl rfl) i_Reader_namesBehind v_Reader_namesBehind (by rw [(s_92).1]; exact q_75) (by decide) rfl rfl (Nat.le_of_ble_eq_true rfl) ?_
    exact ab_U_out rfl (by show _ + (H88.sh.length - H80.sh.length) ≤ C; omega) (by show _ + (H88.sl - H80.sl) ≤ Sl; omega) ⟨rfl, rfl⟩
  clear hG
  refine ab_widen (cells' := H80.sh.length - c0) (slots' := H80.sl - s0) (by rw [(s_92).1]; exact Nat.le_refl _) (by rw [(s_92).2]; exact Nat.le_refl _) ?_
  have mz_93 : Mo H80 H88 := (m_Reader_namesBehind z86)
  have b_94l := (mz_93).len
  have b_94s := (mz_93).2
  have b_94e := congrArg List.length (s_92).1
  have b_94f := (s_92).2
  have b_94c : c0 ≤ H88.sh.length := by omega
  have b_94d : s0 ≤ H88.sl := by omega
  have q_95 := (mz_93).get (by rw [(s_92).1]; exact q_75)
  have q_96 := (mz_93).get (by rw [(s_92).1]; exact q_76)
  have q_97 := (mz_93).get (by rw [(s_92).1]; exact q_77)
  have q_98 := (mz_93).get (by rw [(s_92).1]; exact q_78)
  have q_99 := (mz_93).get (by rw [(s_92).1]; exact q_79)
  have q_100 := (mz_93).get (by rw [(s_92).1]; exact q74)
  have q_101 := (mz_93).get (by rw [(s_92).1]; exact q78)
  have q_102 := (mz_93).get (by rw [(s_92).1]; exact q83)
  obtain ⟨n90, q91, hG⟩ := ar_s hF; clear hF
  obtain ⟨q92, hF⟩ := ck_s hG; clear hG
  obtain ⟨H93, eH93, hG⟩ := bnd_g hF; clear hF
  have jH93 : Mo H88 H93 := by rw [eH93]; exact Mo.rf _
  obtain ⟨a94, e95, hF⟩ := rf_s hG; clear hG
  obtain ⟨q96, hG⟩ := ck_s hF; clear hF
  obtain ⟨a97, e98, hF⟩ := rf_s hG; clear hG
  obtain ⟨a99, e100, hG⟩ := rf_s hF; clear hF
  obtain ⟨q101, hF⟩ := ck_s hG; clear hG
  obtain ⟨x102, ex102, hG⟩ := bnd_g hF; clear hF
  obtain ⟨n103, q104, hF⟩ := ar_s hG; clear hG
  obtain ⟨q105, hG⟩ := ck_s hF; clear hF
  obtain ⟨H106, eH106, hF⟩ := bnd_g hG; clear hG
  have jH106 : Mo H93 H106 := by rw [eH106]; exact Mo.rf _
  obtain ⟨a107, e108, hG⟩ := rf_s hF; clear hF
  obtain ⟨q109, hF⟩ := ck_s hG; clear hG
  obtain ⟨v111, H112, z110, hG⟩ := bC_s hF; clear hF
  have jH112 : Mo H106 H112 := ((m_Program_settleGroup z110)).mo
  have fH112 : Mo H112 r.2 := by
    have hm := Mo.rf H112
    have hr := Option.some.inj hG; subst hr
    exact hm
  have fH106 : Mo H106 r.2 := jH112.tr fH112
  have fH93 : Mo H93 r.2 := jH106.tr fH106
  have fH88 : Mo H88 r.2 := jH93.tr fH93
  have b_94m := (fH88).len
  have b_94n := (fH88).2
  have b_94p : H88.sh.length ≤ c0 + C := by omega
  have b_94q : H88.sl ≤ s0 + Sl := by omega
  refine hp_callV_a (v := .int v87) (H1 := H88) (As := [.int 48, .int 0, .int 0, .int (l2 &&& (v69 ^^^ ((-1) : Int32)))]) (rest := [.int l1, .ref a84]) d_Reader_readHead_165 (k_Reader_namesBehind z86 (C := H88.sh.length - H80.sh.length) (Sl := H88.sl - H80.sl) (by show H88.sh.length ≤ _; omega) (by show H88.sl ≤ _; omega)) (ab_mkC s_Reader_namesBehind (Nat.le_of_ble_eq_true rfl) (Nat.le_of_ble_eq_true rfl) (show (H80.sh.length - c0) + (H88.sh.length - H80.sh.length) ≤ C from by omega) (show (H80.sl - s0) + (H88.sl - H80.sl) ≤ Sl from by omega)) (k5 96 rfl rfl) i_Reader_namesBehind v_Reader_namesBehind (by rw [(s_92).1]; exact q_75) (by decide) rfl rfl (Nat.le_of_ble_eq_true rfl) ?_
  refine ab_widen (cells' := H88.sh.length - c0) (slots' := H88.sl - s0) (by show _ + (H88.sh.length - H80.sh.length) ≤ _; omega) (by show _ + (H88.sl - H80.sl) ≤ _; omega) ?_
  clear b_94l b_94s b_94m b_94n b_94e b_94f b_74c b_74d b_74p b_74q
  refine hp_iast d_Reader_readHead_168 tI q91 q92 ?_
  refine hp_genx eH93 ?_
  have s_106 : Sa H88 H93 := by rw [eH93]; exact Sa.rf _
  refine ab_aload_n d_Reader_readHead_169 rfl rfl rfl ?_
  refine hp_getR (f := 2) d_Reader_readHead_170 (by rw [(s_106).1]; exact q_95) (by decide) rfl (by decide) (k1 181 rfl rfl) rfl e95 ?_
  rw [(s_106).1] at q96
  refine hp_getR (f := 13) d_Reader_readHead_173 (by rw [(s_106).1]; exact q96) (by decide) rfl (by decide) (k3 103 rfl rfl) rfl e98 ?_
  refine ab_iload_n d_Reader_readHead_176 rfl rfl ?_
  refine ab_aload_n d_Reader_readHead_177 rfl rfl rfl ?_
  refine hp_getR (f := 2) d_Reader_readHead_178 (by rw [(s_106).1]; exact q_95) (by decide) rfl (by decide) (k1 181 rfl rfl) rfl e100 ?_
  rw [(s_106).1] at q101
  refine hp_getI (f := 17) d_Reader_readHead_181 (by rw [(s_106).1]; exact q101) (by decide) rfl (by decide) (k3 115 rfl rfl) rfl ?_
  refine ab_topxi ex102 ?_
  rw [(s_106).1] at q104
  refine hp_iast d_Reader_readHead_184 tI (by rw [(s_106).1]; exact q104) q105 ?_
  refine hp_genx eH106 ?_
  have s_107 : Sa H88 H106 := by rw [eH106]; exact s_106
  refine ab_aload_n d_Reader_readHead_185 rfl rfl rfl ?_
  refine hp_getR (f := 2) d_Reader_readHead_186 (by rw [(s_107).1]; exact q_95) (by decide) rfl (by decide) (k1 181 rfl rfl) rfl e108 ?_
  rw [(s_107).1] at q109
  refine ab_widen (cells' := H106.sh.length - c0) (slots' := H106.sl - s0) (by rw [(s_107).1]; exact Nat.le_refl _) (by rw [(s_107).2]; exact Nat.le_refl _) ?_
  have b_108e := congrArg List.length (s_107).1
  have b_108f := (s_107).2
  refine hp_callV_v (H1 := H112) (As := []) (rest := []) d_Reader_readHead_189 (k_Program_settleGroup z110) (ab_mkC s_Program_settleGroup (Nat.le_of_ble_eq_true rfl) (Nat.le_of_ble_eq_true rfl) (show (H106.sh.length - c0) + 0 ≤ C from by omega) (show (H106.sl - s0) + 0 ≤ Sl from by omega)) (k5 100 rfl rfl) i_Program_settleGroup v_Program_settleGroup (by rw [(s_107).1]; exact q109) (by decide) rfl rfl (Nat.le_of_ble_eq_true rfl) ?_
  have s_109 : Sa H88 H112 := (s_107).tr (m_Program_settleGroup z110)
  refine ab_widen (cells' := H88.sh.length - c0) (slots' := H88.sl - s0) (by show (H106.sh.length - c0) + 0 ≤ _; omega) (by show (H106.sl - s0) + 0 ≤ _; omega) ?_
  clear b_108e b_108f
  exact ab_vret d_Reader_readHead_192 rfl (by show _ ≤ C; omega) (by show _ ≤ Sl; omega) (by have hr := Option.some.inj hG; subst hr; exact ⟨rfl, rfl⟩)
def F_Reader_readHead (N : Nat) (p0 : Nat) (H : Hp) : Option ((Ot Unit) × Hp) :=
    ck (H.sh[p0]? = some (5, 0)) <|
    rf (H.P p0 2) fun a2 =>
    ck (H.sh[a2]? = some (4, 0)) <|
    bnd ((H.D a2 7)) fun x5 =>
    bT (F_Reader_beginOne N p0 x5 (16 : Int32) H) fun v7 H8 =>
    rf (H8.P p0 2) fun a10 =>
    ck (H8.sh[a10]? = some (4, 0)) <|
    bnd ((H8.D a10 7)) fun x13 =>
    bT (F_Reader_declare N p0 (3 : Int32) x13 H8) fun v15 H16 =>
    on v15 fun a18 =>
    rf (H16.P p0 2) fun a19 =>
    ck (H16.sh[a19]? = some (4, 0)) <|
    bnd (H16.sD a19 7 (x13 + (1 : Int32))) fun H22 =>
    rf (H22.P p0 2) fun a23 =>
    ck (H22.sh[a23]? = some (4, 0)) <|
    rf (H22.P a23 8) fun a26 =>
    bT (F_Reader_namesBehind N p0 (44 : Int32) (3 : Int32) (0 : Int32) (65535 : Int32) H22) fun v29 H30 =>
    ar H30 100 a26 fun n32 =>
    ck (inb x13 n32) <|
    bnd (H30.sD a26 (x13).toNatClampNeg v29) fun H35 =>
    rf (H35.P p0 0) fun a36 =>
    ck (H35.sh[a36]? = some (1, 0)) <|
    bnd ((H35.D a36 2)) fun x39 =>
    if x39 = (45 : Int32) then
    B_Reader_readHead_86 N p0 x13 65535 H35
    else
    rf (H35.P p0 0) fun a41 =>
    rf (H35.P p0 0) fun a43 =>
    ck (H35.sh[a43]? = some (1, 0)) <|
    bnd ((H35.D a43 3)) fun x46 =>
    ck (H35.sh[a41]? = some (1, 0)) <|
    bT (F_Lexer_refuse N a41 (1 : Int32) x46 H35) fun v49 H50 =>
    B_Reader_readHead_86 N p0 x13 65535 H50
set_option maxRecDepth 20000 in
set_option maxHeartbeats 2000000 in
theorem m_Reader_readHead {N : Nat} {p0 : Nat} {H : Hp} {r : (Ot Unit) × Hp} (hF : F_Reader_readHead N p0 H = some r) : Mo H r.2 := by
  unfold F_Reader_readHead at hF
  have hm := Mo.rf H
  obtain ⟨q52, hG⟩ := ck_s hF; clear hF
  obtain ⟨a53, e54, hF⟩ := rf_s hG; clear hG
  obtain ⟨q55, hG⟩ := ck_s hF; clear hF
  obtain ⟨x56, -, hF⟩ := bnd_g hG; clear hG
  refine bT_c hF (fun x60 H59 z57 er => ?_) (fun v58 H59 z57 hG => ?_)
  · subst er; exact hm.tr (m_Reader_beginOne z57)
  clear hF
  replace hm : Mo H H59 := hm.tr (m_Reader_beginOne z57)
  obtain ⟨a61, e62, hF⟩ := rf_s hG; clear hG
  obtain ⟨q63, hG⟩ := ck_s hF; clear hF
  obtain ⟨x64, -, hF⟩ := bnd_g hG; clear hG
  refine bT_c hF (fun x68 H67 z65 er => ?_) (fun v66 H67 z65 hG => ?_)
  · subst er; exact hm.tr (m_Reader_declare z65)
  clear hF
  replace hm : Mo H H67 := hm.tr (m_Reader_declare z65)
  obtain ⟨a69, ea69, hF⟩ := on_s hG; clear hG
  subst ea69
  obtain ⟨a70, e71, hG⟩ := rf_s hF; clear hF
  obtain ⟨q72, hF⟩ := ck_s hG; clear hG
  obtain ⟨H73, eH73, hG⟩ := bnd_g hF; clear hF
  replace hm : Mo H H73 := by rw [eH73]; exact hm
  obtain ⟨a74, e75, hF⟩ := rf_s hG; clear hG
  obtain ⟨q76, hG⟩ := ck_s hF; clear hF
  obtain ⟨a77, e78, hF⟩ := rf_s hG; clear hG
  refine bT_c hF (fun x82 H81 z79 er => ?_) (fun v80 H81 z79 hG => ?_)
  · subst er; exact hm.tr (m_Reader_namesBehind z79)
  clear hF
  replace hm : Mo H H81 := hm.tr (m_Reader_namesBehind z79)
  obtain ⟨n83, q84, hF⟩ := ar_s hG; clear hG
  obtain ⟨q85, hG⟩ := ck_s hF; clear hF
  obtain ⟨H86, eH86, hF⟩ := bnd_g hG; clear hG
  replace hm : Mo H H86 := by rw [eH86]; exact hm
  obtain ⟨a87, e88, hG⟩ := rf_s hF; clear hF
  obtain ⟨q89, hF⟩ := ck_s hG; clear hG
  obtain ⟨x90, -, hG⟩ := bnd_g hF; clear hF
  rcases ite_s hG with ⟨q_219, hF⟩ | ⟨q_219, hF⟩
  · clear hG
    exact hm.tr (mB_Reader_readHead_86 hF)
  · clear hG
    obtain ⟨a92, e93, hG⟩ := rf_s hF; clear hF
    obtain ⟨a94, e95, hF⟩ := rf_s hG; clear hG
    obtain ⟨q96, hG⟩ := ck_s hF; clear hF
    obtain ⟨x97, -, hF⟩ := bnd_g hG; clear hG
    obtain ⟨q98, hG⟩ := ck_s hF; clear hF
    refine bT_c hG (fun x102 H101 z99 er => ?_) (fun v100 H101 z99 hF => ?_)
    · subst er; exact hm.tr (m_Lexer_refuse z99)
    clear hG
    replace hm : Mo H H101 := hm.tr (m_Lexer_refuse z99)
    exact hm.tr (mB_Reader_readHead_86 hF)
set_option maxRecDepth 20000 in
set_option maxHeartbeats 2000000 in
theorem k_Reader_readHead {N : Nat} {p0 : Nat} {H : Hp} {r : (Ot Unit) × Hp} {C Sl : Nat} (hF : F_Reader_readHead N p0 H = some r) (hC : r.2.sh.length ≤ H.sh.length + C) (hS : r.2.sl ≤ H.sl + Sl) : ab_M y_Reader_readHead { frames := 9, cells := C, slots := Sl, locals := 174 } [.ref p0] (hpw H) (po (oV r.1) r.2) := by
  unfold F_Reader_readHead at hF
  obtain ⟨c0, e0⟩ : ∃ q, q = H.sh.length := ⟨_, rfl⟩
  obtain ⟨s0, e1⟩ : ∃ q, q = H.sl := ⟨_, rfl⟩
  rw [← e0] at hC
  rw [← e1] at hS
  have hc0 : c0 ≤ H.sh.length := Nat.le_of_eq e0
  have hs0 : s0 ≤ H.sl := Nat.le_of_eq e1
  have hcc : H.sh.length ≤ c0 + C := by omega
  have hss : H.sl ≤ s0 + Sl := by omega
  refine ab_of2 (lv := [some (.ref p0), none, none, none, none]) 4 rfl rfl (Nat.le_of_ble_eq_true rfl) ?_
  refine ab_widen (cells' := H.sh.length - c0) (slots' := H.sl - s0) (Nat.zero_le _) (Nat.zero_le _) ?_
  refine ab_aload_n d_Reader_readHead_0 rfl rfl rfl ?_
  refine ab_aload_n d_Reader_readHead_1 rfl rfl rfl ?_
  obtain ⟨q1, hG⟩ := ck_s hF; clear hF
  obtain ⟨a2, e3, hF⟩ := rf_s hG; clear hG
  refine hp_getR (f := 2) d_Reader_readHead_2 q1 (by decide) rfl (by decide) (k1 181 rfl rfl) rfl e3 ?_
  obtain ⟨q4, hG⟩ := ck_s hF; clear hF
  refine hp_getI (f := 7) d_Reader_readHead_5 q4 (by decide) rfl (by decide) (k3 83 rfl rfl) rfl ?_
  refine ab_topi (fun x5 ex5 => ?_)
  replace hG := bnd_s ex5 hG
  refine ab_bipush (v := 16) d_Reader_readHead_8 (by decide) ?_
  refine bT_c hG (fun x9 H8 z6 er => ?_) (fun v7 H8 z6 hF => ?_)
  · subst er
    have mz : Mo H H8 := (m_Reader_beginOne z6)
    have ml := mz.len
    have m2 := mz.2
    have hC9 : H8.sh.length ≤ c0 + C := hC
    have hS9 : H8.sl ≤ s0 + Sl := hS
    refine hp_callV_t (x := x9) (H1 := H8) (As := [.int x5, .int 16]) (rest := []) d_Reader_readHead_10 (k_Reader_beginOne z6 (C := H8.sh.length - H.sh.length) (Sl := H8.sl - H.sl) (by show H8.sh.length ≤ _; omega) (by show H8.sl ≤ _; omega)) (ab_mkC s_Reader_beginOne (Nat.le_of_ble_eq_true rfl) (Nat.le_of_ble_eq_true rfl) (show (H.sh.length - c0) + (H8.sh.length - H.sh.length) ≤ C from by omega) (show (H.sl - s0) + (H8.sl - H.sl) ≤ Sl from by omega)) (k4 93 rfl rfl) i_Reader_beginOne v_Reader_beginOne q1 (by decide) rfl rfl (Nat.le_of_ble_eq_true rfl) ?_
    exact ab_U_out rfl (by show _ + (H8.sh.length - H.sh.length) ≤ C; omega) (by show _ + (H8.sl - H.sl) ≤ Sl; omega) ⟨rfl, rfl⟩
  clear hG
  have mz_1 : Mo H H8 := (m_Reader_beginOne z6)
  have b_2l := (mz_1).len
  have b_2s := (mz_1).2
  have b_2c : c0 ≤ H8.sh.length := by omega
  have b_2d : s0 ≤ H8.sl := by omega
  have q_3 := (mz_1).get q1
  have q_4 := (mz_1).get q4
  obtain ⟨a10, e11, hG⟩ := rf_s hF; clear hF
  obtain ⟨q12, hF⟩ := ck_s hG; clear hG
  obtain ⟨x13, ex13, hG⟩ := bnd_g hF; clear hF
  have fH8 : Mo H8 r.2 := by
    have hm := Mo.rf H8
    refine bT_c hG (fun x17 H16 z14 er => ?_) (fun v15 H16 z14 hF => ?_)
    · subst er; exact hm.tr (m_Reader_declare z14)
    clear hG
    replace hm : Mo H8 H16 := hm.tr (m_Reader_declare z14)
    obtain ⟨a18, ea18, hG⟩ := on_s hF; clear hF
    subst ea18
    obtain ⟨a19, e20, hF⟩ := rf_s hG; clear hG
    obtain ⟨q21, hG⟩ := ck_s hF; clear hF
    obtain ⟨H22, eH22, hF⟩ := bnd_g hG; clear hG
    replace hm : Mo H8 H22 := by rw [eH22]; exact hm
    obtain ⟨a23, e24, hG⟩ := rf_s hF; clear hF
    obtain ⟨q25, hF⟩ := ck_s hG; clear hG
    obtain ⟨a26, e27, hG⟩ := rf_s hF; clear hF
    refine bT_c hG (fun x31 H30 z28 er => ?_) (fun v29 H30 z28 hF => ?_)
    · subst er; exact hm.tr (m_Reader_namesBehind z28)
    clear hG
    replace hm : Mo H8 H30 := hm.tr (m_Reader_namesBehind z28)
    obtain ⟨n32, q33, hG⟩ := ar_s hF; clear hF
    obtain ⟨q34, hF⟩ := ck_s hG; clear hG
    obtain ⟨H35, eH35, hG⟩ := bnd_g hF; clear hF
    replace hm : Mo H8 H35 := by rw [eH35]; exact hm
    obtain ⟨a36, e37, hF⟩ := rf_s hG; clear hG
    obtain ⟨q38, hG⟩ := ck_s hF; clear hF
    obtain ⟨x39, -, hF⟩ := bnd_g hG; clear hG
    rcases ite_s hF with ⟨q_17, hG⟩ | ⟨q_17, hG⟩
    · clear hF
      exact hm.tr (mB_Reader_readHead_86 hG)
    · clear hF
      obtain ⟨a185, e186, hF⟩ := rf_s hG; clear hG
      obtain ⟨a187, e188, hG⟩ := rf_s hF; clear hF
      obtain ⟨q189, hF⟩ := ck_s hG; clear hG
      obtain ⟨x190, -, hG⟩ := bnd_g hF; clear hF
      obtain ⟨q191, hF⟩ := ck_s hG; clear hG
      refine bT_c hF (fun x195 H194 z192 er => ?_) (fun v193 H194 z192 hG => ?_)
      · subst er; exact hm.tr (m_Lexer_refuse z192)
      clear hF
      replace hm : Mo H8 H194 := hm.tr (m_Lexer_refuse z192)
      exact hm.tr (mB_Reader_readHead_86 hG)
  have b_2m := (fH8).len
  have b_2n := (fH8).2
  have b_2p : H8.sh.length ≤ c0 + C := by omega
  have b_2q : H8.sl ≤ s0 + Sl := by omega
  refine hp_callV_v (H1 := H8) (As := [.int x5, .int 16]) (rest := []) d_Reader_readHead_10 (k_Reader_beginOne z6 (C := H8.sh.length - H.sh.length) (Sl := H8.sl - H.sl) (by show H8.sh.length ≤ _; omega) (by show H8.sl ≤ _; omega)) (ab_mkC s_Reader_beginOne (Nat.le_of_ble_eq_true rfl) (Nat.le_of_ble_eq_true rfl) (show (H.sh.length - c0) + (H8.sh.length - H.sh.length) ≤ C from by omega) (show (H.sl - s0) + (H8.sl - H.sl) ≤ Sl from by omega)) (k4 93 rfl rfl) i_Reader_beginOne v_Reader_beginOne q1 (by decide) rfl rfl (Nat.le_of_ble_eq_true rfl) ?_
  refine ab_widen (cells' := H8.sh.length - c0) (slots' := H8.sl - s0) (by show _ + (H8.sh.length - H.sh.length) ≤ _; omega) (by show _ + (H8.sl - H.sl) ≤ _; omega) ?_
  clear b_2l b_2s b_2m b_2n
  refine ab_aload_n d_Reader_readHead_13 rfl rfl rfl ?_
  refine hp_getR (f := 2) d_Reader_readHead_14 q_3 (by decide) rfl (by decide) (k1 181 rfl rfl) rfl e11 ?_
  refine hp_getI (f := 7) d_Reader_readHead_17 q12 (by decide) rfl (by decide) (k3 83 rfl rfl) rfl ?_
  refine ab_topxi ex13 ?_
  refine ab_istore_n (lv' := [some (.ref p0), some (.int x13), none, none, none]) d_Reader_readHead_20 rfl (by decide) rfl ?_
  refine ab_aload_n d_Reader_readHead_21 rfl rfl rfl ?_
  refine ab_iconst (v := 3) d_Reader_readHead_22 (by decide) ?_
  refine ab_iload_n d_Reader_readHead_23 rfl rfl ?_
  refine bT_c hG (fun x17 H16 z14 er => ?_) (fun v15 H16 z14 hF => ?_)
  · subst er
    have mz : Mo H8 H16 := (m_Reader_declare z14)
    have ml := mz.len
    have m2 := mz.2
    have hC9 : H16.sh.length ≤ c0 + C := hC
    have hS9 : H16.sl ≤ s0 + Sl := hS
    refine hp_callV_t (x := x17) (H1 := H16) (As := [.int 3, .int x13]) (rest := []) d_Reader_readHead_24 (k_Reader_declare z14 (C := H16.sh.length - H8.sh.length) (Sl := H16.sl - H8.sl) (by show H16.sh.length ≤ _; omega) (by show H16.sl ≤ _; omega)) (ab_mkC s_Reader_declare (Nat.le_of_ble_eq_true rfl) (Nat.le_of_ble_eq_true rfl) (show (H8.sh.length - c0) + (H16.sh.length - H8.sh.length) ≤ C from by omega) (show (H8.sl - s0) + (H16.sl - H8.sl) ≤ Sl from by omega)) (k4 171 rfl rfl) i_Reader_declare v_Reader_declare q_3 (by decide) rfl rfl (Nat.le_of_ble_eq_true rfl) ?_
    exact ab_U_out rfl (by show _ + (H16.sh.length - H8.sh.length) ≤ C; omega) (by show _ + (H16.sl - H8.sl) ≤ Sl; omega) ⟨rfl, rfl⟩
  clear hG
  have mz_147 : Mo H8 H16 := (m_Reader_declare z14)
  have b_148l := (mz_147).len
  have b_148s := (mz_147).2
  have b_148c : c0 ≤ H16.sh.length := by omega
  have b_148d : s0 ≤ H16.sl := by omega
  have q_149 := (mz_147).get q_3
  have q_150 := (mz_147).get q_4
  have q_151 := (mz_147).get q12
  have mf_152 : Mo H16 r.2 := by
    have hm := Mo.rf H16
    obtain ⟨a18, ea18, hG⟩ := on_s hF; clear hF
    subst ea18
    obtain ⟨a19, e20, hF⟩ := rf_s hG; clear hG
    obtain ⟨q21, hG⟩ := ck_s hF; clear hF
    obtain ⟨H22, eH22, hF⟩ := bnd_g hG; clear hG
    replace hm : Mo H16 H22 := by rw [eH22]; exact hm
    obtain ⟨a23, e24, hG⟩ := rf_s hF; clear hF
    obtain ⟨q25, hF⟩ := ck_s hG; clear hG
    obtain ⟨a26, e27, hG⟩ := rf_s hF; clear hF
    refine bT_c hG (fun x31 H30 z28 er => ?_) (fun v29 H30 z28 hF => ?_)
    · subst er; exact hm.tr (m_Reader_namesBehind z28)
    clear hG
    replace hm : Mo H16 H30 := hm.tr (m_Reader_namesBehind z28)
    obtain ⟨n32, q33, hG⟩ := ar_s hF; clear hF
    obtain ⟨q34, hF⟩ := ck_s hG; clear hG
    obtain ⟨H35, eH35, hG⟩ := bnd_g hF; clear hF
    replace hm : Mo H16 H35 := by rw [eH35]; exact hm
    obtain ⟨a36, e37, hF⟩ := rf_s hG; clear hG
    obtain ⟨q38, hG⟩ := ck_s hF; clear hF
    obtain ⟨x39, -, hF⟩ := bnd_g hG; clear hG
    rcases ite_s hF with ⟨q_161, hG⟩ | ⟨q_161, hG⟩
    · clear hF
      exact hm.tr (mB_Reader_readHead_86 hG)
    · clear hF
      obtain ⟨a41, e42, hF⟩ := rf_s hG; clear hG
      obtain ⟨a43, e44, hG⟩ := rf_s hF; clear hF
      obtain ⟨q45, hF⟩ := ck_s hG; clear hG
      obtain ⟨x46, -, hG⟩ := bnd_g hF; clear hF
      obtain ⟨q47, hF⟩ := ck_s hG; clear hG
      refine bT_c hF (fun x51 H50 z48 er => ?_) (fun v49 H50 z48 hG => ?_)
      · subst er; exact hm.tr (m_Lexer_refuse z48)
      clear hF
      replace hm : Mo H16 H50 := hm.tr (m_Lexer_refuse z48)
      exact hm.tr (mB_Reader_readHead_86 hG)
  have b_148m := (mf_152).len
  have b_148n := (mf_152).2
  have b_148p : H16.sh.length ≤ c0 + C := by omega
  have b_148q : H16.sl ≤ s0 + Sl := by omega
  refine hp_callV_a (v := ab_rf v15) (H1 := H16) (As := [.int 3, .int x13]) (rest := []) d_Reader_readHead_24 (k_Reader_declare z14 (C := H16.sh.length - H8.sh.length) (Sl := H16.sl - H8.sl) (by show H16.sh.length ≤ _; omega) (by show H16.sl ≤ _; omega)) (ab_mkC s_Reader_declare (Nat.le_of_ble_eq_true rfl) (Nat.le_of_ble_eq_true rfl) (show (H8.sh.length - c0) + (H16.sh.length - H8.sh.length) ≤ C from by omega) (show (H8.sl - s0) + (H16.sl - H8.sl) ≤ Sl from by omega)) (k4 171 rfl rfl) i_Reader_declare v_Reader_declare q_3 (by decide) rfl rfl (Nat.le_of_ble_eq_true rfl) ?_
  refine ab_widen (cells' := H16.sh.length - c0) (slots' := H16.sl - s0) (by show _ + (H16.sh.length - H8.sh.length) ≤ _; omega) (by show _ + (H16.sl - H8.sl) ≤ _; omega) ?_
  clear b_148l b_148s b_148m b_148n b_2c b_2d b_2p b_2q
  obtain ⟨a18, ea18, hG⟩ := on_s hF; clear hF
  subst ea18
  refine ab_pop d_Reader_readHead_27 rfl ?_
  refine ab_aload_n d_Reader_readHead_28 rfl rfl rfl ?_
  obtain ⟨a19, e20, hF⟩ := rf_s hG; clear hG
  refine hp_getR (f := 2) d_Reader_readHead_29 q_149 (by decide) rfl (by decide) (k1 181 rfl rfl) rfl e20 ?_
  refine ab_iload_n d_Reader_readHead_32 rfl rfl ?_
  refine ab_iconst (v := 1) d_Reader_readHead_33 (by decide) ?_
  refine ab_iadd d_Reader_readHead_34 ?_
  obtain ⟨q21, hG⟩ := ck_s hF; clear hF
  refine hp_putI (v := x13 + (1 : Int32)) (f := 7) d_Reader_readHead_35 q21 (by decide) rfl (by decide) (k3 83 rfl rfl) rfl rfl (fun _ => rfl) (fun _ => rfl) rfl ?_
  refine hp_gen (fun H22 eH22 => ?_)
  replace hG := bnd_s eH22 hG
  have s_172 : Sa H16 H22 := by rw [eH22]; exact Sa.rf _
  refine ab_ldc d_Reader_readHead_38 (k5 95 rfl rfl) ?_
  refine ab_istore_n (lv' := [some (.ref p0), some (.int x13), some (.int 65535), none, none]) d_Reader_readHead_40 rfl (by decide) rfl ?_
  refine ab_aload_n d_Reader_readHead_41 rfl rfl rfl ?_
  obtain ⟨a23, e24, hF⟩ := rf_s hG; clear hG
  refine hp_getR (f := 2) d_Reader_readHead_42 (by rw [(s_172).1]; exact q_149) (by decide) rfl (by decide) (k1 181 rfl rfl) rfl e24 ?_
  obtain ⟨q25, hG⟩ := ck_s hF; clear hF
  rw [(s_172).1] at q25
  obtain ⟨a26, e27, hF⟩ := rf_s hG; clear hG
  refine hp_getR (f := 8) d_Reader_readHead_45 (by rw [(s_172).1]; exact q25) (by decide) rfl (by decide) (k3 85 rfl rfl) rfl e27 ?_
  refine ab_iload_n d_Reader_readHead_48 rfl rfl ?_
  refine ab_aload_n d_Reader_readHead_49 rfl rfl rfl ?_
  refine ab_bipush (v := 44) d_Reader_readHead_50 (by decide) ?_
  refine ab_iconst (v := 3) d_Reader_readHead_52 (by decide) ?_
  refine ab_iconst (v := 0) d_Reader_readHead_53 (by decide) ?_
  refine ab_iload_n d_Reader_readHead_54 rfl rfl ?_
  refine bT_c hF (fun x31 H30 z28 er => ?_) (fun v29 H30 z28 hG => ?_)
  · subst er
    refine ab_widen (cells' := H22.sh.length - c0) (slots' := H22.sl - s0) (by rw [(s_172).1]; exact Nat.le_refl _) (by rw [(s_172).2]; exact Nat.le_refl _) ?_
    have mz : Mo H22 H30 := (m_Reader_namesBehind z28)
    have ml := mz.len
    have m2 := mz.2
    have be := congrArg List.length (s_172).1
    have bfx := (s_172).2
    have hC9 : H30.sh.length ≤ c0 + C := hC
    have hS9 : H30.sl ≤ s0 + Sl := hS
    refine hp_callV_t (x := x31) (H1 := H30) (As := [.int 44, .int 3, .int 0, .int 65535]) (rest := [.int x13, .ref a26]) d_Reader_readHead_55 (k_Reader_namesBehind z28 (C := H30.sh.length - H22.sh.length) (Sl := H30.sl - H22.sl) (by show H30.sh.length ≤ _; omega) (by show H30.sl ≤ _; omega)) (ab_mkC s_Reader_namesBehind (Nat.le_of_ble_eq_true rfl) (Nat.le_of_ble_eq_true rfl) (show (H22.sh.length - c0) + (H30.sh.length - H22.sh.length) ≤ C from by omega) (show (H22.sl - s0) + (H30.sl - H22.sl) ≤ Sl from by omega)) (k5 96 rfl rfl) i_Reader_namesBehind v_Reader_namesBehind (by rw [(s_172).1]; exact q_149) (by decide) rfl rfl (Nat.le_of_ble_eq_true rfl) ?_
    exact ab_U_out rfl (by show _ + (H30.sh.length - H22.sh.length) ≤ C; omega) (by show _ + (H30.sl - H22.sl) ≤ Sl; omega) ⟨rfl, rfl⟩
  clear hF
  refine ab_widen (cells' := H22.sh.length - c0) (slots' := H22.sl - s0) (by rw [(s_172).1]; exact Nat.le_refl _) (by rw [(s_172).2]; exact Nat.le_refl _) ?_
  have mz_173 : Mo H22 H30 := (m_Reader_namesBehind z28)
  have b_174l := (mz_173).len
  have b_174s := (mz_173).2
  have b_174e := congrArg List.length (s_172).1
  have b_174f := (s_172).2
  have b_174c : c0 ≤ H30.sh.length := by omega
  have b_174d : s0 ≤ H30.sl := by omega
  have q_175 := (mz_173).get (by rw [(s_172).1]; exact q_149)
  have q_176 := (mz_173).get (by rw [(s_172).1]; exact q_150)
  have q_177 := (mz_173).get (by rw [(s_172).1]; exact q_151)
  have q_178 := (mz_173).get (by rw [(s_172).1]; exact q21)
  have q_179 := (mz_173).get (by rw [(s_172).1]; exact q25)
  obtain ⟨n32, q33, hF⟩ := ar_s hG; clear hG
  obtain ⟨q34, hG⟩ := ck_s hF; clear hF
  obtain ⟨H35, eH35, hF⟩ := bnd_g hG; clear hG
  have jH35 : Mo H30 H35 := by rw [eH35]; exact Mo.rf _
  obtain ⟨a36, e37, hG⟩ := rf_s hF; clear hF
  obtain ⟨q38, hF⟩ := ck_s hG; clear hG
  obtain ⟨x39, ex39, hG⟩ := bnd_g hF; clear hF
  have fH35 : Mo H35 r.2 := by
    have hm := Mo.rf H35
    rcases ite_s hG with ⟨q_181, hF⟩ | ⟨q_181, hF⟩
    · clear hG
      exact hm.tr (mB_Reader_readHead_86 hF)
    · clear hG
      obtain ⟨a41, e42, hG⟩ := rf_s hF; clear hF
      obtain ⟨a43, e44, hF⟩ := rf_s hG; clear hG
      obtain ⟨q45, hG⟩ := ck_s hF; clear hF
      obtain ⟨x46, -, hF⟩ := bnd_g hG; clear hG
      obtain ⟨q47, hG⟩ := ck_s hF; clear hF
      refine bT_c hG (fun x51 H50 z48 er => ?_) (fun v49 H50 z48 hF => ?_)
      · subst er; exact hm.tr (m_Lexer_refuse z48)
      clear hG
      replace hm : Mo H35 H50 := hm.tr (m_Lexer_refuse z48)
      exact hm.tr (mB_Reader_readHead_86 hF)
  have fH30 : Mo H30 r.2 := jH35.tr fH35
  have b_174m := (fH30).len
  have b_174n := (fH30).2
  have b_174p : H30.sh.length ≤ c0 + C := by omega
  have b_174q : H30.sl ≤ s0 + Sl := by omega
  refine hp_callV_a (v := .int v29) (H1 := H30) (As := [.int 44, .int 3, .int 0, .int 65535]) (rest := [.int x13, .ref a26]) d_Reader_readHead_55 (k_Reader_namesBehind z28 (C := H30.sh.length - H22.sh.length) (Sl := H30.sl - H22.sl) (by show H30.sh.length ≤ _; omega) (by show H30.sl ≤ _; omega)) (ab_mkC s_Reader_namesBehind (Nat.le_of_ble_eq_true rfl) (Nat.le_of_ble_eq_true rfl) (show (H22.sh.length - c0) + (H30.sh.length - H22.sh.length) ≤ C from by omega) (show (H22.sl - s0) + (H30.sl - H22.sl) ≤ Sl from by omega)) (k5 96 rfl rfl) i_Reader_namesBehind v_Reader_namesBehind (by rw [(s_172).1]; exact q_149) (by decide) rfl rfl (Nat.le_of_ble_eq_true rfl) ?_
  refine ab_widen (cells' := H30.sh.length - c0) (slots' := H30.sl - s0) (by show _ + (H30.sh.length - H22.sh.length) ≤ _; omega) (by show _ + (H30.sl - H22.sl) ≤ _; omega) ?_
  clear b_174l b_174s b_174m b_174n b_174e b_174f b_148c b_148d b_148p b_148q
  refine hp_iast d_Reader_readHead_58 tI q33 q34 ?_
  refine hp_genx eH35 ?_
  have s_192 : Sa H30 H35 := by rw [eH35]; exact Sa.rf _
  refine ab_aload_n d_Reader_readHead_59 rfl rfl rfl ?_
  refine hp_getR (f := 0) d_Reader_readHead_60 (by rw [(s_192).1]; exact q_175) (by decide) rfl (by decide) (k1 179 rfl rfl) rfl e37 ?_
  rw [(s_192).1] at q38
  refine hp_getI (f := 2) d_Reader_readHead_63 (by rw [(s_192).1]; exact q38) (by decide) rfl (by decide) (k1 98 rfl rfl) rfl ?_
  refine ab_topxi ex39 ?_
  refine ab_bipush (v := 45) d_Reader_readHead_66 (by decide) ?_
  refine ab_icmp_eq (tgt := 86) d_Reader_readHead_68 (by decide) (fun q40 => ?_) (fun q40 => ?_)
  · rw [if_pos q40] at hG
    refine ab_widen (cells' := H35.sh.length - c0) (slots' := H35.sl - s0) (by rw [(s_192).1]; exact Nat.le_refl _) (by rw [(s_192).2]; exact Nat.le_refl _) ?_
    exact kB_Reader_readHead_86 hG (by rw [(s_192).1]; exact b_174c) (by rw [(s_192).2]; exact b_174d) (by rw [(s_192).1]; exact b_174p) (by rw [(s_192).2]; exact b_174q) hC hS
  · rw [if_neg q40] at hG
    refine ab_aload_n d_Reader_readHead_71 rfl rfl rfl ?_
    obtain ⟨a41, e42, hF⟩ := rf_s hG; clear hG
    refine hp_getR (f := 0) d_Reader_readHead_72 (by rw [(s_192).1]; exact q_175) (by decide) rfl (by decide) (k1 179 rfl rfl) rfl e42 ?_
    refine ab_iconst (v := 1) d_Reader_readHead_75 (by decide) ?_
    refine ab_aload_n d_Reader_readHead_76 rfl rfl rfl ?_
    obtain ⟨a43, e44, hG⟩ := rf_s hF; clear hF
    refine hp_getR (f := 0) d_Reader_readHead_77 (by rw [(s_192).1]; exact q_175) (by decide) rfl (by decide) (k1 179 rfl rfl) rfl e44 ?_
    obtain ⟨q45, hF⟩ := ck_s hG; clear hG
    rw [(s_192).1] at q45
    refine hp_getI (f := 3) d_Reader_readHead_80 (by rw [(s_192).1]; exact q45) (by decide) rfl (by decide) (k1 101 rfl rfl) rfl ?_
    refine ab_topi (fun x46 ex46 => ?_)
    replace hF := bnd_s ex46 hF
    obtain ⟨q47, hG⟩ := ck_s hF; clear hF
    rw [(s_192).1] at q47
    refine bT_c hG (fun x51 H50 z48 er => ?_) (fun v49 H50 z48 hF => ?_)
    · subst er
      refine ab_widen (cells' := H35.sh.length - c0) (slots' := H35.sl - s0) (by rw [(s_192).1]; exact Nat.le_refl _) (by rw [(s_192).2]; exact Nat.le_refl _) ?_
      have mz : Mo H35 H50 := (m_Lexer_refuse z48)
      have ml := mz.len
      have m2 := mz.2
      have be := congrArg List.length (s_192).1
      have bfx := (s_192).2
      have hC9 : H50.sh.length ≤ c0 + C := hC
      have hS9 : H50.sl ≤ s0 + Sl := hS
      refine hp_callV_t (x := x51) (H1 := H50) (As := [.int 1, .int x46]) (rest := []) d_Reader_readHead_83 (k_Lexer_refuse z48 (C := H50.sh.length - H35.sh.length) (Sl := H50.sl - H35.sl) (by show H50.sh.length ≤ _; omega) (by show H50.sl ≤ _; omega)) (ab_mkC s_Lexer_refuse (Nat.le_of_ble_eq_true rfl) (Nat.le_of_ble_eq_true rfl) (show (H35.sh.length - c0) + (H50.sh.length - H35.sh.length) ≤ C from by omega) (show (H35.sl - s0) + (H50.sl - H35.sl) ≤ Sl from by omega)) (k4 97 rfl rfl) i_Lexer_refuse v_Lexer_refuse (by rw [(s_192).1]; exact q47) (by decide) rfl rfl (Nat.le_of_ble_eq_true rfl) ?_
      exact ab_U_out rfl (by show _ + (H50.sh.length - H35.sh.length) ≤ C; omega) (by show _ + (H50.sl - H35.sl) ≤ Sl; omega) ⟨rfl, rfl⟩
    clear hG
    refine ab_widen (cells' := H35.sh.length - c0) (slots' := H35.sl - s0) (by rw [(s_192).1]; exact Nat.le_refl _) (by rw [(s_192).2]; exact Nat.le_refl _) ?_
    have mz_193 : Mo H35 H50 := (m_Lexer_refuse z48)
    have b_194l := (mz_193).len
    have b_194s := (mz_193).2
    have b_194e := congrArg List.length (s_192).1
    have b_194f := (s_192).2
    have b_194c : c0 ≤ H50.sh.length := by omega
    have b_194d : s0 ≤ H50.sl := by omega
    have q_195 := (mz_193).get (by rw [(s_192).1]; exact q_175)
    have q_196 := (mz_193).get (by rw [(s_192).1]; exact q_176)
    have q_197 := (mz_193).get (by rw [(s_192).1]; exact q_177)
    have q_198 := (mz_193).get (by rw [(s_192).1]; exact q_178)
    have q_199 := (mz_193).get (by rw [(s_192).1]; exact q_179)
    have q_200 := (mz_193).get (by rw [(s_192).1]; exact q33)
    have q_201 := (mz_193).get (by rw [(s_192).1]; exact q38)
    have q_202 := (mz_193).get (by rw [(s_192).1]; exact q45)
    have q_203 := (mz_193).get (by rw [(s_192).1]; exact q47)
    have fH50 : Mo H50 r.2 := by
      have hm := Mo.rf H50
      exact hm.tr (mB_Reader_readHead_86 hF)
    have b_194m := (fH50).len
    have b_194n := (fH50).2
    have b_194p : H50.sh.length ≤ c0 + C := by omega
    have b_194q : H50.sl ≤ s0 + Sl := by omega
    refine hp_callV_v (H1 := H50) (As := [.int 1, .int x46]) (rest := []) d_Reader_readHead_83 (k_Lexer_refuse z48 (C := H50.sh.length - H35.sh.length) (Sl := H50.sl - H35.sl) (by show H50.sh.length ≤ _; omega) (by show H50.sl ≤ _; omega)) (ab_mkC s_Lexer_refuse (Nat.le_of_ble_eq_true rfl) (Nat.le_of_ble_eq_true rfl) (show (H35.sh.length - c0) + (H50.sh.length - H35.sh.length) ≤ C from by omega) (show (H35.sl - s0) + (H50.sl - H35.sl) ≤ Sl from by omega)) (k4 97 rfl rfl) i_Lexer_refuse v_Lexer_refuse (by rw [(s_192).1]; exact q47) (by decide) rfl rfl (Nat.le_of_ble_eq_true rfl) ?_
    refine ab_widen (cells' := H50.sh.length - c0) (slots' := H50.sl - s0) (by show _ + (H50.sh.length - H35.sh.length) ≤ _; omega) (by show _ + (H50.sl - H35.sl) ≤ _; omega) ?_
    clear b_194l b_194s b_194m b_194n b_194e b_194f b_174c b_174d b_174p b_174q
    exact kB_Reader_readHead_86 hF b_194c b_194d b_194p b_194q hC hS
def y_Body_open : ab_Y := (⟨"WorldEngine$Body", "open", "(LWorldEngine$Program;)V"⟩, prog_2_method_2_code, 2, none, [])
theorem d_Body_open_0 : decode y_Body_open.2.1 0 = .ok (.aload_n 0, 1) := by decide +kernel
theorem d_Body_open_1 : decode y_Body_open.2.1 1 = .ok (.aload_n 1, 1) := by decide +kernel
theorem d_Body_open_2 : decode y_Body_open.2.1 2 = .ok (.putfield 17, 3) := by decide +kernel
theorem d_Body_open_5 : decode y_Body_open.2.1 5 = .ok (.aload_n 0, 1) := by decide +kernel
theorem d_Body_open_6 : decode y_Body_open.2.1 6 = .ok (.aload_n 1, 1) := by decide +kernel
theorem d_Body_open_7 : decode y_Body_open.2.1 7 = .ok (.getfield 21, 3) := by decide +kernel
theorem d_Body_open_10 : decode y_Body_open.2.1 10 = .ok (.iconst 1, 1) := by decide +kernel
theorem d_Body_open_11 : decode y_Body_open.2.1 11 = .ok (.isub, 1) := by decide +kernel
theorem d_Body_open_12 : decode y_Body_open.2.1 12 = .ok (.putfield 27, 3) := by decide +kernel
theorem d_Body_open_15 : decode y_Body_open.2.1 15 = .ok (.aload_n 0, 1) := by decide +kernel
theorem d_Body_open_16 : decode y_Body_open.2.1 16 = .ok (.iconst 0, 1) := by decide +kernel
theorem d_Body_open_17 : decode y_Body_open.2.1 17 = .ok (.putfield 30, 3) := by decide +kernel
theorem d_Body_open_20 : decode y_Body_open.2.1 20 = .ok (.aload_n 0, 1) := by decide +kernel
theorem d_Body_open_21 : decode y_Body_open.2.1 21 = .ok (.iconst 0, 1) := by decide +kernel
theorem d_Body_open_22 : decode y_Body_open.2.1 22 = .ok (.putfield 33, 3) := by decide +kernel
theorem d_Body_open_25 : decode y_Body_open.2.1 25 = .ok (.aload_n 0, 1) := by decide +kernel
theorem d_Body_open_26 : decode y_Body_open.2.1 26 = .ok (.iconst 0, 1) := by decide +kernel
theorem d_Body_open_27 : decode y_Body_open.2.1 27 = .ok (.putfield 36, 3) := by decide +kernel
theorem d_Body_open_30 : decode y_Body_open.2.1 30 = .ok (.return_, 1) := by decide +kernel
theorem s_Body_open : ab_Stat y_Body_open 1 := ⟨(k5 111 rfl rfl), (k1 8 rfl rfl), ⟨by decide, by decide⟩, by decide +kernel⟩
theorem i_Body_open : Cond.instanceMethod y_Body_open.1 ∈ ab_T := (k5 109 rfl rfl)
theorem v_Body_open : Cond.selects "WorldEngine$Body" y_Body_open.1 y_Body_open.1 ∈ ab_T := (k5 110 rfl rfl)
def F_Body_open (N : Nat) (p0 : Nat) (p1 : Nat) (H : Hp) : Option (Unit × Hp) :=
    ck (H.sh[p0]? = some (6, 0)) <|
    bnd (H.sP p0 1 (.ref p1)) fun H2 =>
    ck (H2.sh[p1]? = some (4, 0)) <|
    bnd ((H2.D p1 7)) fun x4 =>
    bnd (H2.sD p0 2 (x4 - (1 : Int32))) fun H5 =>
    bnd (H5.sD p0 3 (0 : Int32)) fun H6 =>
    bnd (H6.sD p0 5 (0 : Int32)) fun H7 =>
    bnd (H7.sD p0 6 (0 : Int32)) fun H8 =>
    some ((), H8)
set_option maxRecDepth 20000 in
set_option maxHeartbeats 2000000 in
theorem m_Body_open {N : Nat} {p0 : Nat} {p1 : Nat} {H : Hp} {r : Unit × Hp} (hF : F_Body_open N p0 p1 H = some r) : Sa H r.2 := by
  unfold F_Body_open at hF
  have hm := Sa.rf H
  obtain ⟨q9, hG⟩ := ck_s hF; clear hF
  obtain ⟨H10, eH10, hF⟩ := bnd_g hG; clear hG
  replace hm : Sa H H10 := by rw [eH10]; exact hm
  obtain ⟨q11, hG⟩ := ck_s hF; clear hF
  obtain ⟨x12, -, hF⟩ := bnd_g hG; clear hG
  obtain ⟨H13, eH13, hG⟩ := bnd_g hF; clear hF
  replace hm : Sa H H13 := by rw [eH13]; exact hm
  obtain ⟨H14, eH14, hF⟩ := bnd_g hG; clear hG
  replace hm : Sa H H14 := by rw [eH14]; exact hm
  obtain ⟨H15, eH15, hG⟩ := bnd_g hF; clear hF
  replace hm : Sa H H15 := by rw [eH15]; exact hm
  obtain ⟨H16, eH16, hF⟩ := bnd_g hG; clear hG
  replace hm : Sa H H16 := by rw [eH16]; exact hm
  have hr := Option.some.inj hF; subst hr
  exact hm
set_option maxRecDepth 20000 in
set_option maxHeartbeats 2000000 in
theorem k_Body_open {N : Nat} {p0 : Nat} {p1 : Nat} {H : Hp} {r : Unit × Hp} (hF : F_Body_open N p0 p1 H = some r) : ab_M y_Body_open { frames := 0, cells := 0, slots := 0, locals := 0 } [.ref p0, .ref p1] (hpw H) (po (.returned none) r.2) := by
  unfold F_Body_open at hF
  refine ab_of2 (lv := [some (.ref p0), some (.ref p1)]) 0 rfl rfl (Nat.le_of_ble_eq_true rfl) ?_
  refine ab_aload_n d_Body_open_0 rfl rfl rfl ?_
  refine ab_aload_n d_Body_open_1 rfl rfl rfl ?_
  obtain ⟨q1, hG⟩ := ck_s hF; clear hF
  refine hp_putP (v := .ref p1) (f := 1) d_Body_open_2 q1 (by decide) rfl (by decide) (k1 158 rfl rfl) rfl rfl (fun _ => rfl) (fun _ => rfl) rfl ?_
  refine hp_gen (fun H2 eH2 => ?_)
  replace hG := bnd_s eH2 hG
  have s_1 : Sa H H2 := by rw [eH2]; exact Sa.rf _
  refine ab_aload_n d_Body_open_5 rfl rfl rfl ?_
  refine ab_aload_n d_Body_open_6 rfl rfl rfl ?_
  obtain ⟨q3, hF⟩ := ck_s hG; clear hG
  rw [(s_1).1] at q3
  refine hp_getI (f := 7) d_Body_open_7 (by rw [(s_1).1]; exact q3) (by decide) rfl (by decide) (k3 79 rfl rfl) rfl ?_
  refine ab_topi (fun x4 ex4 => ?_)
  replace hF := bnd_s ex4 hF
  refine ab_iconst (v := 1) d_Body_open_10 (by decide) ?_
  refine ab_isub d_Body_open_11 ?_
  refine hp_putI (v := x4 - (1 : Int32)) (f := 2) d_Body_open_12 (by rw [(s_1).1]; exact q1) (by decide) rfl (by decide) (k1 159 rfl rfl) rfl rfl (fun _ => rfl) (fun _ => rfl) rfl ?_
  refine hp_gen (fun H5 eH5 => ?_)
  replace hF := bnd_s eH5 hF
  have s_2 : Sa H H5 := by rw [eH5]; exact s_1
  refine ab_aload_n d_Body_open_15 rfl rfl rfl ?_
  refine ab_iconst (v := 0) d_Body_open_16 (by decide) ?_
  refine hp_putI (v := 0) (f := 3) d_Body_open_17 (by rw [(s_2).1]; exact q1) (by decide) rfl (by decide) (k1 160 rfl rfl) rfl rfl (fun _ => rfl) (fun _ => rfl) rfl ?_
  refine hp_gen (fun H6 eH6 => ?_)
  replace hF := bnd_s eH6 hF
  have s_3 : Sa H H6 := by rw [eH6]; exact s_2
  refine ab_aload_n d_Body_open_20 rfl rfl rfl ?_
  refine ab_iconst (v := 0) d_Body_open_21 (by decide) ?_
  refine hp_putI (v := 0) (f := 5) d_Body_open_22 (by rw [(s_3).1]; exact q1) (by decide) rfl (by decide) (k1 162 rfl rfl) rfl rfl (fun _ => rfl) (fun _ => rfl) rfl ?_
  refine hp_gen (fun H7 eH7 => ?_)
  replace hF := bnd_s eH7 hF
  have s_4 : Sa H H7 := by rw [eH7]; exact s_3
  refine ab_aload_n d_Body_open_25 rfl rfl rfl ?_
  refine ab_iconst (v := 0) d_Body_open_26 (by decide) ?_
  refine hp_putI (v := 0) (f := 6) d_Body_open_27 (by rw [(s_4).1]; exact q1) (by decide) rfl (by decide) (k1 163 rfl rfl) rfl rfl (fun _ => rfl) (fun _ => rfl) rfl ?_
  refine hp_gen (fun H8 eH8 => ?_)
  replace hF := bnd_s eH8 hF
  have s_5 : Sa H H8 := by rw [eH8]; exact s_4
  exact ab_vret d_Body_open_30 rfl (Nat.le_refl _) (Nat.le_refl _) (by have hr := Option.some.inj hF; subst hr; exact ⟨rfl, rfl⟩)
def y_Program_add : ab_Y := (⟨"WorldEngine$Program", "add", "(I)I"⟩, prog_6_method_6_code, 2, (some FieldType.int), [])
theorem d_Program_add_0 : decode y_Program_add.2.1 0 = .ok (.aload_n 0, 1) := by decide +kernel
theorem d_Program_add_1 : decode y_Program_add.2.1 1 = .ok (.getfield 78, 3) := by decide +kernel
theorem d_Program_add_4 : decode y_Program_add.2.1 4 = .ok (.sipush 12000, 3) := by decide +kernel
theorem d_Program_add_7 : decode y_Program_add.2.1 7 = .ok (.if_icmp .ge 23, 3) := by decide +kernel
theorem d_Program_add_10 : decode y_Program_add.2.1 10 = .ok (.aload_n 0, 1) := by decide +kernel
theorem d_Program_add_11 : decode y_Program_add.2.1 11 = .ok (.getfield 59, 3) := by decide +kernel
theorem d_Program_add_14 : decode y_Program_add.2.1 14 = .ok (.aload_n 0, 1) := by decide +kernel
theorem d_Program_add_15 : decode y_Program_add.2.1 15 = .ok (.getfield 78, 3) := by decide +kernel
theorem d_Program_add_18 : decode y_Program_add.2.1 18 = .ok (.iload_n 1, 1) := by decide +kernel
theorem d_Program_add_19 : decode y_Program_add.2.1 19 = .ok (.iastore, 1) := by decide +kernel
theorem d_Program_add_20 : decode y_Program_add.2.1 20 = .ok (.aload_n 0, 1) := by decide +kernel
theorem d_Program_add_21 : decode y_Program_add.2.1 21 = .ok (.dup, 1) := by decide +kernel
theorem d_Program_add_22 : decode y_Program_add.2.1 22 = .ok (.getfield 78, 3) := by decide +kernel
theorem d_Program_add_25 : decode y_Program_add.2.1 25 = .ok (.iconst 1, 1) := by decide +kernel
theorem d_Program_add_26 : decode y_Program_add.2.1 26 = .ok (.iadd, 1) := by decide +kernel
theorem d_Program_add_27 : decode y_Program_add.2.1 27 = .ok (.putfield 78, 3) := by decide +kernel
theorem d_Program_add_30 : decode y_Program_add.2.1 30 = .ok (.aload_n 0, 1) := by decide +kernel
theorem d_Program_add_31 : decode y_Program_add.2.1 31 = .ok (.getfield 78, 3) := by decide +kernel
theorem d_Program_add_34 : decode y_Program_add.2.1 34 = .ok (.iconst 1, 1) := by decide +kernel
theorem d_Program_add_35 : decode y_Program_add.2.1 35 = .ok (.isub, 1) := by decide +kernel
theorem d_Program_add_36 : decode y_Program_add.2.1 36 = .ok (.ireturn, 1) := by decide +kernel
theorem s_Program_add : ab_Stat y_Program_add 1 := ⟨(k5 120 rfl rfl), (k1 15 rfl rfl), ⟨by decide, by decide⟩, by decide +kernel⟩
theorem i_Program_add : Cond.instanceMethod y_Program_add.1 ∈ ab_T := (k5 118 rfl rfl)
theorem v_Program_add : Cond.selects "WorldEngine$Program" y_Program_add.1 y_Program_add.1 ∈ ab_T := (k5 119 rfl rfl)
def F_Program_add (N : Nat) (p0 : Nat) (p1 : Int32) (H : Hp) : Option (Int32 × Hp) :=
    ck (H.sh[p0]? = some (4, 0)) <|
    bnd ((H.D p0 17)) fun x2 =>
    if (12000 : Int32) ≤ x2 then
    bnd ((H.D p0 17)) fun x4 =>
    some (x4 - (1 : Int32), H)
    else
    rf (H.P p0 16) fun a5 =>
    bnd ((H.D p0 17)) fun x7 =>
    ar H 100 a5 fun n8 =>
    ck (inb x7 n8) <|
    bnd (H.sD a5 (x7).toNatClampNeg p1) fun H11 =>
    bnd ((H11.D p0 17)) fun x12 =>
    bnd (H11.sD p0 17 (x12 + (1 : Int32))) fun H13 =>
    bnd ((H13.D p0 17)) fun x14 =>
    some (x14 - (1 : Int32), H13)
set_option maxRecDepth 20000 in
set_option maxHeartbeats 2000000 in
theorem m_Program_add {N : Nat} {p0 : Nat} {p1 : Int32} {H : Hp} {r : Int32 × Hp} (hF : F_Program_add N p0 p1 H = some r) : Sa H r.2 := by
  unfold F_Program_add at hF
  have hm := Sa.rf H
  obtain ⟨q15, hG⟩ := ck_s hF; clear hF
  obtain ⟨x16, -, hF⟩ := bnd_g hG; clear hG
  rcases ite_s hF with ⟨q_3, hG⟩ | ⟨q_3, hG⟩
  · clear hF
    obtain ⟨x18, -, hF⟩ := bnd_g hG; clear hG
    have hr := Option.some.inj hF; subst hr
    exact hm
  · clear hF
    obtain ⟨a19, e20, hF⟩ := rf_s hG; clear hG
    obtain ⟨x21, -, hG⟩ := bnd_g hF; clear hF
    obtain ⟨n22, q23, hF⟩ := ar_s hG; clear hG
    obtain ⟨q24, hG⟩ := ck_s hF; clear hF
    obtain ⟨H25, eH25, hF⟩ := bnd_g hG; clear hG
    replace hm : Sa H H25 := by rw [eH25]; exact hm
    obtain ⟨x26, -, hG⟩ := bnd_g hF; clear hF
    obtain ⟨H27, eH27, hF⟩ := bnd_g hG; clear hG
    replace hm : Sa H H27 := by rw [eH27]; exact hm
    obtain ⟨x28, -, hG⟩ := bnd_g hF; clear hF
    have hr := Option.some.inj hG; subst hr
    exact hm
set_option maxRecDepth 20000 in
set_option maxHeartbeats 2000000 in
theorem k_Program_add {N : Nat} {p0 : Nat} {p1 : Int32} {H : Hp} {r : Int32 × Hp} (hF : F_Program_add N p0 p1 H = some r) : ab_M y_Program_add { frames := 0, cells := 0, slots := 0, locals := 0 } [.ref p0, .int p1] (hpw H) (po (.returned (some (.int r.1))) r.2) := by
  unfold F_Program_add at hF
  refine ab_of2 (lv := [some (.ref p0), some (.int p1)]) 0 rfl rfl (Nat.le_of_ble_eq_true rfl) ?_
  refine ab_aload_n d_Program_add_0 rfl rfl rfl ?_
  obtain ⟨q1, hG⟩ := ck_s hF; clear hF
  refine hp_getI (f := 17) d_Program_add_1 q1 (by decide) rfl (by decide) (k3 112 rfl rfl) rfl ?_
  refine ab_topi (fun x2 ex2 => ?_)
  replace hG := bnd_s ex2 hG
  refine ab_sipush (v := 12000) d_Program_add_4 (by decide) ?_
  refine ab_icmp_ge (tgt := 30) d_Program_add_7 (by decide) (fun q3 => ?_) (fun q3 => ?_)
  · rw [if_pos q3] at hG
    refine ab_aload_n d_Program_add_30 rfl rfl rfl ?_
    refine hp_getI (f := 17) d_Program_add_31 q1 (by decide) rfl (by decide) (k3 112 rfl rfl) rfl ?_
    refine ab_topi (fun x4 ex4 => ?_)
    replace hG := bnd_s ex4 hG
    refine ab_iconst (v := 1) d_Program_add_34 (by decide) ?_
    refine ab_isub d_Program_add_35 ?_
    exact ab_iret d_Program_add_36 rfl (Nat.le_refl _) (Nat.le_refl _) (by have hr := Option.some.inj hG; subst hr; exact ⟨rfl, rfl⟩)
  · rw [if_neg q3] at hG
    refine ab_aload_n d_Program_add_10 rfl rfl rfl ?_
    obtain ⟨a5, e6, hF⟩ := rf_s hG; clear hG
    refine hp_getR (f := 16) d_Program_add_11 q1 (by decide) rfl (by decide) (k3 110 rfl rfl) rfl e6 ?_
    refine ab_aload_n d_Program_add_14 rfl rfl rfl ?_
    refine hp_getI (f := 17) d_Program_add_15 q1 (by decide) rfl (by decide) (k3 112 rfl rfl) rfl ?_
    refine ab_topi (fun x7 ex7 => ?_)
    replace hF := bnd_s ex7 hF
    refine ab_iload_n d_Program_add_18 rfl rfl ?_
    obtain ⟨n8, q9, hG⟩ := ar_s hF; clear hF
    obtain ⟨q10, hF⟩ := ck_s hG; clear hG
    refine hp_iast d_Program_add_19 tI q9 q10 ?_
    refine hp_gen (fun H11 eH11 => ?_)
    replace hF := bnd_s eH11 hF
    have s_1 : Sa H H11 := by rw [eH11]; exact Sa.rf _
    refine ab_aload_n d_Program_add_20 rfl rfl rfl ?_
    refine ab_dup d_Program_add_21 rfl ?_
    refine hp_getI (f := 17) d_Program_add_22 (by rw [(s_1).1]; exact q1) (by decide) rfl (by decide) (k3 112 rfl rfl) rfl ?_
    refine ab_topi (fun x12 ex12 => ?_)
    replace hF := bnd_s ex12 hF
    refine ab_iconst (v := 1) d_Program_add_25 (by decide) ?_
    refine ab_iadd d_Program_add_26 ?_
    refine hp_putI (v := x12 + (1 : Int32)) (f := 17) d_Program_add_27 (by rw [(s_1).1]; exact q1) (by decide) rfl (by decide) (k3 112 rfl rfl) rfl rfl (fun _ => rfl) (fun _ => rfl) rfl ?_
    refine hp_gen (fun H13 eH13 => ?_)
    replace hF := bnd_s eH13 hF
    have s_2 : Sa H H13 := by rw [eH13]; exact s_1
    refine ab_aload_n d_Program_add_30 rfl rfl rfl ?_
    refine hp_getI (f := 17) d_Program_add_31 (by rw [(s_2).1]; exact q1) (by decide) rfl (by decide) (k3 112 rfl rfl) rfl ?_
    refine ab_topi (fun x14 ex14 => ?_)
    replace hF := bnd_s ex14 hF
    refine ab_iconst (v := 1) d_Program_add_34 (by decide) ?_
    refine ab_isub d_Program_add_35 ?_
    exact ab_iret d_Program_add_36 rfl (Nat.le_refl _) (Nat.le_refl _) (by have hr := Option.some.inj hF; subst hr; exact ⟨rfl, rfl⟩)
def y_Body_newLocal : ab_Y := (⟨"WorldEngine$Body", "newLocal", "()Ljava/lang/String;"⟩, prog_2_method_14_code, 3, (some (FieldType.object "java/lang/String")), [])
theorem d_Body_newLocal_0 : decode y_Body_newLocal.2.1 0 = .ok (.aload_n 0, 1) := by decide +kernel
theorem d_Body_newLocal_1 : decode y_Body_newLocal.2.1 1 = .ok (.getfield 7, 3) := by decide +kernel
theorem d_Body_newLocal_4 : decode y_Body_newLocal.2.1 4 = .ok (.getfield 96, 3) := by decide +kernel
theorem d_Body_newLocal_7 : decode y_Body_newLocal.2.1 7 = .ok (.istore_n 1, 1) := by decide +kernel
theorem d_Body_newLocal_8 : decode y_Body_newLocal.2.1 8 = .ok (.aload_n 0, 1) := by decide +kernel
theorem d_Body_newLocal_9 : decode y_Body_newLocal.2.1 9 = .ok (.getfield 7, 3) := by decide +kernel
theorem d_Body_newLocal_12 : decode y_Body_newLocal.2.1 12 = .ok (.invokevirtual 173, 3) := by decide +kernel
theorem d_Body_newLocal_15 : decode y_Body_newLocal.2.1 15 = .ok (.astore_n 2, 1) := by decide +kernel
theorem d_Body_newLocal_16 : decode y_Body_newLocal.2.1 16 = .ok (.aload_n 0, 1) := by decide +kernel
theorem d_Body_newLocal_17 : decode y_Body_newLocal.2.1 17 = .ok (.getfield 30, 3) := by decide +kernel
theorem d_Body_newLocal_20 : decode y_Body_newLocal.2.1 20 = .ok (.bipush 12, 2) := by decide +kernel
theorem d_Body_newLocal_22 : decode y_Body_newLocal.2.1 22 = .ok (.if_icmp .lt 12, 3) := by decide +kernel
theorem d_Body_newLocal_25 : decode y_Body_newLocal.2.1 25 = .ok (.aload_n 0, 1) := by decide +kernel
theorem d_Body_newLocal_26 : decode y_Body_newLocal.2.1 26 = .ok (.getfield 7, 3) := by decide +kernel
theorem d_Body_newLocal_29 : decode y_Body_newLocal.2.1 29 = .ok (.iconst 2, 1) := by decide +kernel
theorem d_Body_newLocal_30 : decode y_Body_newLocal.2.1 30 = .ok (.iload_n 1, 1) := by decide +kernel
theorem d_Body_newLocal_31 : decode y_Body_newLocal.2.1 31 = .ok (.invokevirtual 99, 3) := by decide +kernel
theorem d_Body_newLocal_34 : decode y_Body_newLocal.2.1 34 = .ok (.aload_n 0, 1) := by decide +kernel
theorem d_Body_newLocal_35 : decode y_Body_newLocal.2.1 35 = .ok (.getfield 17, 3) := by decide +kernel
theorem d_Body_newLocal_38 : decode y_Body_newLocal.2.1 38 = .ok (.aload_n 2, 1) := by decide +kernel
theorem d_Body_newLocal_39 : decode y_Body_newLocal.2.1 39 = .ok (.invokevirtual 176, 3) := by decide +kernel
theorem d_Body_newLocal_42 : decode y_Body_newLocal.2.1 42 = .ok (.ifnull 12, 3) := by decide +kernel
theorem d_Body_newLocal_45 : decode y_Body_newLocal.2.1 45 = .ok (.aload_n 0, 1) := by decide +kernel
theorem d_Body_newLocal_46 : decode y_Body_newLocal.2.1 46 = .ok (.getfield 7, 3) := by decide +kernel
theorem d_Body_newLocal_49 : decode y_Body_newLocal.2.1 49 = .ok (.iconst 3, 1) := by decide +kernel
theorem d_Body_newLocal_50 : decode y_Body_newLocal.2.1 50 = .ok (.iload_n 1, 1) := by decide +kernel
theorem d_Body_newLocal_51 : decode y_Body_newLocal.2.1 51 = .ok (.invokevirtual 99, 3) := by decide +kernel
theorem d_Body_newLocal_54 : decode y_Body_newLocal.2.1 54 = .ok (.aload_n 2, 1) := by decide +kernel
theorem d_Body_newLocal_55 : decode y_Body_newLocal.2.1 55 = .ok (.areturn, 1) := by decide +kernel
theorem s_Body_newLocal : ab_Stat y_Body_newLocal 0 := ⟨(k5 133 rfl rfl), (k1 8 rfl rfl), ⟨by decide, by decide⟩, by decide +kernel⟩
theorem i_Body_newLocal : Cond.instanceMethod y_Body_newLocal.1 ∈ ab_T := (k5 132 rfl rfl)
theorem v_Body_newLocal : Cond.selects "WorldEngine$Body" y_Body_newLocal.1 y_Body_newLocal.1 ∈ ab_T := ab_s (List.mem_of_getElem? (i := 24) rfl) rfl
def B_Body_newLocal_34 (N : Nat) (p0 : Nat) (l1 : Int32) (l2 : Nat) (H : Hp) : Option ((Ot (Option Nat)) × Hp) :=
    ck (H.sh[p0]? = some (6, 0)) <|
    rf (H.P p0 1) fun a17 =>
    ck (H.sh[a17]? = some (4, 0)) <|
    bC (F_Program_find N a17 l2 H) fun v21 H22 =>
    nl v21 (some (.inl (some l2), H22)) fun a23 =>
    rf (H22.P p0 0) fun a24 =>
    ck (H22.sh[a24]? = some (1, 0)) <|
    bT (F_Lexer_refuse N a24 (3 : Int32) l1 H22) fun v28 H29 =>
    some (.inl (some l2), H29)
set_option maxRecDepth 20000 in
set_option maxHeartbeats 2000000 in
theorem mB_Body_newLocal_34 {N : Nat} {p0 : Nat} {l1 : Int32} {l2 : Nat} {H : Hp} {r : (Ot (Option Nat)) × Hp} (hF : B_Body_newLocal_34 N p0 l1 l2 H = some r) : Mo H r.2 := by
  unfold B_Body_newLocal_34 at hF
  have hm := Mo.rf H
  obtain ⟨q31, hG⟩ := ck_s hF; clear hF
  obtain ⟨a32, e33, hF⟩ := rf_s hG; clear hG
  obtain ⟨q34, hG⟩ := ck_s hF; clear hF
  obtain ⟨v36, H37, z35, hF⟩ := bC_s hG; clear hG
  replace hm : Mo H H37 := hm.tr ((m_Program_find z35)).mo
  refine nl_c hF (fun ea38 hG => ?_) (fun a38 ea38 hG => ?_)
  · clear hF; subst ea38
    have hr := Option.some.inj hG; subst hr
    exact hm
  clear hF; subst ea38
  obtain ⟨a39, e40, hF⟩ := rf_s hG; clear hG
  obtain ⟨q41, hG⟩ := ck_s hF; clear hF
  refine bT_c hG (fun x45 H44 z42 er => ?_) (fun v43 H44 z42 hF => ?_)
  · subst er; exact hm.tr (m_Lexer_refuse z42)
  clear hG
  replace hm : Mo H H44 := hm.tr (m_Lexer_refuse z42)
  have hr := Option.some.inj hF; subst hr
  exact hm
set_option maxRecDepth 20000 in
set_option maxHeartbeats 2000000 in
theorem kB_Body_newLocal_34 {N : Nat} {p0 : Nat} {c0 s0 C Sl : Nat} {l1 : Int32} {l2 : Nat} {H : Hp} {r : (Ot (Option Nat)) × Hp} (hF : B_Body_newLocal_34 N p0 l1 l2 H = some r) (hc0 : c0 ≤ H.sh.length) (hs0 : s0 ≤ H.sl) (hcc : H.sh.length ≤ c0 + C) (hss : H.sl ≤ s0 + Sl) (hC : r.2.sh.length ≤ c0 + C) (hS : r.2.sl ≤ s0 + Sl) : ab_V y_Body_newLocal { frames := 7, cells := C, slots := Sl, locals := 128 } (po (oA r.1) r.2) C Sl (H.sh.length - c0) (H.sl - s0) 34 [some (.ref p0), some (.int l1), some (.ref l2)] [] (hpw H) := by
  unfold B_Body_newLocal_34 at hF
  refine ab_aload_n d_Body_newLocal_34 rfl rfl rfl ?_
  obtain ⟨q16, hG⟩ := ck_s hF; clear hF
  obtain ⟨a17, e18, hF⟩ := rf_s hG; clear hG
  refine hp_getR (f := 1) d_Body_newLocal_35 q16 (by decide) rfl (by decide) (k1 158 rfl rfl) rfl e18 ?_
  refine ab_aload_n d_Body_newLocal_38 rfl rfl rfl ?_
  obtain ⟨q19, hG⟩ := ck_s hF; clear hF
  obtain ⟨v21, H22, z20, hF⟩ := bC_s hG; clear hG
  refine hp_callV_a (v := ab_rf v21) (H1 := H22) (As := [.ref l2]) (rest := []) d_Body_newLocal_39 (k_Program_find z20) (ab_mkC s_Program_find (Nat.le_of_ble_eq_true rfl) (Nat.le_of_ble_eq_true rfl) (show (H.sh.length - c0) + 0 ≤ C from by omega) (show (H.sl - s0) + 0 ≤ Sl from by omega)) (k5 136 rfl rfl) i_Program_find v_Program_find q19 (by decide) rfl rfl (Nat.le_of_ble_eq_true rfl) ?_
  have s_9 : Sa H H22 := (m_Program_find z20)
  refine ab_widen (cells' := H.sh.length - c0) (slots' := H.sl - s0) (by show (H.sh.length - c0) + 0 ≤ _; omega) (by show (H.sl - s0) + 0 ≤ _; omega) ?_
  refine nl_c hF (fun ea23 hG => ?_) (fun a23 ea23 hG => ?_)
  · clear hF; subst ea23
    refine ab_ifnullN (tgt := 54) d_Body_newLocal_42 (by decide) ?_
    refine ab_aload_n d_Body_newLocal_54 rfl rfl rfl ?_
    exact ab_aret d_Body_newLocal_55 rfl (Or.inl ⟨_, rfl⟩) rfl (by show _ ≤ C; omega) (by show _ ≤ Sl; omega) (by have hr := Option.some.inj hG; subst hr; exact ⟨rfl, rfl⟩)
  clear hF; subst ea23
  refine ab_ifnull d_Body_newLocal_42 ?_
  refine ab_aload_n d_Body_newLocal_45 rfl rfl rfl ?_
  obtain ⟨a24, e25, hF⟩ := rf_s hG; clear hG
  refine hp_getR (f := 0) d_Body_newLocal_46 (by rw [(s_9).1]; exact q16) (by decide) rfl (by decide) (k1 157 rfl rfl) rfl e25 ?_
  refine ab_iconst (v := 3) d_Body_newLocal_49 (by decide) ?_
  refine ab_iload_n d_Body_newLocal_50 rfl rfl ?_
  obtain ⟨q26, hG⟩ := ck_s hF; clear hF
  rw [(s_9).1] at q26
  refine bT_c hG (fun x30 H29 z27 er => ?_) (fun v28 H29 z27 hF => ?_)
  · subst er
    refine ab_widen (cells' := H22.sh.length - c0) (slots' := H22.sl - s0) (by rw [(s_9).1]; exact Nat.le_refl _) (by rw [(s_9).2]; exact Nat.le_refl _) ?_
    have mz : Mo H22 H29 := (m_Lexer_refuse z27)
    have ml := mz.len
    have m2 := mz.2
    have be := congrArg List.length (s_9).1
    have bfx := (s_9).2
    have hC9 : H29.sh.length ≤ c0 + C := hC
    have hS9 : H29.sl ≤ s0 + Sl := hS
    refine hp_callV_t (x := x30) (H1 := H29) (As := [.int 3, .int l1]) (rest := []) d_Body_newLocal_51 (k_Lexer_refuse z27 (C := H29.sh.length - H22.sh.length) (Sl := H29.sl - H22.sl) (by show H29.sh.length ≤ _; omega) (by show H29.sl ≤ _; omega)) (ab_mkC s_Lexer_refuse (Nat.le_of_ble_eq_true rfl) (Nat.le_of_ble_eq_true rfl) (show (H22.sh.length - c0) + (H29.sh.length - H22.sh.length) ≤ C from by omega) (show (H22.sl - s0) + (H29.sl - H22.sl) ≤ Sl from by omega)) (k5 135 rfl rfl) i_Lexer_refuse v_Lexer_refuse (by rw [(s_9).1]; exact q26) (by decide) rfl rfl (Nat.le_of_ble_eq_true rfl) ?_
    exact ab_U_out rfl (by show _ + (H29.sh.length - H22.sh.length) ≤ C; omega) (by show _ + (H29.sl - H22.sl) ≤ Sl; omega) ⟨rfl, rfl⟩
  clear hG
  refine ab_widen (cells' := H22.sh.length - c0) (slots' := H22.sl - s0) (by rw [(s_9).1]; exact Nat.le_refl _) (by rw [(s_9).2]; exact Nat.le_refl _) ?_
  have mz_10 : Mo H22 H29 := (m_Lexer_refuse z27)
  have b_11l := (mz_10).len
  have b_11s := (mz_10).2
  have b_11e := congrArg List.length (s_9).1
  have b_11f := (s_9).2
  have b_11c : c0 ≤ H29.sh.length := by omega
  have b_11d : s0 ≤ H29.sl := by omega
  have q_12 := (mz_10).get (by rw [(s_9).1]; exact q16)
  have q_13 := (mz_10).get (by rw [(s_9).1]; exact q19)
  have q_14 := (mz_10).get (by rw [(s_9).1]; exact q26)
  have fH29 : Mo H29 r.2 := by
    have hm := Mo.rf H29
    have hr := Option.some.inj hF; subst hr
    exact hm
  have b_11m := (fH29).len
  have b_11n := (fH29).2
  have b_11p : H29.sh.length ≤ c0 + C := by omega
  have b_11q : H29.sl ≤ s0 + Sl := by omega
  refine hp_callV_v (H1 := H29) (As := [.int 3, .int l1]) (rest := []) d_Body_newLocal_51 (k_Lexer_refuse z27 (C := H29.sh.length - H22.sh.length) (Sl := H29.sl - H22.sl) (by show H29.sh.length ≤ _; omega) (by show H29.sl ≤ _; omega)) (ab_mkC s_Lexer_refuse (Nat.le_of_ble_eq_true rfl) (Nat.le_of_ble_eq_true rfl) (show (H22.sh.length - c0) + (H29.sh.length - H22.sh.length) ≤ C from by omega) (show (H22.sl - s0) + (H29.sl - H22.sl) ≤ Sl from by omega)) (k5 135 rfl rfl) i_Lexer_refuse v_Lexer_refuse (by rw [(s_9).1]; exact q26) (by decide) rfl rfl (Nat.le_of_ble_eq_true rfl) ?_
  refine ab_widen (cells' := H29.sh.length - c0) (slots' := H29.sl - s0) (by show _ + (H29.sh.length - H22.sh.length) ≤ _; omega) (by show _ + (H29.sl - H22.sl) ≤ _; omega) ?_
  clear b_11l b_11s b_11m b_11n b_11e b_11f
  refine ab_aload_n d_Body_newLocal_54 rfl rfl rfl ?_
  exact ab_aret d_Body_newLocal_55 rfl (Or.inl ⟨_, rfl⟩) rfl (by show _ ≤ C; omega) (by show _ ≤ Sl; omega) (by have hr := Option.some.inj hF; subst hr; exact ⟨rfl, rfl⟩)
def F_Body_newLocal (N : Nat) (p0 : Nat) (H : Hp) : Option ((Ot (Option Nat)) × Hp) :=
    ck (H.sh[p0]? = some (6, 0)) <|
    rf (H.P p0 0) fun a2 =>
    ck (H.sh[a2]? = some (1, 0)) <|
    bnd ((H.D a2 3)) fun x5 =>
    rf (H.P p0 0) fun a6 =>
    ck (H.sh[a6]? = some (1, 0)) <|
    bT (F_Lexer_takeName N a6 H) fun v10 H11 =>
    on v10 fun a13 =>
    bnd ((H11.D p0 3)) fun x14 =>
    if x14 < (12 : Int32) then
    B_Body_newLocal_34 N p0 x5 a13 H11
    else
    rf (H11.P p0 0) fun a16 =>
    ck (H11.sh[a16]? = some (1, 0)) <|
    bT (F_Lexer_refuse N a16 (2 : Int32) x5 H11) fun v20 H21 =>
    B_Body_newLocal_34 N p0 x5 a13 H21
set_option maxRecDepth 20000 in
set_option maxHeartbeats 2000000 in
theorem m_Body_newLocal {N : Nat} {p0 : Nat} {H : Hp} {r : (Ot (Option Nat)) × Hp} (hF : F_Body_newLocal N p0 H = some r) : Mo H r.2 := by
  unfold F_Body_newLocal at hF
  have hm := Mo.rf H
  obtain ⟨q23, hG⟩ := ck_s hF; clear hF
  obtain ⟨a24, e25, hF⟩ := rf_s hG; clear hG
  obtain ⟨q26, hG⟩ := ck_s hF; clear hF
  obtain ⟨x27, -, hF⟩ := bnd_g hG; clear hG
  obtain ⟨a28, e29, hG⟩ := rf_s hF; clear hF
  obtain ⟨q30, hF⟩ := ck_s hG; clear hG
  refine bT_c hF (fun x34 H33 z31 er => ?_) (fun v32 H33 z31 hG => ?_)
  · subst er; exact hm.tr (m_Lexer_takeName z31)
  clear hF
  replace hm : Mo H H33 := hm.tr (m_Lexer_takeName z31)
  obtain ⟨a35, ea35, hF⟩ := on_s hG; clear hG
  subst ea35
  obtain ⟨x36, -, hG⟩ := bnd_g hF; clear hF
  rcases ite_s hG with ⟨q_34, hF⟩ | ⟨q_34, hF⟩
  · clear hG
    exact hm.tr (mB_Body_newLocal_34 hF)
  · clear hG
    obtain ⟨a38, e39, hG⟩ := rf_s hF; clear hF
    obtain ⟨q40, hF⟩ := ck_s hG; clear hG
    refine bT_c hF (fun x44 H43 z41 er => ?_) (fun v42 H43 z41 hG => ?_)
    · subst er; exact hm.tr (m_Lexer_refuse z41)
    clear hF
    replace hm : Mo H H43 := hm.tr (m_Lexer_refuse z41)
    exact hm.tr (mB_Body_newLocal_34 hG)
set_option maxRecDepth 20000 in
set_option maxHeartbeats 2000000 in
theorem k_Body_newLocal {N : Nat} {p0 : Nat} {H : Hp} {r : (Ot (Option Nat)) × Hp} {C Sl : Nat} (hF : F_Body_newLocal N p0 H = some r) (hC : r.2.sh.length ≤ H.sh.length + C) (hS : r.2.sl ≤ H.sl + Sl) : ab_M y_Body_newLocal { frames := 7, cells := C, slots := Sl, locals := 128 } [.ref p0] (hpw H) (po (oA r.1) r.2) := by
  unfold F_Body_newLocal at hF
  obtain ⟨c0, e0⟩ : ∃ q, q = H.sh.length := ⟨_, rfl⟩
  obtain ⟨s0, e1⟩ : ∃ q, q = H.sl := ⟨_, rfl⟩
  rw [← e0] at hC
  rw [← e1] at hS
  have hc0 : c0 ≤ H.sh.length := Nat.le_of_eq e0
  have hs0 : s0 ≤ H.sl := Nat.le_of_eq e1
  have hcc : H.sh.length ≤ c0 + C := by omega
  have hss : H.sl ≤ s0 + Sl := by omega
  refine ab_of2 (lv := [some (.ref p0), none, none]) 2 rfl rfl (Nat.le_of_ble_eq_true rfl) ?_
  refine ab_widen (cells' := H.sh.length - c0) (slots' := H.sl - s0) (Nat.zero_le _) (Nat.zero_le _) ?_
  refine ab_aload_n d_Body_newLocal_0 rfl rfl rfl ?_
  obtain ⟨q1, hG⟩ := ck_s hF; clear hF
  obtain ⟨a2, e3, hF⟩ := rf_s hG; clear hG
  refine hp_getR (f := 0) d_Body_newLocal_1 q1 (by decide) rfl (by decide) (k1 157 rfl rfl) rfl e3 ?_
  obtain ⟨q4, hG⟩ := ck_s hF; clear hF
  refine hp_getI (f := 3) d_Body_newLocal_4 q4 (by decide) rfl (by decide) (k1 103 rfl rfl) rfl ?_
  refine ab_topi (fun x5 ex5 => ?_)
  replace hG := bnd_s ex5 hG
  refine ab_istore_n (lv' := [some (.ref p0), some (.int x5), none]) d_Body_newLocal_7 rfl (by decide) rfl ?_
  refine ab_aload_n d_Body_newLocal_8 rfl rfl rfl ?_
  obtain ⟨a6, e7, hF⟩ := rf_s hG; clear hG
  refine hp_getR (f := 0) d_Body_newLocal_9 q1 (by decide) rfl (by decide) (k1 157 rfl rfl) rfl e7 ?_
  obtain ⟨q8, hG⟩ := ck_s hF; clear hF
  refine bT_c hG (fun x12 H11 z9 er => ?_) (fun v10 H11 z9 hF => ?_)
  · subst er
    have mz : Mo H H11 := (m_Lexer_takeName z9)
    have ml := mz.len
    have m2 := mz.2
    have hC9 : H11.sh.length ≤ c0 + C := hC
    have hS9 : H11.sl ≤ s0 + Sl := hS
    refine hp_callV_t (x := x12) (H1 := H11) (As := []) (rest := []) d_Body_newLocal_12 (k_Lexer_takeName z9 (C := H11.sh.length - H.sh.length) (Sl := H11.sl - H.sl) (by show H11.sh.length ≤ _; omega) (by show H11.sl ≤ _; omega)) (ab_mkC s_Lexer_takeName (Nat.le_of_ble_eq_true rfl) (Nat.le_of_ble_eq_true rfl) (show (H.sh.length - c0) + (H11.sh.length - H.sh.length) ≤ C from by omega) (show (H.sl - s0) + (H11.sl - H.sl) ≤ Sl from by omega)) (k5 134 rfl rfl) i_Lexer_takeName v_Lexer_takeName q8 (by decide) rfl rfl (Nat.le_of_ble_eq_true rfl) ?_
    exact ab_U_out rfl (by show _ + (H11.sh.length - H.sh.length) ≤ C; omega) (by show _ + (H11.sl - H.sl) ≤ Sl; omega) ⟨rfl, rfl⟩
  clear hG
  have mz_1 : Mo H H11 := (m_Lexer_takeName z9)
  have b_2l := (mz_1).len
  have b_2s := (mz_1).2
  have b_2c : c0 ≤ H11.sh.length := by omega
  have b_2d : s0 ≤ H11.sl := by omega
  have q_3 := (mz_1).get q1
  have q_4 := (mz_1).get q4
  have q_5 := (mz_1).get q8
  have mf_6 : Mo H11 r.2 := by
    have hm := Mo.rf H11
    obtain ⟨a13, ea13, hG⟩ := on_s hF; clear hF
    subst ea13
    obtain ⟨x14, -, hF⟩ := bnd_g hG; clear hG
    rcases ite_s hF with ⟨q_7, hG⟩ | ⟨q_7, hG⟩
    · clear hF
      exact hm.tr (mB_Body_newLocal_34 hG)
    · clear hF
      obtain ⟨a46, e47, hF⟩ := rf_s hG; clear hG
      obtain ⟨q48, hG⟩ := ck_s hF; clear hF
      refine bT_c hG (fun x52 H51 z49 er => ?_) (fun v50 H51 z49 hF => ?_)
      · subst er; exact hm.tr (m_Lexer_refuse z49)
      clear hG
      replace hm : Mo H11 H51 := hm.tr (m_Lexer_refuse z49)
      exact hm.tr (mB_Body_newLocal_34 hF)
  have b_2m := (mf_6).len
  have b_2n := (mf_6).2
  have b_2p : H11.sh.length ≤ c0 + C := by omega
  have b_2q : H11.sl ≤ s0 + Sl := by omega
  refine hp_callV_a (v := ab_rf v10) (H1 := H11) (As := []) (rest := []) d_Body_newLocal_12 (k_Lexer_takeName z9 (C := H11.sh.length - H.sh.length) (Sl := H11.sl - H.sl) (by show H11.sh.length ≤ _; omega) (by show H11.sl ≤ _; omega)) (ab_mkC s_Lexer_takeName (Nat.le_of_ble_eq_true rfl) (Nat.le_of_ble_eq_true rfl) (show (H.sh.length - c0) + (H11.sh.length - H.sh.length) ≤ C from by omega) (show (H.sl - s0) + (H11.sl - H.sl) ≤ Sl from by omega)) (k5 134 rfl rfl) i_Lexer_takeName v_Lexer_takeName q8 (by decide) rfl rfl (Nat.le_of_ble_eq_true rfl) ?_
  refine ab_widen (cells' := H11.sh.length - c0) (slots' := H11.sl - s0) (by show _ + (H11.sh.length - H.sh.length) ≤ _; omega) (by show _ + (H11.sl - H.sl) ≤ _; omega) ?_
  clear b_2l b_2s b_2m b_2n
  obtain ⟨a13, ea13, hG⟩ := on_s hF; clear hF
  subst ea13
  refine ab_astore_n (lv' := [some (.ref p0), some (.int x5), some (.ref a13)]) d_Body_newLocal_15 rfl (by decide) rfl rfl ?_
  refine ab_aload_n d_Body_newLocal_16 rfl rfl rfl ?_
  refine hp_getI (f := 3) d_Body_newLocal_17 q_3 (by decide) rfl (by decide) (k1 160 rfl rfl) rfl ?_
  refine ab_topi (fun x14 ex14 => ?_)
  replace hG := bnd_s ex14 hG
  refine ab_bipush (v := 12) d_Body_newLocal_20 (by decide) ?_
  refine ab_icmp_lt (tgt := 34) d_Body_newLocal_22 (by decide) (fun q15 => ?_) (fun q15 => ?_)
  · rw [if_pos q15] at hG
    exact kB_Body_newLocal_34 hG b_2c b_2d b_2p b_2q hC hS
  · rw [if_neg q15] at hG
    refine ab_aload_n d_Body_newLocal_25 rfl rfl rfl ?_
    obtain ⟨a16, e17, hF⟩ := rf_s hG; clear hG
    refine hp_getR (f := 0) d_Body_newLocal_26 q_3 (by decide) rfl (by decide) (k1 157 rfl rfl) rfl e17 ?_
    refine ab_iconst (v := 2) d_Body_newLocal_29 (by decide) ?_
    refine ab_iload_n d_Body_newLocal_30 rfl rfl ?_
    obtain ⟨q18, hG⟩ := ck_s hF; clear hF
    refine bT_c hG (fun x22 H21 z19 er => ?_) (fun v20 H21 z19 hF => ?_)
    · subst er
      have mz : Mo H11 H21 := (m_Lexer_refuse z19)
      have ml := mz.len
      have m2 := mz.2
      have hC9 : H21.sh.length ≤ c0 + C := hC
      have hS9 : H21.sl ≤ s0 + Sl := hS
      refine hp_callV_t (x := x22) (H1 := H21) (As := [.int 2, .int x5]) (rest := []) d_Body_newLocal_31 (k_Lexer_refuse z19 (C := H21.sh.length - H11.sh.length) (Sl := H21.sl - H11.sl) (by show H21.sh.length ≤ _; omega) (by show H21.sl ≤ _; omega)) (ab_mkC s_Lexer_refuse (Nat.le_of_ble_eq_true rfl) (Nat.le_of_ble_eq_true rfl) (show (H11.sh.length - c0) + (H21.sh.length - H11.sh.length) ≤ C from by omega) (show (H11.sl - s0) + (H21.sl - H11.sl) ≤ Sl from by omega)) (k5 135 rfl rfl) i_Lexer_refuse v_Lexer_refuse q18 (by decide) rfl rfl (Nat.le_of_ble_eq_true rfl) ?_
      exact ab_U_out rfl (by show _ + (H21.sh.length - H11.sh.length) ≤ C; omega) (by show _ + (H21.sl - H11.sl) ≤ Sl; omega) ⟨rfl, rfl⟩
    clear hG
    have mz_24 : Mo H11 H21 := (m_Lexer_refuse z19)
    have b_25l := (mz_24).len
    have b_25s := (mz_24).2
    have b_25c : c0 ≤ H21.sh.length := by omega
    have b_25d : s0 ≤ H21.sl := by omega
    have q_26 := (mz_24).get q_3
    have q_27 := (mz_24).get q_4
    have q_28 := (mz_24).get q_5
    have q_29 := (mz_24).get q18
    have fH21 : Mo H21 r.2 := by
      have hm := Mo.rf H21
      exact hm.tr (mB_Body_newLocal_34 hF)
    have b_25m := (fH21).len
    have b_25n := (fH21).2
    have b_25p : H21.sh.length ≤ c0 + C := by omega
    have b_25q : H21.sl ≤ s0 + Sl := by omega
    refine hp_callV_v (H1 := H21) (As := [.int 2, .int x5]) (rest := []) d_Body_newLocal_31 (k_Lexer_refuse z19 (C := H21.sh.length - H11.sh.length) (Sl := H21.sl - H11.sl) (by show H21.sh.length ≤ _; omega) (by show H21.sl ≤ _; omega)) (ab_mkC s_Lexer_refuse (Nat.le_of_ble_eq_true rfl) (Nat.le_of_ble_eq_true rfl) (show (H11.sh.length - c0) + (H21.sh.length - H11.sh.length) ≤ C from by omega) (show (H11.sl - s0) + (H21.sl - H11.sl) ≤ Sl from by omega)) (k5 135 rfl rfl) i_Lexer_refuse v_Lexer_refuse q18 (by decide) rfl rfl (Nat.le_of_ble_eq_true rfl) ?_
    refine ab_widen (cells' := H21.sh.length - c0) (slots' := H21.sl - s0) (by show _ + (H21.sh.length - H11.sh.length) ≤ _; omega) (by show _ + (H21.sl - H11.sl) ≤ _; omega) ?_
    clear b_25l b_25s b_25m b_25n b_2c b_2d b_2p b_2q
    exact kB_Body_newLocal_34 hF b_25c b_25d b_25p b_25q hC hS
