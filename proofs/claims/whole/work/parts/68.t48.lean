def y_MText_eventMemberOf : ab_Y := (⟨"WorldEngineModel$Text", "eventMemberOf", "(II)I"⟩, prog_16_method_30_code, 4, (some FieldType.int), [])
theorem d_MText_eventMemberOf_0 : decode y_MText_eventMemberOf.2.1 0 = .ok (.iconst 0, 1) := by decide +kernel
theorem d_MText_eventMemberOf_1 : decode y_MText_eventMemberOf.2.1 1 = .ok (.istore_n 3, 1) := by decide +kernel
theorem d_MText_eventMemberOf_2 : decode y_MText_eventMemberOf.2.1 2 = .ok (.iload_n 3, 1) := by decide +kernel
theorem d_MText_eventMemberOf_3 : decode y_MText_eventMemberOf.2.1 3 = .ok (.aload_n 0, 1) := by decide +kernel
theorem d_MText_eventMemberOf_4 : decode y_MText_eventMemberOf.2.1 4 = .ok (.getfield 59, 3) := by decide +kernel
theorem d_MText_eventMemberOf_7 : decode y_MText_eventMemberOf.2.1 7 = .ok (.iload_n 1, 1) := by decide +kernel
theorem d_MText_eventMemberOf_8 : decode y_MText_eventMemberOf.2.1 8 = .ok (.iaload, 1) := by decide +kernel
theorem d_MText_eventMemberOf_9 : decode y_MText_eventMemberOf.2.1 9 = .ok (.if_icmp .ge 30, 3) := by decide +kernel
theorem d_MText_eventMemberOf_12 : decode y_MText_eventMemberOf.2.1 12 = .ok (.aload_n 0, 1) := by decide +kernel
theorem d_MText_eventMemberOf_13 : decode y_MText_eventMemberOf.2.1 13 = .ok (.aload_n 0, 1) := by decide +kernel
theorem d_MText_eventMemberOf_14 : decode y_MText_eventMemberOf.2.1 14 = .ok (.getfield 65, 3) := by decide +kernel
theorem d_MText_eventMemberOf_17 : decode y_MText_eventMemberOf.2.1 17 = .ok (.iconst 4, 1) := by decide +kernel
theorem d_MText_eventMemberOf_18 : decode y_MText_eventMemberOf.2.1 18 = .ok (.iload_n 1, 1) := by decide +kernel
theorem d_MText_eventMemberOf_19 : decode y_MText_eventMemberOf.2.1 19 = .ok (.imul, 1) := by decide +kernel
theorem d_MText_eventMemberOf_20 : decode y_MText_eventMemberOf.2.1 20 = .ok (.iload_n 3, 1) := by decide +kernel
theorem d_MText_eventMemberOf_21 : decode y_MText_eventMemberOf.2.1 21 = .ok (.iadd, 1) := by decide +kernel
theorem d_MText_eventMemberOf_22 : decode y_MText_eventMemberOf.2.1 22 = .ok (.iaload, 1) := by decide +kernel
theorem d_MText_eventMemberOf_23 : decode y_MText_eventMemberOf.2.1 23 = .ok (.aload_n 0, 1) := by decide +kernel
theorem d_MText_eventMemberOf_24 : decode y_MText_eventMemberOf.2.1 24 = .ok (.iload_n 2, 1) := by decide +kernel
theorem d_MText_eventMemberOf_25 : decode y_MText_eventMemberOf.2.1 25 = .ok (.invokevirtual 170, 3) := by decide +kernel
theorem d_MText_eventMemberOf_28 : decode y_MText_eventMemberOf.2.1 28 = .ok (.ifCond .eq 5, 3) := by decide +kernel
theorem d_MText_eventMemberOf_31 : decode y_MText_eventMemberOf.2.1 31 = .ok (.iload_n 3, 1) := by decide +kernel
theorem d_MText_eventMemberOf_32 : decode y_MText_eventMemberOf.2.1 32 = .ok (.ireturn, 1) := by decide +kernel
theorem d_MText_eventMemberOf_33 : decode y_MText_eventMemberOf.2.1 33 = .ok (.iinc 3 1, 3) := by decide +kernel
theorem d_MText_eventMemberOf_36 : decode y_MText_eventMemberOf.2.1 36 = .ok (.goto (-34), 3) := by decide +kernel
theorem d_MText_eventMemberOf_39 : decode y_MText_eventMemberOf.2.1 39 = .ok (.iconst (-1), 1) := by decide +kernel
theorem d_MText_eventMemberOf_40 : decode y_MText_eventMemberOf.2.1 40 = .ok (.ireturn, 1) := by decide +kernel
theorem s_MText_eventMemberOf : ab_Stat y_MText_eventMemberOf 2 := ⟨(k10 211 rfl rfl), (k1 20 rfl rfl), ⟨by decide, by decide⟩, by decide +kernel⟩
theorem i_MText_eventMemberOf : Cond.instanceMethod y_MText_eventMemberOf.1 ∈ ab_T := (k10 210 rfl rfl)
theorem v_MText_eventMemberOf : Cond.selects "WorldEngineModel$Text" y_MText_eventMemberOf.1 y_MText_eventMemberOf.1 ∈ ab_T := ab_s (List.mem_of_getElem? (i := 127) rfl) rfl
def B_MText_eventMemberOf_2 (N : Nat) (p0 : Nat) (p1 : Int32) (p2 : Int32) : Nat → Int32 → Hp → Option (Int32 × Hp)
  | 0, _, _ => none
  | n + 1, l3, H =>
    ck (H.sh[p0]? = some (14, 0)) <|
    rf (H.P p0 23) fun a2 =>
    ar H 100 a2 fun n4 =>
    ck (inb p1 n4) <|
    bnd ((H.D a2 (p1).toNatClampNeg)) fun x7 =>
    if x7 ≤ l3 then
    some ((-1), H)
    else
    rf (H.P p0 25) fun a9 =>
    ar H 100 a9 fun n11 =>
    ck (inb (((4 : Int32) * p1) + l3) n11) <|
    bnd ((H.D a9 ((((4 : Int32) * p1) + l3)).toNatClampNeg)) fun x14 =>
    bC (F_MText_isSame N p0 x14 p0 p2 H) fun v16 H17 =>
    if v16 = (0 : Int32) then
    B_MText_eventMemberOf_2 N p0 p1 p2 n (l3 + 1) H17
    else
    some (l3, H17)
termination_by structural n => n
set_option maxRecDepth 20000 in
set_option maxHeartbeats 2000000 in
theorem mB_MText_eventMemberOf_2 {N : Nat} {p0 : Nat} {p1 : Int32} {p2 : Int32} : ∀ (n : Nat) (l3 : Int32) (H : Hp) (r : Int32 × Hp), B_MText_eventMemberOf_2 N p0 p1 p2 n l3 H = some r → Sa H r.2 := by
  intro n
  induction n with
  | zero => intro l3 H r hF; rw [B_MText_eventMemberOf_2] at hF; cases hF
  | succ n ih =>
    intro l3 H r hF
    rw [B_MText_eventMemberOf_2] at hF
    have hm := Sa.rf H
    obtain ⟨q19, hG⟩ := ck_s hF; clear hF
    obtain ⟨a20, e21, hF⟩ := rf_s hG; clear hG
    obtain ⟨n22, q23, hG⟩ := ar_s hF; clear hF
    obtain ⟨q24, hF⟩ := ck_s hG; clear hG
    obtain ⟨x25, -, hG⟩ := bnd_g hF; clear hF
    rcases ite_s hG with ⟨q_2, hF⟩ | ⟨q_2, hF⟩
    · clear hG
      have hr := Option.some.inj hF; subst hr
      exact hm
    · clear hG
      obtain ⟨a27, e28, hG⟩ := rf_s hF; clear hF
      obtain ⟨n29, q30, hF⟩ := ar_s hG; clear hG
      obtain ⟨q31, hG⟩ := ck_s hF; clear hF
      obtain ⟨x32, -, hF⟩ := bnd_g hG; clear hG
      obtain ⟨v34, H35, z33, hG⟩ := bC_s hF; clear hF
      replace hm : Sa H H35 := hm.tr (m_MText_isSame z33)
      rcases ite_s hG with ⟨q_4, hF⟩ | ⟨q_4, hF⟩
      · clear hG
        exact hm.tr (ih (l3 + 1) H35 r hF)
      · clear hG
        have hr := Option.some.inj hF; subst hr
        exact hm
set_option maxRecDepth 20000 in
set_option maxHeartbeats 2000000 in
theorem kB_MText_eventMemberOf_2 {N : Nat} {p0 : Nat} {p1 : Int32} {p2 : Int32} : ∀ (n : Nat) (l3 : Int32) (H : Hp) (r : Int32 × Hp), B_MText_eventMemberOf_2 N p0 p1 p2 n l3 H = some r → ab_V y_MText_eventMemberOf { frames := 1, cells := 0, slots := 0, locals := 25 } (po (.returned (some (.int r.1))) r.2) 0 0 0 0 2 [some (.ref p0), some (.int p1), some (.int p2), some (.int l3)] [] (hpw H) := by
  intro n
  induction n with
  | zero => intro l3 H r hF; rw [B_MText_eventMemberOf_2] at hF; cases hF
  | succ n ih =>
    intro l3 H r hF
    rw [B_MText_eventMemberOf_2] at hF
    refine ab_iload_n d_MText_eventMemberOf_2 rfl rfl ?_
    refine ab_aload_n d_MText_eventMemberOf_3 rfl rfl rfl ?_
    obtain ⟨q1, hG⟩ := ck_s hF; clear hF
    obtain ⟨a2, e3, hF⟩ := rf_s hG; clear hG
    refine hp_getR (f := 23) d_MText_eventMemberOf_4 q1 (by decide) rfl (by decide) (k8 198 rfl rfl) rfl e3 ?_
    refine ab_iload_n d_MText_eventMemberOf_7 rfl rfl ?_
    obtain ⟨n4, q5, hG⟩ := ar_s hF; clear hF
    obtain ⟨q6, hF⟩ := ck_s hG; clear hG
    refine hp_iald d_MText_eventMemberOf_8 tI q5 q6 ?_
    refine ab_topi (fun x7 ex7 => ?_)
    replace hF := bnd_s ex7 hF
    refine ab_icmp_ge (tgt := 39) d_MText_eventMemberOf_9 (by decide) (fun q8 => ?_) (fun q8 => ?_)
    · rw [if_pos q8] at hF
      refine ab_iconst (v := (-1)) d_MText_eventMemberOf_39 (by decide) ?_
      exact ab_iret d_MText_eventMemberOf_40 rfl (Nat.le_refl _) (Nat.le_refl _) (by have hr := Option.some.inj hF; subst hr; exact ⟨rfl, rfl⟩)
    · rw [if_neg q8] at hF
      refine ab_aload_n d_MText_eventMemberOf_12 rfl rfl rfl ?_
      refine ab_aload_n d_MText_eventMemberOf_13 rfl rfl rfl ?_
      obtain ⟨a9, e10, hG⟩ := rf_s hF; clear hF
      refine hp_getR (f := 25) d_MText_eventMemberOf_14 q1 (by decide) rfl (by decide) (k8 204 rfl rfl) rfl e10 ?_
      refine ab_iconst (v := 4) d_MText_eventMemberOf_17 (by decide) ?_
      refine ab_iload_n d_MText_eventMemberOf_18 rfl rfl ?_
      refine ab_imul d_MText_eventMemberOf_19 ?_
      refine ab_iload_n d_MText_eventMemberOf_20 rfl rfl ?_
      refine ab_iadd d_MText_eventMemberOf_21 ?_
      obtain ⟨n11, q12, hF⟩ := ar_s hG; clear hG
      obtain ⟨q13, hG⟩ := ck_s hF; clear hF
      refine hp_iald d_MText_eventMemberOf_22 tI q12 q13 ?_
      refine ab_topi (fun x14 ex14 => ?_)
      replace hG := bnd_s ex14 hG
      refine ab_aload_n d_MText_eventMemberOf_23 rfl rfl rfl ?_
      refine ab_iload_n d_MText_eventMemberOf_24 rfl rfl ?_
      obtain ⟨v16, H17, z15, hF⟩ := bC_s hG; clear hG
      refine hp_callV_a (v := .int v16) (H1 := H17) (As := [.int x14, .ref p0, .int p2]) (rest := []) d_MText_eventMemberOf_25 (k_MText_isSame z15) (ab_mkC s_MText_isSame (Nat.le_of_ble_eq_true rfl) (Nat.le_of_ble_eq_true rfl) (Nat.le_refl 0) (Nat.le_refl 0)) (k10 188 rfl rfl) i_MText_isSame v_MText_isSame q1 (by decide) rfl rfl (Nat.le_of_ble_eq_true rfl) ?_
      have s_1 : Sa H H17 := (m_MText_isSame z15)
      refine ab_if_eq (tgt := 33) d_MText_eventMemberOf_28 (by decide) (fun q18 => ?_) (fun q18 => ?_)
      · rw [if_pos q18] at hF
        refine ab_iinc (v := l3 + 1) (lv' := [some (.ref p0), some (.int p1), some (.int p2), some (.int (l3 + 1))]) d_MText_eventMemberOf_33 rfl rfl (by decide) rfl ?_
        refine ab_goto (tgt := 2) d_MText_eventMemberOf_36 (by decide) ?_
        exact ih (l3 + 1) H17 r hF
      · rw [if_neg q18] at hF
        refine ab_iload_n d_MText_eventMemberOf_31 rfl rfl ?_
        exact ab_iret d_MText_eventMemberOf_32 rfl (Nat.le_refl _) (Nat.le_refl _) (by have hr := Option.some.inj hF; subst hr; exact ⟨rfl, rfl⟩)
def F_MText_eventMemberOf (N : Nat) (p0 : Nat) (p1 : Int32) (p2 : Int32) (H : Hp) : Option (Int32 × Hp) :=
    B_MText_eventMemberOf_2 N p0 p1 p2 N 0 H
set_option maxRecDepth 20000 in
set_option maxHeartbeats 2000000 in
theorem m_MText_eventMemberOf {N : Nat} {p0 : Nat} {p1 : Int32} {p2 : Int32} {H : Hp} {r : Int32 × Hp} (hF : F_MText_eventMemberOf N p0 p1 p2 H = some r) : Sa H r.2 := by
  unfold F_MText_eventMemberOf at hF
  have hm := Sa.rf H
  exact hm.tr (mB_MText_eventMemberOf_2 N 0 H r hF)
set_option maxRecDepth 20000 in
set_option maxHeartbeats 2000000 in
theorem k_MText_eventMemberOf {N : Nat} {p0 : Nat} {p1 : Int32} {p2 : Int32} {H : Hp} {r : Int32 × Hp} (hF : F_MText_eventMemberOf N p0 p1 p2 H = some r) : ab_M y_MText_eventMemberOf { frames := 1, cells := 0, slots := 0, locals := 25 } [.ref p0, .int p1, .int p2] (hpw H) (po (.returned (some (.int r.1))) r.2) := by
  unfold F_MText_eventMemberOf at hF
  refine ab_of2 (lv := [some (.ref p0), some (.int p1), some (.int p2), none]) 1 rfl rfl (Nat.le_of_ble_eq_true rfl) ?_
  refine ab_iconst (v := 0) d_MText_eventMemberOf_0 (by decide) ?_
  refine ab_istore_n (lv' := [some (.ref p0), some (.int p1), some (.int p2), some (.int 0)]) d_MText_eventMemberOf_1 rfl (by decide) rfl ?_
  exact kB_MText_eventMemberOf_2 N 0 H r hF
def y_MText_event : ab_Y := (⟨"WorldEngineModel$Text", "event", "()V"⟩, prog_16_method_29_code, 6, none, [])
theorem d_MText_event_0 : decode y_MText_event.2.1 0 = .ok (.aload_n 0, 1) := by decide +kernel
theorem d_MText_event_1 : decode y_MText_event.2.1 1 = .ok (.aload_n 0, 1) := by decide +kernel
theorem d_MText_event_2 : decode y_MText_event.2.1 2 = .ok (.getfield 219, 3) := by decide +kernel
theorem d_MText_event_5 : decode y_MText_event.2.1 5 = .ok (.bipush 8, 2) := by decide +kernel
theorem d_MText_event_7 : decode y_MText_event.2.1 7 = .ok (.invokevirtual 246, 3) := by decide +kernel
theorem d_MText_event_10 : decode y_MText_event.2.1 10 = .ok (.aload_n 0, 1) := by decide +kernel
theorem d_MText_event_11 : decode y_MText_event.2.1 11 = .ok (.getfield 219, 3) := by decide +kernel
theorem d_MText_event_14 : decode y_MText_event.2.1 14 = .ok (.istore_n 1, 1) := by decide +kernel
theorem d_MText_event_15 : decode y_MText_event.2.1 15 = .ok (.aload_n 0, 1) := by decide +kernel
theorem d_MText_event_16 : decode y_MText_event.2.1 16 = .ok (.iconst 3, 1) := by decide +kernel
theorem d_MText_event_17 : decode y_MText_event.2.1 17 = .ok (.iload_n 1, 1) := by decide +kernel
theorem d_MText_event_18 : decode y_MText_event.2.1 18 = .ok (.invokevirtual 249, 3) := by decide +kernel
theorem d_MText_event_21 : decode y_MText_event.2.1 21 = .ok (.istore_n 2, 1) := by decide +kernel
theorem d_MText_event_22 : decode y_MText_event.2.1 22 = .ok (.aload_n 0, 1) := by decide +kernel
theorem d_MText_event_23 : decode y_MText_event.2.1 23 = .ok (.getfield 185, 3) := by decide +kernel
theorem d_MText_event_26 : decode y_MText_event.2.1 26 = .ok (.ifCond .le 4, 3) := by decide +kernel
theorem d_MText_event_29 : decode y_MText_event.2.1 29 = .ok (.return_, 1) := by decide +kernel
theorem d_MText_event_30 : decode y_MText_event.2.1 30 = .ok (.aload_n 0, 1) := by decide +kernel
theorem d_MText_event_31 : decode y_MText_event.2.1 31 = .ok (.getfield 56, 3) := by decide +kernel
theorem d_MText_event_34 : decode y_MText_event.2.1 34 = .ok (.iload_n 1, 1) := by decide +kernel
theorem d_MText_event_35 : decode y_MText_event.2.1 35 = .ok (.iload_n 2, 1) := by decide +kernel
theorem d_MText_event_36 : decode y_MText_event.2.1 36 = .ok (.iastore, 1) := by decide +kernel
theorem d_MText_event_37 : decode y_MText_event.2.1 37 = .ok (.aload_n 0, 1) := by decide +kernel
theorem d_MText_event_38 : decode y_MText_event.2.1 38 = .ok (.getfield 59, 3) := by decide +kernel
theorem d_MText_event_41 : decode y_MText_event.2.1 41 = .ok (.iload_n 1, 1) := by decide +kernel
theorem d_MText_event_42 : decode y_MText_event.2.1 42 = .ok (.iconst 0, 1) := by decide +kernel
theorem d_MText_event_43 : decode y_MText_event.2.1 43 = .ok (.iastore, 1) := by decide +kernel
theorem d_MText_event_44 : decode y_MText_event.2.1 44 = .ok (.aload_n 0, 1) := by decide +kernel
theorem d_MText_event_45 : decode y_MText_event.2.1 45 = .ok (.dup, 1) := by decide +kernel
theorem d_MText_event_46 : decode y_MText_event.2.1 46 = .ok (.getfield 219, 3) := by decide +kernel
theorem d_MText_event_49 : decode y_MText_event.2.1 49 = .ok (.iconst 1, 1) := by decide +kernel
theorem d_MText_event_50 : decode y_MText_event.2.1 50 = .ok (.iadd, 1) := by decide +kernel
theorem d_MText_event_51 : decode y_MText_event.2.1 51 = .ok (.putfield 219, 3) := by decide +kernel
theorem d_MText_event_54 : decode y_MText_event.2.1 54 = .ok (.aload_n 0, 1) := by decide +kernel
theorem d_MText_event_55 : decode y_MText_event.2.1 55 = .ok (.bipush 40, 2) := by decide +kernel
theorem d_MText_event_57 : decode y_MText_event.2.1 57 = .ok (.invokevirtual 204, 3) := by decide +kernel
theorem d_MText_event_60 : decode y_MText_event.2.1 60 = .ok (.aload_n 0, 1) := by decide +kernel
theorem d_MText_event_61 : decode y_MText_event.2.1 61 = .ok (.bipush 41, 2) := by decide +kernel
theorem d_MText_event_63 : decode y_MText_event.2.1 63 = .ok (.invokevirtual 194, 3) := by decide +kernel
theorem d_MText_event_66 : decode y_MText_event.2.1 66 = .ok (.ifCond .ne 7, 3) := by decide +kernel
theorem d_MText_event_69 : decode y_MText_event.2.1 69 = .ok (.iconst 1, 1) := by decide +kernel
theorem d_MText_event_70 : decode y_MText_event.2.1 70 = .ok (.goto 4, 3) := by decide +kernel
theorem d_MText_event_73 : decode y_MText_event.2.1 73 = .ok (.iconst 0, 1) := by decide +kernel
theorem d_MText_event_74 : decode y_MText_event.2.1 74 = .ok (.istore_n 3, 1) := by decide +kernel
theorem d_MText_event_75 : decode y_MText_event.2.1 75 = .ok (.aload_n 0, 1) := by decide +kernel
theorem d_MText_event_76 : decode y_MText_event.2.1 76 = .ok (.getfield 185, 3) := by decide +kernel
theorem d_MText_event_79 : decode y_MText_event.2.1 79 = .ok (.ifCond .ne 131, 3) := by decide +kernel
theorem d_MText_event_82 : decode y_MText_event.2.1 82 = .ok (.iload_n 3, 1) := by decide +kernel
theorem d_MText_event_83 : decode y_MText_event.2.1 83 = .ok (.ifCond .eq 127, 3) := by decide +kernel
theorem d_MText_event_86 : decode y_MText_event.2.1 86 = .ok (.aload_n 0, 1) := by decide +kernel
theorem d_MText_event_87 : decode y_MText_event.2.1 87 = .ok (.invokevirtual 208, 3) := by decide +kernel
theorem d_MText_event_90 : decode y_MText_event.2.1 90 = .ok (.ifCond .eq 22, 3) := by decide +kernel
theorem d_MText_event_93 : decode y_MText_event.2.1 93 = .ok (.aload_n 0, 1) := by decide +kernel
theorem d_MText_event_94 : decode y_MText_event.2.1 94 = .ok (.getfield 59, 3) := by decide +kernel
theorem d_MText_event_97 : decode y_MText_event.2.1 97 = .ok (.iload_n 1, 1) := by decide +kernel
theorem d_MText_event_98 : decode y_MText_event.2.1 98 = .ok (.iaload, 1) := by decide +kernel
theorem d_MText_event_99 : decode y_MText_event.2.1 99 = .ok (.iconst 4, 1) := by decide +kernel
theorem d_MText_event_100 : decode y_MText_event.2.1 100 = .ok (.if_icmp .ne 12, 3) := by decide +kernel
theorem d_MText_event_103 : decode y_MText_event.2.1 103 = .ok (.aload_n 0, 1) := by decide +kernel
theorem d_MText_event_104 : decode y_MText_event.2.1 104 = .ok (.iconst 2, 1) := by decide +kernel
theorem d_MText_event_105 : decode y_MText_event.2.1 105 = .ok (.aload_n 0, 1) := by decide +kernel
theorem d_MText_event_106 : decode y_MText_event.2.1 106 = .ok (.getfield 191, 3) := by decide +kernel
theorem d_MText_event_109 : decode y_MText_event.2.1 109 = .ok (.invokevirtual 200, 3) := by decide +kernel
theorem d_MText_event_112 : decode y_MText_event.2.1 112 = .ok (.aload_n 0, 1) := by decide +kernel
theorem d_MText_event_113 : decode y_MText_event.2.1 113 = .ok (.invokevirtual 253, 3) := by decide +kernel
theorem d_MText_event_116 : decode y_MText_event.2.1 116 = .ok (.istore 4, 2) := by decide +kernel
theorem d_MText_event_118 : decode y_MText_event.2.1 118 = .ok (.aload_n 0, 1) := by decide +kernel
theorem d_MText_event_119 : decode y_MText_event.2.1 119 = .ok (.invokevirtual 240, 3) := by decide +kernel
theorem d_MText_event_122 : decode y_MText_event.2.1 122 = .ok (.istore 5, 2) := by decide +kernel
theorem d_MText_event_124 : decode y_MText_event.2.1 124 = .ok (.aload_n 0, 1) := by decide +kernel
theorem d_MText_event_125 : decode y_MText_event.2.1 125 = .ok (.getfield 185, 3) := by decide +kernel
theorem d_MText_event_128 : decode y_MText_event.2.1 128 = .ok (.ifCond .ne 20, 3) := by decide +kernel
theorem d_MText_event_131 : decode y_MText_event.2.1 131 = .ok (.aload_n 0, 1) := by decide +kernel
theorem d_MText_event_132 : decode y_MText_event.2.1 132 = .ok (.iload_n 1, 1) := by decide +kernel
theorem d_MText_event_133 : decode y_MText_event.2.1 133 = .ok (.iload 5, 2) := by decide +kernel
theorem d_MText_event_135 : decode y_MText_event.2.1 135 = .ok (.invokevirtual 260, 3) := by decide +kernel
theorem d_MText_event_138 : decode y_MText_event.2.1 138 = .ok (.ifCond .lt 10, 3) := by decide +kernel
theorem d_MText_event_141 : decode y_MText_event.2.1 141 = .ok (.aload_n 0, 1) := by decide +kernel
theorem d_MText_event_142 : decode y_MText_event.2.1 142 = .ok (.iconst 3, 1) := by decide +kernel
theorem d_MText_event_143 : decode y_MText_event.2.1 143 = .ok (.iload 5, 2) := by decide +kernel
theorem d_MText_event_145 : decode y_MText_event.2.1 145 = .ok (.invokevirtual 200, 3) := by decide +kernel
theorem d_MText_event_148 : decode y_MText_event.2.1 148 = .ok (.aload_n 0, 1) := by decide +kernel
theorem d_MText_event_149 : decode y_MText_event.2.1 149 = .ok (.getfield 185, 3) := by decide +kernel
theorem d_MText_event_152 : decode y_MText_event.2.1 152 = .ok (.ifCond .le 4, 3) := by decide +kernel
theorem d_MText_event_155 : decode y_MText_event.2.1 155 = .ok (.return_, 1) := by decide +kernel
theorem d_MText_event_156 : decode y_MText_event.2.1 156 = .ok (.aload_n 0, 1) := by decide +kernel
theorem d_MText_event_157 : decode y_MText_event.2.1 157 = .ok (.getfield 62, 3) := by decide +kernel
theorem d_MText_event_160 : decode y_MText_event.2.1 160 = .ok (.iconst 4, 1) := by decide +kernel
theorem d_MText_event_161 : decode y_MText_event.2.1 161 = .ok (.iload_n 1, 1) := by decide +kernel
theorem d_MText_event_162 : decode y_MText_event.2.1 162 = .ok (.imul, 1) := by decide +kernel
theorem d_MText_event_163 : decode y_MText_event.2.1 163 = .ok (.aload_n 0, 1) := by decide +kernel
theorem d_MText_event_164 : decode y_MText_event.2.1 164 = .ok (.getfield 59, 3) := by decide +kernel
theorem d_MText_event_167 : decode y_MText_event.2.1 167 = .ok (.iload_n 1, 1) := by decide +kernel
theorem d_MText_event_168 : decode y_MText_event.2.1 168 = .ok (.iaload, 1) := by decide +kernel
theorem d_MText_event_169 : decode y_MText_event.2.1 169 = .ok (.iadd, 1) := by decide +kernel
theorem d_MText_event_170 : decode y_MText_event.2.1 170 = .ok (.iload 4, 2) := by decide +kernel
theorem d_MText_event_172 : decode y_MText_event.2.1 172 = .ok (.iastore, 1) := by decide +kernel
theorem d_MText_event_173 : decode y_MText_event.2.1 173 = .ok (.aload_n 0, 1) := by decide +kernel
theorem d_MText_event_174 : decode y_MText_event.2.1 174 = .ok (.getfield 65, 3) := by decide +kernel
theorem d_MText_event_177 : decode y_MText_event.2.1 177 = .ok (.iconst 4, 1) := by decide +kernel
theorem d_MText_event_178 : decode y_MText_event.2.1 178 = .ok (.iload_n 1, 1) := by decide +kernel
theorem d_MText_event_179 : decode y_MText_event.2.1 179 = .ok (.imul, 1) := by decide +kernel
theorem d_MText_event_180 : decode y_MText_event.2.1 180 = .ok (.aload_n 0, 1) := by decide +kernel
theorem d_MText_event_181 : decode y_MText_event.2.1 181 = .ok (.getfield 59, 3) := by decide +kernel
theorem d_MText_event_184 : decode y_MText_event.2.1 184 = .ok (.iload_n 1, 1) := by decide +kernel
theorem d_MText_event_185 : decode y_MText_event.2.1 185 = .ok (.iaload, 1) := by decide +kernel
theorem d_MText_event_186 : decode y_MText_event.2.1 186 = .ok (.iadd, 1) := by decide +kernel
theorem d_MText_event_187 : decode y_MText_event.2.1 187 = .ok (.iload 5, 2) := by decide +kernel
theorem d_MText_event_189 : decode y_MText_event.2.1 189 = .ok (.iastore, 1) := by decide +kernel
theorem d_MText_event_190 : decode y_MText_event.2.1 190 = .ok (.aload_n 0, 1) := by decide +kernel
theorem d_MText_event_191 : decode y_MText_event.2.1 191 = .ok (.getfield 59, 3) := by decide +kernel
theorem d_MText_event_194 : decode y_MText_event.2.1 194 = .ok (.iload_n 1, 1) := by decide +kernel
theorem d_MText_event_195 : decode y_MText_event.2.1 195 = .ok (.dup2, 1) := by decide +kernel
theorem d_MText_event_196 : decode y_MText_event.2.1 196 = .ok (.iaload, 1) := by decide +kernel
theorem d_MText_event_197 : decode y_MText_event.2.1 197 = .ok (.iconst 1, 1) := by decide +kernel
theorem d_MText_event_198 : decode y_MText_event.2.1 198 = .ok (.iadd, 1) := by decide +kernel
theorem d_MText_event_199 : decode y_MText_event.2.1 199 = .ok (.iastore, 1) := by decide +kernel
theorem d_MText_event_200 : decode y_MText_event.2.1 200 = .ok (.aload_n 0, 1) := by decide +kernel
theorem d_MText_event_201 : decode y_MText_event.2.1 201 = .ok (.bipush 44, 2) := by decide +kernel
theorem d_MText_event_203 : decode y_MText_event.2.1 203 = .ok (.invokevirtual 197, 3) := by decide +kernel
theorem d_MText_event_206 : decode y_MText_event.2.1 206 = .ok (.istore_n 3, 1) := by decide +kernel
theorem d_MText_event_207 : decode y_MText_event.2.1 207 = .ok (.goto (-132), 3) := by decide +kernel
theorem d_MText_event_210 : decode y_MText_event.2.1 210 = .ok (.aload_n 0, 1) := by decide +kernel
theorem d_MText_event_211 : decode y_MText_event.2.1 211 = .ok (.bipush 41, 2) := by decide +kernel
theorem d_MText_event_213 : decode y_MText_event.2.1 213 = .ok (.invokevirtual 204, 3) := by decide +kernel
theorem d_MText_event_216 : decode y_MText_event.2.1 216 = .ok (.aload_n 0, 1) := by decide +kernel
theorem d_MText_event_217 : decode y_MText_event.2.1 217 = .ok (.bipush 59, 2) := by decide +kernel
theorem d_MText_event_219 : decode y_MText_event.2.1 219 = .ok (.invokevirtual 204, 3) := by decide +kernel
theorem d_MText_event_222 : decode y_MText_event.2.1 222 = .ok (.return_, 1) := by decide +kernel
theorem s_MText_event : ab_Stat y_MText_event 0 := ⟨(k10 207 rfl rfl), (k1 20 rfl rfl), ⟨by decide, by decide⟩, by decide +kernel⟩
theorem i_MText_event : Cond.instanceMethod y_MText_event.1 ∈ ab_T := (k10 206 rfl rfl)
theorem v_MText_event : Cond.selects "WorldEngineModel$Text" y_MText_event.1 y_MText_event.1 ∈ ab_T := ab_s (List.mem_of_getElem? (i := 126) rfl) rfl
def B_MText_event_210 (N : Nat) (p0 : Nat)  (H : Hp) : Option (Unit × Hp) :=
    ck (H.sh[p0]? = some (14, 0)) <|
    bC (F_MText_takes N p0 (41 : Int32) H) fun v38 H39 =>
    bC (F_MText_takes N p0 (59 : Int32) H39) fun v41 H42 =>
    some ((), H42)
set_option maxRecDepth 20000 in
set_option maxHeartbeats 2000000 in
theorem mB_MText_event_210 {N : Nat} {p0 : Nat}  {H : Hp} {r : Unit × Hp} (hF : B_MText_event_210 N p0  H = some r) : Sa H r.2 := by
  unfold B_MText_event_210 at hF
  have hm := Sa.rf H
  obtain ⟨q43, hG⟩ := ck_s hF; clear hF
  obtain ⟨v45, H46, z44, hF⟩ := bC_s hG; clear hG
  replace hm : Sa H H46 := hm.tr (m_MText_takes z44)
  obtain ⟨v48, H49, z47, hG⟩ := bC_s hF; clear hF
  replace hm : Sa H H49 := hm.tr (m_MText_takes z47)
  have hr := Option.some.inj hG; subst hr
  exact hm
set_option maxRecDepth 20000 in
set_option maxHeartbeats 2000000 in
theorem kB_MText_event_210 {N : Nat} {p0 : Nat}  {H : Hp} {r : Unit × Hp} (hF : B_MText_event_210 N p0  H = some r) : ab_V y_MText_event { frames := 5, cells := 0, slots := 0, locals := 108 } (po (.returned none) r.2) 0 0 0 0 210 [some (.ref p0), none, none, none, none, none] [] (hpw H) := by
  unfold B_MText_event_210 at hF
  refine ab_aload_n d_MText_event_210 rfl rfl rfl ?_
  refine ab_bipush (v := 41) d_MText_event_211 (by decide) ?_
  obtain ⟨q36, hG⟩ := ck_s hF; clear hF
  obtain ⟨v38, H39, z37, hF⟩ := bC_s hG; clear hG
  refine hp_callV_v (H1 := H39) (As := [.int 41]) (rest := []) d_MText_event_213 (k_MText_takes z37) (ab_mkC s_MText_takes (Nat.le_of_ble_eq_true rfl) (Nat.le_of_ble_eq_true rfl) (Nat.le_refl 0) (Nat.le_refl 0)) (k10 172 rfl rfl) i_MText_takes v_MText_takes q36 (by decide) rfl rfl (Nat.le_of_ble_eq_true rfl) ?_
  have s_8 : Sa H H39 := (m_MText_takes z37)
  refine ab_aload_n d_MText_event_216 rfl rfl rfl ?_
  refine ab_bipush (v := 59) d_MText_event_217 (by decide) ?_
  obtain ⟨v41, H42, z40, hG⟩ := bC_s hF; clear hF
  refine hp_callV_v (H1 := H42) (As := [.int 59]) (rest := []) d_MText_event_219 (k_MText_takes z40) (ab_mkC s_MText_takes (Nat.le_of_ble_eq_true rfl) (Nat.le_of_ble_eq_true rfl) (Nat.le_refl 0) (Nat.le_refl 0)) (k10 172 rfl rfl) i_MText_takes v_MText_takes (by rw [(s_8).1]; exact q36) (by decide) rfl rfl (Nat.le_of_ble_eq_true rfl) ?_
  have s_9 : Sa H H42 := (s_8).tr (m_MText_takes z40)
  exact ab_vret d_MText_event_222 rfl (Nat.le_refl _) (Nat.le_refl _) (by have hr := Option.some.inj hG; subst hr; exact ⟨rfl, rfl⟩)
def B_MText_event_148 (N : Nat) (p0 : Nat) (kq75 : Int32 → Int32 → Hp → Option (Unit × Hp)) (l1 : Int32) (l4 : Int32) (l5 : Int32) (H : Hp) : Option (Unit × Hp) :=
    ck (H.sh[p0]? = some (14, 0)) <|
    bnd ((H.D p0 9)) fun x65 =>
    if x65 ≤ (0 : Int32) then
    rf (H.P p0 24) fun a67 =>
    rf (H.P p0 23) fun a69 =>
    ar H 100 a69 fun n71 =>
    ck (inb l1 n71) <|
    bnd ((H.D a69 (l1).toNatClampNeg)) fun x74 =>
    ar H 100 a67 fun n75 =>
    ck (inb (((4 : Int32) * l1) + x74) n75) <|
    bnd (H.sD a67 ((((4 : Int32) * l1) + x74)).toNatClampNeg l4) fun H78 =>
    rf (H78.P p0 25) fun a79 =>
    rf (H78.P p0 23) fun a81 =>
    ar H78 100 a81 fun n83 =>
    ck (inb l1 n83) <|
    bnd ((H78.D a81 (l1).toNatClampNeg)) fun x86 =>
    ar H78 100 a79 fun n87 =>
    ck (inb (((4 : Int32) * l1) + x86) n87) <|
    bnd (H78.sD a79 ((((4 : Int32) * l1) + x86)).toNatClampNeg l5) fun H90 =>
    rf (H90.P p0 23) fun a91 =>
    ar H90 100 a91 fun n93 =>
    ck (inb l1 n93) <|
    bnd ((H90.D a91 (l1).toNatClampNeg)) fun x96 =>
    ck (inb l1 n93) <|
    bnd (H90.sD a91 (l1).toNatClampNeg (x96 + (1 : Int32))) fun H98 =>
    bC (F_MText_accepts N p0 (44 : Int32) H98) fun v100 H101 =>
    kq75 l1 v100 H101
    else
    some ((), H)
set_option maxRecDepth 20000 in
set_option maxHeartbeats 2000000 in
theorem mB_MText_event_148 {N : Nat} {p0 : Nat} {kq75 : Int32 → Int32 → Hp → Option (Unit × Hp)} (hm75 : ∀ (l1 : Int32) (l3 : Int32) (H : Hp) (r : Unit × Hp), kq75 l1 l3 H = some r → Sa H r.2) {l1 : Int32} {l4 : Int32} {l5 : Int32} {H : Hp} {r : Unit × Hp} (hF : B_MText_event_148 N p0 kq75 l1 l4 l5 H = some r) : Sa H r.2 := by
  unfold B_MText_event_148 at hF
  have hm := Sa.rf H
  obtain ⟨q102, hG⟩ := ck_s hF; clear hF
  obtain ⟨x103, -, hF⟩ := bnd_g hG; clear hG
  rcases ite_s hF with ⟨q_19, hG⟩ | ⟨q_19, hG⟩
  · clear hF
    obtain ⟨a105, e106, hF⟩ := rf_s hG; clear hG
    obtain ⟨a107, e108, hG⟩ := rf_s hF; clear hF
    obtain ⟨n109, q110, hF⟩ := ar_s hG; clear hG
    obtain ⟨q111, hG⟩ := ck_s hF; clear hF
    obtain ⟨x112, -, hF⟩ := bnd_g hG; clear hG
    obtain ⟨n113, q114, hG⟩ := ar_s hF; clear hF
    obtain ⟨q115, hF⟩ := ck_s hG; clear hG
    obtain ⟨H116, eH116, hG⟩ := bnd_g hF; clear hF
    replace hm : Sa H H116 := by rw [eH116]; exact hm
    obtain ⟨a117, e118, hF⟩ := rf_s hG; clear hG
    obtain ⟨a119, e120, hG⟩ := rf_s hF; clear hF
    obtain ⟨n121, q122, hF⟩ := ar_s hG; clear hG
    obtain ⟨q123, hG⟩ := ck_s hF; clear hF
    obtain ⟨x124, -, hF⟩ := bnd_g hG; clear hG
    obtain ⟨n125, q126, hG⟩ := ar_s hF; clear hF
    obtain ⟨q127, hF⟩ := ck_s hG; clear hG
    obtain ⟨H128, eH128, hG⟩ := bnd_g hF; clear hF
    replace hm : Sa H H128 := by rw [eH128]; exact hm
    obtain ⟨a129, e130, hF⟩ := rf_s hG; clear hG
    obtain ⟨n131, q132, hG⟩ := ar_s hF; clear hF
    obtain ⟨q133, hF⟩ := ck_s hG; clear hG
    obtain ⟨x134, -, hG⟩ := bnd_g hF; clear hF
    obtain ⟨q135, hF⟩ := ck_s hG; clear hG
    obtain ⟨H136, eH136, hG⟩ := bnd_g hF; clear hF
    replace hm : Sa H H136 := by rw [eH136]; exact hm
    obtain ⟨v138, H139, z137, hF⟩ := bC_s hG; clear hG
    replace hm : Sa H H139 := hm.tr (m_MText_accepts z137)
    exact hm.tr (hm75 l1 v138 H139 r hF)
  · clear hF
    have hr := Option.some.inj hG; subst hr
    exact hm
set_option maxRecDepth 20000 in
set_option maxHeartbeats 2000000 in
theorem kB_MText_event_148 {N : Nat} {p0 : Nat} {kq75 : Int32 → Int32 → Hp → Option (Unit × Hp)} (hm75 : ∀ (l1 : Int32) (l3 : Int32) (H : Hp) (r : Unit × Hp), kq75 l1 l3 H = some r → Sa H r.2) (hk75 : ∀ (l1 : Int32) (l3 : Int32) (H : Hp) (r : Unit × Hp), kq75 l1 l3 H = some r → ab_V y_MText_event { frames := 5, cells := 0, slots := 0, locals := 108 } (po (.returned none) r.2) 0 0 0 0 75 [some (.ref p0), some (.int l1), none, some (.int l3), none, none] [] (hpw H)) {l1 : Int32} {l4 : Int32} {l5 : Int32} {H : Hp} {r : Unit × Hp} (hF : B_MText_event_148 N p0 kq75 l1 l4 l5 H = some r) : ab_V y_MText_event { frames := 5, cells := 0, slots := 0, locals := 108 } (po (.returned none) r.2) 0 0 0 0 148 [some (.ref p0), some (.int l1), none, none, some (.int l4), some (.int l5)] [] (hpw H) := by
  unfold B_MText_event_148 at hF
  refine ab_aload_n d_MText_event_148 rfl rfl rfl ?_
  obtain ⟨q64, hG⟩ := ck_s hF; clear hF
  refine hp_getI (f := 9) d_MText_event_149 q64 (by decide) rfl (by decide) (k8 172 rfl rfl) rfl ?_
  refine ab_topi (fun x65 ex65 => ?_)
  replace hG := bnd_s ex65 hG
  refine ab_if_le (tgt := 156) d_MText_event_152 (by decide) (fun q66 => ?_) (fun q66 => ?_)
  · rw [if_pos q66] at hG
    refine ab_aload_n d_MText_event_156 rfl rfl rfl ?_
    obtain ⟨a67, e68, hF⟩ := rf_s hG; clear hG
    refine hp_getR (f := 24) d_MText_event_157 q64 (by decide) rfl (by decide) (k8 201 rfl rfl) rfl e68 ?_
    refine ab_iconst (v := 4) d_MText_event_160 (by decide) ?_
    refine ab_iload_n d_MText_event_161 rfl rfl ?_
    refine ab_imul d_MText_event_162 ?_
    refine ab_aload_n d_MText_event_163 rfl rfl rfl ?_
    obtain ⟨a69, e70, hG⟩ := rf_s hF; clear hF
    refine hp_getR (f := 23) d_MText_event_164 q64 (by decide) rfl (by decide) (k8 198 rfl rfl) rfl e70 ?_
    refine ab_iload_n d_MText_event_167 rfl rfl ?_
    obtain ⟨n71, q72, hF⟩ := ar_s hG; clear hG
    obtain ⟨q73, hG⟩ := ck_s hF; clear hF
    refine hp_iald d_MText_event_168 tI q72 q73 ?_
    refine ab_topi (fun x74 ex74 => ?_)
    replace hG := bnd_s ex74 hG
    refine ab_iadd d_MText_event_169 ?_
    refine ab_iload d_MText_event_170 rfl ?_
    obtain ⟨n75, q76, hF⟩ := ar_s hG; clear hG
    obtain ⟨q77, hG⟩ := ck_s hF; clear hF
    refine hp_iast d_MText_event_172 tI q76 q77 ?_
    refine hp_gen (fun H78 eH78 => ?_)
    replace hG := bnd_s eH78 hG
    have s_15 : Sa H H78 := by rw [eH78]; exact Sa.rf _
    refine ab_aload_n d_MText_event_173 rfl rfl rfl ?_
    obtain ⟨a79, e80, hF⟩ := rf_s hG; clear hG
    refine hp_getR (f := 25) d_MText_event_174 (by rw [(s_15).1]; exact q64) (by decide) rfl (by decide) (k8 204 rfl rfl) rfl e80 ?_
    refine ab_iconst (v := 4) d_MText_event_177 (by decide) ?_
    refine ab_iload_n d_MText_event_178 rfl rfl ?_
    refine ab_imul d_MText_event_179 ?_
    refine ab_aload_n d_MText_event_180 rfl rfl rfl ?_
    obtain ⟨a81, e82, hG⟩ := rf_s hF; clear hF
    refine hp_getR (f := 23) d_MText_event_181 (by rw [(s_15).1]; exact q64) (by decide) rfl (by decide) (k8 198 rfl rfl) rfl e82 ?_
    refine ab_iload_n d_MText_event_184 rfl rfl ?_
    obtain ⟨n83, q84, hF⟩ := ar_s hG; clear hG
    rw [(s_15).1] at q84
    obtain ⟨q85, hG⟩ := ck_s hF; clear hF
    refine hp_iald d_MText_event_185 tI (by rw [(s_15).1]; exact q84) q85 ?_
    refine ab_topi (fun x86 ex86 => ?_)
    replace hG := bnd_s ex86 hG
    refine ab_iadd d_MText_event_186 ?_
    refine ab_iload d_MText_event_187 rfl ?_
    obtain ⟨n87, q88, hF⟩ := ar_s hG; clear hG
    rw [(s_15).1] at q88
    obtain ⟨q89, hG⟩ := ck_s hF; clear hF
    refine hp_iast d_MText_event_189 tI (by rw [(s_15).1]; exact q88) q89 ?_
    refine hp_gen (fun H90 eH90 => ?_)
    replace hG := bnd_s eH90 hG
    have s_16 : Sa H H90 := by rw [eH90]; exact s_15
    refine ab_aload_n d_MText_event_190 rfl rfl rfl ?_
    obtain ⟨a91, e92, hF⟩ := rf_s hG; clear hG
    refine hp_getR (f := 23) d_MText_event_191 (by rw [(s_16).1]; exact q64) (by decide) rfl (by decide) (k8 198 rfl rfl) rfl e92 ?_
    refine ab_iload_n d_MText_event_194 rfl rfl ?_
    refine ab_dup2_11 d_MText_event_195 rfl rfl ?_
    obtain ⟨n93, q94, hG⟩ := ar_s hF; clear hF
    rw [(s_16).1] at q94
    obtain ⟨q95, hF⟩ := ck_s hG; clear hG
    refine hp_iald d_MText_event_196 tI (by rw [(s_16).1]; exact q94) q95 ?_
    refine ab_topi (fun x96 ex96 => ?_)
    replace hF := bnd_s ex96 hF
    refine ab_iconst (v := 1) d_MText_event_197 (by decide) ?_
    refine ab_iadd d_MText_event_198 ?_
    obtain ⟨q97, hG⟩ := ck_s hF; clear hF
    refine hp_iast d_MText_event_199 tI (by rw [(s_16).1]; exact q94) q97 ?_
    refine hp_gen (fun H98 eH98 => ?_)
    replace hG := bnd_s eH98 hG
    have s_17 : Sa H H98 := by rw [eH98]; exact s_16
    refine ab_aload_n d_MText_event_200 rfl rfl rfl ?_
    refine ab_bipush (v := 44) d_MText_event_201 (by decide) ?_
    obtain ⟨v100, H101, z99, hF⟩ := bC_s hG; clear hG
    refine hp_callV_a (v := .int v100) (H1 := H101) (As := [.int 44]) (rest := []) d_MText_event_203 (k_MText_accepts z99) (ab_mkC s_MText_accepts (Nat.le_of_ble_eq_true rfl) (Nat.le_of_ble_eq_true rfl) (Nat.le_refl 0) (Nat.le_refl 0)) (k10 176 rfl rfl) i_MText_accepts v_MText_accepts (by rw [(s_17).1]; exact q64) (by decide) rfl rfl (Nat.le_of_ble_eq_true rfl) ?_
    have s_18 : Sa H H101 := (s_17).tr (m_MText_accepts z99)
    refine ab_istore_n (lv' := [some (.ref p0), some (.int l1), none, some (.int v100), some (.int l4), some (.int l5)]) d_MText_event_206 rfl (by decide) rfl ?_
    refine ab_goto (tgt := 75) d_MText_event_207 (by decide) ?_
    refine ab_le (lv' := [some (.ref p0), some (.int l1), none, some (.int v100), none, none]) ⟨rfl, ⟨rfl, ⟨rfl, trivial⟩⟩⟩ ?_
    exact hk75 l1 v100 H101 r hF
  · rw [if_neg q66] at hG
    exact ab_vret d_MText_event_155 rfl (Nat.le_refl _) (Nat.le_refl _) (by have hr := Option.some.inj hG; subst hr; exact ⟨rfl, rfl⟩)
def B_MText_event_112 (N : Nat) (p0 : Nat) (kq75 : Int32 → Int32 → Hp → Option (Unit × Hp)) (l1 : Int32) (H : Hp) : Option (Unit × Hp) :=
    ck (H.sh[p0]? = some (14, 0)) <|
    bC (F_MText_kind N p0 H) fun v57 H58 =>
    bC (F_MText_name N p0 H58) fun v60 H61 =>
    bnd ((H61.D p0 9)) fun x62 =>
    if x62 = (0 : Int32) then
    bC (F_MText_eventMemberOf N p0 l1 v60 H61) fun v141 H142 =>
    if v141 < (0 : Int32) then
    B_MText_event_148 N p0 kq75 l1 v57 v60 H142
    else
    bC (F_MText_fails N p0 (3 : Int32) v60 H142) fun v145 H146 =>
    B_MText_event_148 N p0 kq75 l1 v57 v60 H146
    else
    B_MText_event_148 N p0 kq75 l1 v57 v60 H61
set_option maxRecDepth 20000 in
set_option maxHeartbeats 2000000 in
theorem mB_MText_event_112 {N : Nat} {p0 : Nat} {kq75 : Int32 → Int32 → Hp → Option (Unit × Hp)} (hm75 : ∀ (l1 : Int32) (l3 : Int32) (H : Hp) (r : Unit × Hp), kq75 l1 l3 H = some r → Sa H r.2) {l1 : Int32} {H : Hp} {r : Unit × Hp} (hF : B_MText_event_112 N p0 kq75 l1 H = some r) : Sa H r.2 := by
  unfold B_MText_event_112 at hF
  have hm := Sa.rf H
  obtain ⟨q147, hG⟩ := ck_s hF; clear hF
  obtain ⟨v149, H150, z148, hF⟩ := bC_s hG; clear hG
  replace hm : Sa H H150 := hm.tr (m_MText_kind z148)
  obtain ⟨v152, H153, z151, hG⟩ := bC_s hF; clear hF
  replace hm : Sa H H153 := hm.tr (m_MText_name z151)
  obtain ⟨x154, -, hF⟩ := bnd_g hG; clear hG
  rcases ite_s hF with ⟨q_28, hG⟩ | ⟨q_28, hG⟩
  · clear hF
    obtain ⟨v157, H158, z156, hF⟩ := bC_s hG; clear hG
    replace hm : Sa H H158 := hm.tr (m_MText_eventMemberOf z156)
    rcases ite_s hF with ⟨q_30, hG⟩ | ⟨q_30, hG⟩
    · clear hF
      exact hm.tr (mB_MText_event_148 hm75 hG)
    · clear hF
      obtain ⟨v161, H162, z160, hF⟩ := bC_s hG; clear hG
      replace hm : Sa H H162 := hm.tr (m_MText_fails z160)
      exact hm.tr (mB_MText_event_148 hm75 hF)
  · clear hF
    exact hm.tr (mB_MText_event_148 hm75 hG)
set_option maxRecDepth 20000 in
set_option maxHeartbeats 2000000 in
theorem kB_MText_event_112 {N : Nat} {p0 : Nat} {kq75 : Int32 → Int32 → Hp → Option (Unit × Hp)} (hm75 : ∀ (l1 : Int32) (l3 : Int32) (H : Hp) (r : Unit × Hp), kq75 l1 l3 H = some r → Sa H r.2) (hk75 : ∀ (l1 : Int32) (l3 : Int32) (H : Hp) (r : Unit × Hp), kq75 l1 l3 H = some r → ab_V y_MText_event { frames := 5, cells := 0, slots := 0, locals := 108 } (po (.returned none) r.2) 0 0 0 0 75 [some (.ref p0), some (.int l1), none, some (.int l3), none, none] [] (hpw H)) {l1 : Int32} {H : Hp} {r : Unit × Hp} (hF : B_MText_event_112 N p0 kq75 l1 H = some r) : ab_V y_MText_event { frames := 5, cells := 0, slots := 0, locals := 108 } (po (.returned none) r.2) 0 0 0 0 112 [some (.ref p0), some (.int l1), none, none, none, none] [] (hpw H) := by
  unfold B_MText_event_112 at hF
  refine ab_aload_n d_MText_event_112 rfl rfl rfl ?_
  obtain ⟨q55, hG⟩ := ck_s hF; clear hF
  obtain ⟨v57, H58, z56, hF⟩ := bC_s hG; clear hG
  refine hp_callV_a (v := .int v57) (H1 := H58) (As := []) (rest := []) d_MText_event_113 (k_MText_kind z56) (ab_mkC s_MText_kind (Nat.le_of_ble_eq_true rfl) (Nat.le_of_ble_eq_true rfl) (Nat.le_refl 0) (Nat.le_refl 0)) (k10 196 rfl rfl) i_MText_kind v_MText_kind q55 (by decide) rfl rfl (Nat.le_of_ble_eq_true rfl) ?_
  have s_13 : Sa H H58 := (m_MText_kind z56)
  refine ab_istore (lv' := [some (.ref p0), some (.int l1), none, none, some (.int v57), none]) d_MText_event_116 (by decide) rfl ?_
  refine ab_aload_n d_MText_event_118 rfl rfl rfl ?_
  obtain ⟨v60, H61, z59, hG⟩ := bC_s hF; clear hF
  refine hp_callV_a (v := .int v60) (H1 := H61) (As := []) (rest := []) d_MText_event_119 (k_MText_name z59) (ab_mkC s_MText_name (Nat.le_of_ble_eq_true rfl) (Nat.le_of_ble_eq_true rfl) (Nat.le_refl 0) (Nat.le_refl 0)) (k10 168 rfl rfl) i_MText_name v_MText_name (by rw [(s_13).1]; exact q55) (by decide) rfl rfl (Nat.le_of_ble_eq_true rfl) ?_
  have s_14 : Sa H H61 := (s_13).tr (m_MText_name z59)
  refine ab_istore (lv' := [some (.ref p0), some (.int l1), none, none, some (.int v57), some (.int v60)]) d_MText_event_122 (by decide) rfl ?_
  refine ab_aload_n d_MText_event_124 rfl rfl rfl ?_
  refine hp_getI (f := 9) d_MText_event_125 (by rw [(s_14).1]; exact q55) (by decide) rfl (by decide) (k8 172 rfl rfl) rfl ?_
  refine ab_topi (fun x62 ex62 => ?_)
  replace hG := bnd_s ex62 hG
  refine ab_if_ne (tgt := 148) d_MText_event_128 (by decide) (fun q63 => ?_) (fun q63 => ?_)
  · rw [if_neg q63] at hG
    exact kB_MText_event_148 hm75 hk75 hG
  · rw [if_pos q63] at hG
    refine ab_aload_n d_MText_event_131 rfl rfl rfl ?_
    refine ab_iload_n d_MText_event_132 rfl rfl ?_
    refine ab_iload d_MText_event_133 rfl ?_
    obtain ⟨v141, H142, z140, hF⟩ := bC_s hG; clear hG
    refine hp_callV_a (v := .int v141) (H1 := H142) (As := [.int l1, .int v60]) (rest := []) d_MText_event_135 (k_MText_eventMemberOf z140) (ab_mkC s_MText_eventMemberOf (Nat.le_of_ble_eq_true rfl) (Nat.le_of_ble_eq_true rfl) (Nat.le_refl 0) (Nat.le_refl 0)) (k10 208 rfl rfl) i_MText_eventMemberOf v_MText_eventMemberOf (by rw [(s_14).1]; exact q55) (by decide) rfl rfl (Nat.le_of_ble_eq_true rfl) ?_
    have s_24 : Sa H H142 := (s_14).tr (m_MText_eventMemberOf z140)
    refine ab_if_lt (tgt := 148) d_MText_event_138 (by decide) (fun q143 => ?_) (fun q143 => ?_)
    · rw [if_pos q143] at hF
      exact kB_MText_event_148 hm75 hk75 hF
    · rw [if_neg q143] at hF
      refine ab_aload_n d_MText_event_141 rfl rfl rfl ?_
      refine ab_iconst (v := 3) d_MText_event_142 (by decide) ?_
      refine ab_iload d_MText_event_143 rfl ?_
      obtain ⟨v145, H146, z144, hG⟩ := bC_s hF; clear hF
      refine hp_callV_v (H1 := H146) (As := [.int 3, .int v60]) (rest := []) d_MText_event_145 (k_MText_fails z144) (ab_mkC s_MText_fails (Nat.le_of_ble_eq_true rfl) (Nat.le_of_ble_eq_true rfl) (Nat.le_refl 0) (Nat.le_refl 0)) (k10 160 rfl rfl) i_MText_fails v_MText_fails (by rw [(s_24).1]; exact q55) (by decide) rfl rfl (Nat.le_of_ble_eq_true rfl) ?_
      have s_25 : Sa H H146 := (s_24).tr (m_MText_fails z144)
      exact kB_MText_event_148 hm75 hk75 hG
def B_MText_event_75 (N : Nat) (p0 : Nat) : Nat → Int32 → Int32 → Hp → Option (Unit × Hp)
  | 0, _, _, _ => none
  | n + 1, l1, l3, H =>
    ck (H.sh[p0]? = some (14, 0)) <|
    bnd ((H.D p0 9)) fun x34 =>
    if x34 = (0 : Int32) then
    if l3 = (0 : Int32) then
    B_MText_event_210 N p0  H
    else
    bC (F_MText_isKind N p0 H) fun v52 H53 =>
    if v52 = (0 : Int32) then
    B_MText_event_112 N p0 (fun l1 l3 H => B_MText_event_75 N p0 n l1 l3 H) l1 H53
    else
    rf (H53.P p0 23) fun a163 =>
    ar H53 100 a163 fun n165 =>
    ck (inb l1 n165) <|
    bnd ((H53.D a163 (l1).toNatClampNeg)) fun x168 =>
    if x168 = (4 : Int32) then
    bnd ((H53.D p0 11)) fun x170 =>
    bC (F_MText_fails N p0 (2 : Int32) x170 H53) fun v172 H173 =>
    B_MText_event_112 N p0 (fun l1 l3 H => B_MText_event_75 N p0 n l1 l3 H) l1 H173
    else
    B_MText_event_112 N p0 (fun l1 l3 H => B_MText_event_75 N p0 n l1 l3 H) l1 H53
    else
    B_MText_event_210 N p0  H
termination_by structural n => n
set_option maxRecDepth 20000 in
set_option maxHeartbeats 2000000 in
theorem mB_MText_event_75 {N : Nat} {p0 : Nat} : ∀ (n : Nat) (l1 : Int32) (l3 : Int32) (H : Hp) (r : Unit × Hp), B_MText_event_75 N p0 n l1 l3 H = some r → Sa H r.2 := by
  intro n
  induction n with
  | zero => intro l1 l3 H r hF; rw [B_MText_event_75] at hF; cases hF
  | succ n ih =>
    intro l1 l3 H r hF
    rw [B_MText_event_75] at hF
    have hm := Sa.rf H
    obtain ⟨q174, hG⟩ := ck_s hF; clear hF
    obtain ⟨x175, -, hF⟩ := bnd_g hG; clear hG
    rcases ite_s hF with ⟨q_33, hG⟩ | ⟨q_33, hG⟩
    · clear hF
      rcases ite_s hG with ⟨q_34, hF⟩ | ⟨q_34, hF⟩
      · clear hG
        exact hm.tr (mB_MText_event_210 hF)
      · clear hG
        obtain ⟨v179, H180, z178, hG⟩ := bC_s hF; clear hF
        replace hm : Sa H H180 := hm.tr (m_MText_isKind z178)
        rcases ite_s hG with ⟨q_36, hF⟩ | ⟨q_36, hF⟩
        · clear hG
          exact hm.tr (mB_MText_event_112 ih hF)
        · clear hG
          obtain ⟨a182, e183, hG⟩ := rf_s hF; clear hF
          obtain ⟨n184, q185, hF⟩ := ar_s hG; clear hG
          obtain ⟨q186, hG⟩ := ck_s hF; clear hF
          obtain ⟨x187, -, hF⟩ := bnd_g hG; clear hG
          rcases ite_s hF with ⟨q_37, hG⟩ | ⟨q_37, hG⟩
          · clear hF
            obtain ⟨x189, -, hF⟩ := bnd_g hG; clear hG
            obtain ⟨v191, H192, z190, hG⟩ := bC_s hF; clear hF
            replace hm : Sa H H192 := hm.tr (m_MText_fails z190)
            exact hm.tr (mB_MText_event_112 ih hG)
          · clear hF
            exact hm.tr (mB_MText_event_112 ih hG)
    · clear hF
      exact hm.tr (mB_MText_event_210 hG)
set_option maxRecDepth 20000 in
set_option maxHeartbeats 2000000 in
theorem kB_MText_event_75 {N : Nat} {p0 : Nat} : ∀ (n : Nat) (l1 : Int32) (l3 : Int32) (H : Hp) (r : Unit × Hp), B_MText_event_75 N p0 n l1 l3 H = some r → ab_V y_MText_event { frames := 5, cells := 0, slots := 0, locals := 108 } (po (.returned none) r.2) 0 0 0 0 75 [some (.ref p0), some (.int l1), none, some (.int l3), none, none] [] (hpw H) := by
  intro n
  induction n with
  | zero => intro l1 l3 H r hF; rw [B_MText_event_75] at hF; cases hF
  | succ n ih =>
    intro l1 l3 H r hF
    rw [B_MText_event_75] at hF
    refine ab_aload_n d_MText_event_75 rfl rfl rfl ?_
    obtain ⟨q33, hG⟩ := ck_s hF; clear hF
    refine hp_getI (f := 9) d_MText_event_76 q33 (by decide) rfl (by decide) (k8 172 rfl rfl) rfl ?_
    refine ab_topi (fun x34 ex34 => ?_)
    replace hG := bnd_s ex34 hG
    refine ab_if_ne (tgt := 210) d_MText_event_79 (by decide) (fun q35 => ?_) (fun q35 => ?_)
    · rw [if_neg q35] at hG
      refine ab_le (lv' := [some (.ref p0), none, none, none, none, none]) ⟨rfl, trivial⟩ ?_
      exact kB_MText_event_210 hG
    · rw [if_pos q35] at hG
      refine ab_iload_n d_MText_event_82 rfl rfl ?_
      refine ab_if_eq (tgt := 210) d_MText_event_83 (by decide) (fun q50 => ?_) (fun q50 => ?_)
      · rw [if_pos q50] at hG
        refine ab_le (lv' := [some (.ref p0), none, none, none, none, none]) ⟨rfl, trivial⟩ ?_
        exact kB_MText_event_210 hG
      · rw [if_neg q50] at hG
        refine ab_aload_n d_MText_event_86 rfl rfl rfl ?_
        obtain ⟨v52, H53, z51, hF⟩ := bC_s hG; clear hG
        refine hp_callV_a (v := .int v52) (H1 := H53) (As := []) (rest := []) d_MText_event_87 (k_MText_isKind z51) (ab_mkC s_MText_isKind (Nat.le_of_ble_eq_true rfl) (Nat.le_of_ble_eq_true rfl) (Nat.le_refl 0) (Nat.le_refl 0)) (k10 192 rfl rfl) i_MText_isKind v_MText_isKind q33 (by decide) rfl rfl (Nat.le_of_ble_eq_true rfl) ?_
        have s_12 : Sa H H53 := (m_MText_isKind z51)
        refine ab_if_eq (tgt := 112) d_MText_event_90 (by decide) (fun q54 => ?_) (fun q54 => ?_)
        · rw [if_pos q54] at hF
          refine ab_le (lv' := [some (.ref p0), some (.int l1), none, none, none, none]) ⟨rfl, ⟨rfl, trivial⟩⟩ ?_
          exact kB_MText_event_112 (mB_MText_event_75 n) ih hF
        · rw [if_neg q54] at hF
          refine ab_aload_n d_MText_event_93 rfl rfl rfl ?_
          obtain ⟨a163, e164, hG⟩ := rf_s hF; clear hF
          refine hp_getR (f := 23) d_MText_event_94 (by rw [(s_12).1]; exact q33) (by decide) rfl (by decide) (k8 198 rfl rfl) rfl e164 ?_
          refine ab_iload_n d_MText_event_97 rfl rfl ?_
          obtain ⟨n165, q166, hF⟩ := ar_s hG; clear hG
          rw [(s_12).1] at q166
          obtain ⟨q167, hG⟩ := ck_s hF; clear hF
          refine hp_iald d_MText_event_98 tI (by rw [(s_12).1]; exact q166) q167 ?_
          refine ab_topi (fun x168 ex168 => ?_)
          replace hG := bnd_s ex168 hG
          refine ab_iconst (v := 4) d_MText_event_99 (by decide) ?_
          refine ab_icmp_ne (tgt := 112) d_MText_event_100 (by decide) (fun q169 => ?_) (fun q169 => ?_)
          · rw [if_neg q169] at hG
            refine ab_le (lv' := [some (.ref p0), some (.int l1), none, none, none, none]) ⟨rfl, ⟨rfl, trivial⟩⟩ ?_
            exact kB_MText_event_112 (mB_MText_event_75 n) ih hG
          · rw [if_pos q169] at hG
            refine ab_aload_n d_MText_event_103 rfl rfl rfl ?_
            refine ab_iconst (v := 2) d_MText_event_104 (by decide) ?_
            refine ab_aload_n d_MText_event_105 rfl rfl rfl ?_
            refine hp_getI (f := 11) d_MText_event_106 (by rw [(s_12).1]; exact q33) (by decide) rfl (by decide) (k8 175 rfl rfl) rfl ?_
            refine ab_topi (fun x170 ex170 => ?_)
            replace hG := bnd_s ex170 hG
            obtain ⟨v172, H173, z171, hF⟩ := bC_s hG; clear hG
            refine hp_callV_v (H1 := H173) (As := [.int 2, .int x170]) (rest := []) d_MText_event_109 (k_MText_fails z171) (ab_mkC s_MText_fails (Nat.le_of_ble_eq_true rfl) (Nat.le_of_ble_eq_true rfl) (Nat.le_refl 0) (Nat.le_refl 0)) (k10 160 rfl rfl) i_MText_fails v_MText_fails (by rw [(s_12).1]; exact q33) (by decide) rfl rfl (Nat.le_of_ble_eq_true rfl) ?_
            have s_32 : Sa H H173 := (s_12).tr (m_MText_fails z171)
            refine ab_le (lv' := [some (.ref p0), some (.int l1), none, none, none, none]) ⟨rfl, ⟨rfl, trivial⟩⟩ ?_
            exact kB_MText_event_112 (mB_MText_event_75 n) ih hF
def B_MText_event_74 (N : Nat) (p0 : Nat) (l1 : Int32) (w0 : Int32) (H : Hp) : Option (Unit × Hp) :=
    B_MText_event_75 N p0 N l1 w0 H
set_option maxRecDepth 20000 in
set_option maxHeartbeats 2000000 in
theorem mB_MText_event_74 {N : Nat} {p0 : Nat} {l1 : Int32} {w0 : Int32} {H : Hp} {r : Unit × Hp} (hF : B_MText_event_74 N p0 l1 w0 H = some r) : Sa H r.2 := by
  unfold B_MText_event_74 at hF
  have hm := Sa.rf H
  exact hm.tr (mB_MText_event_75 N l1 w0 H r hF)
set_option maxRecDepth 20000 in
set_option maxHeartbeats 2000000 in
theorem kB_MText_event_74 {N : Nat} {p0 : Nat} {l1 : Int32} {w0 : Int32} {H : Hp} {r : Unit × Hp} (hF : B_MText_event_74 N p0 l1 w0 H = some r) : ab_V y_MText_event { frames := 5, cells := 0, slots := 0, locals := 108 } (po (.returned none) r.2) 0 0 0 0 74 [some (.ref p0), some (.int l1), none, none, none, none] [.int w0] (hpw H) := by
  unfold B_MText_event_74 at hF
  refine ab_istore_n (lv' := [some (.ref p0), some (.int l1), none, some (.int w0), none, none]) d_MText_event_74 rfl (by decide) rfl ?_
  exact kB_MText_event_75 N l1 w0 H r hF
def F_MText_event (N : Nat) (p0 : Nat) (H : Hp) : Option (Unit × Hp) :=
    ck (H.sh[p0]? = some (14, 0)) <|
    bnd ((H.D p0 21)) fun x2 =>
    bC (F_MText_begins N p0 x2 (8 : Int32) H) fun v4 H5 =>
    bnd ((H5.D p0 21)) fun x6 =>
    bC (F_MText_told N p0 (3 : Int32) x6 H5) fun v8 H9 =>
    bnd ((H9.D p0 9)) fun x10 =>
    if x10 ≤ (0 : Int32) then
    rf (H9.P p0 22) fun a12 =>
    ar H9 100 a12 fun n14 =>
    ck (inb x6 n14) <|
    bnd (H9.sD a12 (x6).toNatClampNeg v8) fun H17 =>
    rf (H17.P p0 23) fun a18 =>
    ar H17 100 a18 fun n20 =>
    ck (inb x6 n20) <|
    bnd (H17.sD a18 (x6).toNatClampNeg (0 : Int32)) fun H23 =>
    bnd ((H23.D p0 21)) fun x24 =>
    bnd (H23.sD p0 21 (x24 + (1 : Int32))) fun H25 =>
    bC (F_MText_takes N p0 (40 : Int32) H25) fun v27 H28 =>
    bC (F_MText_is N p0 (41 : Int32) H28) fun v30 H31 =>
    if v30 = (0 : Int32) then
    B_MText_event_74 N p0 x6 1 H31
    else
    B_MText_event_74 N p0 x6 0 H31
    else
    some ((), H9)
set_option maxRecDepth 20000 in
set_option maxHeartbeats 2000000 in
theorem m_MText_event {N : Nat} {p0 : Nat} {H : Hp} {r : Unit × Hp} (hF : F_MText_event N p0 H = some r) : Sa H r.2 := by
  unfold F_MText_event at hF
  have hm := Sa.rf H
  obtain ⟨q193, hG⟩ := ck_s hF; clear hF
  obtain ⟨x194, -, hF⟩ := bnd_g hG; clear hG
  obtain ⟨v196, H197, z195, hG⟩ := bC_s hF; clear hF
  replace hm : Sa H H197 := hm.tr (m_MText_begins z195)
  obtain ⟨x198, -, hF⟩ := bnd_g hG; clear hG
  obtain ⟨v200, H201, z199, hG⟩ := bC_s hF; clear hF
  replace hm : Sa H H201 := hm.tr (m_MText_told z199)
  obtain ⟨x202, -, hF⟩ := bnd_g hG; clear hG
  rcases ite_s hF with ⟨q_41, hG⟩ | ⟨q_41, hG⟩
  · clear hF
    obtain ⟨a204, e205, hF⟩ := rf_s hG; clear hG
    obtain ⟨n206, q207, hG⟩ := ar_s hF; clear hF
    obtain ⟨q208, hF⟩ := ck_s hG; clear hG
    obtain ⟨H209, eH209, hG⟩ := bnd_g hF; clear hF
    replace hm : Sa H H209 := by rw [eH209]; exact hm
    obtain ⟨a210, e211, hF⟩ := rf_s hG; clear hG
    obtain ⟨n212, q213, hG⟩ := ar_s hF; clear hF
    obtain ⟨q214, hF⟩ := ck_s hG; clear hG
    obtain ⟨H215, eH215, hG⟩ := bnd_g hF; clear hF
    replace hm : Sa H H215 := by rw [eH215]; exact hm
    obtain ⟨x216, -, hF⟩ := bnd_g hG; clear hG
    obtain ⟨H217, eH217, hG⟩ := bnd_g hF; clear hF
    replace hm : Sa H H217 := by rw [eH217]; exact hm
    obtain ⟨v219, H220, z218, hF⟩ := bC_s hG; clear hG
    replace hm : Sa H H220 := hm.tr (m_MText_takes z218)
    obtain ⟨v222, H223, z221, hG⟩ := bC_s hF; clear hF
    replace hm : Sa H H223 := hm.tr (m_MText_is z221)
    rcases ite_s hG with ⟨q_47, hF⟩ | ⟨q_47, hF⟩
    · clear hG
      exact hm.tr (mB_MText_event_74 hF)
    · clear hG
      exact hm.tr (mB_MText_event_74 hF)
  · clear hF
    have hr := Option.some.inj hG; subst hr
    exact hm
set_option maxRecDepth 20000 in
set_option maxHeartbeats 2000000 in
theorem k_MText_event {N : Nat} {p0 : Nat} {H : Hp} {r : Unit × Hp} (hF : F_MText_event N p0 H = some r) : ab_M y_MText_event { frames := 5, cells := 0, slots := 0, locals := 108 } [.ref p0] (hpw H) (po (.returned none) r.2) := by
  unfold F_MText_event at hF
  refine ab_of2 (lv := [some (.ref p0), none, none, none, none, none]) 5 rfl rfl (Nat.le_of_ble_eq_true rfl) ?_
  refine ab_aload_n d_MText_event_0 rfl rfl rfl ?_
  refine ab_aload_n d_MText_event_1 rfl rfl rfl ?_
  obtain ⟨q1, hG⟩ := ck_s hF; clear hF
  refine hp_getI (f := 21) d_MText_event_2 q1 (by decide) rfl (by decide) (k8 194 rfl rfl) rfl ?_
  refine ab_topi (fun x2 ex2 => ?_)
  replace hG := bnd_s ex2 hG
  refine ab_bipush (v := 8) d_MText_event_5 (by decide) ?_
  obtain ⟨v4, H5, z3, hF⟩ := bC_s hG; clear hG
  refine hp_callV_v (H1 := H5) (As := [.int x2, .int 8]) (rest := []) d_MText_event_7 (k_MText_begins z3) (ab_mkC s_MText_begins (Nat.le_of_ble_eq_true rfl) (Nat.le_of_ble_eq_true rfl) (Nat.le_refl 0) (Nat.le_refl 0)) (k10 156 rfl rfl) i_MText_begins v_MText_begins q1 (by decide) rfl rfl (Nat.le_of_ble_eq_true rfl) ?_
  have s_1 : Sa H H5 := (m_MText_begins z3)
  refine ab_aload_n d_MText_event_10 rfl rfl rfl ?_
  refine hp_getI (f := 21) d_MText_event_11 (by rw [(s_1).1]; exact q1) (by decide) rfl (by decide) (k8 194 rfl rfl) rfl ?_
  refine ab_topi (fun x6 ex6 => ?_)
  replace hF := bnd_s ex6 hF
  refine ab_istore_n (lv' := [some (.ref p0), some (.int x6), none, none, none, none]) d_MText_event_14 rfl (by decide) rfl ?_
  refine ab_aload_n d_MText_event_15 rfl rfl rfl ?_
  refine ab_iconst (v := 3) d_MText_event_16 (by decide) ?_
  refine ab_iload_n d_MText_event_17 rfl rfl ?_
  obtain ⟨v8, H9, z7, hG⟩ := bC_s hF; clear hF
  refine hp_callV_a (v := .int v8) (H1 := H9) (As := [.int 3, .int x6]) (rest := []) d_MText_event_18 (k_MText_told z7) (ab_mkC s_MText_told (Nat.le_of_ble_eq_true rfl) (Nat.le_of_ble_eq_true rfl) (Nat.le_refl 0) (Nat.le_refl 0)) (k10 164 rfl rfl) i_MText_told v_MText_told (by rw [(s_1).1]; exact q1) (by decide) rfl rfl (Nat.le_of_ble_eq_true rfl) ?_
  have s_2 : Sa H H9 := (s_1).tr (m_MText_told z7)
  refine ab_istore_n (lv' := [some (.ref p0), some (.int x6), some (.int v8), none, none, none]) d_MText_event_21 rfl (by decide) rfl ?_
  refine ab_aload_n d_MText_event_22 rfl rfl rfl ?_
  refine hp_getI (f := 9) d_MText_event_23 (by rw [(s_2).1]; exact q1) (by decide) rfl (by decide) (k8 172 rfl rfl) rfl ?_
  refine ab_topi (fun x10 ex10 => ?_)
  replace hG := bnd_s ex10 hG
  refine ab_if_le (tgt := 30) d_MText_event_26 (by decide) (fun q11 => ?_) (fun q11 => ?_)
  · rw [if_pos q11] at hG
    refine ab_aload_n d_MText_event_30 rfl rfl rfl ?_
    obtain ⟨a12, e13, hF⟩ := rf_s hG; clear hG
    refine hp_getR (f := 22) d_MText_event_31 (by rw [(s_2).1]; exact q1) (by decide) rfl (by decide) (k8 196 rfl rfl) rfl e13 ?_
    refine ab_iload_n d_MText_event_34 rfl rfl ?_
    refine ab_iload_n d_MText_event_35 rfl rfl ?_
    obtain ⟨n14, q15, hG⟩ := ar_s hF; clear hF
    rw [(s_2).1] at q15
    obtain ⟨q16, hF⟩ := ck_s hG; clear hG
    refine hp_iast d_MText_event_36 tI (by rw [(s_2).1]; exact q15) q16 ?_
    refine hp_gen (fun H17 eH17 => ?_)
    replace hF := bnd_s eH17 hF
    have s_3 : Sa H H17 := by rw [eH17]; exact s_2
    refine ab_aload_n d_MText_event_37 rfl rfl rfl ?_
    obtain ⟨a18, e19, hG⟩ := rf_s hF; clear hF
    refine hp_getR (f := 23) d_MText_event_38 (by rw [(s_3).1]; exact q1) (by decide) rfl (by decide) (k8 198 rfl rfl) rfl e19 ?_
    refine ab_iload_n d_MText_event_41 rfl rfl ?_
    refine ab_iconst (v := 0) d_MText_event_42 (by decide) ?_
    obtain ⟨n20, q21, hF⟩ := ar_s hG; clear hG
    rw [(s_3).1] at q21
    obtain ⟨q22, hG⟩ := ck_s hF; clear hF
    refine hp_iast d_MText_event_43 tI (by rw [(s_3).1]; exact q21) q22 ?_
    refine hp_gen (fun H23 eH23 => ?_)
    replace hG := bnd_s eH23 hG
    have s_4 : Sa H H23 := by rw [eH23]; exact s_3
    refine ab_aload_n d_MText_event_44 rfl rfl rfl ?_
    refine ab_dup d_MText_event_45 rfl ?_
    refine hp_getI (f := 21) d_MText_event_46 (by rw [(s_4).1]; exact q1) (by decide) rfl (by decide) (k8 194 rfl rfl) rfl ?_
    refine ab_topi (fun x24 ex24 => ?_)
    replace hG := bnd_s ex24 hG
    refine ab_iconst (v := 1) d_MText_event_49 (by decide) ?_
    refine ab_iadd d_MText_event_50 ?_
    refine hp_putI (v := x24 + (1 : Int32)) (f := 21) d_MText_event_51 (by rw [(s_4).1]; exact q1) (by decide) rfl (by decide) (k8 194 rfl rfl) rfl rfl (fun _ => rfl) (fun _ => rfl) rfl ?_
    refine hp_gen (fun H25 eH25 => ?_)
    replace hG := bnd_s eH25 hG
    have s_5 : Sa H H25 := by rw [eH25]; exact s_4
    refine ab_aload_n d_MText_event_54 rfl rfl rfl ?_
    refine ab_bipush (v := 40) d_MText_event_55 (by decide) ?_
    obtain ⟨v27, H28, z26, hF⟩ := bC_s hG; clear hG
    refine hp_callV_v (H1 := H28) (As := [.int 40]) (rest := []) d_MText_event_57 (k_MText_takes z26) (ab_mkC s_MText_takes (Nat.le_of_ble_eq_true rfl) (Nat.le_of_ble_eq_true rfl) (Nat.le_refl 0) (Nat.le_refl 0)) (k10 172 rfl rfl) i_MText_takes v_MText_takes (by rw [(s_5).1]; exact q1) (by decide) rfl rfl (Nat.le_of_ble_eq_true rfl) ?_
    have s_6 : Sa H H28 := (s_5).tr (m_MText_takes z26)
    refine ab_aload_n d_MText_event_60 rfl rfl rfl ?_
    refine ab_bipush (v := 41) d_MText_event_61 (by decide) ?_
    obtain ⟨v30, H31, z29, hG⟩ := bC_s hF; clear hF
    refine hp_callV_a (v := .int v30) (H1 := H31) (As := [.int 41]) (rest := []) d_MText_event_63 (k_MText_is z29) (ab_mkC s_MText_is (Nat.le_of_ble_eq_true rfl) (Nat.le_of_ble_eq_true rfl) (Nat.le_refl 0) (Nat.le_refl 0)) (k10 180 rfl rfl) i_MText_is v_MText_is (by rw [(s_6).1]; exact q1) (by decide) rfl rfl (Nat.le_of_ble_eq_true rfl) ?_
    have s_7 : Sa H H31 := (s_6).tr (m_MText_is z29)
    refine ab_if_ne (tgt := 73) d_MText_event_66 (by decide) (fun q32 => ?_) (fun q32 => ?_)
    · rw [if_neg q32] at hG
      refine ab_iconst (v := 0) d_MText_event_73 (by decide) ?_
      refine ab_le (lv' := [some (.ref p0), some (.int x6), none, none, none, none]) ⟨rfl, ⟨rfl, trivial⟩⟩ ?_
      exact kB_MText_event_74 hG
    · rw [if_pos q32] at hG
      refine ab_iconst (v := 1) d_MText_event_69 (by decide) ?_
      refine ab_goto (tgt := 74) d_MText_event_70 (by decide) ?_
      refine ab_le (lv' := [some (.ref p0), some (.int x6), none, none, none, none]) ⟨rfl, ⟨rfl, trivial⟩⟩ ?_
      exact kB_MText_event_74 hG
  · rw [if_neg q11] at hG
    exact ab_vret d_MText_event_29 rfl (Nat.le_refl _) (Nat.le_refl _) (by have hr := Option.some.inj hG; subst hr; exact ⟨rfl, rfl⟩)
def y_MText_local : ab_Y := (⟨"WorldEngineModel$Text", "local", "(I)I"⟩, prog_16_method_34_code, 3, (some FieldType.int), [])
theorem d_MText_local_0 : decode y_MText_local.2.1 0 = .ok (.iconst 0, 1) := by decide +kernel
theorem d_MText_local_1 : decode y_MText_local.2.1 1 = .ok (.istore_n 2, 1) := by decide +kernel
theorem d_MText_local_2 : decode y_MText_local.2.1 2 = .ok (.iload_n 2, 1) := by decide +kernel
theorem d_MText_local_3 : decode y_MText_local.2.1 3 = .ok (.aload_n 0, 1) := by decide +kernel
theorem d_MText_local_4 : decode y_MText_local.2.1 4 = .ok (.getfield 281, 3) := by decide +kernel
theorem d_MText_local_7 : decode y_MText_local.2.1 7 = .ok (.if_icmp .ge 26, 3) := by decide +kernel
theorem d_MText_local_10 : decode y_MText_local.2.1 10 = .ok (.aload_n 0, 1) := by decide +kernel
theorem d_MText_local_11 : decode y_MText_local.2.1 11 = .ok (.aload_n 0, 1) := by decide +kernel
theorem d_MText_local_12 : decode y_MText_local.2.1 12 = .ok (.getfield 95, 3) := by decide +kernel
theorem d_MText_local_15 : decode y_MText_local.2.1 15 = .ok (.iload_n 2, 1) := by decide +kernel
theorem d_MText_local_16 : decode y_MText_local.2.1 16 = .ok (.iaload, 1) := by decide +kernel
theorem d_MText_local_17 : decode y_MText_local.2.1 17 = .ok (.aload_n 0, 1) := by decide +kernel
theorem d_MText_local_18 : decode y_MText_local.2.1 18 = .ok (.iload_n 1, 1) := by decide +kernel
theorem d_MText_local_19 : decode y_MText_local.2.1 19 = .ok (.invokevirtual 170, 3) := by decide +kernel
theorem d_MText_local_22 : decode y_MText_local.2.1 22 = .ok (.ifCond .eq 5, 3) := by decide +kernel
theorem d_MText_local_25 : decode y_MText_local.2.1 25 = .ok (.iload_n 2, 1) := by decide +kernel
theorem d_MText_local_26 : decode y_MText_local.2.1 26 = .ok (.ireturn, 1) := by decide +kernel
theorem d_MText_local_27 : decode y_MText_local.2.1 27 = .ok (.iinc 2 1, 3) := by decide +kernel
theorem d_MText_local_30 : decode y_MText_local.2.1 30 = .ok (.goto (-28), 3) := by decide +kernel
theorem d_MText_local_33 : decode y_MText_local.2.1 33 = .ok (.iconst (-1), 1) := by decide +kernel
theorem d_MText_local_34 : decode y_MText_local.2.1 34 = .ok (.ireturn, 1) := by decide +kernel
theorem s_MText_local : ab_Stat y_MText_local 1 := ⟨(k10 224 rfl rfl), (k1 20 rfl rfl), ⟨by decide, by decide⟩, by decide +kernel⟩
theorem i_MText_local : Cond.instanceMethod y_MText_local.1 ∈ ab_T := (k10 223 rfl rfl)
theorem v_MText_local : Cond.selects "WorldEngineModel$Text" y_MText_local.1 y_MText_local.1 ∈ ab_T := ab_s (List.mem_of_getElem? (i := 130) rfl) rfl
def B_MText_local_2 (N : Nat) (p0 : Nat) (p1 : Int32) : Nat → Int32 → Hp → Option (Int32 × Hp)
  | 0, _, _ => none
  | n + 1, l2, H =>
    ck (H.sh[p0]? = some (14, 0)) <|
    bnd ((H.D p0 37)) fun x2 =>
    if x2 ≤ l2 then
    some ((-1), H)
    else
    rf (H.P p0 38) fun a4 =>
    ar H 100 a4 fun n6 =>
    ck (inb l2 n6) <|
    bnd ((H.D a4 (l2).toNatClampNeg)) fun x9 =>
    bC (F_MText_isSame N p0 x9 p0 p1 H) fun v11 H12 =>
    if v11 = (0 : Int32) then
    B_MText_local_2 N p0 p1 n (l2 + 1) H12
    else
    some (l2, H12)
termination_by structural n => n
set_option maxRecDepth 20000 in
set_option maxHeartbeats 2000000 in
theorem mB_MText_local_2 {N : Nat} {p0 : Nat} {p1 : Int32} : ∀ (n : Nat) (l2 : Int32) (H : Hp) (r : Int32 × Hp), B_MText_local_2 N p0 p1 n l2 H = some r → Sa H r.2 := by
  intro n
  induction n with
  | zero => intro l2 H r hF; rw [B_MText_local_2] at hF; cases hF
  | succ n ih =>
    intro l2 H r hF
    rw [B_MText_local_2] at hF
    have hm := Sa.rf H
    obtain ⟨q14, hG⟩ := ck_s hF; clear hF
    obtain ⟨x15, -, hF⟩ := bnd_g hG; clear hG
    rcases ite_s hF with ⟨q_2, hG⟩ | ⟨q_2, hG⟩
    · clear hF
      have hr := Option.some.inj hG; subst hr
      exact hm
    · clear hF
      obtain ⟨a17, e18, hF⟩ := rf_s hG; clear hG
      obtain ⟨n19, q20, hG⟩ := ar_s hF; clear hF
      obtain ⟨q21, hF⟩ := ck_s hG; clear hG
      obtain ⟨x22, -, hG⟩ := bnd_g hF; clear hF
      obtain ⟨v24, H25, z23, hF⟩ := bC_s hG; clear hG
      replace hm : Sa H H25 := hm.tr (m_MText_isSame z23)
      rcases ite_s hF with ⟨q_4, hG⟩ | ⟨q_4, hG⟩
      · clear hF
        exact hm.tr (ih (l2 + 1) H25 r hG)
      · clear hF
        have hr := Option.some.inj hG; subst hr
        exact hm
set_option maxRecDepth 20000 in
set_option maxHeartbeats 2000000 in
theorem kB_MText_local_2 {N : Nat} {p0 : Nat} {p1 : Int32} : ∀ (n : Nat) (l2 : Int32) (H : Hp) (r : Int32 × Hp), B_MText_local_2 N p0 p1 n l2 H = some r → ab_V y_MText_local { frames := 1, cells := 0, slots := 0, locals := 25 } (po (.returned (some (.int r.1))) r.2) 0 0 0 0 2 [some (.ref p0), some (.int p1), some (.int l2)] [] (hpw H) := by
  intro n
  induction n with
  | zero => intro l2 H r hF; rw [B_MText_local_2] at hF; cases hF
  | succ n ih =>
    intro l2 H r hF
    rw [B_MText_local_2] at hF
    refine ab_iload_n d_MText_local_2 rfl rfl ?_
    refine ab_aload_n d_MText_local_3 rfl rfl rfl ?_
    obtain ⟨q1, hG⟩ := ck_s hF; clear hF
    refine hp_getI (f := 37) d_MText_local_4 q1 (by decide) rfl (by decide) (k8 224 rfl rfl) rfl ?_
    refine ab_topi (fun x2 ex2 => ?_)
    replace hG := bnd_s ex2 hG
    refine ab_icmp_ge (tgt := 33) d_MText_local_7 (by decide) (fun q3 => ?_) (fun q3 => ?_)
    · rw [if_pos q3] at hG
      refine ab_iconst (v := (-1)) d_MText_local_33 (by decide) ?_
      exact ab_iret d_MText_local_34 rfl (Nat.le_refl _) (Nat.le_refl _) (by have hr := Option.some.inj hG; subst hr; exact ⟨rfl, rfl⟩)
    · rw [if_neg q3] at hG
      refine ab_aload_n d_MText_local_10 rfl rfl rfl ?_
      refine ab_aload_n d_MText_local_11 rfl rfl rfl ?_
      obtain ⟨a4, e5, hF⟩ := rf_s hG; clear hG
      refine hp_getR (f := 38) d_MText_local_12 q1 (by decide) rfl (by decide) (k8 225 rfl rfl) rfl e5 ?_
      refine ab_iload_n d_MText_local_15 rfl rfl ?_
      obtain ⟨n6, q7, hG⟩ := ar_s hF; clear hF
      obtain ⟨q8, hF⟩ := ck_s hG; clear hG
      refine hp_iald d_MText_local_16 tI q7 q8 ?_
      refine ab_topi (fun x9 ex9 => ?_)
      replace hF := bnd_s ex9 hF
      refine ab_aload_n d_MText_local_17 rfl rfl rfl ?_
      refine ab_iload_n d_MText_local_18 rfl rfl ?_
      obtain ⟨v11, H12, z10, hG⟩ := bC_s hF; clear hF
      refine hp_callV_a (v := .int v11) (H1 := H12) (As := [.int x9, .ref p0, .int p1]) (rest := []) d_MText_local_19 (k_MText_isSame z10) (ab_mkC s_MText_isSame (Nat.le_of_ble_eq_true rfl) (Nat.le_of_ble_eq_true rfl) (Nat.le_refl 0) (Nat.le_refl 0)) (k10 188 rfl rfl) i_MText_isSame v_MText_isSame q1 (by decide) rfl rfl (Nat.le_of_ble_eq_true rfl) ?_
      have s_1 : Sa H H12 := (m_MText_isSame z10)
      refine ab_if_eq (tgt := 27) d_MText_local_22 (by decide) (fun q13 => ?_) (fun q13 => ?_)
      · rw [if_pos q13] at hG
        refine ab_iinc (v := l2 + 1) (lv' := [some (.ref p0), some (.int p1), some (.int (l2 + 1))]) d_MText_local_27 rfl rfl (by decide) rfl ?_
        refine ab_goto (tgt := 2) d_MText_local_30 (by decide) ?_
        exact ih (l2 + 1) H12 r hG
      · rw [if_neg q13] at hG
        refine ab_iload_n d_MText_local_25 rfl rfl ?_
        exact ab_iret d_MText_local_26 rfl (Nat.le_refl _) (Nat.le_refl _) (by have hr := Option.some.inj hG; subst hr; exact ⟨rfl, rfl⟩)
def F_MText_local (N : Nat) (p0 : Nat) (p1 : Int32) (H : Hp) : Option (Int32 × Hp) :=
    B_MText_local_2 N p0 p1 N 0 H
set_option maxRecDepth 20000 in
set_option maxHeartbeats 2000000 in
theorem m_MText_local {N : Nat} {p0 : Nat} {p1 : Int32} {H : Hp} {r : Int32 × Hp} (hF : F_MText_local N p0 p1 H = some r) : Sa H r.2 := by
  unfold F_MText_local at hF
  have hm := Sa.rf H
  exact hm.tr (mB_MText_local_2 N 0 H r hF)
set_option maxRecDepth 20000 in
set_option maxHeartbeats 2000000 in
theorem k_MText_local {N : Nat} {p0 : Nat} {p1 : Int32} {H : Hp} {r : Int32 × Hp} (hF : F_MText_local N p0 p1 H = some r) : ab_M y_MText_local { frames := 1, cells := 0, slots := 0, locals := 25 } [.ref p0, .int p1] (hpw H) (po (.returned (some (.int r.1))) r.2) := by
  unfold F_MText_local at hF
  refine ab_of2 (lv := [some (.ref p0), some (.int p1), none]) 1 rfl rfl (Nat.le_of_ble_eq_true rfl) ?_
  refine ab_iconst (v := 0) d_MText_local_0 (by decide) ?_
  refine ab_istore_n (lv' := [some (.ref p0), some (.int p1), some (.int 0)]) d_MText_local_1 rfl (by decide) rfl ?_
  exact kB_MText_local_2 N 0 H r hF
def y_MText_sort : ab_Y := (⟨"WorldEngineModel$Text", "sort", "(I)I"⟩, prog_16_method_35_code, 3, (some FieldType.int), [])
theorem d_MText_sort_0 : decode y_MText_sort.2.1 0 = .ok (.aload_n 0, 1) := by decide +kernel
theorem d_MText_sort_1 : decode y_MText_sort.2.1 1 = .ok (.getfield 185, 3) := by decide +kernel
theorem d_MText_sort_4 : decode y_MText_sort.2.1 4 = .ok (.ifCond .le 5, 3) := by decide +kernel
theorem d_MText_sort_7 : decode y_MText_sort.2.1 7 = .ok (.iconst 0, 1) := by decide +kernel
theorem d_MText_sort_8 : decode y_MText_sort.2.1 8 = .ok (.ireturn, 1) := by decide +kernel
theorem d_MText_sort_9 : decode y_MText_sort.2.1 9 = .ok (.aload_n 0, 1) := by decide +kernel
theorem d_MText_sort_10 : decode y_MText_sort.2.1 10 = .ok (.iload_n 1, 1) := by decide +kernel
theorem d_MText_sort_11 : decode y_MText_sort.2.1 11 = .ok (.invokevirtual 284, 3) := by decide +kernel
theorem d_MText_sort_14 : decode y_MText_sort.2.1 14 = .ok (.ifCond .lt 5, 3) := by decide +kernel
theorem d_MText_sort_17 : decode y_MText_sort.2.1 17 = .ok (.iconst 1, 1) := by decide +kernel
theorem d_MText_sort_18 : decode y_MText_sort.2.1 18 = .ok (.ireturn, 1) := by decide +kernel
theorem d_MText_sort_19 : decode y_MText_sort.2.1 19 = .ok (.aload_n 0, 1) := by decide +kernel
theorem d_MText_sort_20 : decode y_MText_sort.2.1 20 = .ok (.iload_n 1, 1) := by decide +kernel
theorem d_MText_sort_21 : decode y_MText_sort.2.1 21 = .ok (.invokevirtual 243, 3) := by decide +kernel
theorem d_MText_sort_24 : decode y_MText_sort.2.1 24 = .ok (.istore_n 2, 1) := by decide +kernel
theorem d_MText_sort_25 : decode y_MText_sort.2.1 25 = .ok (.iload_n 2, 1) := by decide +kernel
theorem d_MText_sort_26 : decode y_MText_sort.2.1 26 = .ok (.ifCond .ge 9, 3) := by decide +kernel
theorem d_MText_sort_29 : decode y_MText_sort.2.1 29 = .ok (.aload_n 0, 1) := by decide +kernel
theorem d_MText_sort_30 : decode y_MText_sort.2.1 30 = .ok (.iconst 4, 1) := by decide +kernel
theorem d_MText_sort_31 : decode y_MText_sort.2.1 31 = .ok (.iload_n 1, 1) := by decide +kernel
theorem d_MText_sort_32 : decode y_MText_sort.2.1 32 = .ok (.invokevirtual 200, 3) := by decide +kernel
theorem d_MText_sort_35 : decode y_MText_sort.2.1 35 = .ok (.iload_n 2, 1) := by decide +kernel
theorem d_MText_sort_36 : decode y_MText_sort.2.1 36 = .ok (.ifCond .ge 7, 3) := by decide +kernel
theorem d_MText_sort_39 : decode y_MText_sort.2.1 39 = .ok (.iconst 0, 1) := by decide +kernel
theorem d_MText_sort_40 : decode y_MText_sort.2.1 40 = .ok (.goto 9, 3) := by decide +kernel
theorem d_MText_sort_43 : decode y_MText_sort.2.1 43 = .ok (.aload_n 0, 1) := by decide +kernel
theorem d_MText_sort_44 : decode y_MText_sort.2.1 44 = .ok (.getfield 38, 3) := by decide +kernel
theorem d_MText_sort_47 : decode y_MText_sort.2.1 47 = .ok (.iload_n 2, 1) := by decide +kernel
theorem d_MText_sort_48 : decode y_MText_sort.2.1 48 = .ok (.iaload, 1) := by decide +kernel
theorem d_MText_sort_49 : decode y_MText_sort.2.1 49 = .ok (.ireturn, 1) := by decide +kernel
theorem s_MText_sort : ab_Stat y_MText_sort 1 := ⟨(k10 232 rfl rfl), (k1 20 rfl rfl), ⟨by decide, by decide⟩, by decide +kernel⟩
theorem i_MText_sort : Cond.instanceMethod y_MText_sort.1 ∈ ab_T := (k10 231 rfl rfl)
theorem v_MText_sort : Cond.selects "WorldEngineModel$Text" y_MText_sort.1 y_MText_sort.1 ∈ ab_T := ab_s (List.mem_of_getElem? (i := 132) rfl) rfl
def B_MText_sort_35 (N : Nat) (p0 : Nat) (p1 : Int32) (l2 : Int32) (H : Hp) : Option (Int32 × Hp) :=
    if (0 : Int32) ≤ l2 then
    ck (H.sh[p0]? = some (14, 0)) <|
    rf (H.P p0 14) fun a14 =>
    ar H 100 a14 fun n16 =>
    ck (inb l2 n16) <|
    bnd ((H.D a14 (l2).toNatClampNeg)) fun x19 =>
    some (x19, H)
    else
    some (0, H)
set_option maxRecDepth 20000 in
set_option maxHeartbeats 2000000 in
theorem mB_MText_sort_35 {N : Nat} {p0 : Nat} {p1 : Int32} {l2 : Int32} {H : Hp} {r : Int32 × Hp} (hF : B_MText_sort_35 N p0 p1 l2 H = some r) : Sa H r.2 := by
  unfold B_MText_sort_35 at hF
  have hm := Sa.rf H
  rcases ite_s hF with ⟨q_3, hG⟩ | ⟨q_3, hG⟩
  · clear hF
    obtain ⟨q21, hF⟩ := ck_s hG; clear hG
    obtain ⟨a22, e23, hG⟩ := rf_s hF; clear hF
    obtain ⟨n24, q25, hF⟩ := ar_s hG; clear hG
    obtain ⟨q26, hG⟩ := ck_s hF; clear hF
    obtain ⟨x27, -, hF⟩ := bnd_g hG; clear hG
    have hr := Option.some.inj hF; subst hr
    exact hm
  · clear hF
    have hr := Option.some.inj hG; subst hr
    exact hm
set_option maxRecDepth 20000 in
set_option maxHeartbeats 2000000 in
theorem kB_MText_sort_35 {N : Nat} {p0 : Nat} {p1 : Int32} {l2 : Int32} {H : Hp} {r : Int32 × Hp} (hF : B_MText_sort_35 N p0 p1 l2 H = some r) : ab_V y_MText_sort { frames := 2, cells := 0, slots := 0, locals := 47 } (po (.returned (some (.int r.1))) r.2) 0 0 0 0 35 [some (.ref p0), some (.int p1), some (.int l2)] [] (hpw H) := by
  unfold B_MText_sort_35 at hF
  refine ab_iload_n d_MText_sort_35 rfl rfl ?_
  refine ab_if_ge (tgt := 43) d_MText_sort_36 (by decide) (fun q12 => ?_) (fun q12 => ?_)
  · rw [if_pos q12] at hF
    refine ab_aload_n d_MText_sort_43 rfl rfl rfl ?_
    obtain ⟨q13, hG⟩ := ck_s hF; clear hF
    obtain ⟨a14, e15, hF⟩ := rf_s hG; clear hG
    refine hp_getR (f := 14) d_MText_sort_44 q13 (by decide) rfl (by decide) (k8 178 rfl rfl) rfl e15 ?_
    refine ab_iload_n d_MText_sort_47 rfl rfl ?_
    obtain ⟨n16, q17, hG⟩ := ar_s hF; clear hF
    obtain ⟨q18, hF⟩ := ck_s hG; clear hG
    refine hp_iald d_MText_sort_48 tI q17 q18 ?_
    refine ab_topi (fun x19 ex19 => ?_)
    replace hF := bnd_s ex19 hF
    exact ab_iret d_MText_sort_49 rfl (Nat.le_refl _) (Nat.le_refl _) (by have hr := Option.some.inj hF; subst hr; exact ⟨rfl, rfl⟩)
  · rw [if_neg q12] at hF
    refine ab_iconst (v := 0) d_MText_sort_39 (by decide) ?_
    refine ab_goto (tgt := 49) d_MText_sort_40 (by decide) ?_
    exact ab_iret d_MText_sort_49 rfl (Nat.le_refl _) (Nat.le_refl _) (by have hr := Option.some.inj hF; subst hr; exact ⟨rfl, rfl⟩)
def F_MText_sort (N : Nat) (p0 : Nat) (p1 : Int32) (H : Hp) : Option (Int32 × Hp) :=
    ck (H.sh[p0]? = some (14, 0)) <|
    bnd ((H.D p0 9)) fun x2 =>
    if x2 ≤ (0 : Int32) then
    bC (F_MText_local N p0 p1 H) fun v5 H6 =>
    if v5 < (0 : Int32) then
    bC (F_MText_index N p0 p1 H6) fun v9 H10 =>
    if (0 : Int32) ≤ v9 then
    B_MText_sort_35 N p0 p1 v9 H10
    else
    bC (F_MText_fails N p0 (4 : Int32) p1 H10) fun v29 H30 =>
    B_MText_sort_35 N p0 p1 v9 H30
    else
    some (1, H6)
    else
    some (0, H)
set_option maxRecDepth 20000 in
set_option maxHeartbeats 2000000 in
theorem m_MText_sort {N : Nat} {p0 : Nat} {p1 : Int32} {H : Hp} {r : Int32 × Hp} (hF : F_MText_sort N p0 p1 H = some r) : Sa H r.2 := by
  unfold F_MText_sort at hF
  have hm := Sa.rf H
  obtain ⟨q31, hG⟩ := ck_s hF; clear hF
  obtain ⟨x32, -, hF⟩ := bnd_g hG; clear hG
  rcases ite_s hF with ⟨q_5, hG⟩ | ⟨q_5, hG⟩
  · clear hF
    obtain ⟨v35, H36, z34, hF⟩ := bC_s hG; clear hG
    replace hm : Sa H H36 := hm.tr (m_MText_local z34)
    rcases ite_s hF with ⟨q_7, hG⟩ | ⟨q_7, hG⟩
    · clear hF
      obtain ⟨v39, H40, z38, hF⟩ := bC_s hG; clear hG
      replace hm : Sa H H40 := hm.tr (m_MText_index z38)
      rcases ite_s hF with ⟨q_9, hG⟩ | ⟨q_9, hG⟩
      · clear hF
        exact hm.tr (mB_MText_sort_35 hG)
      · clear hF
        obtain ⟨v43, H44, z42, hF⟩ := bC_s hG; clear hG
        replace hm : Sa H H44 := hm.tr (m_MText_fails z42)
        exact hm.tr (mB_MText_sort_35 hF)
    · clear hF
      have hr := Option.some.inj hG; subst hr
      exact hm
  · clear hF
    have hr := Option.some.inj hG; subst hr
    exact hm
set_option maxRecDepth 20000 in
set_option maxHeartbeats 2000000 in
theorem k_MText_sort {N : Nat} {p0 : Nat} {p1 : Int32} {H : Hp} {r : Int32 × Hp} (hF : F_MText_sort N p0 p1 H = some r) : ab_M y_MText_sort { frames := 2, cells := 0, slots := 0, locals := 47 } [.ref p0, .int p1] (hpw H) (po (.returned (some (.int r.1))) r.2) := by
  unfold F_MText_sort at hF
  refine ab_of2 (lv := [some (.ref p0), some (.int p1), none]) 1 rfl rfl (Nat.le_of_ble_eq_true rfl) ?_
  refine ab_aload_n d_MText_sort_0 rfl rfl rfl ?_
  obtain ⟨q1, hG⟩ := ck_s hF; clear hF
  refine hp_getI (f := 9) d_MText_sort_1 q1 (by decide) rfl (by decide) (k8 172 rfl rfl) rfl ?_
  refine ab_topi (fun x2 ex2 => ?_)
  replace hG := bnd_s ex2 hG
  refine ab_if_le (tgt := 9) d_MText_sort_4 (by decide) (fun q3 => ?_) (fun q3 => ?_)
  · rw [if_pos q3] at hG
    refine ab_aload_n d_MText_sort_9 rfl rfl rfl ?_
    refine ab_iload_n d_MText_sort_10 rfl rfl ?_
    obtain ⟨v5, H6, z4, hF⟩ := bC_s hG; clear hG
    refine hp_callV_a (v := .int v5) (H1 := H6) (As := [.int p1]) (rest := []) d_MText_sort_11 (k_MText_local z4) (ab_mkC s_MText_local (Nat.le_of_ble_eq_true rfl) (Nat.le_of_ble_eq_true rfl) (Nat.le_refl 0) (Nat.le_refl 0)) (k10 221 rfl rfl) i_MText_local v_MText_local q1 (by decide) rfl rfl (Nat.le_of_ble_eq_true rfl) ?_
    have s_1 : Sa H H6 := (m_MText_local z4)
    refine ab_if_lt (tgt := 19) d_MText_sort_14 (by decide) (fun q7 => ?_) (fun q7 => ?_)
    · rw [if_pos q7] at hF
      refine ab_aload_n d_MText_sort_19 rfl rfl rfl ?_
      refine ab_iload_n d_MText_sort_20 rfl rfl ?_
      obtain ⟨v9, H10, z8, hG⟩ := bC_s hF; clear hF
      refine hp_callV_a (v := .int v9) (H1 := H10) (As := [.int p1]) (rest := []) d_MText_sort_21 (k_MText_index z8) (ab_mkC s_MText_index (Nat.le_of_ble_eq_true rfl) (Nat.le_of_ble_eq_true rfl) (Nat.le_refl 0) (Nat.le_refl 0)) (k10 184 rfl rfl) i_MText_index v_MText_index (by rw [(s_1).1]; exact q1) (by decide) rfl rfl (Nat.le_of_ble_eq_true rfl) ?_
      have s_2 : Sa H H10 := (s_1).tr (m_MText_index z8)
      refine ab_istore_n (lv' := [some (.ref p0), some (.int p1), some (.int v9)]) d_MText_sort_24 rfl (by decide) rfl ?_
      refine ab_iload_n d_MText_sort_25 rfl rfl ?_
      refine ab_if_ge (tgt := 35) d_MText_sort_26 (by decide) (fun q11 => ?_) (fun q11 => ?_)
      · rw [if_pos q11] at hG
        exact kB_MText_sort_35 hG
      · rw [if_neg q11] at hG
        refine ab_aload_n d_MText_sort_29 rfl rfl rfl ?_
        refine ab_iconst (v := 4) d_MText_sort_30 (by decide) ?_
        refine ab_iload_n d_MText_sort_31 rfl rfl ?_
        obtain ⟨v29, H30, z28, hF⟩ := bC_s hG; clear hG
        refine hp_callV_v (H1 := H30) (As := [.int 4, .int p1]) (rest := []) d_MText_sort_32 (k_MText_fails z28) (ab_mkC s_MText_fails (Nat.le_of_ble_eq_true rfl) (Nat.le_of_ble_eq_true rfl) (Nat.le_refl 0) (Nat.le_refl 0)) (k10 160 rfl rfl) i_MText_fails v_MText_fails (by rw [(s_2).1]; exact q1) (by decide) rfl rfl (Nat.le_of_ble_eq_true rfl) ?_
        have s_4 : Sa H H30 := (s_2).tr (m_MText_fails z28)
        exact kB_MText_sort_35 hF
    · rw [if_neg q7] at hF
      refine ab_iconst (v := 1) d_MText_sort_17 (by decide) ?_
      exact ab_iret d_MText_sort_18 rfl (Nat.le_refl _) (Nat.le_refl _) (by have hr := Option.some.inj hF; subst hr; exact ⟨rfl, rfl⟩)
  · rw [if_neg q3] at hG
    refine ab_iconst (v := 0) d_MText_sort_7 (by decide) ?_
    exact ab_iret d_MText_sort_8 rfl (Nat.le_refl _) (Nat.le_refl _) (by have hr := Option.some.inj hG; subst hr; exact ⟨rfl, rfl⟩)
def y_MText_numberOf : ab_Y := (⟨"WorldEngineModel$Text", "numberOf", "(II)I"⟩, prog_16_method_36_code, 4, (some FieldType.int), [])
theorem d_MText_numberOf_0 : decode y_MText_numberOf.2.1 0 = .ok (.aload_n 0, 1) := by decide +kernel
theorem d_MText_numberOf_1 : decode y_MText_numberOf.2.1 1 = .ok (.iload_n 1, 1) := by decide +kernel
theorem d_MText_numberOf_2 : decode y_MText_numberOf.2.1 2 = .ok (.invokevirtual 287, 3) := by decide +kernel
theorem d_MText_numberOf_5 : decode y_MText_numberOf.2.1 5 = .ok (.istore_n 3, 1) := by decide +kernel
theorem d_MText_numberOf_6 : decode y_MText_numberOf.2.1 6 = .ok (.aload_n 0, 1) := by decide +kernel
theorem d_MText_numberOf_7 : decode y_MText_numberOf.2.1 7 = .ok (.getfield 185, 3) := by decide +kernel
theorem d_MText_numberOf_10 : decode y_MText_numberOf.2.1 10 = .ok (.ifCond .ne 14, 3) := by decide +kernel
theorem d_MText_numberOf_13 : decode y_MText_numberOf.2.1 13 = .ok (.iload_n 3, 1) := by decide +kernel
theorem d_MText_numberOf_14 : decode y_MText_numberOf.2.1 14 = .ok (.iload_n 2, 1) := by decide +kernel
theorem d_MText_numberOf_15 : decode y_MText_numberOf.2.1 15 = .ok (.if_icmp .eq 9, 3) := by decide +kernel
theorem d_MText_numberOf_18 : decode y_MText_numberOf.2.1 18 = .ok (.aload_n 0, 1) := by decide +kernel
theorem d_MText_numberOf_19 : decode y_MText_numberOf.2.1 19 = .ok (.iconst 5, 1) := by decide +kernel
theorem d_MText_numberOf_20 : decode y_MText_numberOf.2.1 20 = .ok (.iload_n 1, 1) := by decide +kernel
theorem d_MText_numberOf_21 : decode y_MText_numberOf.2.1 21 = .ok (.invokevirtual 200, 3) := by decide +kernel
theorem d_MText_numberOf_24 : decode y_MText_numberOf.2.1 24 = .ok (.aload_n 0, 1) := by decide +kernel
theorem d_MText_numberOf_25 : decode y_MText_numberOf.2.1 25 = .ok (.getfield 185, 3) := by decide +kernel
theorem d_MText_numberOf_28 : decode y_MText_numberOf.2.1 28 = .ok (.ifCond .le 5, 3) := by decide +kernel
theorem d_MText_numberOf_31 : decode y_MText_numberOf.2.1 31 = .ok (.iconst 0, 1) := by decide +kernel
theorem d_MText_numberOf_32 : decode y_MText_numberOf.2.1 32 = .ok (.ireturn, 1) := by decide +kernel
theorem d_MText_numberOf_33 : decode y_MText_numberOf.2.1 33 = .ok (.aload_n 0, 1) := by decide +kernel
theorem d_MText_numberOf_34 : decode y_MText_numberOf.2.1 34 = .ok (.getfield 32, 3) := by decide +kernel
theorem d_MText_numberOf_37 : decode y_MText_numberOf.2.1 37 = .ok (.iload_n 1, 1) := by decide +kernel
theorem d_MText_numberOf_38 : decode y_MText_numberOf.2.1 38 = .ok (.aload_n 0, 1) := by decide +kernel
theorem d_MText_numberOf_39 : decode y_MText_numberOf.2.1 39 = .ok (.getfield 41, 3) := by decide +kernel
theorem d_MText_numberOf_42 : decode y_MText_numberOf.2.1 42 = .ok (.aload_n 0, 1) := by decide +kernel
theorem d_MText_numberOf_43 : decode y_MText_numberOf.2.1 43 = .ok (.iload_n 1, 1) := by decide +kernel
theorem d_MText_numberOf_44 : decode y_MText_numberOf.2.1 44 = .ok (.invokevirtual 243, 3) := by decide +kernel
theorem d_MText_numberOf_47 : decode y_MText_numberOf.2.1 47 = .ok (.iaload, 1) := by decide +kernel
theorem d_MText_numberOf_48 : decode y_MText_numberOf.2.1 48 = .ok (.iastore, 1) := by decide +kernel
theorem d_MText_numberOf_49 : decode y_MText_numberOf.2.1 49 = .ok (.aload_n 0, 1) := by decide +kernel
theorem d_MText_numberOf_50 : decode y_MText_numberOf.2.1 50 = .ok (.getfield 32, 3) := by decide +kernel
theorem d_MText_numberOf_53 : decode y_MText_numberOf.2.1 53 = .ok (.iload_n 1, 1) := by decide +kernel
theorem d_MText_numberOf_54 : decode y_MText_numberOf.2.1 54 = .ok (.iaload, 1) := by decide +kernel
theorem d_MText_numberOf_55 : decode y_MText_numberOf.2.1 55 = .ok (.ireturn, 1) := by decide +kernel
theorem s_MText_numberOf : ab_Stat y_MText_numberOf 2 := ⟨(k10 228 rfl rfl), (k1 20 rfl rfl), ⟨by decide, by decide⟩, by decide +kernel⟩
theorem i_MText_numberOf : Cond.instanceMethod y_MText_numberOf.1 ∈ ab_T := (k10 227 rfl rfl)
theorem v_MText_numberOf : Cond.selects "WorldEngineModel$Text" y_MText_numberOf.1 y_MText_numberOf.1 ∈ ab_T := ab_s (List.mem_of_getElem? (i := 131) rfl) rfl
def B_MText_numberOf_24 (N : Nat) (p0 : Nat) (p1 : Int32) (p2 : Int32)  (H : Hp) : Option (Int32 × Hp) :=
    ck (H.sh[p0]? = some (14, 0)) <|
    bnd ((H.D p0 9)) fun x8 =>
    if x8 ≤ (0 : Int32) then
    rf (H.P p0 8) fun a10 =>
    rf (H.P p0 15) fun a12 =>
    bC (F_MText_index N p0 p1 H) fun v15 H16 =>
    ar H16 100 a12 fun n17 =>
    ck (inb v15 n17) <|
    bnd ((H16.D a12 (v15).toNatClampNeg)) fun x20 =>
    ar H16 100 a10 fun n21 =>
    ck (inb p1 n21) <|
    bnd (H16.sD a10 (p1).toNatClampNeg x20) fun H24 =>
    rf (H24.P p0 8) fun a25 =>
    ar H24 100 a25 fun n27 =>
    ck (inb p1 n27) <|
    bnd ((H24.D a25 (p1).toNatClampNeg)) fun x30 =>
    some (x30, H24)
    else
    some (0, H)
set_option maxRecDepth 20000 in
set_option maxHeartbeats 2000000 in
theorem mB_MText_numberOf_24 {N : Nat} {p0 : Nat} {p1 : Int32} {p2 : Int32}  {H : Hp} {r : Int32 × Hp} (hF : B_MText_numberOf_24 N p0 p1 p2  H = some r) : Sa H r.2 := by
  unfold B_MText_numberOf_24 at hF
  have hm := Sa.rf H
  obtain ⟨q31, hG⟩ := ck_s hF; clear hF
  obtain ⟨x32, -, hF⟩ := bnd_g hG; clear hG
  rcases ite_s hF with ⟨q_4, hG⟩ | ⟨q_4, hG⟩
  · clear hF
    obtain ⟨a34, e35, hF⟩ := rf_s hG; clear hG
    obtain ⟨a36, e37, hG⟩ := rf_s hF; clear hF
    obtain ⟨v39, H40, z38, hF⟩ := bC_s hG; clear hG
    replace hm : Sa H H40 := hm.tr (m_MText_index z38)
    obtain ⟨n41, q42, hG⟩ := ar_s hF; clear hF
    obtain ⟨q43, hF⟩ := ck_s hG; clear hG
    obtain ⟨x44, -, hG⟩ := bnd_g hF; clear hF
    obtain ⟨n45, q46, hF⟩ := ar_s hG; clear hG
    obtain ⟨q47, hG⟩ := ck_s hF; clear hF
    obtain ⟨H48, eH48, hF⟩ := bnd_g hG; clear hG
    replace hm : Sa H H48 := by rw [eH48]; exact hm
    obtain ⟨a49, e50, hG⟩ := rf_s hF; clear hF
    obtain ⟨n51, q52, hF⟩ := ar_s hG; clear hG
    obtain ⟨q53, hG⟩ := ck_s hF; clear hF
    obtain ⟨x54, -, hF⟩ := bnd_g hG; clear hG
    have hr := Option.some.inj hF; subst hr
    exact hm
  · clear hF
    have hr := Option.some.inj hG; subst hr
    exact hm
set_option maxRecDepth 20000 in
set_option maxHeartbeats 2000000 in
theorem kB_MText_numberOf_24 {N : Nat} {p0 : Nat} {p1 : Int32} {p2 : Int32}  {H : Hp} {r : Int32 × Hp} (hF : B_MText_numberOf_24 N p0 p1 p2  H = some r) : ab_V y_MText_numberOf { frames := 3, cells := 0, slots := 0, locals := 69 } (po (.returned (some (.int r.1))) r.2) 0 0 0 0 24 [some (.ref p0), some (.int p1), some (.int p2), none] [] (hpw H) := by
  unfold B_MText_numberOf_24 at hF
  refine ab_aload_n d_MText_numberOf_24 rfl rfl rfl ?_
  obtain ⟨q7, hG⟩ := ck_s hF; clear hF
  refine hp_getI (f := 9) d_MText_numberOf_25 q7 (by decide) rfl (by decide) (k8 172 rfl rfl) rfl ?_
  refine ab_topi (fun x8 ex8 => ?_)
  replace hG := bnd_s ex8 hG
  refine ab_if_le (tgt := 33) d_MText_numberOf_28 (by decide) (fun q9 => ?_) (fun q9 => ?_)
  · rw [if_pos q9] at hG
    refine ab_aload_n d_MText_numberOf_33 rfl rfl rfl ?_
    obtain ⟨a10, e11, hF⟩ := rf_s hG; clear hG
    refine hp_getR (f := 8) d_MText_numberOf_34 q7 (by decide) rfl (by decide) (k8 169 rfl rfl) rfl e11 ?_
    refine ab_iload_n d_MText_numberOf_37 rfl rfl ?_
    refine ab_aload_n d_MText_numberOf_38 rfl rfl rfl ?_
    obtain ⟨a12, e13, hG⟩ := rf_s hF; clear hF
    refine hp_getR (f := 15) d_MText_numberOf_39 q7 (by decide) rfl (by decide) (k8 179 rfl rfl) rfl e13 ?_
    refine ab_aload_n d_MText_numberOf_42 rfl rfl rfl ?_
    refine ab_iload_n d_MText_numberOf_43 rfl rfl ?_
    obtain ⟨v15, H16, z14, hF⟩ := bC_s hG; clear hG
    refine hp_callV_a (v := .int v15) (H1 := H16) (As := [.int p1]) (rest := [.ref a12, .int p1, .ref a10]) d_MText_numberOf_44 (k_MText_index z14) (ab_mkC s_MText_index (Nat.le_of_ble_eq_true rfl) (Nat.le_of_ble_eq_true rfl) (Nat.le_refl 0) (Nat.le_refl 0)) (k10 184 rfl rfl) i_MText_index v_MText_index q7 (by decide) rfl rfl (Nat.le_of_ble_eq_true rfl) ?_
    have s_2 : Sa H H16 := (m_MText_index z14)
    obtain ⟨n17, q18, hG⟩ := ar_s hF; clear hF
    rw [(s_2).1] at q18
    obtain ⟨q19, hF⟩ := ck_s hG; clear hG
    refine hp_iald d_MText_numberOf_47 tI (by rw [(s_2).1]; exact q18) q19 ?_
    refine ab_topi (fun x20 ex20 => ?_)
    replace hF := bnd_s ex20 hF
    obtain ⟨n21, q22, hG⟩ := ar_s hF; clear hF
    rw [(s_2).1] at q22
    obtain ⟨q23, hF⟩ := ck_s hG; clear hG
    refine hp_iast d_MText_numberOf_48 tI (by rw [(s_2).1]; exact q22) q23 ?_
    refine hp_gen (fun H24 eH24 => ?_)
    replace hF := bnd_s eH24 hF
    have s_3 : Sa H H24 := by rw [eH24]; exact s_2
    refine ab_aload_n d_MText_numberOf_49 rfl rfl rfl ?_
    obtain ⟨a25, e26, hG⟩ := rf_s hF; clear hF
    refine hp_getR (f := 8) d_MText_numberOf_50 (by rw [(s_3).1]; exact q7) (by decide) rfl (by decide) (k8 169 rfl rfl) rfl e26 ?_
    refine ab_iload_n d_MText_numberOf_53 rfl rfl ?_
    obtain ⟨n27, q28, hF⟩ := ar_s hG; clear hG
    rw [(s_3).1] at q28
    obtain ⟨q29, hG⟩ := ck_s hF; clear hF
    refine hp_iald d_MText_numberOf_54 tI (by rw [(s_3).1]; exact q28) q29 ?_
    refine ab_topi (fun x30 ex30 => ?_)
    replace hG := bnd_s ex30 hG
    exact ab_iret d_MText_numberOf_55 rfl (Nat.le_refl _) (Nat.le_refl _) (by have hr := Option.some.inj hG; subst hr; exact ⟨rfl, rfl⟩)
  · rw [if_neg q9] at hG
    refine ab_iconst (v := 0) d_MText_numberOf_31 (by decide) ?_
    exact ab_iret d_MText_numberOf_32 rfl (Nat.le_refl _) (Nat.le_refl _) (by have hr := Option.some.inj hG; subst hr; exact ⟨rfl, rfl⟩)
def F_MText_numberOf (N : Nat) (p0 : Nat) (p1 : Int32) (p2 : Int32) (H : Hp) : Option (Int32 × Hp) :=
    ck (H.sh[p0]? = some (14, 0)) <|
    bC (F_MText_sort N p0 p1 H) fun v3 H4 =>
    bnd ((H4.D p0 9)) fun x5 =>
    if x5 = (0 : Int32) then
    if v3 = p2 then
    B_MText_numberOf_24 N p0 p1 p2  H4
    else
    bC (F_MText_fails N p0 (5 : Int32) p1 H4) fun v57 H58 =>
    B_MText_numberOf_24 N p0 p1 p2  H58
    else
    B_MText_numberOf_24 N p0 p1 p2  H4
set_option maxRecDepth 20000 in
set_option maxHeartbeats 2000000 in
theorem m_MText_numberOf {N : Nat} {p0 : Nat} {p1 : Int32} {p2 : Int32} {H : Hp} {r : Int32 × Hp} (hF : F_MText_numberOf N p0 p1 p2 H = some r) : Sa H r.2 := by
  unfold F_MText_numberOf at hF
  have hm := Sa.rf H
  obtain ⟨q59, hG⟩ := ck_s hF; clear hF
  obtain ⟨v61, H62, z60, hF⟩ := bC_s hG; clear hG
  replace hm : Sa H H62 := hm.tr (m_MText_sort z60)
  obtain ⟨x63, -, hG⟩ := bnd_g hF; clear hF
  rcases ite_s hG with ⟨q_9, hF⟩ | ⟨q_9, hF⟩
  · clear hG
    rcases ite_s hF with ⟨q_10, hG⟩ | ⟨q_10, hG⟩
    · clear hF
      exact hm.tr (mB_MText_numberOf_24 hG)
    · clear hF
      obtain ⟨v67, H68, z66, hF⟩ := bC_s hG; clear hG
      replace hm : Sa H H68 := hm.tr (m_MText_fails z66)
      exact hm.tr (mB_MText_numberOf_24 hF)
  · clear hG
    exact hm.tr (mB_MText_numberOf_24 hF)
set_option maxRecDepth 20000 in
set_option maxHeartbeats 2000000 in
theorem k_MText_numberOf {N : Nat} {p0 : Nat} {p1 : Int32} {p2 : Int32} {H : Hp} {r : Int32 × Hp} (hF : F_MText_numberOf N p0 p1 p2 H = some r) : ab_M y_MText_numberOf { frames := 3, cells := 0, slots := 0, locals := 69 } [.ref p0, .int p1, .int p2] (hpw H) (po (.returned (some (.int r.1))) r.2) := by
  unfold F_MText_numberOf at hF
  refine ab_of2 (lv := [some (.ref p0), some (.int p1), some (.int p2), none]) 1 rfl rfl (Nat.le_of_ble_eq_true rfl) ?_
  refine ab_aload_n d_MText_numberOf_0 rfl rfl rfl ?_
  refine ab_iload_n d_MText_numberOf_1 rfl rfl ?_
  obtain ⟨q1, hG⟩ := ck_s hF; clear hF
  obtain ⟨v3, H4, z2, hF⟩ := bC_s hG; clear hG
  refine hp_callV_a (v := .int v3) (H1 := H4) (As := [.int p1]) (rest := []) d_MText_numberOf_2 (k_MText_sort z2) (ab_mkC s_MText_sort (Nat.le_of_ble_eq_true rfl) (Nat.le_of_ble_eq_true rfl) (Nat.le_refl 0) (Nat.le_refl 0)) (k10 229 rfl rfl) i_MText_sort v_MText_sort q1 (by decide) rfl rfl (Nat.le_of_ble_eq_true rfl) ?_
  have s_1 : Sa H H4 := (m_MText_sort z2)
  refine ab_istore_n (lv' := [some (.ref p0), some (.int p1), some (.int p2), some (.int v3)]) d_MText_numberOf_5 rfl (by decide) rfl ?_
  refine ab_aload_n d_MText_numberOf_6 rfl rfl rfl ?_
  refine hp_getI (f := 9) d_MText_numberOf_7 (by rw [(s_1).1]; exact q1) (by decide) rfl (by decide) (k8 172 rfl rfl) rfl ?_
  refine ab_topi (fun x5 ex5 => ?_)
  replace hF := bnd_s ex5 hF
  refine ab_if_ne (tgt := 24) d_MText_numberOf_10 (by decide) (fun q6 => ?_) (fun q6 => ?_)
  · rw [if_neg q6] at hF
    refine ab_le (lv' := [some (.ref p0), some (.int p1), some (.int p2), none]) ⟨rfl, ⟨rfl, ⟨rfl, trivial⟩⟩⟩ ?_
    exact kB_MText_numberOf_24 hF
  · rw [if_pos q6] at hF
    refine ab_iload_n d_MText_numberOf_13 rfl rfl ?_
    refine ab_iload_n d_MText_numberOf_14 rfl rfl ?_
    refine ab_icmp_eq (tgt := 24) d_MText_numberOf_15 (by decide) (fun q55 => ?_) (fun q55 => ?_)
    · rw [if_pos q55] at hF
      refine ab_le (lv' := [some (.ref p0), some (.int p1), some (.int p2), none]) ⟨rfl, ⟨rfl, ⟨rfl, trivial⟩⟩⟩ ?_
      exact kB_MText_numberOf_24 hF
    · rw [if_neg q55] at hF
      refine ab_aload_n d_MText_numberOf_18 rfl rfl rfl ?_
      refine ab_iconst (v := 5) d_MText_numberOf_19 (by decide) ?_
      refine ab_iload_n d_MText_numberOf_20 rfl rfl ?_
      obtain ⟨v57, H58, z56, hG⟩ := bC_s hF; clear hF
      refine hp_callV_v (H1 := H58) (As := [.int 5, .int p1]) (rest := []) d_MText_numberOf_21 (k_MText_fails z56) (ab_mkC s_MText_fails (Nat.le_of_ble_eq_true rfl) (Nat.le_of_ble_eq_true rfl) (Nat.le_refl 0) (Nat.le_refl 0)) (k10 160 rfl rfl) i_MText_fails v_MText_fails (by rw [(s_1).1]; exact q1) (by decide) rfl rfl (Nat.le_of_ble_eq_true rfl) ?_
      have s_7 : Sa H H58 := (s_1).tr (m_MText_fails z56)
      refine ab_le (lv' := [some (.ref p0), some (.int p1), some (.int p2), none]) ⟨rfl, ⟨rfl, ⟨rfl, trivial⟩⟩⟩ ?_
      exact kB_MText_numberOf_24 hG
def y_MText_componentOf : ab_Y := (⟨"WorldEngineModel$Text", "componentOf", "(IIII)I"⟩, prog_16_method_37_code, 8, (some FieldType.int), [])
theorem d_MText_componentOf_0 : decode y_MText_componentOf.2.1 0 = .ok (.aload_n 0, 1) := by decide +kernel
theorem d_MText_componentOf_1 : decode y_MText_componentOf.2.1 1 = .ok (.getfield 185, 3) := by decide +kernel
theorem d_MText_componentOf_4 : decode y_MText_componentOf.2.1 4 = .ok (.ifCond .gt 11, 3) := by decide +kernel
theorem d_MText_componentOf_7 : decode y_MText_componentOf.2.1 7 = .ok (.aload_n 0, 1) := by decide +kernel
theorem d_MText_componentOf_8 : decode y_MText_componentOf.2.1 8 = .ok (.iload_n 1, 1) := by decide +kernel
theorem d_MText_componentOf_9 : decode y_MText_componentOf.2.1 9 = .ok (.invokevirtual 284, 3) := by decide +kernel
theorem d_MText_componentOf_12 : decode y_MText_componentOf.2.1 12 = .ok (.ifCond .lt 7, 3) := by decide +kernel
theorem d_MText_componentOf_15 : decode y_MText_componentOf.2.1 15 = .ok (.iconst (-1), 1) := by decide +kernel
theorem d_MText_componentOf_16 : decode y_MText_componentOf.2.1 16 = .ok (.goto 8, 3) := by decide +kernel
theorem d_MText_componentOf_19 : decode y_MText_componentOf.2.1 19 = .ok (.aload_n 0, 1) := by decide +kernel
theorem d_MText_componentOf_20 : decode y_MText_componentOf.2.1 20 = .ok (.iload_n 1, 1) := by decide +kernel
theorem d_MText_componentOf_21 : decode y_MText_componentOf.2.1 21 = .ok (.invokevirtual 243, 3) := by decide +kernel
theorem d_MText_componentOf_24 : decode y_MText_componentOf.2.1 24 = .ok (.istore 5, 2) := by decide +kernel
theorem d_MText_componentOf_26 : decode y_MText_componentOf.2.1 26 = .ok (.iload 5, 2) := by decide +kernel
theorem d_MText_componentOf_28 : decode y_MText_componentOf.2.1 28 = .ok (.ifCond .lt 18, 3) := by decide +kernel
theorem d_MText_componentOf_31 : decode y_MText_componentOf.2.1 31 = .ok (.aload_n 0, 1) := by decide +kernel
theorem d_MText_componentOf_32 : decode y_MText_componentOf.2.1 32 = .ok (.getfield 38, 3) := by decide +kernel
theorem d_MText_componentOf_35 : decode y_MText_componentOf.2.1 35 = .ok (.iload 5, 2) := by decide +kernel
theorem d_MText_componentOf_37 : decode y_MText_componentOf.2.1 37 = .ok (.iaload, 1) := by decide +kernel
theorem d_MText_componentOf_38 : decode y_MText_componentOf.2.1 38 = .ok (.iconst 2, 1) := by decide +kernel
theorem d_MText_componentOf_39 : decode y_MText_componentOf.2.1 39 = .ok (.if_icmp .ne 7, 3) := by decide +kernel
theorem d_MText_componentOf_42 : decode y_MText_componentOf.2.1 42 = .ok (.iconst 1, 1) := by decide +kernel
theorem d_MText_componentOf_43 : decode y_MText_componentOf.2.1 43 = .ok (.goto 4, 3) := by decide +kernel
theorem d_MText_componentOf_46 : decode y_MText_componentOf.2.1 46 = .ok (.iconst 0, 1) := by decide +kernel
theorem d_MText_componentOf_47 : decode y_MText_componentOf.2.1 47 = .ok (.istore 6, 2) := by decide +kernel
theorem d_MText_componentOf_49 : decode y_MText_componentOf.2.1 49 = .ok (.iload 6, 2) := by decide +kernel
theorem d_MText_componentOf_51 : decode y_MText_componentOf.2.1 51 = .ok (.ifCond .eq 26, 3) := by decide +kernel
theorem d_MText_componentOf_54 : decode y_MText_componentOf.2.1 54 = .ok (.iload_n 2, 1) := by decide +kernel
theorem d_MText_componentOf_55 : decode y_MText_componentOf.2.1 55 = .ok (.iload_n 3, 1) := by decide +kernel
theorem d_MText_componentOf_56 : decode y_MText_componentOf.2.1 56 = .ok (.ior, 1) := by decide +kernel
theorem d_MText_componentOf_57 : decode y_MText_componentOf.2.1 57 = .ok (.aload_n 0, 1) := by decide +kernel
theorem d_MText_componentOf_58 : decode y_MText_componentOf.2.1 58 = .ok (.getfield 41, 3) := by decide +kernel
theorem d_MText_componentOf_61 : decode y_MText_componentOf.2.1 61 = .ok (.iload 5, 2) := by decide +kernel
theorem d_MText_componentOf_63 : decode y_MText_componentOf.2.1 63 = .ok (.iaload, 1) := by decide +kernel
theorem d_MText_componentOf_64 : decode y_MText_componentOf.2.1 64 = .ok (.ishr, 1) := by decide +kernel
theorem d_MText_componentOf_65 : decode y_MText_componentOf.2.1 65 = .ok (.iconst 1, 1) := by decide +kernel
theorem d_MText_componentOf_66 : decode y_MText_componentOf.2.1 66 = .ok (.iand, 1) := by decide +kernel
theorem d_MText_componentOf_67 : decode y_MText_componentOf.2.1 67 = .ok (.iconst 1, 1) := by decide +kernel
theorem d_MText_componentOf_68 : decode y_MText_componentOf.2.1 68 = .ok (.if_icmp .ne 9, 3) := by decide +kernel
theorem d_MText_componentOf_71 : decode y_MText_componentOf.2.1 71 = .ok (.aload_n 0, 1) := by decide +kernel
theorem d_MText_componentOf_72 : decode y_MText_componentOf.2.1 72 = .ok (.iconst 3, 1) := by decide +kernel
theorem d_MText_componentOf_73 : decode y_MText_componentOf.2.1 73 = .ok (.iload_n 1, 1) := by decide +kernel
theorem d_MText_componentOf_74 : decode y_MText_componentOf.2.1 74 = .ok (.invokevirtual 200, 3) := by decide +kernel
theorem d_MText_componentOf_77 : decode y_MText_componentOf.2.1 77 = .ok (.aload_n 0, 1) := by decide +kernel
theorem d_MText_componentOf_78 : decode y_MText_componentOf.2.1 78 = .ok (.iload_n 1, 1) := by decide +kernel
theorem d_MText_componentOf_79 : decode y_MText_componentOf.2.1 79 = .ok (.iconst 2, 1) := by decide +kernel
theorem d_MText_componentOf_80 : decode y_MText_componentOf.2.1 80 = .ok (.invokevirtual 290, 3) := by decide +kernel
theorem d_MText_componentOf_83 : decode y_MText_componentOf.2.1 83 = .ok (.istore 7, 2) := by decide +kernel
theorem d_MText_componentOf_85 : decode y_MText_componentOf.2.1 85 = .ok (.aload_n 0, 1) := by decide +kernel
theorem d_MText_componentOf_86 : decode y_MText_componentOf.2.1 86 = .ok (.getfield 185, 3) := by decide +kernel
theorem d_MText_componentOf_89 : decode y_MText_componentOf.2.1 89 = .ok (.ifCond .ne 19, 3) := by decide +kernel
theorem d_MText_componentOf_92 : decode y_MText_componentOf.2.1 92 = .ok (.iload 4, 2) := by decide +kernel
theorem d_MText_componentOf_94 : decode y_MText_componentOf.2.1 94 = .ok (.iload 7, 2) := by decide +kernel
theorem d_MText_componentOf_96 : decode y_MText_componentOf.2.1 96 = .ok (.ishr, 1) := by decide +kernel
theorem d_MText_componentOf_97 : decode y_MText_componentOf.2.1 97 = .ok (.iconst 1, 1) := by decide +kernel
theorem d_MText_componentOf_98 : decode y_MText_componentOf.2.1 98 = .ok (.iand, 1) := by decide +kernel
theorem d_MText_componentOf_99 : decode y_MText_componentOf.2.1 99 = .ok (.ifCond .ne 9, 3) := by decide +kernel
theorem d_MText_componentOf_102 : decode y_MText_componentOf.2.1 102 = .ok (.aload_n 0, 1) := by decide +kernel
theorem d_MText_componentOf_103 : decode y_MText_componentOf.2.1 103 = .ok (.iconst 5, 1) := by decide +kernel
theorem d_MText_componentOf_104 : decode y_MText_componentOf.2.1 104 = .ok (.iload_n 1, 1) := by decide +kernel
theorem d_MText_componentOf_105 : decode y_MText_componentOf.2.1 105 = .ok (.invokevirtual 200, 3) := by decide +kernel
theorem d_MText_componentOf_108 : decode y_MText_componentOf.2.1 108 = .ok (.iload 7, 2) := by decide +kernel
theorem d_MText_componentOf_110 : decode y_MText_componentOf.2.1 110 = .ok (.ireturn, 1) := by decide +kernel
theorem s_MText_componentOf : ab_Stat y_MText_componentOf 4 := ⟨(k10 220 rfl rfl), (k1 20 rfl rfl), ⟨by decide, by decide⟩, by decide +kernel⟩
theorem i_MText_componentOf : Cond.instanceMethod y_MText_componentOf.1 ∈ ab_T := (k10 219 rfl rfl)
theorem v_MText_componentOf : Cond.selects "WorldEngineModel$Text" y_MText_componentOf.1 y_MText_componentOf.1 ∈ ab_T := ab_s (List.mem_of_getElem? (i := 129) rfl) rfl
def B_MText_componentOf_77 (N : Nat) (p0 : Nat) (p1 : Int32) (p2 : Int32) (p3 : Int32) (p4 : Int32)  (H : Hp) : Option (Int32 × Hp) :=
    ck (H.sh[p0]? = some (14, 0)) <|
    bC (F_MText_numberOf N p0 p1 (2 : Int32) H) fun v8 H9 =>
    bnd ((H9.D p0 9)) fun x10 =>
    if x10 = (0 : Int32) then
    if ((p4 >>> (v8 &&& 31)) &&& (1 : Int32)) = (0 : Int32) then
    bC (F_MText_fails N p0 (5 : Int32) p1 H9) fun v14 H15 =>
    some (v8, H15)
    else
    some (v8, H9)
    else
    some (v8, H9)
set_option maxRecDepth 20000 in
set_option maxHeartbeats 2000000 in
theorem mB_MText_componentOf_77 {N : Nat} {p0 : Nat} {p1 : Int32} {p2 : Int32} {p3 : Int32} {p4 : Int32}  {H : Hp} {r : Int32 × Hp} (hF : B_MText_componentOf_77 N p0 p1 p2 p3 p4  H = some r) : Sa H r.2 := by
  unfold B_MText_componentOf_77 at hF
  have hm := Sa.rf H
  obtain ⟨q16, hG⟩ := ck_s hF; clear hF
  obtain ⟨v18, H19, z17, hF⟩ := bC_s hG; clear hG
  replace hm : Sa H H19 := hm.tr (m_MText_numberOf z17)
  obtain ⟨x20, -, hG⟩ := bnd_g hF; clear hF
  rcases ite_s hG with ⟨q_4, hF⟩ | ⟨q_4, hF⟩
  · clear hG
    rcases ite_s hF with ⟨q_5, hG⟩ | ⟨q_5, hG⟩
    · clear hF
      obtain ⟨v24, H25, z23, hF⟩ := bC_s hG; clear hG
      replace hm : Sa H H25 := hm.tr (m_MText_fails z23)
      have hr := Option.some.inj hF; subst hr
      exact hm
    · clear hF
      have hr := Option.some.inj hG; subst hr
      exact hm
  · clear hG
    have hr := Option.some.inj hF; subst hr
    exact hm
set_option maxRecDepth 20000 in
set_option maxHeartbeats 2000000 in
theorem kB_MText_componentOf_77 {N : Nat} {p0 : Nat} {p1 : Int32} {p2 : Int32} {p3 : Int32} {p4 : Int32}  {H : Hp} {r : Int32 × Hp} (hF : B_MText_componentOf_77 N p0 p1 p2 p3 p4  H = some r) : ab_V y_MText_componentOf { frames := 4, cells := 0, slots := 0, locals := 92 } (po (.returned (some (.int r.1))) r.2) 0 0 0 0 77 [some (.ref p0), some (.int p1), some (.int p2), some (.int p3), some (.int p4), none, none, none] [] (hpw H) := by
  unfold B_MText_componentOf_77 at hF
  refine ab_aload_n d_MText_componentOf_77 rfl rfl rfl ?_
  refine ab_iload_n d_MText_componentOf_78 rfl rfl ?_
  refine ab_iconst (v := 2) d_MText_componentOf_79 (by decide) ?_
  obtain ⟨q6, hG⟩ := ck_s hF; clear hF
  obtain ⟨v8, H9, z7, hF⟩ := bC_s hG; clear hG
  refine hp_callV_a (v := .int v8) (H1 := H9) (As := [.int p1, .int 2]) (rest := []) d_MText_componentOf_80 (k_MText_numberOf z7) (ab_mkC s_MText_numberOf (Nat.le_of_ble_eq_true rfl) (Nat.le_of_ble_eq_true rfl) (Nat.le_refl 0) (Nat.le_refl 0)) (k10 225 rfl rfl) i_MText_numberOf v_MText_numberOf q6 (by decide) rfl rfl (Nat.le_of_ble_eq_true rfl) ?_
  have s_1 : Sa H H9 := (m_MText_numberOf z7)
  refine ab_istore (lv' := [some (.ref p0), some (.int p1), some (.int p2), some (.int p3), some (.int p4), none, none, some (.int v8)]) d_MText_componentOf_83 (by decide) rfl ?_
  refine ab_aload_n d_MText_componentOf_85 rfl rfl rfl ?_
  refine hp_getI (f := 9) d_MText_componentOf_86 (by rw [(s_1).1]; exact q6) (by decide) rfl (by decide) (k8 172 rfl rfl) rfl ?_
  refine ab_topi (fun x10 ex10 => ?_)
  replace hF := bnd_s ex10 hF
  refine ab_if_ne (tgt := 108) d_MText_componentOf_89 (by decide) (fun q11 => ?_) (fun q11 => ?_)
  · rw [if_neg q11] at hF
    refine ab_iload d_MText_componentOf_108 rfl ?_
    exact ab_iret d_MText_componentOf_110 rfl (Nat.le_refl _) (Nat.le_refl _) (by have hr := Option.some.inj hF; subst hr; exact ⟨rfl, rfl⟩)
  · rw [if_pos q11] at hF
    refine ab_iload d_MText_componentOf_92 rfl ?_
    refine ab_iload d_MText_componentOf_94 rfl ?_
    refine ab_ishr d_MText_componentOf_96 ?_
    refine ab_iconst (v := 1) d_MText_componentOf_97 (by decide) ?_
    refine ab_iand d_MText_componentOf_98 ?_
    refine ab_if_ne (tgt := 108) d_MText_componentOf_99 (by decide) (fun q12 => ?_) (fun q12 => ?_)
    · rw [if_neg q12] at hF
      refine ab_iload d_MText_componentOf_108 rfl ?_
      exact ab_iret d_MText_componentOf_110 rfl (Nat.le_refl _) (Nat.le_refl _) (by have hr := Option.some.inj hF; subst hr; exact ⟨rfl, rfl⟩)
    · rw [if_pos q12] at hF
      refine ab_aload_n d_MText_componentOf_102 rfl rfl rfl ?_
      refine ab_iconst (v := 5) d_MText_componentOf_103 (by decide) ?_
      refine ab_iload_n d_MText_componentOf_104 rfl rfl ?_
      obtain ⟨v14, H15, z13, hG⟩ := bC_s hF; clear hF
      refine hp_callV_v (H1 := H15) (As := [.int 5, .int p1]) (rest := []) d_MText_componentOf_105 (k_MText_fails z13) (ab_mkC s_MText_fails (Nat.le_of_ble_eq_true rfl) (Nat.le_of_ble_eq_true rfl) (Nat.le_refl 0) (Nat.le_refl 0)) (k10 160 rfl rfl) i_MText_fails v_MText_fails (by rw [(s_1).1]; exact q6) (by decide) rfl rfl (Nat.le_of_ble_eq_true rfl) ?_
      have s_2 : Sa H H15 := (s_1).tr (m_MText_fails z13)
      refine ab_iload d_MText_componentOf_108 rfl ?_
      exact ab_iret d_MText_componentOf_110 rfl (Nat.le_refl _) (Nat.le_refl _) (by have hr := Option.some.inj hG; subst hr; exact ⟨rfl, rfl⟩)
def B_MText_componentOf_47 (N : Nat) (p0 : Nat) (p1 : Int32) (p2 : Int32) (p3 : Int32) (p4 : Int32) (l5 : Int32) (w0 : Int32) (H : Hp) : Option (Int32 × Hp) :=
    if w0 = (0 : Int32) then
    B_MText_componentOf_77 N p0 p1 p2 p3 p4  H
    else
    ck (H.sh[p0]? = some (14, 0)) <|
    rf (H.P p0 15) fun a27 =>
    ar H 100 a27 fun n29 =>
    ck (inb l5 n29) <|
    bnd ((H.D a27 (l5).toNatClampNeg)) fun x32 =>
    if (((p2 ||| p3) >>> (x32 &&& 31)) &&& (1 : Int32)) = (1 : Int32) then
    bC (F_MText_fails N p0 (3 : Int32) p1 H) fun v35 H36 =>
    B_MText_componentOf_77 N p0 p1 p2 p3 p4  H36
    else
    B_MText_componentOf_77 N p0 p1 p2 p3 p4  H
set_option maxRecDepth 20000 in
set_option maxHeartbeats 2000000 in
theorem mB_MText_componentOf_47 {N : Nat} {p0 : Nat} {p1 : Int32} {p2 : Int32} {p3 : Int32} {p4 : Int32} {l5 : Int32} {w0 : Int32} {H : Hp} {r : Int32 × Hp} (hF : B_MText_componentOf_47 N p0 p1 p2 p3 p4 l5 w0 H = some r) : Sa H r.2 := by
  unfold B_MText_componentOf_47 at hF
  have hm := Sa.rf H
  rcases ite_s hF with ⟨q_8, hG⟩ | ⟨q_8, hG⟩
  · clear hF
    exact hm.tr (mB_MText_componentOf_77 hG)
  · clear hF
    obtain ⟨q38, hF⟩ := ck_s hG; clear hG
    obtain ⟨a39, e40, hG⟩ := rf_s hF; clear hF
    obtain ⟨n41, q42, hF⟩ := ar_s hG; clear hG
    obtain ⟨q43, hG⟩ := ck_s hF; clear hF
    obtain ⟨x44, -, hF⟩ := bnd_g hG; clear hG
    rcases ite_s hF with ⟨q_9, hG⟩ | ⟨q_9, hG⟩
    · clear hF
      obtain ⟨v47, H48, z46, hF⟩ := bC_s hG; clear hG
      replace hm : Sa H H48 := hm.tr (m_MText_fails z46)
      exact hm.tr (mB_MText_componentOf_77 hF)
    · clear hF
      exact hm.tr (mB_MText_componentOf_77 hG)
set_option maxRecDepth 20000 in
set_option maxHeartbeats 2000000 in
theorem kB_MText_componentOf_47 {N : Nat} {p0 : Nat} {p1 : Int32} {p2 : Int32} {p3 : Int32} {p4 : Int32} {l5 : Int32} {w0 : Int32} {H : Hp} {r : Int32 × Hp} (hF : B_MText_componentOf_47 N p0 p1 p2 p3 p4 l5 w0 H = some r) : ab_V y_MText_componentOf { frames := 4, cells := 0, slots := 0, locals := 92 } (po (.returned (some (.int r.1))) r.2) 0 0 0 0 47 [some (.ref p0), some (.int p1), some (.int p2), some (.int p3), some (.int p4), some (.int l5), none, none] [.int w0] (hpw H) := by
  unfold B_MText_componentOf_47 at hF
  refine ab_istore (lv' := [some (.ref p0), some (.int p1), some (.int p2), some (.int p3), some (.int p4), some (.int l5), some (.int w0), none]) d_MText_componentOf_47 (by decide) rfl ?_
  refine ab_iload d_MText_componentOf_49 rfl ?_
  refine ab_if_eq (tgt := 77) d_MText_componentOf_51 (by decide) (fun q5 => ?_) (fun q5 => ?_)
  · rw [if_pos q5] at hF
    refine ab_le (lv' := [some (.ref p0), some (.int p1), some (.int p2), some (.int p3), some (.int p4), none, none, none]) ⟨rfl, ⟨rfl, ⟨rfl, ⟨rfl, ⟨rfl, trivial⟩⟩⟩⟩⟩ ?_
    exact kB_MText_componentOf_77 hF
  · rw [if_neg q5] at hF
    refine ab_iload_n d_MText_componentOf_54 rfl rfl ?_
    refine ab_iload_n d_MText_componentOf_55 rfl rfl ?_
    refine ab_ior d_MText_componentOf_56 ?_
    refine ab_aload_n d_MText_componentOf_57 rfl rfl rfl ?_
    obtain ⟨q26, hG⟩ := ck_s hF; clear hF
    obtain ⟨a27, e28, hF⟩ := rf_s hG; clear hG
    refine hp_getR (f := 15) d_MText_componentOf_58 q26 (by decide) rfl (by decide) (k8 179 rfl rfl) rfl e28 ?_
    refine ab_iload d_MText_componentOf_61 rfl ?_
    obtain ⟨n29, q30, hG⟩ := ar_s hF; clear hF
    obtain ⟨q31, hF⟩ := ck_s hG; clear hG
    refine hp_iald d_MText_componentOf_63 tI q30 q31 ?_
    refine ab_topi (fun x32 ex32 => ?_)
    replace hF := bnd_s ex32 hF
    refine ab_ishr d_MText_componentOf_64 ?_
    refine ab_iconst (v := 1) d_MText_componentOf_65 (by decide) ?_
    refine ab_iand d_MText_componentOf_66 ?_
    refine ab_iconst (v := 1) d_MText_componentOf_67 (by decide) ?_
    refine ab_icmp_ne (tgt := 77) d_MText_componentOf_68 (by decide) (fun q33 => ?_) (fun q33 => ?_)
    · rw [if_neg q33] at hF
      refine ab_le (lv' := [some (.ref p0), some (.int p1), some (.int p2), some (.int p3), some (.int p4), none, none, none]) ⟨rfl, ⟨rfl, ⟨rfl, ⟨rfl, ⟨rfl, trivial⟩⟩⟩⟩⟩ ?_
      exact kB_MText_componentOf_77 hF
    · rw [if_pos q33] at hF
      refine ab_aload_n d_MText_componentOf_71 rfl rfl rfl ?_
      refine ab_iconst (v := 3) d_MText_componentOf_72 (by decide) ?_
      refine ab_iload_n d_MText_componentOf_73 rfl rfl ?_
      obtain ⟨v35, H36, z34, hG⟩ := bC_s hF; clear hF
      refine hp_callV_v (H1 := H36) (As := [.int 3, .int p1]) (rest := []) d_MText_componentOf_74 (k_MText_fails z34) (ab_mkC s_MText_fails (Nat.le_of_ble_eq_true rfl) (Nat.le_of_ble_eq_true rfl) (Nat.le_refl 0) (Nat.le_refl 0)) (k10 160 rfl rfl) i_MText_fails v_MText_fails q26 (by decide) rfl rfl (Nat.le_of_ble_eq_true rfl) ?_
      have s_7 : Sa H H36 := (m_MText_fails z34)
      refine ab_le (lv' := [some (.ref p0), some (.int p1), some (.int p2), some (.int p3), some (.int p4), none, none, none]) ⟨rfl, ⟨rfl, ⟨rfl, ⟨rfl, ⟨rfl, trivial⟩⟩⟩⟩⟩ ?_
      exact kB_MText_componentOf_77 hG
def B_MText_componentOf_46 (N : Nat) (p0 : Nat) (p1 : Int32) (p2 : Int32) (p3 : Int32) (p4 : Int32) (l5 : Int32) (H : Hp) : Option (Int32 × Hp) :=
    B_MText_componentOf_47 N p0 p1 p2 p3 p4 l5 0 H
set_option maxRecDepth 20000 in
set_option maxHeartbeats 2000000 in
theorem mB_MText_componentOf_46 {N : Nat} {p0 : Nat} {p1 : Int32} {p2 : Int32} {p3 : Int32} {p4 : Int32} {l5 : Int32} {H : Hp} {r : Int32 × Hp} (hF : B_MText_componentOf_46 N p0 p1 p2 p3 p4 l5 H = some r) : Sa H r.2 := by
  unfold B_MText_componentOf_46 at hF
  have hm := Sa.rf H
  exact hm.tr (mB_MText_componentOf_47 hF)
set_option maxRecDepth 20000 in
set_option maxHeartbeats 2000000 in
theorem kB_MText_componentOf_46 {N : Nat} {p0 : Nat} {p1 : Int32} {p2 : Int32} {p3 : Int32} {p4 : Int32} {l5 : Int32} {H : Hp} {r : Int32 × Hp} (hF : B_MText_componentOf_46 N p0 p1 p2 p3 p4 l5 H = some r) : ab_V y_MText_componentOf { frames := 4, cells := 0, slots := 0, locals := 92 } (po (.returned (some (.int r.1))) r.2) 0 0 0 0 46 [some (.ref p0), some (.int p1), some (.int p2), some (.int p3), some (.int p4), some (.int l5), none, none] [] (hpw H) := by
  unfold B_MText_componentOf_46 at hF
  refine ab_iconst (v := 0) d_MText_componentOf_46 (by decide) ?_
  exact kB_MText_componentOf_47 hF
def B_MText_componentOf_24 (N : Nat) (p0 : Nat) (p1 : Int32) (p2 : Int32) (p3 : Int32) (p4 : Int32) (w0 : Int32) (H : Hp) : Option (Int32 × Hp) :=
    if w0 < (0 : Int32) then
    B_MText_componentOf_46 N p0 p1 p2 p3 p4 w0 H
    else
    ck (H.sh[p0]? = some (14, 0)) <|
    rf (H.P p0 14) fun a50 =>
    ar H 100 a50 fun n52 =>
    ck (inb w0 n52) <|
    bnd ((H.D a50 (w0).toNatClampNeg)) fun x55 =>
    if x55 = (2 : Int32) then
    B_MText_componentOf_47 N p0 p1 p2 p3 p4 w0 1 H
    else
    B_MText_componentOf_46 N p0 p1 p2 p3 p4 w0 H
set_option maxRecDepth 20000 in
set_option maxHeartbeats 2000000 in
theorem mB_MText_componentOf_24 {N : Nat} {p0 : Nat} {p1 : Int32} {p2 : Int32} {p3 : Int32} {p4 : Int32} {w0 : Int32} {H : Hp} {r : Int32 × Hp} (hF : B_MText_componentOf_24 N p0 p1 p2 p3 p4 w0 H = some r) : Sa H r.2 := by
  unfold B_MText_componentOf_24 at hF
  have hm := Sa.rf H
  rcases ite_s hF with ⟨q_11, hG⟩ | ⟨q_11, hG⟩
  · clear hF
    exact hm.tr (mB_MText_componentOf_46 hG)
  · clear hF
    obtain ⟨q58, hF⟩ := ck_s hG; clear hG
    obtain ⟨a59, e60, hG⟩ := rf_s hF; clear hF
    obtain ⟨n61, q62, hF⟩ := ar_s hG; clear hG
    obtain ⟨q63, hG⟩ := ck_s hF; clear hF
    obtain ⟨x64, -, hF⟩ := bnd_g hG; clear hG
    rcases ite_s hF with ⟨q_12, hG⟩ | ⟨q_12, hG⟩
    · clear hF
      exact hm.tr (mB_MText_componentOf_47 hG)
    · clear hF
      exact hm.tr (mB_MText_componentOf_46 hG)
set_option maxRecDepth 20000 in
set_option maxHeartbeats 2000000 in
theorem kB_MText_componentOf_24 {N : Nat} {p0 : Nat} {p1 : Int32} {p2 : Int32} {p3 : Int32} {p4 : Int32} {w0 : Int32} {H : Hp} {r : Int32 × Hp} (hF : B_MText_componentOf_24 N p0 p1 p2 p3 p4 w0 H = some r) : ab_V y_MText_componentOf { frames := 4, cells := 0, slots := 0, locals := 92 } (po (.returned (some (.int r.1))) r.2) 0 0 0 0 24 [some (.ref p0), some (.int p1), some (.int p2), some (.int p3), some (.int p4), none, none, none] [.int w0] (hpw H) := by
  unfold B_MText_componentOf_24 at hF
  refine ab_istore (lv' := [some (.ref p0), some (.int p1), some (.int p2), some (.int p3), some (.int p4), some (.int w0), none, none]) d_MText_componentOf_24 (by decide) rfl ?_
  refine ab_iload d_MText_componentOf_26 rfl ?_
  refine ab_if_lt (tgt := 46) d_MText_componentOf_28 (by decide) (fun q4 => ?_) (fun q4 => ?_)
  · rw [if_pos q4] at hF
    exact kB_MText_componentOf_46 hF
  · rw [if_neg q4] at hF
    refine ab_aload_n d_MText_componentOf_31 rfl rfl rfl ?_
    obtain ⟨q49, hG⟩ := ck_s hF; clear hF
    obtain ⟨a50, e51, hF⟩ := rf_s hG; clear hG
    refine hp_getR (f := 14) d_MText_componentOf_32 q49 (by decide) rfl (by decide) (k8 178 rfl rfl) rfl e51 ?_
    refine ab_iload d_MText_componentOf_35 rfl ?_
    obtain ⟨n52, q53, hG⟩ := ar_s hF; clear hF
    obtain ⟨q54, hF⟩ := ck_s hG; clear hG
    refine hp_iald d_MText_componentOf_37 tI q53 q54 ?_
    refine ab_topi (fun x55 ex55 => ?_)
    replace hF := bnd_s ex55 hF
    refine ab_iconst (v := 2) d_MText_componentOf_38 (by decide) ?_
    refine ab_icmp_ne (tgt := 46) d_MText_componentOf_39 (by decide) (fun q56 => ?_) (fun q56 => ?_)
    · rw [if_neg q56] at hF
      exact kB_MText_componentOf_46 hF
    · rw [if_pos q56] at hF
      refine ab_iconst (v := 1) d_MText_componentOf_42 (by decide) ?_
      refine ab_goto (tgt := 47) d_MText_componentOf_43 (by decide) ?_
      exact kB_MText_componentOf_47 hF
def B_MText_componentOf_15 (N : Nat) (p0 : Nat) (p1 : Int32) (p2 : Int32) (p3 : Int32) (p4 : Int32)  (H : Hp) : Option (Int32 × Hp) :=
    B_MText_componentOf_24 N p0 p1 p2 p3 p4 (-1) H
set_option maxRecDepth 20000 in
set_option maxHeartbeats 2000000 in
theorem mB_MText_componentOf_15 {N : Nat} {p0 : Nat} {p1 : Int32} {p2 : Int32} {p3 : Int32} {p4 : Int32}  {H : Hp} {r : Int32 × Hp} (hF : B_MText_componentOf_15 N p0 p1 p2 p3 p4  H = some r) : Sa H r.2 := by
  unfold B_MText_componentOf_15 at hF
  have hm := Sa.rf H
  exact hm.tr (mB_MText_componentOf_24 hF)
set_option maxRecDepth 20000 in
set_option maxHeartbeats 2000000 in
theorem kB_MText_componentOf_15 {N : Nat} {p0 : Nat} {p1 : Int32} {p2 : Int32} {p3 : Int32} {p4 : Int32}  {H : Hp} {r : Int32 × Hp} (hF : B_MText_componentOf_15 N p0 p1 p2 p3 p4  H = some r) : ab_V y_MText_componentOf { frames := 4, cells := 0, slots := 0, locals := 92 } (po (.returned (some (.int r.1))) r.2) 0 0 0 0 15 [some (.ref p0), some (.int p1), some (.int p2), some (.int p3), some (.int p4), none, none, none] [] (hpw H) := by
  unfold B_MText_componentOf_15 at hF
  refine ab_iconst (v := (-1)) d_MText_componentOf_15 (by decide) ?_
  refine ab_goto (tgt := 24) d_MText_componentOf_16 (by decide) ?_
  exact kB_MText_componentOf_24 hF
def F_MText_componentOf (N : Nat) (p0 : Nat) (p1 : Int32) (p2 : Int32) (p3 : Int32) (p4 : Int32) (H : Hp) : Option (Int32 × Hp) :=
    ck (H.sh[p0]? = some (14, 0)) <|
    bnd ((H.D p0 9)) fun x2 =>
    if (0 : Int32) < x2 then
    B_MText_componentOf_15 N p0 p1 p2 p3 p4  H
    else
    bC (F_MText_local N p0 p1 H) fun v67 H68 =>
    if v67 < (0 : Int32) then
    bC (F_MText_index N p0 p1 H68) fun v71 H72 =>
    B_MText_componentOf_24 N p0 p1 p2 p3 p4 v71 H72
    else
    B_MText_componentOf_15 N p0 p1 p2 p3 p4  H68
set_option maxRecDepth 20000 in
set_option maxHeartbeats 2000000 in
theorem m_MText_componentOf {N : Nat} {p0 : Nat} {p1 : Int32} {p2 : Int32} {p3 : Int32} {p4 : Int32} {H : Hp} {r : Int32 × Hp} (hF : F_MText_componentOf N p0 p1 p2 p3 p4 H = some r) : Sa H r.2 := by
  unfold F_MText_componentOf at hF
  have hm := Sa.rf H
  obtain ⟨q73, hG⟩ := ck_s hF; clear hF
  obtain ⟨x74, -, hF⟩ := bnd_g hG; clear hG
  rcases ite_s hF with ⟨q_15, hG⟩ | ⟨q_15, hG⟩
  · clear hF
    exact hm.tr (mB_MText_componentOf_15 hG)
  · clear hF
    obtain ⟨v77, H78, z76, hF⟩ := bC_s hG; clear hG
    replace hm : Sa H H78 := hm.tr (m_MText_local z76)
    rcases ite_s hF with ⟨q_17, hG⟩ | ⟨q_17, hG⟩
    · clear hF
      obtain ⟨v81, H82, z80, hF⟩ := bC_s hG; clear hG
      replace hm : Sa H H82 := hm.tr (m_MText_index z80)
      exact hm.tr (mB_MText_componentOf_24 hF)
    · clear hF
      exact hm.tr (mB_MText_componentOf_15 hG)
set_option maxRecDepth 20000 in
set_option maxHeartbeats 2000000 in
theorem k_MText_componentOf {N : Nat} {p0 : Nat} {p1 : Int32} {p2 : Int32} {p3 : Int32} {p4 : Int32} {H : Hp} {r : Int32 × Hp} (hF : F_MText_componentOf N p0 p1 p2 p3 p4 H = some r) : ab_M y_MText_componentOf { frames := 4, cells := 0, slots := 0, locals := 92 } [.ref p0, .int p1, .int p2, .int p3, .int p4] (hpw H) (po (.returned (some (.int r.1))) r.2) := by
  unfold F_MText_componentOf at hF
  refine ab_of2 (lv := [some (.ref p0), some (.int p1), some (.int p2), some (.int p3), some (.int p4), none, none, none]) 3 rfl rfl (Nat.le_of_ble_eq_true rfl) ?_
  refine ab_aload_n d_MText_componentOf_0 rfl rfl rfl ?_
  obtain ⟨q1, hG⟩ := ck_s hF; clear hF
  refine hp_getI (f := 9) d_MText_componentOf_1 q1 (by decide) rfl (by decide) (k8 172 rfl rfl) rfl ?_
  refine ab_topi (fun x2 ex2 => ?_)
  replace hG := bnd_s ex2 hG
  refine ab_if_gt (tgt := 15) d_MText_componentOf_4 (by decide) (fun q3 => ?_) (fun q3 => ?_)
  · rw [if_pos q3] at hG
    exact kB_MText_componentOf_15 hG
  · rw [if_neg q3] at hG
    refine ab_aload_n d_MText_componentOf_7 rfl rfl rfl ?_
    refine ab_iload_n d_MText_componentOf_8 rfl rfl ?_
    obtain ⟨v67, H68, z66, hF⟩ := bC_s hG; clear hG
    refine hp_callV_a (v := .int v67) (H1 := H68) (As := [.int p1]) (rest := []) d_MText_componentOf_9 (k_MText_local z66) (ab_mkC s_MText_local (Nat.le_of_ble_eq_true rfl) (Nat.le_of_ble_eq_true rfl) (Nat.le_refl 0) (Nat.le_refl 0)) (k10 221 rfl rfl) i_MText_local v_MText_local q1 (by decide) rfl rfl (Nat.le_of_ble_eq_true rfl) ?_
    have s_13 : Sa H H68 := (m_MText_local z66)
    refine ab_if_lt (tgt := 19) d_MText_componentOf_12 (by decide) (fun q69 => ?_) (fun q69 => ?_)
    · rw [if_pos q69] at hF
      refine ab_aload_n d_MText_componentOf_19 rfl rfl rfl ?_
      refine ab_iload_n d_MText_componentOf_20 rfl rfl ?_
      obtain ⟨v71, H72, z70, hG⟩ := bC_s hF; clear hF
      refine hp_callV_a (v := .int v71) (H1 := H72) (As := [.int p1]) (rest := []) d_MText_componentOf_21 (k_MText_index z70) (ab_mkC s_MText_index (Nat.le_of_ble_eq_true rfl) (Nat.le_of_ble_eq_true rfl) (Nat.le_refl 0) (Nat.le_refl 0)) (k10 184 rfl rfl) i_MText_index v_MText_index (by rw [(s_13).1]; exact q1) (by decide) rfl rfl (Nat.le_of_ble_eq_true rfl) ?_
      have s_14 : Sa H H72 := (s_13).tr (m_MText_index z70)
      exact kB_MText_componentOf_24 hG
    · rw [if_neg q69] at hF
      exact kB_MText_componentOf_15 hF
def y_M_first : ab_Y := (⟨"WorldEngineModel", "first", "(I)I"⟩, prog_14_method_15_code, 1, (some FieldType.int), [])
theorem d_M_first_0 : decode y_M_first.2.1 0 = .ok (.iload_n 0, 1) := by decide +kernel
theorem d_M_first_1 : decode y_M_first.2.1 1 = .ok (.iconst 4, 1) := by decide +kernel
theorem d_M_first_2 : decode y_M_first.2.1 2 = .ok (.if_icmp .ne 7, 3) := by decide +kernel
theorem d_M_first_5 : decode y_M_first.2.1 5 = .ok (.iconst (-1), 1) := by decide +kernel
theorem d_M_first_6 : decode y_M_first.2.1 6 = .ok (.goto 4, 3) := by decide +kernel
theorem d_M_first_9 : decode y_M_first.2.1 9 = .ok (.iconst 0, 1) := by decide +kernel
theorem d_M_first_10 : decode y_M_first.2.1 10 = .ok (.ireturn, 1) := by decide +kernel
theorem s_M_first : ab_Stat y_M_first 1 := ⟨(k10 235 rfl rfl), (k1 19 rfl rfl), ⟨by decide, by decide⟩, by decide +kernel⟩
theorem t_M_first : Cond.static y_M_first.1 ∈ ab_T := (k10 234 rfl rfl)
def F_M_first (N : Nat) (p0 : Int32) (H : Hp) : Option (Int32 × Hp) :=
    if p0 = (4 : Int32) then
    some ((-1), H)
    else
    some (0, H)
set_option maxRecDepth 20000 in
set_option maxHeartbeats 2000000 in
theorem m_M_first {N : Nat} {p0 : Int32} {H : Hp} {r : Int32 × Hp} (hF : F_M_first N p0 H = some r) : Sa H r.2 := by
  unfold F_M_first at hF
  have hm := Sa.rf H
  rcases ite_s hF with ⟨q_1, hG⟩ | ⟨q_1, hG⟩
  · clear hF
    have hr := Option.some.inj hG; subst hr
    exact hm
  · clear hF
    have hr := Option.some.inj hG; subst hr
    exact hm
set_option maxRecDepth 20000 in
set_option maxHeartbeats 2000000 in
theorem k_M_first {N : Nat} {p0 : Int32} {H : Hp} {r : Int32 × Hp} (hF : F_M_first N p0 H = some r) : ab_M y_M_first { frames := 0, cells := 0, slots := 0, locals := 0 } [.int p0] (hpw H) (po (.returned (some (.int r.1))) r.2) := by
  unfold F_M_first at hF
  refine ab_of2 (lv := [some (.int p0)]) 0 rfl rfl (Nat.le_of_ble_eq_true rfl) ?_
  refine ab_iload_n d_M_first_0 rfl rfl ?_
  refine ab_iconst (v := 4) d_M_first_1 (by decide) ?_
  refine ab_icmp_ne (tgt := 9) d_M_first_2 (by decide) (fun q1 => ?_) (fun q1 => ?_)
  · rw [if_neg q1] at hF
    refine ab_iconst (v := 0) d_M_first_9 (by decide) ?_
    exact ab_iret d_M_first_10 rfl (Nat.le_refl _) (Nat.le_refl _) (by have hr := Option.some.inj hF; subst hr; exact ⟨rfl, rfl⟩)
  · rw [if_pos q1] at hF
    refine ab_iconst (v := (-1)) d_M_first_5 (by decide) ?_
    refine ab_goto (tgt := 10) d_M_first_6 (by decide) ?_
    exact ab_iret d_M_first_10 rfl (Nat.le_refl _) (Nat.le_refl _) (by have hr := Option.some.inj hF; subst hr; exact ⟨rfl, rfl⟩)
