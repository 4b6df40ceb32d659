def y_Lexer_byteAt : ab_Y := (⟨"WorldEngine$Lexer", "byteAt", "(I)I"⟩, prog_3_method_5_code, 2, (some FieldType.int), [])
theorem d_Lexer_byteAt_0 : decode y_Lexer_byteAt.2.1 0 = .ok (.iload_n 1, 1) := by decide +kernel
theorem d_Lexer_byteAt_1 : decode y_Lexer_byteAt.2.1 1 = .ok (.aload_n 0, 1) := by decide +kernel
theorem d_Lexer_byteAt_2 : decode y_Lexer_byteAt.2.1 2 = .ok (.getfield 42, 3) := by decide +kernel
theorem d_Lexer_byteAt_5 : decode y_Lexer_byteAt.2.1 5 = .ok (.if_icmp .ge 16, 3) := by decide +kernel
theorem d_Lexer_byteAt_8 : decode y_Lexer_byteAt.2.1 8 = .ok (.aload_n 0, 1) := by decide +kernel
theorem d_Lexer_byteAt_9 : decode y_Lexer_byteAt.2.1 9 = .ok (.getfield 9, 3) := by decide +kernel
theorem d_Lexer_byteAt_12 : decode y_Lexer_byteAt.2.1 12 = .ok (.iload_n 1, 1) := by decide +kernel
theorem d_Lexer_byteAt_13 : decode y_Lexer_byteAt.2.1 13 = .ok (.baload, 1) := by decide +kernel
theorem d_Lexer_byteAt_14 : decode y_Lexer_byteAt.2.1 14 = .ok (.sipush 255, 3) := by decide +kernel
theorem d_Lexer_byteAt_17 : decode y_Lexer_byteAt.2.1 17 = .ok (.iand, 1) := by decide +kernel
theorem d_Lexer_byteAt_18 : decode y_Lexer_byteAt.2.1 18 = .ok (.goto 4, 3) := by decide +kernel
theorem d_Lexer_byteAt_21 : decode y_Lexer_byteAt.2.1 21 = .ok (.iconst 0, 1) := by decide +kernel
theorem d_Lexer_byteAt_22 : decode y_Lexer_byteAt.2.1 22 = .ok (.ireturn, 1) := by decide +kernel
theorem s_Lexer_byteAt : ab_Stat y_Lexer_byteAt 1 := ⟨(k3 229 rfl rfl), (k1 2 rfl rfl), ⟨by decide, by decide⟩, by decide +kernel⟩
theorem i_Lexer_byteAt : Cond.instanceMethod y_Lexer_byteAt.1 ∈ ab_T := (k3 228 rfl rfl)
theorem v_Lexer_byteAt : Cond.selects "WorldEngine$Lexer" y_Lexer_byteAt.1 y_Lexer_byteAt.1 ∈ ab_T := ab_s (List.mem_of_getElem? (i := 1) rfl) rfl
def F_Lexer_byteAt (N : Nat) (p0 : Nat) (p1 : Int32) (H : Hp) : Option (Int32 × Hp) :=
    ck (H.sh[p0]? = some (1, 0)) <|
    bnd ((H.D p0 1)) fun x2 =>
    if x2 ≤ p1 then
    some (0, H)
    else
    rf (H.P p0 0) fun a4 =>
    ar H 101 a4 fun n6 =>
    ck (inb p1 n6) <|
    bnd ((H.D a4 (p1).toNatClampNeg)) fun x9 =>
    some (x9 &&& (255 : Int32), H)
set_option maxRecDepth 20000 in
set_option maxHeartbeats 2000000 in
theorem m_Lexer_byteAt {N : Nat} {p0 : Nat} {p1 : Int32} {H : Hp} {r : Int32 × Hp} (hF : F_Lexer_byteAt N p0 p1 H = some r) : Sa H r.2 := by
  unfold F_Lexer_byteAt at hF
  have hm := Sa.rf H
  obtain ⟨q10, hG⟩ := ck_s hF; clear hF
  obtain ⟨x11, -, hF⟩ := bnd_g hG; clear hG
  rcases ite_s hF with ⟨q_1, hG⟩ | ⟨q_1, hG⟩
  · clear hF
    have hr := Option.some.inj hG; subst hr
    exact hm
  · clear hF
    obtain ⟨a13, e14, hF⟩ := rf_s hG; clear hG
    obtain ⟨n15, q16, hG⟩ := ar_s hF; clear hF
    obtain ⟨q17, hF⟩ := ck_s hG; clear hG
    obtain ⟨x18, -, hG⟩ := bnd_g hF; clear hF
    have hr := Option.some.inj hG; subst hr
    exact hm
set_option maxRecDepth 20000 in
set_option maxHeartbeats 2000000 in
theorem k_Lexer_byteAt {N : Nat} {p0 : Nat} {p1 : Int32} {H : Hp} {r : Int32 × Hp} (hF : F_Lexer_byteAt N p0 p1 H = some r) : ab_M y_Lexer_byteAt { frames := 0, cells := 0, slots := 0, locals := 0 } [.ref p0, .int p1] (hpw H) (po (.returned (some (.int r.1))) r.2) := by
  unfold F_Lexer_byteAt at hF
  refine ab_of2 (lv := [some (.ref p0), some (.int p1)]) 0 rfl rfl (Nat.le_of_ble_eq_true rfl) ?_
  refine ab_iload_n d_Lexer_byteAt_0 rfl rfl ?_
  refine ab_aload_n d_Lexer_byteAt_1 rfl rfl rfl ?_
  obtain ⟨q1, hG⟩ := ck_s hF; clear hF
  refine hp_getI (f := 1) d_Lexer_byteAt_2 q1 (by decide) rfl (by decide) (k1 95 rfl rfl) rfl ?_
  refine ab_topi (fun x2 ex2 => ?_)
  replace hG := bnd_s ex2 hG
  refine ab_icmp_ge (tgt := 21) d_Lexer_byteAt_5 (by decide) (fun q3 => ?_) (fun q3 => ?_)
  · rw [if_pos q3] at hG
    refine ab_iconst (v := 0) d_Lexer_byteAt_21 (by decide) ?_
    exact ab_iret d_Lexer_byteAt_22 rfl (Nat.le_refl _) (Nat.le_refl _) (by have hr := Option.some.inj hG; subst hr; exact ⟨rfl, rfl⟩)
  · rw [if_neg q3] at hG
    refine ab_aload_n d_Lexer_byteAt_8 rfl rfl rfl ?_
    obtain ⟨a4, e5, hF⟩ := rf_s hG; clear hG
    refine hp_getR (f := 0) d_Lexer_byteAt_9 q1 (by decide) rfl (by decide) (k1 94 rfl rfl) rfl e5 ?_
    refine ab_iload_n d_Lexer_byteAt_12 rfl rfl ?_
    obtain ⟨n6, q7, hG⟩ := ar_s hF; clear hF
    obtain ⟨q8, hF⟩ := ck_s hG; clear hG
    refine hp_bald d_Lexer_byteAt_13 tB q7 q8 ?_
    refine ab_topi (fun x9 ex9 => ?_)
    replace hF := bnd_s ex9 hF
    refine ab_sipush (v := 255) d_Lexer_byteAt_14 (by decide) ?_
    refine ab_iand d_Lexer_byteAt_17 ?_
    refine ab_goto (tgt := 22) d_Lexer_byteAt_18 (by decide) ?_
    exact ab_iret d_Lexer_byteAt_22 rfl (Nat.le_refl _) (Nat.le_refl _) (by have hr := Option.some.inj hF; subst hr; exact ⟨rfl, rfl⟩)
def y_Lexer_behindBlanks : ab_Y := (⟨"WorldEngine$Lexer", "behindBlanks", "(I)I"⟩, prog_3_method_6_code, 5, (some FieldType.int), [])
theorem d_Lexer_behindBlanks_0 : decode y_Lexer_behindBlanks.2.1 0 = .ok (.iconst 0, 1) := by decide +kernel
theorem d_Lexer_behindBlanks_1 : decode y_Lexer_behindBlanks.2.1 1 = .ok (.istore_n 2, 1) := by decide +kernel
theorem d_Lexer_behindBlanks_2 : decode y_Lexer_behindBlanks.2.1 2 = .ok (.iload_n 1, 1) := by decide +kernel
theorem d_Lexer_behindBlanks_3 : decode y_Lexer_behindBlanks.2.1 3 = .ok (.istore_n 3, 1) := by decide +kernel
theorem d_Lexer_behindBlanks_4 : decode y_Lexer_behindBlanks.2.1 4 = .ok (.iload_n 3, 1) := by decide +kernel
theorem d_Lexer_behindBlanks_5 : decode y_Lexer_behindBlanks.2.1 5 = .ok (.aload_n 0, 1) := by decide +kernel
theorem d_Lexer_behindBlanks_6 : decode y_Lexer_behindBlanks.2.1 6 = .ok (.getfield 42, 3) := by decide +kernel
theorem d_Lexer_behindBlanks_9 : decode y_Lexer_behindBlanks.2.1 9 = .ok (.if_icmp .ge 67, 3) := by decide +kernel
theorem d_Lexer_behindBlanks_12 : decode y_Lexer_behindBlanks.2.1 12 = .ok (.aload_n 0, 1) := by decide +kernel
theorem d_Lexer_behindBlanks_13 : decode y_Lexer_behindBlanks.2.1 13 = .ok (.iload_n 3, 1) := by decide +kernel
theorem d_Lexer_behindBlanks_14 : decode y_Lexer_behindBlanks.2.1 14 = .ok (.invokevirtual 74, 3) := by decide +kernel
theorem d_Lexer_behindBlanks_17 : decode y_Lexer_behindBlanks.2.1 17 = .ok (.istore 4, 2) := by decide +kernel
theorem d_Lexer_behindBlanks_19 : decode y_Lexer_behindBlanks.2.1 19 = .ok (.iload 4, 2) := by decide +kernel
theorem d_Lexer_behindBlanks_21 : decode y_Lexer_behindBlanks.2.1 21 = .ok (.bipush 35, 2) := by decide +kernel
theorem d_Lexer_behindBlanks_23 : decode y_Lexer_behindBlanks.2.1 23 = .ok (.if_icmp .ne 8, 3) := by decide +kernel
theorem d_Lexer_behindBlanks_26 : decode y_Lexer_behindBlanks.2.1 26 = .ok (.iconst 1, 1) := by decide +kernel
theorem d_Lexer_behindBlanks_27 : decode y_Lexer_behindBlanks.2.1 27 = .ok (.istore_n 2, 1) := by decide +kernel
theorem d_Lexer_behindBlanks_28 : decode y_Lexer_behindBlanks.2.1 28 = .ok (.goto 42, 3) := by decide +kernel
theorem d_Lexer_behindBlanks_31 : decode y_Lexer_behindBlanks.2.1 31 = .ok (.iload 4, 2) := by decide +kernel
theorem d_Lexer_behindBlanks_33 : decode y_Lexer_behindBlanks.2.1 33 = .ok (.bipush 10, 2) := by decide +kernel
theorem d_Lexer_behindBlanks_35 : decode y_Lexer_behindBlanks.2.1 35 = .ok (.if_icmp .ne 8, 3) := by decide +kernel
theorem d_Lexer_behindBlanks_38 : decode y_Lexer_behindBlanks.2.1 38 = .ok (.iconst 0, 1) := by decide +kernel
theorem d_Lexer_behindBlanks_39 : decode y_Lexer_behindBlanks.2.1 39 = .ok (.istore_n 2, 1) := by decide +kernel
theorem d_Lexer_behindBlanks_40 : decode y_Lexer_behindBlanks.2.1 40 = .ok (.goto 30, 3) := by decide +kernel
theorem d_Lexer_behindBlanks_43 : decode y_Lexer_behindBlanks.2.1 43 = .ok (.iload_n 2, 1) := by decide +kernel
theorem d_Lexer_behindBlanks_44 : decode y_Lexer_behindBlanks.2.1 44 = .ok (.ifCond .ne 26, 3) := by decide +kernel
theorem d_Lexer_behindBlanks_47 : decode y_Lexer_behindBlanks.2.1 47 = .ok (.iload 4, 2) := by decide +kernel
theorem d_Lexer_behindBlanks_49 : decode y_Lexer_behindBlanks.2.1 49 = .ok (.bipush 9, 2) := by decide +kernel
theorem d_Lexer_behindBlanks_51 : decode y_Lexer_behindBlanks.2.1 51 = .ok (.if_icmp .eq 19, 3) := by decide +kernel
theorem d_Lexer_behindBlanks_54 : decode y_Lexer_behindBlanks.2.1 54 = .ok (.iload 4, 2) := by decide +kernel
theorem d_Lexer_behindBlanks_56 : decode y_Lexer_behindBlanks.2.1 56 = .ok (.bipush 13, 2) := by decide +kernel
theorem d_Lexer_behindBlanks_58 : decode y_Lexer_behindBlanks.2.1 58 = .ok (.if_icmp .eq 12, 3) := by decide +kernel
theorem d_Lexer_behindBlanks_61 : decode y_Lexer_behindBlanks.2.1 61 = .ok (.iload 4, 2) := by decide +kernel
theorem d_Lexer_behindBlanks_63 : decode y_Lexer_behindBlanks.2.1 63 = .ok (.bipush 32, 2) := by decide +kernel
theorem d_Lexer_behindBlanks_65 : decode y_Lexer_behindBlanks.2.1 65 = .ok (.if_icmp .eq 5, 3) := by decide +kernel
theorem d_Lexer_behindBlanks_68 : decode y_Lexer_behindBlanks.2.1 68 = .ok (.iload_n 3, 1) := by decide +kernel
theorem d_Lexer_behindBlanks_69 : decode y_Lexer_behindBlanks.2.1 69 = .ok (.ireturn, 1) := by decide +kernel
theorem d_Lexer_behindBlanks_70 : decode y_Lexer_behindBlanks.2.1 70 = .ok (.iinc 3 1, 3) := by decide +kernel
theorem d_Lexer_behindBlanks_73 : decode y_Lexer_behindBlanks.2.1 73 = .ok (.goto (-69), 3) := by decide +kernel
theorem d_Lexer_behindBlanks_76 : decode y_Lexer_behindBlanks.2.1 76 = .ok (.aload_n 0, 1) := by decide +kernel
theorem d_Lexer_behindBlanks_77 : decode y_Lexer_behindBlanks.2.1 77 = .ok (.getfield 42, 3) := by decide +kernel
theorem d_Lexer_behindBlanks_80 : decode y_Lexer_behindBlanks.2.1 80 = .ok (.ireturn, 1) := by decide +kernel
theorem s_Lexer_behindBlanks : ab_Stat y_Lexer_behindBlanks 1 := ⟨(k3 225 rfl rfl), (k1 2 rfl rfl), ⟨by decide, by decide⟩, by decide +kernel⟩
theorem i_Lexer_behindBlanks : Cond.instanceMethod y_Lexer_behindBlanks.1 ∈ ab_T := (k3 224 rfl rfl)
theorem v_Lexer_behindBlanks : Cond.selects "WorldEngine$Lexer" y_Lexer_behindBlanks.1 y_Lexer_behindBlanks.1 ∈ ab_T := ab_s (List.mem_of_getElem? (i := 0) rfl) rfl
def B_Lexer_behindBlanks_70 (N : Nat) (p0 : Nat) (p1 : Int32) (kq4 : Int32 → Int32 → Hp → Option (Int32 × Hp)) (l2 : Int32) (l3 : Int32) (H : Hp) : Option (Int32 × Hp) :=
    kq4 l2 (l3 + 1) H
set_option maxRecDepth 20000 in
set_option maxHeartbeats 2000000 in
theorem mB_Lexer_behindBlanks_70 {N : Nat} {p0 : Nat} {p1 : Int32} {kq4 : Int32 → Int32 → Hp → Option (Int32 × Hp)} (hm4 : ∀ (l2 : Int32) (l3 : Int32) (H : Hp) (r : Int32 × Hp), kq4 l2 l3 H = some r → Sa H r.2) {l2 : Int32} {l3 : Int32} {H : Hp} {r : Int32 × Hp} (hF : B_Lexer_behindBlanks_70 N p0 p1 kq4 l2 l3 H = some r) : Sa H r.2 := by
  unfold B_Lexer_behindBlanks_70 at hF
  have hm := Sa.rf H
  exact hm.tr (hm4 l2 (l3 + 1) H r hF)
set_option maxRecDepth 20000 in
set_option maxHeartbeats 2000000 in
theorem kB_Lexer_behindBlanks_70 {N : Nat} {p0 : Nat} {p1 : Int32} {kq4 : Int32 → Int32 → Hp → Option (Int32 × Hp)} (hm4 : ∀ (l2 : Int32) (l3 : Int32) (H : Hp) (r : Int32 × Hp), kq4 l2 l3 H = some r → Sa H r.2) (hk4 : ∀ (l2 : Int32) (l3 : Int32) (H : Hp) (r : Int32 × Hp), kq4 l2 l3 H = some r → ab_V y_Lexer_behindBlanks { frames := 1, cells := 0, slots := 0, locals := 21 } (po (.returned (some (.int r.1))) r.2) 0 0 0 0 4 [some (.ref p0), some (.int p1), some (.int l2), some (.int l3), none] [] (hpw H)) {l2 : Int32} {l3 : Int32} {H : Hp} {r : Int32 × Hp} (hF : B_Lexer_behindBlanks_70 N p0 p1 kq4 l2 l3 H = some r) : ab_V y_Lexer_behindBlanks { frames := 1, cells := 0, slots := 0, locals := 21 } (po (.returned (some (.int r.1))) r.2) 0 0 0 0 70 [some (.ref p0), some (.int p1), some (.int l2), some (.int l3), none] [] (hpw H) := by
  unfold B_Lexer_behindBlanks_70 at hF
  refine ab_iinc (v := l3 + 1) (lv' := [some (.ref p0), some (.int p1), some (.int l2), some (.int (l3 + 1)), none]) d_Lexer_behindBlanks_70 rfl rfl (by decide) rfl ?_
  refine ab_goto (tgt := 4) d_Lexer_behindBlanks_73 (by decide) ?_
  exact hk4 l2 (l3 + 1) H r hF
def B_Lexer_behindBlanks_4 (N : Nat) (p0 : Nat) (p1 : Int32) : Nat → Int32 → Int32 → Hp → Option (Int32 × Hp)
  | 0, _, _, _ => none
  | n + 1, l2, l3, H =>
    ck (H.sh[p0]? = some (1, 0)) <|
    bnd ((H.D p0 1)) fun x2 =>
    if x2 ≤ l3 then
    bnd ((H.D p0 1)) fun x4 =>
    some (x4, H)
    else
    bC (F_Lexer_byteAt N p0 l3 H) fun v6 H7 =>
    if v6 = (35 : Int32) then
    B_Lexer_behindBlanks_70 N p0 p1 (fun l2 l3 H => B_Lexer_behindBlanks_4 N p0 p1 n l2 l3 H) 1 l3 H7
    else
    if v6 = (10 : Int32) then
    B_Lexer_behindBlanks_70 N p0 p1 (fun l2 l3 H => B_Lexer_behindBlanks_4 N p0 p1 n l2 l3 H) 0 l3 H7
    else
    if l2 = (0 : Int32) then
    if v6 = (9 : Int32) then
    B_Lexer_behindBlanks_70 N p0 p1 (fun l2 l3 H => B_Lexer_behindBlanks_4 N p0 p1 n l2 l3 H) l2 l3 H7
    else
    if v6 = (13 : Int32) then
    B_Lexer_behindBlanks_70 N p0 p1 (fun l2 l3 H => B_Lexer_behindBlanks_4 N p0 p1 n l2 l3 H) l2 l3 H7
    else
    if v6 = (32 : Int32) then
    B_Lexer_behindBlanks_70 N p0 p1 (fun l2 l3 H => B_Lexer_behindBlanks_4 N p0 p1 n l2 l3 H) l2 l3 H7
    else
    some (l3, H7)
    else
    B_Lexer_behindBlanks_70 N p0 p1 (fun l2 l3 H => B_Lexer_behindBlanks_4 N p0 p1 n l2 l3 H) l2 l3 H7
termination_by structural n => n
set_option maxRecDepth 20000 in
set_option maxHeartbeats 2000000 in
theorem mB_Lexer_behindBlanks_4 {N : Nat} {p0 : Nat} {p1 : Int32} : ∀ (n : Nat) (l2 : Int32) (l3 : Int32) (H : Hp) (r : Int32 × Hp), B_Lexer_behindBlanks_4 N p0 p1 n l2 l3 H = some r → Sa H r.2 := by
  intro n
  induction n with
  | zero => intro l2 l3 H r hF; rw [B_Lexer_behindBlanks_4] at hF; cases hF
  | succ n ih =>
    intro l2 l3 H r hF
    rw [B_Lexer_behindBlanks_4] at hF
    have hm := Sa.rf H
    obtain ⟨q14, hG⟩ := ck_s hF; clear hF
    obtain ⟨x15, -, hF⟩ := bnd_g hG; clear hG
    rcases ite_s hF with ⟨q_2, hG⟩ | ⟨q_2, hG⟩
    · clear hF
      obtain ⟨x17, -, hF⟩ := bnd_g hG; clear hG
      have hr := Option.some.inj hF; subst hr
      exact hm
    · clear hF
      obtain ⟨v19, H20, z18, hF⟩ := bC_s hG; clear hG
      replace hm : Sa H H20 := hm.tr (m_Lexer_byteAt z18)
      rcases ite_s hF with ⟨q_4, hG⟩ | ⟨q_4, hG⟩
      · clear hF
        exact hm.tr (mB_Lexer_behindBlanks_70 ih hG)
      · clear hF
        rcases ite_s hG with ⟨q_5, hF⟩ | ⟨q_5, hF⟩
        · clear hG
          exact hm.tr (mB_Lexer_behindBlanks_70 ih hF)
        · clear hG
          rcases ite_s hF with ⟨q_6, hG⟩ | ⟨q_6, hG⟩
          · clear hF
            rcases ite_s hG with ⟨q_7, hF⟩ | ⟨q_7, hF⟩
            · clear hG
              exact hm.tr (mB_Lexer_behindBlanks_70 ih hF)
            · clear hG
              rcases ite_s hF with ⟨q_8, hG⟩ | ⟨q_8, hG⟩
              · clear hF
                exact hm.tr (mB_Lexer_behindBlanks_70 ih hG)
              · clear hF
                rcases ite_s hG with ⟨q_9, hF⟩ | ⟨q_9, hF⟩
                · clear hG
                  exact hm.tr (mB_Lexer_behindBlanks_70 ih hF)
                · clear hG
                  have hr := Option.some.inj hF; subst hr
                  exact hm
          · clear hF
            exact hm.tr (mB_Lexer_behindBlanks_70 ih hG)
set_option maxRecDepth 20000 in
set_option maxHeartbeats 2000000 in
theorem kB_Lexer_behindBlanks_4 {N : Nat} {p0 : Nat} {p1 : Int32} : ∀ (n : Nat) (l2 : Int32) (l3 : Int32) (H : Hp) (r : Int32 × Hp), B_Lexer_behindBlanks_4 N p0 p1 n l2 l3 H = some r → ab_V y_Lexer_behindBlanks { frames := 1, cells := 0, slots := 0, locals := 21 } (po (.returned (some (.int r.1))) r.2) 0 0 0 0 4 [some (.ref p0), some (.int p1), some (.int l2), some (.int l3), none] [] (hpw H) := by
  intro n
  induction n with
  | zero => intro l2 l3 H r hF; rw [B_Lexer_behindBlanks_4] at hF; cases hF
  | succ n ih =>
    intro l2 l3 H r hF
    rw [B_Lexer_behindBlanks_4] at hF
    refine ab_iload_n d_Lexer_behindBlanks_4 rfl rfl ?_
    refine ab_aload_n d_Lexer_behindBlanks_5 rfl rfl rfl ?_
    obtain ⟨q1, hG⟩ := ck_s hF; clear hF
    refine hp_getI (f := 1) d_Lexer_behindBlanks_6 q1 (by decide) rfl (by decide) (k1 95 rfl rfl) rfl ?_
    refine ab_topi (fun x2 ex2 => ?_)
    replace hG := bnd_s ex2 hG
    refine ab_icmp_ge (tgt := 76) d_Lexer_behindBlanks_9 (by decide) (fun q3 => ?_) (fun q3 => ?_)
    · rw [if_pos q3] at hG
      refine ab_aload_n d_Lexer_behindBlanks_76 rfl rfl rfl ?_
      refine hp_getI (f := 1) d_Lexer_behindBlanks_77 q1 (by decide) rfl (by decide) (k1 95 rfl rfl) rfl ?_
      refine ab_topi (fun x4 ex4 => ?_)
      replace hG := bnd_s ex4 hG
      exact ab_iret d_Lexer_behindBlanks_80 rfl (Nat.le_refl _) (Nat.le_refl _) (by have hr := Option.some.inj hG; subst hr; exact ⟨rfl, rfl⟩)
    · rw [if_neg q3] at hG
      refine ab_aload_n d_Lexer_behindBlanks_12 rfl rfl rfl ?_
      refine ab_iload_n d_Lexer_behindBlanks_13 rfl rfl ?_
      obtain ⟨v6, H7, z5, hF⟩ := bC_s hG; clear hG
      refine hp_callV_a (v := .int v6) (H1 := H7) (As := [.int l3]) (rest := []) d_Lexer_behindBlanks_14 (k_Lexer_byteAt z5) (ab_mkC s_Lexer_byteAt (Nat.le_of_ble_eq_true rfl) (Nat.le_of_ble_eq_true rfl) (Nat.le_refl 0) (Nat.le_refl 0)) (k3 226 rfl rfl) i_Lexer_byteAt v_Lexer_byteAt q1 (by decide) rfl rfl (Nat.le_of_ble_eq_true rfl) ?_
      have s_1 : Sa H H7 := (m_Lexer_byteAt z5)
      refine ab_istore (lv' := [some (.ref p0), some (.int p1), some (.int l2), some (.int l3), some (.int v6)]) d_Lexer_behindBlanks_17 (by decide) rfl ?_
      refine ab_iload d_Lexer_behindBlanks_19 rfl ?_
      refine ab_bipush (v := 35) d_Lexer_behindBlanks_21 (by decide) ?_
      refine ab_icmp_ne (tgt := 31) d_Lexer_behindBlanks_23 (by decide) (fun q8 => ?_) (fun q8 => ?_)
      · rw [if_neg q8] at hF
        refine ab_iload d_Lexer_behindBlanks_31 rfl ?_
        refine ab_bipush (v := 10) d_Lexer_behindBlanks_33 (by decide) ?_
        refine ab_icmp_ne (tgt := 43) d_Lexer_behindBlanks_35 (by decide) (fun q9 => ?_) (fun q9 => ?_)
        · rw [if_neg q9] at hF
          refine ab_iload_n d_Lexer_behindBlanks_43 rfl rfl ?_
          refine ab_if_ne (tgt := 70) d_Lexer_behindBlanks_44 (by decide) (fun q10 => ?_) (fun q10 => ?_)
          · rw [if_neg q10] at hF
            refine ab_le (lv' := [some (.ref p0), some (.int p1), some (.int l2), some (.int l3), none]) ⟨rfl, ⟨rfl, ⟨rfl, ⟨rfl, trivial⟩⟩⟩⟩ ?_
            exact kB_Lexer_behindBlanks_70 (mB_Lexer_behindBlanks_4 n) ih hF
          · rw [if_pos q10] at hF
            refine ab_iload d_Lexer_behindBlanks_47 rfl ?_
            refine ab_bipush (v := 9) d_Lexer_behindBlanks_49 (by decide) ?_
            refine ab_icmp_eq (tgt := 70) d_Lexer_behindBlanks_51 (by decide) (fun q11 => ?_) (fun q11 => ?_)
            · rw [if_pos q11] at hF
              refine ab_le (lv' := [some (.ref p0), some (.int p1), some (.int l2), some (.int l3), none]) ⟨rfl, ⟨rfl, ⟨rfl, ⟨rfl, trivial⟩⟩⟩⟩ ?_
              exact kB_Lexer_behindBlanks_70 (mB_Lexer_behindBlanks_4 n) ih hF
            · rw [if_neg q11] at hF
              refine ab_iload d_Lexer_behindBlanks_54 rfl ?_
              refine ab_bipush (v := 13) d_Lexer_behindBlanks_56 (by decide) ?_
              refine ab_icmp_eq (tgt := 70) d_Lexer_behindBlanks_58 (by decide) (fun q12 => ?_) (fun q12 => ?_)
              · rw [if_pos q12] at hF
                refine ab_le (lv' := [some (.ref p0), some (.int p1), some (.int l2), some (.int l3), none]) ⟨rfl, ⟨rfl, ⟨rfl, ⟨rfl, trivial⟩⟩⟩⟩ ?_
                exact kB_Lexer_behindBlanks_70 (mB_Lexer_behindBlanks_4 n) ih hF
              · rw [if_neg q12] at hF
                refine ab_iload d_Lexer_behindBlanks_61 rfl ?_
                refine ab_bipush (v := 32) d_Lexer_behindBlanks_63 (by decide) ?_
                refine ab_icmp_eq (tgt := 70) d_Lexer_behindBlanks_65 (by decide) (fun q13 => ?_) (fun q13 => ?_)
                · rw [if_pos q13] at hF
                  refine ab_le (lv' := [some (.ref p0), some (.int p1), some (.int l2), some (.int l3), none]) ⟨rfl, ⟨rfl, ⟨rfl, ⟨rfl, trivial⟩⟩⟩⟩ ?_
                  exact kB_Lexer_behindBlanks_70 (mB_Lexer_behindBlanks_4 n) ih hF
                · rw [if_neg q13] at hF
                  refine ab_iload_n d_Lexer_behindBlanks_68 rfl rfl ?_
                  exact ab_iret d_Lexer_behindBlanks_69 rfl (Nat.le_refl _) (Nat.le_refl _) (by have hr := Option.some.inj hF; subst hr; exact ⟨rfl, rfl⟩)
        · rw [if_pos q9] at hF
          refine ab_iconst (v := 0) d_Lexer_behindBlanks_38 (by decide) ?_
          refine ab_istore_n (lv' := [some (.ref p0), some (.int p1), some (.int 0), some (.int l3), some (.int v6)]) d_Lexer_behindBlanks_39 rfl (by decide) rfl ?_
          refine ab_goto (tgt := 70) d_Lexer_behindBlanks_40 (by decide) ?_
          refine ab_le (lv' := [some (.ref p0), some (.int p1), some (.int 0), some (.int l3), none]) ⟨rfl, ⟨rfl, ⟨rfl, ⟨rfl, trivial⟩⟩⟩⟩ ?_
          exact kB_Lexer_behindBlanks_70 (mB_Lexer_behindBlanks_4 n) ih hF
      · rw [if_pos q8] at hF
        refine ab_iconst (v := 1) d_Lexer_behindBlanks_26 (by decide) ?_
        refine ab_istore_n (lv' := [some (.ref p0), some (.int p1), some (.int 1), some (.int l3), some (.int v6)]) d_Lexer_behindBlanks_27 rfl (by decide) rfl ?_
        refine ab_goto (tgt := 70) d_Lexer_behindBlanks_28 (by decide) ?_
        refine ab_le (lv' := [some (.ref p0), some (.int p1), some (.int 1), some (.int l3), none]) ⟨rfl, ⟨rfl, ⟨rfl, ⟨rfl, trivial⟩⟩⟩⟩ ?_
        exact kB_Lexer_behindBlanks_70 (mB_Lexer_behindBlanks_4 n) ih hF
def F_Lexer_behindBlanks (N : Nat) (p0 : Nat) (p1 : Int32) (H : Hp) : Option (Int32 × Hp) :=
    B_Lexer_behindBlanks_4 N p0 p1 N 0 p1 H
set_option maxRecDepth 20000 in
set_option maxHeartbeats 2000000 in
theorem m_Lexer_behindBlanks {N : Nat} {p0 : Nat} {p1 : Int32} {H : Hp} {r : Int32 × Hp} (hF : F_Lexer_behindBlanks N p0 p1 H = some r) : Sa H r.2 := by
  unfold F_Lexer_behindBlanks at hF
  have hm := Sa.rf H
  exact hm.tr (mB_Lexer_behindBlanks_4 N 0 p1 H r hF)
set_option maxRecDepth 20000 in
set_option maxHeartbeats 2000000 in
theorem k_Lexer_behindBlanks {N : Nat} {p0 : Nat} {p1 : Int32} {H : Hp} {r : Int32 × Hp} (hF : F_Lexer_behindBlanks N p0 p1 H = some r) : ab_M y_Lexer_behindBlanks { frames := 1, cells := 0, slots := 0, locals := 21 } [.ref p0, .int p1] (hpw H) (po (.returned (some (.int r.1))) r.2) := by
  unfold F_Lexer_behindBlanks at hF
  refine ab_of2 (lv := [some (.ref p0), some (.int p1), none, none, none]) 3 rfl rfl (Nat.le_of_ble_eq_true rfl) ?_
  refine ab_iconst (v := 0) d_Lexer_behindBlanks_0 (by decide) ?_
  refine ab_istore_n (lv' := [some (.ref p0), some (.int p1), some (.int 0), none, none]) d_Lexer_behindBlanks_1 rfl (by decide) rfl ?_
  refine ab_iload_n d_Lexer_behindBlanks_2 rfl rfl ?_
  refine ab_istore_n (lv' := [some (.ref p0), some (.int p1), some (.int 0), some (.int p1), none]) d_Lexer_behindBlanks_3 rfl (by decide) rfl ?_
  exact kB_Lexer_behindBlanks_4 N 0 p1 H r hF
def y_Lexer_isLetter : ab_Y := (⟨"WorldEngine$Lexer", "isLetter", "(I)Z"⟩, prog_3_method_8_code, 1, (some FieldType.boolean), [])
theorem d_Lexer_isLetter_0 : decode y_Lexer_isLetter.2.1 0 = .ok (.iload_n 0, 1) := by decide +kernel
theorem d_Lexer_isLetter_1 : decode y_Lexer_isLetter.2.1 1 = .ok (.bipush 97, 2) := by decide +kernel
theorem d_Lexer_isLetter_3 : decode y_Lexer_isLetter.2.1 3 = .ok (.if_icmp .lt 9, 3) := by decide +kernel
theorem d_Lexer_isLetter_6 : decode y_Lexer_isLetter.2.1 6 = .ok (.iload_n 0, 1) := by decide +kernel
theorem d_Lexer_isLetter_7 : decode y_Lexer_isLetter.2.1 7 = .ok (.bipush 122, 2) := by decide +kernel
theorem d_Lexer_isLetter_9 : decode y_Lexer_isLetter.2.1 9 = .ok (.if_icmp .le 15, 3) := by decide +kernel
theorem d_Lexer_isLetter_12 : decode y_Lexer_isLetter.2.1 12 = .ok (.iload_n 0, 1) := by decide +kernel
theorem d_Lexer_isLetter_13 : decode y_Lexer_isLetter.2.1 13 = .ok (.bipush 65, 2) := by decide +kernel
theorem d_Lexer_isLetter_15 : decode y_Lexer_isLetter.2.1 15 = .ok (.if_icmp .lt 13, 3) := by decide +kernel
theorem d_Lexer_isLetter_18 : decode y_Lexer_isLetter.2.1 18 = .ok (.iload_n 0, 1) := by decide +kernel
theorem d_Lexer_isLetter_19 : decode y_Lexer_isLetter.2.1 19 = .ok (.bipush 90, 2) := by decide +kernel
theorem d_Lexer_isLetter_21 : decode y_Lexer_isLetter.2.1 21 = .ok (.if_icmp .gt 7, 3) := by decide +kernel
theorem d_Lexer_isLetter_24 : decode y_Lexer_isLetter.2.1 24 = .ok (.iconst 1, 1) := by decide +kernel
theorem d_Lexer_isLetter_25 : decode y_Lexer_isLetter.2.1 25 = .ok (.goto 4, 3) := by decide +kernel
theorem d_Lexer_isLetter_28 : decode y_Lexer_isLetter.2.1 28 = .ok (.iconst 0, 1) := by decide +kernel
theorem d_Lexer_isLetter_29 : decode y_Lexer_isLetter.2.1 29 = .ok (.ireturn, 1) := by decide +kernel
theorem s_Lexer_isLetter : ab_Stat y_Lexer_isLetter 1 := ⟨(k3 236 rfl rfl), (k1 2 rfl rfl), ⟨by decide, by decide⟩, by decide +kernel⟩
theorem t_Lexer_isLetter : Cond.static y_Lexer_isLetter.1 ∈ ab_T := (k3 235 rfl rfl)
def B_Lexer_isLetter_24 (N : Nat) (p0 : Int32)  (H : Hp) : Option (Int32 × Hp) :=
    some (1, H)
set_option maxRecDepth 20000 in
set_option maxHeartbeats 2000000 in
theorem mB_Lexer_isLetter_24 {N : Nat} {p0 : Int32}  {H : Hp} {r : Int32 × Hp} (hF : B_Lexer_isLetter_24 N p0  H = some r) : Sa H r.2 := by
  unfold B_Lexer_isLetter_24 at hF
  have hm := Sa.rf H
  have hr := Option.some.inj hF; subst hr
  exact hm
set_option maxRecDepth 20000 in
set_option maxHeartbeats 2000000 in
theorem kB_Lexer_isLetter_24 {N : Nat} {p0 : Int32}  {H : Hp} {r : Int32 × Hp} (hF : B_Lexer_isLetter_24 N p0  H = some r) : ab_V y_Lexer_isLetter { frames := 0, cells := 0, slots := 0, locals := 0 } (po (.returned (some (.int r.1))) r.2) 0 0 0 0 24 [some (.int p0)] [] (hpw H) := by
  unfold B_Lexer_isLetter_24 at hF
  refine ab_iconst (v := 1) d_Lexer_isLetter_24 (by decide) ?_
  refine ab_goto (tgt := 29) d_Lexer_isLetter_25 (by decide) ?_
  exact ab_zret d_Lexer_isLetter_29 rfl rfl (Nat.le_refl _) (Nat.le_refl _) (by have hr := Option.some.inj hF; subst hr; exact ⟨rfl, rfl⟩)
def B_Lexer_isLetter_12 (N : Nat) (p0 : Int32)  (H : Hp) : Option (Int32 × Hp) :=
    if p0 < (65 : Int32) then
    some (0, H)
    else
    if (90 : Int32) < p0 then
    some (0, H)
    else
    B_Lexer_isLetter_24 N p0  H
set_option maxRecDepth 20000 in
set_option maxHeartbeats 2000000 in
theorem mB_Lexer_isLetter_12 {N : Nat} {p0 : Int32}  {H : Hp} {r : Int32 × Hp} (hF : B_Lexer_isLetter_12 N p0  H = some r) : Sa H r.2 := by
  unfold B_Lexer_isLetter_12 at hF
  have hm := Sa.rf H
  rcases ite_s hF with ⟨q_1, hG⟩ | ⟨q_1, hG⟩
  · clear hF
    have hr := Option.some.inj hG; subst hr
    exact hm
  · clear hF
    rcases ite_s hG with ⟨q_2, hF⟩ | ⟨q_2, hF⟩
    · clear hG
      have hr := Option.some.inj hF; subst hr
      exact hm
    · clear hG
      exact hm.tr (mB_Lexer_isLetter_24 hF)
set_option maxRecDepth 20000 in
set_option maxHeartbeats 2000000 in
theorem kB_Lexer_isLetter_12 {N : Nat} {p0 : Int32}  {H : Hp} {r : Int32 × Hp} (hF : B_Lexer_isLetter_12 N p0  H = some r) : ab_V y_Lexer_isLetter { frames := 0, cells := 0, slots := 0, locals := 0 } (po (.returned (some (.int r.1))) r.2) 0 0 0 0 12 [some (.int p0)] [] (hpw H) := by
  unfold B_Lexer_isLetter_12 at hF
  refine ab_iload_n d_Lexer_isLetter_12 rfl rfl ?_
  refine ab_bipush (v := 65) d_Lexer_isLetter_13 (by decide) ?_
  refine ab_icmp_lt (tgt := 28) d_Lexer_isLetter_15 (by decide) (fun q2 => ?_) (fun q2 => ?_)
  · rw [if_pos q2] at hF
    refine ab_iconst (v := 0) d_Lexer_isLetter_28 (by decide) ?_
    exact ab_zret d_Lexer_isLetter_29 rfl rfl (Nat.le_refl _) (Nat.le_refl _) (by have hr := Option.some.inj hF; subst hr; exact ⟨rfl, rfl⟩)
  · rw [if_neg q2] at hF
    refine ab_iload_n d_Lexer_isLetter_18 rfl rfl ?_
    refine ab_bipush (v := 90) d_Lexer_isLetter_19 (by decide) ?_
    refine ab_icmp_gt (tgt := 28) d_Lexer_isLetter_21 (by decide) (fun q3 => ?_) (fun q3 => ?_)
    · rw [if_pos q3] at hF
      refine ab_iconst (v := 0) d_Lexer_isLetter_28 (by decide) ?_
      exact ab_zret d_Lexer_isLetter_29 rfl rfl (Nat.le_refl _) (Nat.le_refl _) (by have hr := Option.some.inj hF; subst hr; exact ⟨rfl, rfl⟩)
    · rw [if_neg q3] at hF
      exact kB_Lexer_isLetter_24 hF
def F_Lexer_isLetter (N : Nat) (p0 : Int32) (H : Hp) : Option (Int32 × Hp) :=
    if p0 < (97 : Int32) then
    B_Lexer_isLetter_12 N p0  H
    else
    if p0 ≤ (122 : Int32) then
    B_Lexer_isLetter_24 N p0  H
    else
    B_Lexer_isLetter_12 N p0  H
set_option maxRecDepth 20000 in
set_option maxHeartbeats 2000000 in
theorem m_Lexer_isLetter {N : Nat} {p0 : Int32} {H : Hp} {r : Int32 × Hp} (hF : F_Lexer_isLetter N p0 H = some r) : Sa H r.2 := by
  unfold F_Lexer_isLetter at hF
  have hm := Sa.rf H
  rcases ite_s hF with ⟨q_3, hG⟩ | ⟨q_3, hG⟩
  · clear hF
    exact hm.tr (mB_Lexer_isLetter_12 hG)
  · clear hF
    rcases ite_s hG with ⟨q_4, hF⟩ | ⟨q_4, hF⟩
    · clear hG
      exact hm.tr (mB_Lexer_isLetter_24 hF)
    · clear hG
      exact hm.tr (mB_Lexer_isLetter_12 hF)
set_option maxRecDepth 20000 in
set_option maxHeartbeats 2000000 in
theorem k_Lexer_isLetter {N : Nat} {p0 : Int32} {H : Hp} {r : Int32 × Hp} (hF : F_Lexer_isLetter N p0 H = some r) : ab_M y_Lexer_isLetter { frames := 0, cells := 0, slots := 0, locals := 0 } [.int p0] (hpw H) (po (.returned (some (.int r.1))) r.2) := by
  unfold F_Lexer_isLetter at hF
  refine ab_of2 (lv := [some (.int p0)]) 0 rfl rfl (Nat.le_of_ble_eq_true rfl) ?_
  refine ab_iload_n d_Lexer_isLetter_0 rfl rfl ?_
  refine ab_bipush (v := 97) d_Lexer_isLetter_1 (by decide) ?_
  refine ab_icmp_lt (tgt := 12) d_Lexer_isLetter_3 (by decide) (fun q1 => ?_) (fun q1 => ?_)
  · rw [if_pos q1] at hF
    exact kB_Lexer_isLetter_12 hF
  · rw [if_neg q1] at hF
    refine ab_iload_n d_Lexer_isLetter_6 rfl rfl ?_
    refine ab_bipush (v := 122) d_Lexer_isLetter_7 (by decide) ?_
    refine ab_icmp_le (tgt := 24) d_Lexer_isLetter_9 (by decide) (fun q6 => ?_) (fun q6 => ?_)
    · rw [if_pos q6] at hF
      exact kB_Lexer_isLetter_24 hF
    · rw [if_neg q6] at hF
      exact kB_Lexer_isLetter_12 hF
def y_Lexer_isDigit : ab_Y := (⟨"WorldEngine$Lexer", "isDigit", "(I)Z"⟩, prog_3_method_9_code, 1, (some FieldType.boolean), [])
theorem d_Lexer_isDigit_0 : decode y_Lexer_isDigit.2.1 0 = .ok (.iload_n 0, 1) := by decide +kernel
theorem d_Lexer_isDigit_1 : decode y_Lexer_isDigit.2.1 1 = .ok (.bipush 48, 2) := by decide +kernel
theorem d_Lexer_isDigit_3 : decode y_Lexer_isDigit.2.1 3 = .ok (.if_icmp .lt 13, 3) := by decide +kernel
theorem d_Lexer_isDigit_6 : decode y_Lexer_isDigit.2.1 6 = .ok (.iload_n 0, 1) := by decide +kernel
theorem d_Lexer_isDigit_7 : decode y_Lexer_isDigit.2.1 7 = .ok (.bipush 57, 2) := by decide +kernel
theorem d_Lexer_isDigit_9 : decode y_Lexer_isDigit.2.1 9 = .ok (.if_icmp .gt 7, 3) := by decide +kernel
theorem d_Lexer_isDigit_12 : decode y_Lexer_isDigit.2.1 12 = .ok (.iconst 1, 1) := by decide +kernel
theorem d_Lexer_isDigit_13 : decode y_Lexer_isDigit.2.1 13 = .ok (.goto 4, 3) := by decide +kernel
theorem d_Lexer_isDigit_16 : decode y_Lexer_isDigit.2.1 16 = .ok (.iconst 0, 1) := by decide +kernel
theorem d_Lexer_isDigit_17 : decode y_Lexer_isDigit.2.1 17 = .ok (.ireturn, 1) := by decide +kernel
theorem s_Lexer_isDigit : ab_Stat y_Lexer_isDigit 1 := ⟨(k4 3 rfl rfl), (k1 2 rfl rfl), ⟨by decide, by decide⟩, by decide +kernel⟩
theorem t_Lexer_isDigit : Cond.static y_Lexer_isDigit.1 ∈ ab_T := (k4 2 rfl rfl)
def F_Lexer_isDigit (N : Nat) (p0 : Int32) (H : Hp) : Option (Int32 × Hp) :=
    if p0 < (48 : Int32) then
    some (0, H)
    else
    if (57 : Int32) < p0 then
    some (0, H)
    else
    some (1, H)
set_option maxRecDepth 20000 in
set_option maxHeartbeats 2000000 in
theorem m_Lexer_isDigit {N : Nat} {p0 : Int32} {H : Hp} {r : Int32 × Hp} (hF : F_Lexer_isDigit N p0 H = some r) : Sa H r.2 := by
  unfold F_Lexer_isDigit at hF
  have hm := Sa.rf H
  rcases ite_s hF with ⟨q_1, hG⟩ | ⟨q_1, hG⟩
  · clear hF
    have hr := Option.some.inj hG; subst hr
    exact hm
  · clear hF
    rcases ite_s hG with ⟨q_2, hF⟩ | ⟨q_2, hF⟩
    · clear hG
      have hr := Option.some.inj hF; subst hr
      exact hm
    · clear hG
      have hr := Option.some.inj hF; subst hr
      exact hm
set_option maxRecDepth 20000 in
set_option maxHeartbeats 2000000 in
theorem k_Lexer_isDigit {N : Nat} {p0 : Int32} {H : Hp} {r : Int32 × Hp} (hF : F_Lexer_isDigit N p0 H = some r) : ab_M y_Lexer_isDigit { frames := 0, cells := 0, slots := 0, locals := 0 } [.int p0] (hpw H) (po (.returned (some (.int r.1))) r.2) := by
  unfold F_Lexer_isDigit at hF
  refine ab_of2 (lv := [some (.int p0)]) 0 rfl rfl (Nat.le_of_ble_eq_true rfl) ?_
  refine ab_iload_n d_Lexer_isDigit_0 rfl rfl ?_
  refine ab_bipush (v := 48) d_Lexer_isDigit_1 (by decide) ?_
  refine ab_icmp_lt (tgt := 16) d_Lexer_isDigit_3 (by decide) (fun q1 => ?_) (fun q1 => ?_)
  · rw [if_pos q1] at hF
    refine ab_iconst (v := 0) d_Lexer_isDigit_16 (by decide) ?_
    exact ab_zret d_Lexer_isDigit_17 rfl rfl (Nat.le_refl _) (Nat.le_refl _) (by have hr := Option.some.inj hF; subst hr; exact ⟨rfl, rfl⟩)
  · rw [if_neg q1] at hF
    refine ab_iload_n d_Lexer_isDigit_6 rfl rfl ?_
    refine ab_bipush (v := 57) d_Lexer_isDigit_7 (by decide) ?_
    refine ab_icmp_gt (tgt := 16) d_Lexer_isDigit_9 (by decide) (fun q2 => ?_) (fun q2 => ?_)
    · rw [if_pos q2] at hF
      refine ab_iconst (v := 0) d_Lexer_isDigit_16 (by decide) ?_
      exact ab_zret d_Lexer_isDigit_17 rfl rfl (Nat.le_refl _) (Nat.le_refl _) (by have hr := Option.some.inj hF; subst hr; exact ⟨rfl, rfl⟩)
    · rw [if_neg q2] at hF
      refine ab_iconst (v := 1) d_Lexer_isDigit_12 (by decide) ?_
      refine ab_goto (tgt := 17) d_Lexer_isDigit_13 (by decide) ?_
      exact ab_zret d_Lexer_isDigit_17 rfl rfl (Nat.le_refl _) (Nat.le_refl _) (by have hr := Option.some.inj hF; subst hr; exact ⟨rfl, rfl⟩)
def y_Lexer_wordOf : ab_Y := (⟨"WorldEngine$Lexer", "wordOf", "(II)I"⟩, prog_3_method_11_code, 5, (some FieldType.int), [])
theorem d_Lexer_wordOf_0 : decode y_Lexer_wordOf.2.1 0 = .ok (.iconst 0, 1) := by decide +kernel
theorem d_Lexer_wordOf_1 : decode y_Lexer_wordOf.2.1 1 = .ok (.istore_n 3, 1) := by decide +kernel
theorem d_Lexer_wordOf_2 : decode y_Lexer_wordOf.2.1 2 = .ok (.iload_n 3, 1) := by decide +kernel
theorem d_Lexer_wordOf_3 : decode y_Lexer_wordOf.2.1 3 = .ok (.bipush 41, 2) := by decide +kernel
theorem d_Lexer_wordOf_5 : decode y_Lexer_wordOf.2.1 5 = .ok (.if_icmp .ge 81, 3) := by decide +kernel
theorem d_Lexer_wordOf_8 : decode y_Lexer_wordOf.2.1 8 = .ok (.aload_n 0, 1) := by decide +kernel
theorem d_Lexer_wordOf_9 : decode y_Lexer_wordOf.2.1 9 = .ok (.getfield 27, 3) := by decide +kernel
theorem d_Lexer_wordOf_12 : decode y_Lexer_wordOf.2.1 12 = .ok (.iload_n 3, 1) := by decide +kernel
theorem d_Lexer_wordOf_13 : decode y_Lexer_wordOf.2.1 13 = .ok (.iconst 1, 1) := by decide +kernel
theorem d_Lexer_wordOf_14 : decode y_Lexer_wordOf.2.1 14 = .ok (.iadd, 1) := by decide +kernel
theorem d_Lexer_wordOf_15 : decode y_Lexer_wordOf.2.1 15 = .ok (.iaload, 1) := by decide +kernel
theorem d_Lexer_wordOf_16 : decode y_Lexer_wordOf.2.1 16 = .ok (.iconst 1, 1) := by decide +kernel
theorem d_Lexer_wordOf_17 : decode y_Lexer_wordOf.2.1 17 = .ok (.isub, 1) := by decide +kernel
theorem d_Lexer_wordOf_18 : decode y_Lexer_wordOf.2.1 18 = .ok (.aload_n 0, 1) := by decide +kernel
theorem d_Lexer_wordOf_19 : decode y_Lexer_wordOf.2.1 19 = .ok (.getfield 27, 3) := by decide +kernel
theorem d_Lexer_wordOf_22 : decode y_Lexer_wordOf.2.1 22 = .ok (.iload_n 3, 1) := by decide +kernel
theorem d_Lexer_wordOf_23 : decode y_Lexer_wordOf.2.1 23 = .ok (.iaload, 1) := by decide +kernel
theorem d_Lexer_wordOf_24 : decode y_Lexer_wordOf.2.1 24 = .ok (.isub, 1) := by decide +kernel
theorem d_Lexer_wordOf_25 : decode y_Lexer_wordOf.2.1 25 = .ok (.iload_n 2, 1) := by decide +kernel
theorem d_Lexer_wordOf_26 : decode y_Lexer_wordOf.2.1 26 = .ok (.if_icmp .ne 54, 3) := by decide +kernel
theorem d_Lexer_wordOf_29 : decode y_Lexer_wordOf.2.1 29 = .ok (.iconst 0, 1) := by decide +kernel
theorem d_Lexer_wordOf_30 : decode y_Lexer_wordOf.2.1 30 = .ok (.istore 4, 2) := by decide +kernel
theorem d_Lexer_wordOf_32 : decode y_Lexer_wordOf.2.1 32 = .ok (.iload 4, 2) := by decide +kernel
theorem d_Lexer_wordOf_34 : decode y_Lexer_wordOf.2.1 34 = .ok (.iload_n 2, 1) := by decide +kernel
theorem d_Lexer_wordOf_35 : decode y_Lexer_wordOf.2.1 35 = .ok (.if_icmp .ge 34, 3) := by decide +kernel
theorem d_Lexer_wordOf_38 : decode y_Lexer_wordOf.2.1 38 = .ok (.aload_n 0, 1) := by decide +kernel
theorem d_Lexer_wordOf_39 : decode y_Lexer_wordOf.2.1 39 = .ok (.iload_n 1, 1) := by decide +kernel
theorem d_Lexer_wordOf_40 : decode y_Lexer_wordOf.2.1 40 = .ok (.iload 4, 2) := by decide +kernel
theorem d_Lexer_wordOf_42 : decode y_Lexer_wordOf.2.1 42 = .ok (.iadd, 1) := by decide +kernel
theorem d_Lexer_wordOf_43 : decode y_Lexer_wordOf.2.1 43 = .ok (.invokevirtual 74, 3) := by decide +kernel
theorem d_Lexer_wordOf_46 : decode y_Lexer_wordOf.2.1 46 = .ok (.ldc 30, 2) := by decide +kernel
theorem d_Lexer_wordOf_48 : decode y_Lexer_wordOf.2.1 48 = .ok (.aload_n 0, 1) := by decide +kernel
theorem d_Lexer_wordOf_49 : decode y_Lexer_wordOf.2.1 49 = .ok (.getfield 27, 3) := by decide +kernel
theorem d_Lexer_wordOf_52 : decode y_Lexer_wordOf.2.1 52 = .ok (.iload_n 3, 1) := by decide +kernel
theorem d_Lexer_wordOf_53 : decode y_Lexer_wordOf.2.1 53 = .ok (.iaload, 1) := by decide +kernel
theorem d_Lexer_wordOf_54 : decode y_Lexer_wordOf.2.1 54 = .ok (.iload 4, 2) := by decide +kernel
theorem d_Lexer_wordOf_56 : decode y_Lexer_wordOf.2.1 56 = .ok (.iadd, 1) := by decide +kernel
theorem d_Lexer_wordOf_57 : decode y_Lexer_wordOf.2.1 57 = .ok (.invokevirtual 38, 3) := by decide +kernel
theorem d_Lexer_wordOf_60 : decode y_Lexer_wordOf.2.1 60 = .ok (.if_icmp .ne 9, 3) := by decide +kernel
theorem d_Lexer_wordOf_63 : decode y_Lexer_wordOf.2.1 63 = .ok (.iinc 4 1, 3) := by decide +kernel
theorem d_Lexer_wordOf_66 : decode y_Lexer_wordOf.2.1 66 = .ok (.goto (-34), 3) := by decide +kernel
theorem d_Lexer_wordOf_69 : decode y_Lexer_wordOf.2.1 69 = .ok (.iload 4, 2) := by decide +kernel
theorem d_Lexer_wordOf_71 : decode y_Lexer_wordOf.2.1 71 = .ok (.iload_n 2, 1) := by decide +kernel
theorem d_Lexer_wordOf_72 : decode y_Lexer_wordOf.2.1 72 = .ok (.if_icmp .ne 8, 3) := by decide +kernel
theorem d_Lexer_wordOf_75 : decode y_Lexer_wordOf.2.1 75 = .ok (.bipush 40, 2) := by decide +kernel
theorem d_Lexer_wordOf_77 : decode y_Lexer_wordOf.2.1 77 = .ok (.iload_n 3, 1) := by decide +kernel
theorem d_Lexer_wordOf_78 : decode y_Lexer_wordOf.2.1 78 = .ok (.iadd, 1) := by decide +kernel
theorem d_Lexer_wordOf_79 : decode y_Lexer_wordOf.2.1 79 = .ok (.ireturn, 1) := by decide +kernel
theorem d_Lexer_wordOf_80 : decode y_Lexer_wordOf.2.1 80 = .ok (.iinc 3 1, 3) := by decide +kernel
theorem d_Lexer_wordOf_83 : decode y_Lexer_wordOf.2.1 83 = .ok (.goto (-81), 3) := by decide +kernel
theorem d_Lexer_wordOf_86 : decode y_Lexer_wordOf.2.1 86 = .ok (.iconst 2, 1) := by decide +kernel
theorem d_Lexer_wordOf_87 : decode y_Lexer_wordOf.2.1 87 = .ok (.ireturn, 1) := by decide +kernel
theorem s_Lexer_wordOf : ab_Stat y_Lexer_wordOf 2 := ⟨(k4 7 rfl rfl), (k1 2 rfl rfl), ⟨by decide, by decide⟩, by decide +kernel⟩
theorem i_Lexer_wordOf : Cond.instanceMethod y_Lexer_wordOf.1 ∈ ab_T := (k4 6 rfl rfl)
theorem v_Lexer_wordOf : Cond.selects "WorldEngine$Lexer" y_Lexer_wordOf.1 y_Lexer_wordOf.1 ∈ ab_T := ab_s (List.mem_of_getElem? (i := 4) rfl) rfl
def B_Lexer_wordOf_80 (N : Nat) (p0 : Nat) (p1 : Int32) (p2 : Int32) (kq2 : Int32 → Hp → Option (Int32 × Hp)) (l3 : Int32) (H : Hp) : Option (Int32 × Hp) :=
    kq2 (l3 + 1) H
set_option maxRecDepth 20000 in
set_option maxHeartbeats 2000000 in
theorem mB_Lexer_wordOf_80 {N : Nat} {p0 : Nat} {p1 : Int32} {p2 : Int32} {kq2 : Int32 → Hp → Option (Int32 × Hp)} (hm2 : ∀ (l3 : Int32) (H : Hp) (r : Int32 × Hp), kq2 l3 H = some r → Sa H r.2) {l3 : Int32} {H : Hp} {r : Int32 × Hp} (hF : B_Lexer_wordOf_80 N p0 p1 p2 kq2 l3 H = some r) : Sa H r.2 := by
  unfold B_Lexer_wordOf_80 at hF
  have hm := Sa.rf H
  exact hm.tr (hm2 (l3 + 1) H r hF)
set_option maxRecDepth 20000 in
set_option maxHeartbeats 2000000 in
theorem kB_Lexer_wordOf_80 {N : Nat} {p0 : Nat} {p1 : Int32} {p2 : Int32} {kq2 : Int32 → Hp → Option (Int32 × Hp)} (hm2 : ∀ (l3 : Int32) (H : Hp) (r : Int32 × Hp), kq2 l3 H = some r → Sa H r.2) (hk2 : ∀ (l3 : Int32) (H : Hp) (r : Int32 × Hp), kq2 l3 H = some r → ab_V y_Lexer_wordOf { frames := 4, cells := 0, slots := 0, locals := 85 } (po (.returned (some (.int r.1))) r.2) 0 0 0 0 2 [some (.ref p0), some (.int p1), some (.int p2), some (.int l3), none] [] (hpw H)) {l3 : Int32} {H : Hp} {r : Int32 × Hp} (hF : B_Lexer_wordOf_80 N p0 p1 p2 kq2 l3 H = some r) : ab_V y_Lexer_wordOf { frames := 4, cells := 0, slots := 0, locals := 85 } (po (.returned (some (.int r.1))) r.2) 0 0 0 0 80 [some (.ref p0), some (.int p1), some (.int p2), some (.int l3), none] [] (hpw H) := by
  unfold B_Lexer_wordOf_80 at hF
  refine ab_iinc (v := l3 + 1) (lv' := [some (.ref p0), some (.int p1), some (.int p2), some (.int (l3 + 1)), none]) d_Lexer_wordOf_80 rfl rfl (by decide) rfl ?_
  refine ab_goto (tgt := 2) d_Lexer_wordOf_83 (by decide) ?_
  exact hk2 (l3 + 1) H r hF
def B_Lexer_wordOf_69 (N : Nat) (p0 : Nat) (p1 : Int32) (p2 : Int32) (kq2 : Int32 → Hp → Option (Int32 × Hp)) (l3 : Int32) (l4 : Int32) (H : Hp) : Option (Int32 × Hp) :=
    if l4 = p2 then
    some ((40 : Int32) + l3, H)
    else
    B_Lexer_wordOf_80 N p0 p1 p2 kq2 l3 H
set_option maxRecDepth 20000 in
set_option maxHeartbeats 2000000 in
theorem mB_Lexer_wordOf_69 {N : Nat} {p0 : Nat} {p1 : Int32} {p2 : Int32} {kq2 : Int32 → Hp → Option (Int32 × Hp)} (hm2 : ∀ (l3 : Int32) (H : Hp) (r : Int32 × Hp), kq2 l3 H = some r → Sa H r.2) {l3 : Int32} {l4 : Int32} {H : Hp} {r : Int32 × Hp} (hF : B_Lexer_wordOf_69 N p0 p1 p2 kq2 l3 l4 H = some r) : Sa H r.2 := by
  unfold B_Lexer_wordOf_69 at hF
  have hm := Sa.rf H
  rcases ite_s hF with ⟨q_1, hG⟩ | ⟨q_1, hG⟩
  · clear hF
    have hr := Option.some.inj hG; subst hr
    exact hm
  · clear hF
    exact hm.tr (mB_Lexer_wordOf_80 hm2 hG)
set_option maxRecDepth 20000 in
set_option maxHeartbeats 2000000 in
theorem kB_Lexer_wordOf_69 {N : Nat} {p0 : Nat} {p1 : Int32} {p2 : Int32} {kq2 : Int32 → Hp → Option (Int32 × Hp)} (hm2 : ∀ (l3 : Int32) (H : Hp) (r : Int32 × Hp), kq2 l3 H = some r → Sa H r.2) (hk2 : ∀ (l3 : Int32) (H : Hp) (r : Int32 × Hp), kq2 l3 H = some r → ab_V y_Lexer_wordOf { frames := 4, cells := 0, slots := 0, locals := 85 } (po (.returned (some (.int r.1))) r.2) 0 0 0 0 2 [some (.ref p0), some (.int p1), some (.int p2), some (.int l3), none] [] (hpw H)) {l3 : Int32} {l4 : Int32} {H : Hp} {r : Int32 × Hp} (hF : B_Lexer_wordOf_69 N p0 p1 p2 kq2 l3 l4 H = some r) : ab_V y_Lexer_wordOf { frames := 4, cells := 0, slots := 0, locals := 85 } (po (.returned (some (.int r.1))) r.2) 0 0 0 0 69 [some (.ref p0), some (.int p1), some (.int p2), some (.int l3), some (.int l4)] [] (hpw H) := by
  unfold B_Lexer_wordOf_69 at hF
  refine ab_iload d_Lexer_wordOf_69 rfl ?_
  refine ab_iload_n d_Lexer_wordOf_71 rfl rfl ?_
  refine ab_icmp_ne (tgt := 80) d_Lexer_wordOf_72 (by decide) (fun q17 => ?_) (fun q17 => ?_)
  · rw [if_neg q17] at hF
    refine ab_le (lv' := [some (.ref p0), some (.int p1), some (.int p2), some (.int l3), none]) ⟨rfl, ⟨rfl, ⟨rfl, ⟨rfl, trivial⟩⟩⟩⟩ ?_
    exact kB_Lexer_wordOf_80 hm2 hk2 hF
  · rw [if_pos q17] at hF
    refine ab_bipush (v := 40) d_Lexer_wordOf_75 (by decide) ?_
    refine ab_iload_n d_Lexer_wordOf_77 rfl rfl ?_
    refine ab_iadd d_Lexer_wordOf_78 ?_
    exact ab_iret d_Lexer_wordOf_79 rfl (Nat.le_refl _) (Nat.le_refl _) (by have hr := Option.some.inj hF; subst hr; exact ⟨rfl, rfl⟩)
def B_Lexer_wordOf_32 (N : Nat) (p0 : Nat) (p1 : Int32) (p2 : Int32) (kq2 : Int32 → Hp → Option (Int32 × Hp)) : Nat → Int32 → Int32 → Hp → Option (Int32 × Hp)
  | 0, _, _, _ => none
  | n + 1, l3, l4, H =>
    if p2 ≤ l4 then
    B_Lexer_wordOf_69 N p0 p1 p2 kq2 l3 l4 H
    else
    ck (H.sh[p0]? = some (1, 0)) <|
    bC (F_Lexer_byteAt N p0 (p1 + l4) H) fun v21 H22 =>
    rf (H22.P p0 12) fun a23 =>
    ar H22 100 a23 fun n25 =>
    ck (inb l3 n25) <|
    bnd ((H22.D a23 (l3).toNatClampNeg)) fun x28 =>
    bC (F_Str_charAt_K0 N (x28 + l4) H22) fun v30 H31 =>
    if v21 = v30 then
    B_Lexer_wordOf_32 N p0 p1 p2 kq2 n l3 (l4 + 1) H31
    else
    B_Lexer_wordOf_69 N p0 p1 p2 kq2 l3 l4 H31
termination_by structural n => n
set_option maxRecDepth 20000 in
set_option maxHeartbeats 2000000 in
theorem mB_Lexer_wordOf_32 {N : Nat} {p0 : Nat} {p1 : Int32} {p2 : Int32} {kq2 : Int32 → Hp → Option (Int32 × Hp)} (hm2 : ∀ (l3 : Int32) (H : Hp) (r : Int32 × Hp), kq2 l3 H = some r → Sa H r.2) : ∀ (n : Nat) (l3 : Int32) (l4 : Int32) (H : Hp) (r : Int32 × Hp), B_Lexer_wordOf_32 N p0 p1 p2 kq2 n l3 l4 H = some r → Sa H r.2 := by
  intro n
  induction n with
  | zero => intro l3 l4 H r hF; rw [B_Lexer_wordOf_32] at hF; cases hF
  | succ n ih =>
    intro l3 l4 H r hF
    rw [B_Lexer_wordOf_32] at hF
    have hm := Sa.rf H
    rcases ite_s hF with ⟨q_4, hG⟩ | ⟨q_4, hG⟩
    · clear hF
      exact hm.tr (mB_Lexer_wordOf_69 hm2 hG)
    · clear hF
      obtain ⟨q34, hF⟩ := ck_s hG; clear hG
      obtain ⟨v36, H37, z35, hG⟩ := bC_s hF; clear hF
      replace hm : Sa H H37 := hm.tr (m_Lexer_byteAt z35)
      obtain ⟨a38, e39, hF⟩ := rf_s hG; clear hG
      obtain ⟨n40, q41, hG⟩ := ar_s hF; clear hF
      obtain ⟨q42, hF⟩ := ck_s hG; clear hG
      obtain ⟨x43, -, hG⟩ := bnd_g hF; clear hF
      obtain ⟨v45, H46, z44, hF⟩ := bC_s hG; clear hG
      replace hm : Sa H H46 := hm.tr (m_Str_charAt_K0 z44)
      rcases ite_s hF with ⟨q_7, hG⟩ | ⟨q_7, hG⟩
      · clear hF
        exact hm.tr (ih l3 (l4 + 1) H46 r hG)
      · clear hF
        exact hm.tr (mB_Lexer_wordOf_69 hm2 hG)
set_option maxRecDepth 20000 in
set_option maxHeartbeats 2000000 in
theorem kB_Lexer_wordOf_32 {N : Nat} {p0 : Nat} {p1 : Int32} {p2 : Int32} {kq2 : Int32 → Hp → Option (Int32 × Hp)} (hm2 : ∀ (l3 : Int32) (H : Hp) (r : Int32 × Hp), kq2 l3 H = some r → Sa H r.2) (hk2 : ∀ (l3 : Int32) (H : Hp) (r : Int32 × Hp), kq2 l3 H = some r → ab_V y_Lexer_wordOf { frames := 4, cells := 0, slots := 0, locals := 85 } (po (.returned (some (.int r.1))) r.2) 0 0 0 0 2 [some (.ref p0), some (.int p1), some (.int p2), some (.int l3), none] [] (hpw H)) : ∀ (n : Nat) (l3 : Int32) (l4 : Int32) (H : Hp) (r : Int32 × Hp), B_Lexer_wordOf_32 N p0 p1 p2 kq2 n l3 l4 H = some r → ab_V y_Lexer_wordOf { frames := 4, cells := 0, slots := 0, locals := 85 } (po (.returned (some (.int r.1))) r.2) 0 0 0 0 32 [some (.ref p0), some (.int p1), some (.int p2), some (.int l3), some (.int l4)] [] (hpw H) := by
  intro n
  induction n with
  | zero => intro l3 l4 H r hF; rw [B_Lexer_wordOf_32] at hF; cases hF
  | succ n ih =>
    intro l3 l4 H r hF
    rw [B_Lexer_wordOf_32] at hF
    refine ab_iload d_Lexer_wordOf_32 rfl ?_
    refine ab_iload_n d_Lexer_wordOf_34 rfl rfl ?_
    refine ab_icmp_ge (tgt := 69) d_Lexer_wordOf_35 (by decide) (fun q16 => ?_) (fun q16 => ?_)
    · rw [if_pos q16] at hF
      exact kB_Lexer_wordOf_69 hm2 hk2 hF
    · rw [if_neg q16] at hF
      refine ab_aload_n d_Lexer_wordOf_38 rfl rfl rfl ?_
      refine ab_iload_n d_Lexer_wordOf_39 rfl rfl ?_
      refine ab_iload d_Lexer_wordOf_40 rfl ?_
      refine ab_iadd d_Lexer_wordOf_42 ?_
      obtain ⟨q19, hG⟩ := ck_s hF; clear hF
      obtain ⟨v21, H22, z20, hF⟩ := bC_s hG; clear hG
      refine hp_callV_a (v := .int v21) (H1 := H22) (As := [.int (p1 + l4)]) (rest := []) d_Lexer_wordOf_43 (k_Lexer_byteAt z20) (ab_mkC s_Lexer_byteAt (Nat.le_of_ble_eq_true rfl) (Nat.le_of_ble_eq_true rfl) (Nat.le_refl 0) (Nat.le_refl 0)) (k3 226 rfl rfl) i_Lexer_byteAt v_Lexer_byteAt q19 (by decide) rfl rfl (Nat.le_of_ble_eq_true rfl) ?_
      have s_2 : Sa H H22 := (m_Lexer_byteAt z20)
      refine ab_ldcS (k0 := 0) d_Lexer_wordOf_46 (List.mem_of_getElem? (i := 0) rfl) rfl rfl rfl ?_
      refine ab_aload_n d_Lexer_wordOf_48 rfl rfl rfl ?_
      obtain ⟨a23, e24, hG⟩ := rf_s hF; clear hF
      refine hp_getR (f := 12) d_Lexer_wordOf_49 (by rw [(s_2).1]; exact q19) (by decide) rfl (by decide) (k1 114 rfl rfl) rfl e24 ?_
      refine ab_iload_n d_Lexer_wordOf_52 rfl rfl ?_
      obtain ⟨n25, q26, hF⟩ := ar_s hG; clear hG
      rw [(s_2).1] at q26
      obtain ⟨q27, hG⟩ := ck_s hF; clear hF
      refine hp_iald d_Lexer_wordOf_53 tI (by rw [(s_2).1]; exact q26) q27 ?_
      refine ab_topi (fun x28 ex28 => ?_)
      replace hG := bnd_s ex28 hG
      refine ab_iload d_Lexer_wordOf_54 rfl ?_
      refine ab_iadd d_Lexer_wordOf_56 ?_
      obtain ⟨v30, H31, z29, hF⟩ := bC_s hG; clear hG
      refine hp_callVK_a (k0 := 0) (v := .int v30) (H1 := H31) (As := [.int (x28 + l4)]) (rest := [.int v21]) d_Lexer_wordOf_57 (by decide) (k_Str_charAt_K0 z29) (ab_mkC s_Str_charAt (Nat.le_of_ble_eq_true rfl) (Nat.le_of_ble_eq_true rfl) (Nat.le_refl 0) (Nat.le_refl 0)) (k1 56 rfl rfl) i_Str_charAt v_Str_charAt rfl (Nat.le_of_ble_eq_true rfl) ?_
      have s_3 : Sa H H31 := (s_2).tr (m_Str_charAt_K0 z29)
      refine ab_icmp_ne (tgt := 69) d_Lexer_wordOf_60 (by decide) (fun q32 => ?_) (fun q32 => ?_)
      · rw [if_neg q32] at hF
        exact kB_Lexer_wordOf_69 hm2 hk2 hF
      · rw [if_pos q32] at hF
        refine ab_iinc (v := l4 + 1) (lv' := [some (.ref p0), some (.int p1), some (.int p2), some (.int l3), some (.int (l4 + 1))]) d_Lexer_wordOf_63 rfl rfl (by decide) rfl ?_
        refine ab_goto (tgt := 32) d_Lexer_wordOf_66 (by decide) ?_
        exact ih l3 (l4 + 1) H31 r hF
def B_Lexer_wordOf_2 (N : Nat) (p0 : Nat) (p1 : Int32) (p2 : Int32) : Nat → Int32 → Hp → Option (Int32 × Hp)
  | 0, _, _ => none
  | n + 1, l3, H =>
    if (41 : Int32) ≤ l3 then
    some (2, H)
    else
    ck (H.sh[p0]? = some (1, 0)) <|
    rf (H.P p0 12) fun a3 =>
    ar H 100 a3 fun n5 =>
    ck (inb (l3 + (1 : Int32)) n5) <|
    bnd ((H.D a3 ((l3 + (1 : Int32))).toNatClampNeg)) fun x8 =>
    rf (H.P p0 12) fun a9 =>
    ar H 100 a9 fun n11 =>
    ck (inb l3 n11) <|
    bnd ((H.D a9 (l3).toNatClampNeg)) fun x14 =>
    if ((x8 - (1 : Int32)) - x14) = p2 then
    B_Lexer_wordOf_32 N p0 p1 p2 (fun l3 H => B_Lexer_wordOf_2 N p0 p1 p2 n l3 H) N l3 0 H
    else
    B_Lexer_wordOf_80 N p0 p1 p2 (fun l3 H => B_Lexer_wordOf_2 N p0 p1 p2 n l3 H) l3 H
termination_by structural n => n
set_option maxRecDepth 20000 in
set_option maxHeartbeats 2000000 in
theorem mB_Lexer_wordOf_2 {N : Nat} {p0 : Nat} {p1 : Int32} {p2 : Int32} : ∀ (n : Nat) (l3 : Int32) (H : Hp) (r : Int32 × Hp), B_Lexer_wordOf_2 N p0 p1 p2 n l3 H = some r → Sa H r.2 := by
  intro n
  induction n with
  | zero => intro l3 H r hF; rw [B_Lexer_wordOf_2] at hF; cases hF
  | succ n ih =>
    intro l3 H r hF
    rw [B_Lexer_wordOf_2] at hF
    have hm := Sa.rf H
    rcases ite_s hF with ⟨q_8, hG⟩ | ⟨q_8, hG⟩
    · clear hF
      have hr := Option.some.inj hG; subst hr
      exact hm
    · clear hF
      obtain ⟨q49, hF⟩ := ck_s hG; clear hG
      obtain ⟨a50, e51, hG⟩ := rf_s hF; clear hF
      obtain ⟨n52, q53, hF⟩ := ar_s hG; clear hG
      obtain ⟨q54, hG⟩ := ck_s hF; clear hF
      obtain ⟨x55, -, hF⟩ := bnd_g hG; clear hG
      obtain ⟨a56, e57, hG⟩ := rf_s hF; clear hF
      obtain ⟨n58, q59, hF⟩ := ar_s hG; clear hG
      obtain ⟨q60, hG⟩ := ck_s hF; clear hF
      obtain ⟨x61, -, hF⟩ := bnd_g hG; clear hG
      rcases ite_s hF with ⟨q_9, hG⟩ | ⟨q_9, hG⟩
      · clear hF
        exact hm.tr (mB_Lexer_wordOf_32 ih N l3 0 H r hG)
      · clear hF
        exact hm.tr (mB_Lexer_wordOf_80 ih hG)
set_option maxRecDepth 20000 in
set_option maxHeartbeats 2000000 in
theorem kB_Lexer_wordOf_2 {N : Nat} {p0 : Nat} {p1 : Int32} {p2 : Int32} : ∀ (n : Nat) (l3 : Int32) (H : Hp) (r : Int32 × Hp), B_Lexer_wordOf_2 N p0 p1 p2 n l3 H = some r → ab_V y_Lexer_wordOf { frames := 4, cells := 0, slots := 0, locals := 85 } (po (.returned (some (.int r.1))) r.2) 0 0 0 0 2 [some (.ref p0), some (.int p1), some (.int p2), some (.int l3), none] [] (hpw H) := by
  intro n
  induction n with
  | zero => intro l3 H r hF; rw [B_Lexer_wordOf_2] at hF; cases hF
  | succ n ih =>
    intro l3 H r hF
    rw [B_Lexer_wordOf_2] at hF
    refine ab_iload_n d_Lexer_wordOf_2 rfl rfl ?_
    refine ab_bipush (v := 41) d_Lexer_wordOf_3 (by decide) ?_
    refine ab_icmp_ge (tgt := 86) d_Lexer_wordOf_5 (by decide) (fun q1 => ?_) (fun q1 => ?_)
    · rw [if_pos q1] at hF
      refine ab_iconst (v := 2) d_Lexer_wordOf_86 (by decide) ?_
      exact ab_iret d_Lexer_wordOf_87 rfl (Nat.le_refl _) (Nat.le_refl _) (by have hr := Option.some.inj hF; subst hr; exact ⟨rfl, rfl⟩)
    · rw [if_neg q1] at hF
      refine ab_aload_n d_Lexer_wordOf_8 rfl rfl rfl ?_
      obtain ⟨q2, hG⟩ := ck_s hF; clear hF
      obtain ⟨a3, e4, hF⟩ := rf_s hG; clear hG
      refine hp_getR (f := 12) d_Lexer_wordOf_9 q2 (by decide) rfl (by decide) (k1 114 rfl rfl) rfl e4 ?_
      refine ab_iload_n d_Lexer_wordOf_12 rfl rfl ?_
      refine ab_iconst (v := 1) d_Lexer_wordOf_13 (by decide) ?_
      refine ab_iadd d_Lexer_wordOf_14 ?_
      obtain ⟨n5, q6, hG⟩ := ar_s hF; clear hF
      obtain ⟨q7, hF⟩ := ck_s hG; clear hG
      refine hp_iald d_Lexer_wordOf_15 tI q6 q7 ?_
      refine ab_topi (fun x8 ex8 => ?_)
      replace hF := bnd_s ex8 hF
      refine ab_iconst (v := 1) d_Lexer_wordOf_16 (by decide) ?_
      refine ab_isub d_Lexer_wordOf_17 ?_
      refine ab_aload_n d_Lexer_wordOf_18 rfl rfl rfl ?_
      obtain ⟨a9, e10, hG⟩ := rf_s hF; clear hF
      refine hp_getR (f := 12) d_Lexer_wordOf_19 q2 (by decide) rfl (by decide) (k1 114 rfl rfl) rfl e10 ?_
      refine ab_iload_n d_Lexer_wordOf_22 rfl rfl ?_
      obtain ⟨n11, q12, hF⟩ := ar_s hG; clear hG
      obtain ⟨q13, hG⟩ := ck_s hF; clear hF
      refine hp_iald d_Lexer_wordOf_23 tI q12 q13 ?_
      refine ab_topi (fun x14 ex14 => ?_)
      replace hG := bnd_s ex14 hG
      refine ab_isub d_Lexer_wordOf_24 ?_
      refine ab_iload_n d_Lexer_wordOf_25 rfl rfl ?_
      refine ab_icmp_ne (tgt := 80) d_Lexer_wordOf_26 (by decide) (fun q15 => ?_) (fun q15 => ?_)
      · rw [if_neg q15] at hG
        exact kB_Lexer_wordOf_80 (mB_Lexer_wordOf_2 n) ih hG
      · rw [if_pos q15] at hG
        refine ab_iconst (v := 0) d_Lexer_wordOf_29 (by decide) ?_
        refine ab_istore (lv' := [some (.ref p0), some (.int p1), some (.int p2), some (.int l3), some (.int 0)]) d_Lexer_wordOf_30 (by decide) rfl ?_
        exact kB_Lexer_wordOf_32 (mB_Lexer_wordOf_2 n) ih N l3 0 H r hG
def F_Lexer_wordOf (N : Nat) (p0 : Nat) (p1 : Int32) (p2 : Int32) (H : Hp) : Option (Int32 × Hp) :=
    B_Lexer_wordOf_2 N p0 p1 p2 N 0 H
set_option maxRecDepth 20000 in
set_option maxHeartbeats 2000000 in
theorem m_Lexer_wordOf {N : Nat} {p0 : Nat} {p1 : Int32} {p2 : Int32} {H : Hp} {r : Int32 × Hp} (hF : F_Lexer_wordOf N p0 p1 p2 H = some r) : Sa H r.2 := by
  unfold F_Lexer_wordOf at hF
  have hm := Sa.rf H
  exact hm.tr (mB_Lexer_wordOf_2 N 0 H r hF)
set_option maxRecDepth 20000 in
set_option maxHeartbeats 2000000 in
theorem k_Lexer_wordOf {N : Nat} {p0 : Nat} {p1 : Int32} {p2 : Int32} {H : Hp} {r : Int32 × Hp} (hF : F_Lexer_wordOf N p0 p1 p2 H = some r) : ab_M y_Lexer_wordOf { frames := 4, cells := 0, slots := 0, locals := 85 } [.ref p0, .int p1, .int p2] (hpw H) (po (.returned (some (.int r.1))) r.2) := by
  unfold F_Lexer_wordOf at hF
  refine ab_of2 (lv := [some (.ref p0), some (.int p1), some (.int p2), none, none]) 2 rfl rfl (Nat.le_of_ble_eq_true rfl) ?_
  refine ab_iconst (v := 0) d_Lexer_wordOf_0 (by decide) ?_
  refine ab_istore_n (lv' := [some (.ref p0), some (.int p1), some (.int p2), some (.int 0), none]) d_Lexer_wordOf_1 rfl (by decide) rfl ?_
  exact kB_Lexer_wordOf_2 N 0 H r hF
def y_Lexer_note : ab_Y := (⟨"WorldEngine$Lexer", "note", "(IIIZ)V"⟩, prog_3_method_14_code, 5, none, [])
theorem d_Lexer_note_0 : decode y_Lexer_note.2.1 0 = .ok (.aload_n 0, 1) := by decide +kernel
theorem d_Lexer_note_1 : decode y_Lexer_note.2.1 1 = .ok (.getfield 45, 3) := by decide +kernel
theorem d_Lexer_note_4 : decode y_Lexer_note.2.1 4 = .ok (.aload_n 0, 1) := by decide +kernel
theorem d_Lexer_note_5 : decode y_Lexer_note.2.1 5 = .ok (.getfield 13, 3) := by decide +kernel
theorem d_Lexer_note_8 : decode y_Lexer_note.2.1 8 = .ok (.arraylength, 1) := by decide +kernel
theorem d_Lexer_note_9 : decode y_Lexer_note.2.1 9 = .ok (.if_icmp .ge 54, 3) := by decide +kernel
theorem d_Lexer_note_12 : decode y_Lexer_note.2.1 12 = .ok (.aload_n 0, 1) := by decide +kernel
theorem d_Lexer_note_13 : decode y_Lexer_note.2.1 13 = .ok (.getfield 13, 3) := by decide +kernel
theorem d_Lexer_note_16 : decode y_Lexer_note.2.1 16 = .ok (.aload_n 0, 1) := by decide +kernel
theorem d_Lexer_note_17 : decode y_Lexer_note.2.1 17 = .ok (.getfield 45, 3) := by decide +kernel
theorem d_Lexer_note_20 : decode y_Lexer_note.2.1 20 = .ok (.iload_n 1, 1) := by decide +kernel
theorem d_Lexer_note_21 : decode y_Lexer_note.2.1 21 = .ok (.iastore, 1) := by decide +kernel
theorem d_Lexer_note_22 : decode y_Lexer_note.2.1 22 = .ok (.aload_n 0, 1) := by decide +kernel
theorem d_Lexer_note_23 : decode y_Lexer_note.2.1 23 = .ok (.getfield 17, 3) := by decide +kernel
theorem d_Lexer_note_26 : decode y_Lexer_note.2.1 26 = .ok (.aload_n 0, 1) := by decide +kernel
theorem d_Lexer_note_27 : decode y_Lexer_note.2.1 27 = .ok (.getfield 45, 3) := by decide +kernel
theorem d_Lexer_note_30 : decode y_Lexer_note.2.1 30 = .ok (.iload_n 2, 1) := by decide +kernel
theorem d_Lexer_note_31 : decode y_Lexer_note.2.1 31 = .ok (.iastore, 1) := by decide +kernel
theorem d_Lexer_note_32 : decode y_Lexer_note.2.1 32 = .ok (.aload_n 0, 1) := by decide +kernel
theorem d_Lexer_note_33 : decode y_Lexer_note.2.1 33 = .ok (.getfield 20, 3) := by decide +kernel
theorem d_Lexer_note_36 : decode y_Lexer_note.2.1 36 = .ok (.aload_n 0, 1) := by decide +kernel
theorem d_Lexer_note_37 : decode y_Lexer_note.2.1 37 = .ok (.getfield 45, 3) := by decide +kernel
theorem d_Lexer_note_40 : decode y_Lexer_note.2.1 40 = .ok (.iload_n 3, 1) := by decide +kernel
theorem d_Lexer_note_41 : decode y_Lexer_note.2.1 41 = .ok (.iastore, 1) := by decide +kernel
theorem d_Lexer_note_42 : decode y_Lexer_note.2.1 42 = .ok (.aload_n 0, 1) := by decide +kernel
theorem d_Lexer_note_43 : decode y_Lexer_note.2.1 43 = .ok (.getfield 23, 3) := by decide +kernel
theorem d_Lexer_note_46 : decode y_Lexer_note.2.1 46 = .ok (.aload_n 0, 1) := by decide +kernel
theorem d_Lexer_note_47 : decode y_Lexer_note.2.1 47 = .ok (.getfield 45, 3) := by decide +kernel
theorem d_Lexer_note_50 : decode y_Lexer_note.2.1 50 = .ok (.iload 4, 2) := by decide +kernel
theorem d_Lexer_note_52 : decode y_Lexer_note.2.1 52 = .ok (.bastore, 1) := by decide +kernel
theorem d_Lexer_note_53 : decode y_Lexer_note.2.1 53 = .ok (.aload_n 0, 1) := by decide +kernel
theorem d_Lexer_note_54 : decode y_Lexer_note.2.1 54 = .ok (.dup, 1) := by decide +kernel
theorem d_Lexer_note_55 : decode y_Lexer_note.2.1 55 = .ok (.getfield 45, 3) := by decide +kernel
theorem d_Lexer_note_58 : decode y_Lexer_note.2.1 58 = .ok (.iconst 1, 1) := by decide +kernel
theorem d_Lexer_note_59 : decode y_Lexer_note.2.1 59 = .ok (.iadd, 1) := by decide +kernel
theorem d_Lexer_note_60 : decode y_Lexer_note.2.1 60 = .ok (.putfield 45, 3) := by decide +kernel
theorem d_Lexer_note_63 : decode y_Lexer_note.2.1 63 = .ok (.return_, 1) := by decide +kernel
theorem s_Lexer_note : ab_Stat y_Lexer_note 4 := ⟨(k4 11 rfl rfl), (k1 2 rfl rfl), ⟨by decide, by decide⟩, by decide +kernel⟩
theorem i_Lexer_note : Cond.instanceMethod y_Lexer_note.1 ∈ ab_T := (k4 10 rfl rfl)
theorem v_Lexer_note : Cond.selects "WorldEngine$Lexer" y_Lexer_note.1 y_Lexer_note.1 ∈ ab_T := ab_s (List.mem_of_getElem? (i := 5) rfl) rfl
def F_Lexer_note (N : Nat) (p0 : Nat) (p1 : Int32) (p2 : Int32) (p3 : Int32) (p4 : Int32) (H : Hp) : Option (Unit × Hp) :=
    ck (H.sh[p0]? = some (1, 0)) <|
    bnd ((H.D p0 10)) fun x2 =>
    rf (H.P p0 6) fun a3 =>
    ar H 100 a3 fun n5 =>
    if (Int32.ofNat n5) ≤ x2 then
    some ((), H)
    else
    rf (H.P p0 6) fun a8 =>
    bnd ((H.D p0 10)) fun x10 =>
    ar H 100 a8 fun n11 =>
    ck (inb x10 n11) <|
    bnd (H.sD a8 (x10).toNatClampNeg p1) fun H14 =>
    rf (H14.P p0 7) fun a15 =>
    bnd ((H14.D p0 10)) fun x17 =>
    ar H14 100 a15 fun n18 =>
    ck (inb x17 n18) <|
    bnd (H14.sD a15 (x17).toNatClampNeg p2) fun H21 =>
    rf (H21.P p0 8) fun a22 =>
    bnd ((H21.D p0 10)) fun x24 =>
    ar H21 100 a22 fun n25 =>
    ck (inb x24 n25) <|
    bnd (H21.sD a22 (x24).toNatClampNeg p3) fun H28 =>
    rf (H28.P p0 9) fun a29 =>
    bnd ((H28.D p0 10)) fun x31 =>
    ar H28 102 a29 fun n32 =>
    ck (inb x31 n32) <|
    bnd (H28.sD a29 (x31).toNatClampNeg (vp_nar .boolean p4)) fun H35 =>
    bnd ((H35.D p0 10)) fun x36 =>
    bnd (H35.sD p0 10 (x36 + (1 : Int32))) fun H37 =>
    some ((), H37)
set_option maxRecDepth 20000 in
set_option maxHeartbeats 2000000 in
theorem m_Lexer_note {N : Nat} {p0 : Nat} {p1 : Int32} {p2 : Int32} {p3 : Int32} {p4 : Int32} {H : Hp} {r : Unit × Hp} (hF : F_Lexer_note N p0 p1 p2 p3 p4 H = some r) : Sa H r.2 := by
  unfold F_Lexer_note at hF
  have hm := Sa.rf H
  obtain ⟨q38, hG⟩ := ck_s hF; clear hF
  obtain ⟨x39, -, hF⟩ := bnd_g hG; clear hG
  obtain ⟨a40, e41, hG⟩ := rf_s hF; clear hF
  obtain ⟨n42, q43, hF⟩ := ar_s hG; clear hG
  rcases ite_s hF with ⟨q_6, hG⟩ | ⟨q_6, hG⟩
  · clear hF
    have hr := Option.some.inj hG; subst hr
    exact hm
  · clear hF
    obtain ⟨a45, e46, hF⟩ := rf_s hG; clear hG
    obtain ⟨x47, -, hG⟩ := bnd_g hF; clear hF
    obtain ⟨n48, q49, hF⟩ := ar_s hG; clear hG
    obtain ⟨q50, hG⟩ := ck_s hF; clear hF
    obtain ⟨H51, eH51, hF⟩ := bnd_g hG; clear hG
    replace hm : Sa H H51 := by rw [eH51]; exact hm
    obtain ⟨a52, e53, hG⟩ := rf_s hF; clear hF
    obtain ⟨x54, -, hF⟩ := bnd_g hG; clear hG
    obtain ⟨n55, q56, hG⟩ := ar_s hF; clear hF
    obtain ⟨q57, hF⟩ := ck_s hG; clear hG
    obtain ⟨H58, eH58, hG⟩ := bnd_g hF; clear hF
    replace hm : Sa H H58 := by rw [eH58]; exact hm
    obtain ⟨a59, e60, hF⟩ := rf_s hG; clear hG
    obtain ⟨x61, -, hG⟩ := bnd_g hF; clear hF
    obtain ⟨n62, q63, hF⟩ := ar_s hG; clear hG
    obtain ⟨q64, hG⟩ := ck_s hF; clear hF
    obtain ⟨H65, eH65, hF⟩ := bnd_g hG; clear hG
    replace hm : Sa H H65 := by rw [eH65]; exact hm
    obtain ⟨a66, e67, hG⟩ := rf_s hF; clear hF
    obtain ⟨x68, -, hF⟩ := bnd_g hG; clear hG
    obtain ⟨n69, q70, hG⟩ := ar_s hF; clear hF
    obtain ⟨q71, hF⟩ := ck_s hG; clear hG
    obtain ⟨H72, eH72, hG⟩ := bnd_g hF; clear hF
    replace hm : Sa H H72 := by rw [eH72]; exact hm
    obtain ⟨x73, -, hF⟩ := bnd_g hG; clear hG
    obtain ⟨H74, eH74, hG⟩ := bnd_g hF; clear hF
    replace hm : Sa H H74 := by rw [eH74]; exact hm
    have hr := Option.some.inj hG; subst hr
    exact hm
set_option maxRecDepth 20000 in
set_option maxHeartbeats 2000000 in
theorem k_Lexer_note {N : Nat} {p0 : Nat} {p1 : Int32} {p2 : Int32} {p3 : Int32} {p4 : Int32} {H : Hp} {r : Unit × Hp} (hF : F_Lexer_note N p0 p1 p2 p3 p4 H = some r) : ab_M y_Lexer_note { frames := 0, cells := 0, slots := 0, locals := 0 } [.ref p0, .int p1, .int p2, .int p3, .int p4] (hpw H) (po (.returned none) r.2) := by
  unfold F_Lexer_note at hF
  refine ab_of2 (lv := [some (.ref p0), some (.int p1), some (.int p2), some (.int p3), some (.int p4)]) 0 rfl rfl (Nat.le_of_ble_eq_true rfl) ?_
  refine ab_aload_n d_Lexer_note_0 rfl rfl rfl ?_
  obtain ⟨q1, hG⟩ := ck_s hF; clear hF
  refine hp_getI (f := 10) d_Lexer_note_1 q1 (by decide) rfl (by decide) (k1 112 rfl rfl) rfl ?_
  refine ab_topi (fun x2 ex2 => ?_)
  replace hG := bnd_s ex2 hG
  refine ab_aload_n d_Lexer_note_4 rfl rfl rfl ?_
  obtain ⟨a3, e4, hF⟩ := rf_s hG; clear hG
  refine hp_getR (f := 6) d_Lexer_note_5 q1 (by decide) rfl (by decide) (k1 108 rfl rfl) rfl e4 ?_
  obtain ⟨n5, q6, hG⟩ := ar_s hF; clear hF
  refine hp_alen (q := 100) d_Lexer_note_8 q6 (Or.inl ⟨by decide, by decide, rfl⟩) tI ?_
  refine ab_icmp_ge (tgt := 63) d_Lexer_note_9 (by decide) (fun q7 => ?_) (fun q7 => ?_)
  · rw [if_pos q7] at hG
    exact ab_vret d_Lexer_note_63 rfl (Nat.le_refl _) (Nat.le_refl _) (by have hr := Option.some.inj hG; subst hr; exact ⟨rfl, rfl⟩)
  · rw [if_neg q7] at hG
    refine ab_aload_n d_Lexer_note_12 rfl rfl rfl ?_
    obtain ⟨a8, e9, hF⟩ := rf_s hG; clear hG
    refine hp_getR (f := 6) d_Lexer_note_13 q1 (by decide) rfl (by decide) (k1 108 rfl rfl) rfl e9 ?_
    refine ab_aload_n d_Lexer_note_16 rfl rfl rfl ?_
    refine hp_getI (f := 10) d_Lexer_note_17 q1 (by decide) rfl (by decide) (k1 112 rfl rfl) rfl ?_
    refine ab_topi (fun x10 ex10 => ?_)
    replace hF := bnd_s ex10 hF
    refine ab_iload_n d_Lexer_note_20 rfl rfl ?_
    obtain ⟨n11, q12, hG⟩ := ar_s hF; clear hF
    obtain ⟨q13, hF⟩ := ck_s hG; clear hG
    refine hp_iast d_Lexer_note_21 tI q12 q13 ?_
    refine hp_gen (fun H14 eH14 => ?_)
    replace hF := bnd_s eH14 hF
    have s_1 : Sa H H14 := by rw [eH14]; exact Sa.rf _
    refine ab_aload_n d_Lexer_note_22 rfl rfl rfl ?_
    obtain ⟨a15, e16, hG⟩ := rf_s hF; clear hF
    refine hp_getR (f := 7) d_Lexer_note_23 (by rw [(s_1).1]; exact q1) (by decide) rfl (by decide) (k1 109 rfl rfl) rfl e16 ?_
    refine ab_aload_n d_Lexer_note_26 rfl rfl rfl ?_
    refine hp_getI (f := 10) d_Lexer_note_27 (by rw [(s_1).1]; exact q1) (by decide) rfl (by decide) (k1 112 rfl rfl) rfl ?_
    refine ab_topi (fun x17 ex17 => ?_)
    replace hG := bnd_s ex17 hG
    refine ab_iload_n d_Lexer_note_30 rfl rfl ?_
    obtain ⟨n18, q19, hF⟩ := ar_s hG; clear hG
    rw [(s_1).1] at q19
    obtain ⟨q20, hG⟩ := ck_s hF; clear hF
    refine hp_iast d_Lexer_note_31 tI (by rw [(s_1).1]; exact q19) q20 ?_
    refine hp_gen (fun H21 eH21 => ?_)
    replace hG := bnd_s eH21 hG
    have s_2 : Sa H H21 := by rw [eH21]; exact s_1
    refine ab_aload_n d_Lexer_note_32 rfl rfl rfl ?_
    obtain ⟨a22, e23, hF⟩ := rf_s hG; clear hG
    refine hp_getR (f := 8) d_Lexer_note_33 (by rw [(s_2).1]; exact q1) (by decide) rfl (by decide) (k1 110 rfl rfl) rfl e23 ?_
    refine ab_aload_n d_Lexer_note_36 rfl rfl rfl ?_
    refine hp_getI (f := 10) d_Lexer_note_37 (by rw [(s_2).1]; exact q1) (by decide) rfl (by decide) (k1 112 rfl rfl) rfl ?_
    refine ab_topi (fun x24 ex24 => ?_)
    replace hF := bnd_s ex24 hF
    refine ab_iload_n d_Lexer_note_40 rfl rfl ?_
    obtain ⟨n25, q26, hG⟩ := ar_s hF; clear hF
    rw [(s_2).1] at q26
    obtain ⟨q27, hF⟩ := ck_s hG; clear hG
    refine hp_iast d_Lexer_note_41 tI (by rw [(s_2).1]; exact q26) q27 ?_
    refine hp_gen (fun H28 eH28 => ?_)
    replace hF := bnd_s eH28 hF
    have s_3 : Sa H H28 := by rw [eH28]; exact s_2
    refine ab_aload_n d_Lexer_note_42 rfl rfl rfl ?_
    obtain ⟨a29, e30, hG⟩ := rf_s hF; clear hF
    refine hp_getR (f := 9) d_Lexer_note_43 (by rw [(s_3).1]; exact q1) (by decide) rfl (by decide) (k1 111 rfl rfl) rfl e30 ?_
    refine ab_aload_n d_Lexer_note_46 rfl rfl rfl ?_
    refine hp_getI (f := 10) d_Lexer_note_47 (by rw [(s_3).1]; exact q1) (by decide) rfl (by decide) (k1 112 rfl rfl) rfl ?_
    refine ab_topi (fun x31 ex31 => ?_)
    replace hG := bnd_s ex31 hG
    refine ab_iload d_Lexer_note_50 rfl ?_
    obtain ⟨n32, q33, hF⟩ := ar_s hG; clear hG
    rw [(s_3).1] at q33
    obtain ⟨q34, hG⟩ := ck_s hF; clear hF
    refine hp_zast d_Lexer_note_52 tZ (by rw [(s_3).1]; exact q33) q34 ?_
    refine hp_gen (fun H35 eH35 => ?_)
    replace hG := bnd_s eH35 hG
    have s_4 : Sa H H35 := by rw [eH35]; exact s_3
    refine ab_aload_n d_Lexer_note_53 rfl rfl rfl ?_
    refine ab_dup d_Lexer_note_54 rfl ?_
    refine hp_getI (f := 10) d_Lexer_note_55 (by rw [(s_4).1]; exact q1) (by decide) rfl (by decide) (k1 112 rfl rfl) rfl ?_
    refine ab_topi (fun x36 ex36 => ?_)
    replace hG := bnd_s ex36 hG
    refine ab_iconst (v := 1) d_Lexer_note_58 (by decide) ?_
    refine ab_iadd d_Lexer_note_59 ?_
    refine hp_putI (v := x36 + (1 : Int32)) (f := 10) d_Lexer_note_60 (by rw [(s_4).1]; exact q1) (by decide) rfl (by decide) (k1 112 rfl rfl) rfl rfl (fun _ => rfl) (fun _ => rfl) rfl ?_
    refine hp_gen (fun H37 eH37 => ?_)
    replace hG := bnd_s eH37 hG
    have s_5 : Sa H H37 := by rw [eH37]; exact s_4
    exact ab_vret d_Lexer_note_63 rfl (Nat.le_refl _) (Nat.le_refl _) (by have hr := Option.some.inj hG; subst hr; exact ⟨rfl, rfl⟩)
def y_Lexer_behindName : ab_Y := (⟨"WorldEngine$Lexer", "behindName", "(I)I"⟩, prog_3_method_10_code, 4, (some FieldType.int), [])
theorem d_Lexer_behindName_0 : decode y_Lexer_behindName.2.1 0 = .ok (.iload_n 1, 1) := by decide +kernel
theorem d_Lexer_behindName_1 : decode y_Lexer_behindName.2.1 1 = .ok (.istore_n 2, 1) := by decide +kernel
theorem d_Lexer_behindName_2 : decode y_Lexer_behindName.2.1 2 = .ok (.iload_n 2, 1) := by decide +kernel
theorem d_Lexer_behindName_3 : decode y_Lexer_behindName.2.1 3 = .ok (.aload_n 0, 1) := by decide +kernel
theorem d_Lexer_behindName_4 : decode y_Lexer_behindName.2.1 4 = .ok (.getfield 42, 3) := by decide +kernel
theorem d_Lexer_behindName_7 : decode y_Lexer_behindName.2.1 7 = .ok (.if_icmp .ge 31, 3) := by decide +kernel
theorem d_Lexer_behindName_10 : decode y_Lexer_behindName.2.1 10 = .ok (.aload_n 0, 1) := by decide +kernel
theorem d_Lexer_behindName_11 : decode y_Lexer_behindName.2.1 11 = .ok (.iload_n 2, 1) := by decide +kernel
theorem d_Lexer_behindName_12 : decode y_Lexer_behindName.2.1 12 = .ok (.invokevirtual 74, 3) := by decide +kernel
theorem d_Lexer_behindName_15 : decode y_Lexer_behindName.2.1 15 = .ok (.invokestatic 77, 3) := by decide +kernel
theorem d_Lexer_behindName_18 : decode y_Lexer_behindName.2.1 18 = .ok (.ifCond .ne 14, 3) := by decide +kernel
theorem d_Lexer_behindName_21 : decode y_Lexer_behindName.2.1 21 = .ok (.aload_n 0, 1) := by decide +kernel
theorem d_Lexer_behindName_22 : decode y_Lexer_behindName.2.1 22 = .ok (.iload_n 2, 1) := by decide +kernel
theorem d_Lexer_behindName_23 : decode y_Lexer_behindName.2.1 23 = .ok (.invokevirtual 74, 3) := by decide +kernel
theorem d_Lexer_behindName_26 : decode y_Lexer_behindName.2.1 26 = .ok (.invokestatic 84, 3) := by decide +kernel
theorem d_Lexer_behindName_29 : decode y_Lexer_behindName.2.1 29 = .ok (.ifCond .eq 9, 3) := by decide +kernel
theorem d_Lexer_behindName_32 : decode y_Lexer_behindName.2.1 32 = .ok (.iinc 2 1, 3) := by decide +kernel
theorem d_Lexer_behindName_35 : decode y_Lexer_behindName.2.1 35 = .ok (.goto (-33), 3) := by decide +kernel
theorem d_Lexer_behindName_38 : decode y_Lexer_behindName.2.1 38 = .ok (.iload_n 2, 1) := by decide +kernel
theorem d_Lexer_behindName_39 : decode y_Lexer_behindName.2.1 39 = .ok (.iload_n 1, 1) := by decide +kernel
theorem d_Lexer_behindName_40 : decode y_Lexer_behindName.2.1 40 = .ok (.isub, 1) := by decide +kernel
theorem d_Lexer_behindName_41 : decode y_Lexer_behindName.2.1 41 = .ok (.istore_n 3, 1) := by decide +kernel
theorem d_Lexer_behindName_42 : decode y_Lexer_behindName.2.1 42 = .ok (.aload_n 0, 1) := by decide +kernel
theorem d_Lexer_behindName_43 : decode y_Lexer_behindName.2.1 43 = .ok (.aload_n 0, 1) := by decide +kernel
theorem d_Lexer_behindName_44 : decode y_Lexer_behindName.2.1 44 = .ok (.iload_n 1, 1) := by decide +kernel
theorem d_Lexer_behindName_45 : decode y_Lexer_behindName.2.1 45 = .ok (.iload_n 3, 1) := by decide +kernel
theorem d_Lexer_behindName_46 : decode y_Lexer_behindName.2.1 46 = .ok (.invokevirtual 93, 3) := by decide +kernel
theorem d_Lexer_behindName_49 : decode y_Lexer_behindName.2.1 49 = .ok (.iload_n 1, 1) := by decide +kernel
theorem d_Lexer_behindName_50 : decode y_Lexer_behindName.2.1 50 = .ok (.iload_n 3, 1) := by decide +kernel
theorem d_Lexer_behindName_51 : decode y_Lexer_behindName.2.1 51 = .ok (.iload_n 3, 1) := by decide +kernel
theorem d_Lexer_behindName_52 : decode y_Lexer_behindName.2.1 52 = .ok (.bipush 12, 2) := by decide +kernel
theorem d_Lexer_behindName_54 : decode y_Lexer_behindName.2.1 54 = .ok (.if_icmp .le 7, 3) := by decide +kernel
theorem d_Lexer_behindName_57 : decode y_Lexer_behindName.2.1 57 = .ok (.iconst 1, 1) := by decide +kernel
theorem d_Lexer_behindName_58 : decode y_Lexer_behindName.2.1 58 = .ok (.goto 4, 3) := by decide +kernel
theorem d_Lexer_behindName_61 : decode y_Lexer_behindName.2.1 61 = .ok (.iconst 0, 1) := by decide +kernel
theorem d_Lexer_behindName_62 : decode y_Lexer_behindName.2.1 62 = .ok (.invokevirtual 61, 3) := by decide +kernel
theorem d_Lexer_behindName_65 : decode y_Lexer_behindName.2.1 65 = .ok (.iload_n 2, 1) := by decide +kernel
theorem d_Lexer_behindName_66 : decode y_Lexer_behindName.2.1 66 = .ok (.ireturn, 1) := by decide +kernel
theorem s_Lexer_behindName : ab_Stat y_Lexer_behindName 1 := ⟨(k4 0 rfl rfl), (k1 2 rfl rfl), ⟨by decide, by decide⟩, by decide +kernel⟩
theorem i_Lexer_behindName : Cond.instanceMethod y_Lexer_behindName.1 ∈ ab_T := (k3 239 rfl rfl)
theorem v_Lexer_behindName : Cond.selects "WorldEngine$Lexer" y_Lexer_behindName.1 y_Lexer_behindName.1 ∈ ab_T := ab_s (List.mem_of_getElem? (i := 3) rfl) rfl
def B_Lexer_behindName_62 (N : Nat) (p0 : Nat) (p1 : Int32) (l2 : Int32) (w0 : Nat) (w1 : Int32) (w2 : Int32) (w3 : Int32) (w4 : Int32) (H : Hp) : Option (Int32 × Hp) :=
    ck (H.sh[w0]? = some (1, 0)) <|
    bC (F_Lexer_note N w0 w1 w2 w3 w4 H) fun v11 H12 =>
    some (l2, H12)
set_option maxRecDepth 20000 in
set_option maxHeartbeats 2000000 in
theorem mB_Lexer_behindName_62 {N : Nat} {p0 : Nat} {p1 : Int32} {l2 : Int32} {w0 : Nat} {w1 : Int32} {w2 : Int32} {w3 : Int32} {w4 : Int32} {H : Hp} {r : Int32 × Hp} (hF : B_Lexer_behindName_62 N p0 p1 l2 w0 w1 w2 w3 w4 H = some r) : Sa H r.2 := by
  unfold B_Lexer_behindName_62 at hF
  have hm := Sa.rf H
  obtain ⟨q13, hG⟩ := ck_s hF; clear hF
  obtain ⟨v15, H16, z14, hF⟩ := bC_s hG; clear hG
  replace hm : Sa H H16 := hm.tr (m_Lexer_note z14)
  have hr := Option.some.inj hF; subst hr
  exact hm
set_option maxRecDepth 20000 in
set_option maxHeartbeats 2000000 in
theorem kB_Lexer_behindName_62 {N : Nat} {p0 : Nat} {p1 : Int32} {l2 : Int32} {w0 : Nat} {w1 : Int32} {w2 : Int32} {w3 : Int32} {w4 : Int32} {H : Hp} {r : Int32 × Hp} (hF : B_Lexer_behindName_62 N p0 p1 l2 w0 w1 w2 w3 w4 H = some r) : ab_V y_Lexer_behindName { frames := 5, cells := 0, slots := 0, locals := 109 } (po (.returned (some (.int r.1))) r.2) 0 0 0 0 62 [some (.ref p0), some (.int p1), some (.int l2), none] [.int w4, .int w3, .int w2, .int w1, .ref w0] (hpw H) := by
  unfold B_Lexer_behindName_62 at hF
  obtain ⟨q9, hG⟩ := ck_s hF; clear hF
  obtain ⟨v11, H12, z10, hF⟩ := bC_s hG; clear hG
  refine hp_callV_v (H1 := H12) (As := [.int w1, .int w2, .int w3, .int w4]) (rest := []) d_Lexer_behindName_62 (k_Lexer_note z10) (ab_mkC s_Lexer_note (Nat.le_of_ble_eq_true rfl) (Nat.le_of_ble_eq_true rfl) (Nat.le_refl 0) (Nat.le_refl 0)) (k4 8 rfl rfl) i_Lexer_note v_Lexer_note q9 (by decide) rfl rfl (Nat.le_of_ble_eq_true rfl) ?_
  have s_2 : Sa H H12 := (m_Lexer_note z10)
  refine ab_iload_n d_Lexer_behindName_65 rfl rfl ?_
  exact ab_iret d_Lexer_behindName_66 rfl (Nat.le_refl _) (Nat.le_refl _) (by have hr := Option.some.inj hF; subst hr; exact ⟨rfl, rfl⟩)
def B_Lexer_behindName_38 (N : Nat) (p0 : Nat) (p1 : Int32) (l2 : Int32) (H : Hp) : Option (Int32 × Hp) :=
    ck (H.sh[p0]? = some (1, 0)) <|
    bC (F_Lexer_wordOf N p0 p1 (l2 - p1) H) fun v6 H7 =>
    if (l2 - p1) ≤ (12 : Int32) then
    B_Lexer_behindName_62 N p0 p1 l2 p0 v6 p1 (l2 - p1) 0 H7
    else
    B_Lexer_behindName_62 N p0 p1 l2 p0 v6 p1 (l2 - p1) 1 H7
set_option maxRecDepth 20000 in
set_option maxHeartbeats 2000000 in
theorem mB_Lexer_behindName_38 {N : Nat} {p0 : Nat} {p1 : Int32} {l2 : Int32} {H : Hp} {r : Int32 × Hp} (hF : B_Lexer_behindName_38 N p0 p1 l2 H = some r) : Sa H r.2 := by
  unfold B_Lexer_behindName_38 at hF
  have hm := Sa.rf H
  obtain ⟨q17, hG⟩ := ck_s hF; clear hF
  obtain ⟨v19, H20, z18, hF⟩ := bC_s hG; clear hG
  replace hm : Sa H H20 := hm.tr (m_Lexer_wordOf z18)
  rcases ite_s hF with ⟨q_5, hG⟩ | ⟨q_5, hG⟩
  · clear hF
    exact hm.tr (mB_Lexer_behindName_62 hG)
  · clear hF
    exact hm.tr (mB_Lexer_behindName_62 hG)
set_option maxRecDepth 20000 in
set_option maxHeartbeats 2000000 in
theorem kB_Lexer_behindName_38 {N : Nat} {p0 : Nat} {p1 : Int32} {l2 : Int32} {H : Hp} {r : Int32 × Hp} (hF : B_Lexer_behindName_38 N p0 p1 l2 H = some r) : ab_V y_Lexer_behindName { frames := 5, cells := 0, slots := 0, locals := 109 } (po (.returned (some (.int r.1))) r.2) 0 0 0 0 38 [some (.ref p0), some (.int p1), some (.int l2), none] [] (hpw H) := by
  unfold B_Lexer_behindName_38 at hF
  refine ab_iload_n d_Lexer_behindName_38 rfl rfl ?_
  refine ab_iload_n d_Lexer_behindName_39 rfl rfl ?_
  refine ab_isub d_Lexer_behindName_40 ?_
  refine ab_istore_n (lv' := [some (.ref p0), some (.int p1), some (.int l2), some (.int (l2 - p1))]) d_Lexer_behindName_41 rfl (by decide) rfl ?_
  refine ab_aload_n d_Lexer_behindName_42 rfl rfl rfl ?_
  refine ab_aload_n d_Lexer_behindName_43 rfl rfl rfl ?_
  refine ab_iload_n d_Lexer_behindName_44 rfl rfl ?_
  refine ab_iload_n d_Lexer_behindName_45 rfl rfl ?_
  obtain ⟨q4, hG⟩ := ck_s hF; clear hF
  obtain ⟨v6, H7, z5, hF⟩ := bC_s hG; clear hG
  refine hp_callV_a (v := .int v6) (H1 := H7) (As := [.int p1, .int (l2 - p1)]) (rest := [.ref p0]) d_Lexer_behindName_46 (k_Lexer_wordOf z5) (ab_mkC s_Lexer_wordOf (Nat.le_of_ble_eq_true rfl) (Nat.le_of_ble_eq_true rfl) (Nat.le_refl 0) (Nat.le_refl 0)) (k4 4 rfl rfl) i_Lexer_wordOf v_Lexer_wordOf q4 (by decide) rfl rfl (Nat.le_of_ble_eq_true rfl) ?_
  have s_1 : Sa H H7 := (m_Lexer_wordOf z5)
  refine ab_iload_n d_Lexer_behindName_49 rfl rfl ?_
  refine ab_iload_n d_Lexer_behindName_50 rfl rfl ?_
  refine ab_iload_n d_Lexer_behindName_51 rfl rfl ?_
  refine ab_bipush (v := 12) d_Lexer_behindName_52 (by decide) ?_
  refine ab_icmp_le (tgt := 61) d_Lexer_behindName_54 (by decide) (fun q8 => ?_) (fun q8 => ?_)
  · rw [if_pos q8] at hF
    refine ab_iconst (v := 0) d_Lexer_behindName_61 (by decide) ?_
    refine ab_le (lv' := [some (.ref p0), some (.int p1), some (.int l2), none]) ⟨rfl, ⟨rfl, ⟨rfl, trivial⟩⟩⟩ ?_
    exact kB_Lexer_behindName_62 hF
  · rw [if_neg q8] at hF
    refine ab_iconst (v := 1) d_Lexer_behindName_57 (by decide) ?_
    refine ab_goto (tgt := 62) d_Lexer_behindName_58 (by decide) ?_
    refine ab_le (lv' := [some (.ref p0), some (.int p1), some (.int l2), none]) ⟨rfl, ⟨rfl, ⟨rfl, trivial⟩⟩⟩ ?_
    exact kB_Lexer_behindName_62 hF
def B_Lexer_behindName_32 (N : Nat) (p0 : Nat) (p1 : Int32) (kq2 : Int32 → Hp → Option (Int32 × Hp)) (l2 : Int32) (H : Hp) : Option (Int32 × Hp) :=
    kq2 (l2 + 1) H
set_option maxRecDepth 20000 in
set_option maxHeartbeats 2000000 in
theorem mB_Lexer_behindName_32 {N : Nat} {p0 : Nat} {p1 : Int32} {kq2 : Int32 → Hp → Option (Int32 × Hp)} (hm2 : ∀ (l2 : Int32) (H : Hp) (r : Int32 × Hp), kq2 l2 H = some r → Sa H r.2) {l2 : Int32} {H : Hp} {r : Int32 × Hp} (hF : B_Lexer_behindName_32 N p0 p1 kq2 l2 H = some r) : Sa H r.2 := by
  unfold B_Lexer_behindName_32 at hF
  have hm := Sa.rf H
  exact hm.tr (hm2 (l2 + 1) H r hF)
set_option maxRecDepth 20000 in
set_option maxHeartbeats 2000000 in
theorem kB_Lexer_behindName_32 {N : Nat} {p0 : Nat} {p1 : Int32} {kq2 : Int32 → Hp → Option (Int32 × Hp)} (hm2 : ∀ (l2 : Int32) (H : Hp) (r : Int32 × Hp), kq2 l2 H = some r → Sa H r.2) (hk2 : ∀ (l2 : Int32) (H : Hp) (r : Int32 × Hp), kq2 l2 H = some r → ab_V y_Lexer_behindName { frames := 5, cells := 0, slots := 0, locals := 109 } (po (.returned (some (.int r.1))) r.2) 0 0 0 0 2 [some (.ref p0), some (.int p1), some (.int l2), none] [] (hpw H)) {l2 : Int32} {H : Hp} {r : Int32 × Hp} (hF : B_Lexer_behindName_32 N p0 p1 kq2 l2 H = some r) : ab_V y_Lexer_behindName { frames := 5, cells := 0, slots := 0, locals := 109 } (po (.returned (some (.int r.1))) r.2) 0 0 0 0 32 [some (.ref p0), some (.int p1), some (.int l2), none] [] (hpw H) := by
  unfold B_Lexer_behindName_32 at hF
  refine ab_iinc (v := l2 + 1) (lv' := [some (.ref p0), some (.int p1), some (.int (l2 + 1)), none]) d_Lexer_behindName_32 rfl rfl (by decide) rfl ?_
  refine ab_goto (tgt := 2) d_Lexer_behindName_35 (by decide) ?_
  exact hk2 (l2 + 1) H r hF
def B_Lexer_behindName_2 (N : Nat) (p0 : Nat) (p1 : Int32) : Nat → Int32 → Hp → Option (Int32 × Hp)
  | 0, _, _ => none
  | n + 1, l2, H =>
    ck (H.sh[p0]? = some (1, 0)) <|
    bnd ((H.D p0 1)) fun x2 =>
    if x2 ≤ l2 then
    B_Lexer_behindName_38 N p0 p1 l2 H
    else
    bC (F_Lexer_byteAt N p0 l2 H) fun v23 H24 =>
    bC (F_Lexer_isLetter N v23 H24) fun v26 H27 =>
    if v26 = (0 : Int32) then
    bC (F_Lexer_byteAt N p0 l2 H27) fun v30 H31 =>
    bC (F_Lexer_isDigit N v30 H31) fun v33 H34 =>
    if v33 = (0 : Int32) then
    B_Lexer_behindName_38 N p0 p1 l2 H34
    else
    B_Lexer_behindName_32 N p0 p1 (fun l2 H => B_Lexer_behindName_2 N p0 p1 n l2 H) l2 H34
    else
    B_Lexer_behindName_32 N p0 p1 (fun l2 H => B_Lexer_behindName_2 N p0 p1 n l2 H) l2 H27
termination_by structural n => n
set_option maxRecDepth 20000 in
set_option maxHeartbeats 2000000 in
theorem mB_Lexer_behindName_2 {N : Nat} {p0 : Nat} {p1 : Int32} : ∀ (n : Nat) (l2 : Int32) (H : Hp) (r : Int32 × Hp), B_Lexer_behindName_2 N p0 p1 n l2 H = some r → Sa H r.2 := by
  intro n
  induction n with
  | zero => intro l2 H r hF; rw [B_Lexer_behindName_2] at hF; cases hF
  | succ n ih =>
    intro l2 H r hF
    rw [B_Lexer_behindName_2] at hF
    have hm := Sa.rf H
    obtain ⟨q36, hG⟩ := ck_s hF; clear hF
    obtain ⟨x37, -, hF⟩ := bnd_g hG; clear hG
    rcases ite_s hF with ⟨q_10, hG⟩ | ⟨q_10, hG⟩
    · clear hF
      exact hm.tr (mB_Lexer_behindName_38 hG)
    · clear hF
      obtain ⟨v40, H41, z39, hF⟩ := bC_s hG; clear hG
      replace hm : Sa H H41 := hm.tr (m_Lexer_byteAt z39)
      obtain ⟨v43, H44, z42, hG⟩ := bC_s hF; clear hF
      replace hm : Sa H H44 := hm.tr (m_Lexer_isLetter z42)
      rcases ite_s hG with ⟨q_13, hF⟩ | ⟨q_13, hF⟩
      · clear hG
        obtain ⟨v47, H48, z46, hG⟩ := bC_s hF; clear hF
        replace hm : Sa H H48 := hm.tr (m_Lexer_byteAt z46)
        obtain ⟨v50, H51, z49, hF⟩ := bC_s hG; clear hG
        replace hm : Sa H H51 := hm.tr (m_Lexer_isDigit z49)
        rcases ite_s hF with ⟨q_16, hG⟩ | ⟨q_16, hG⟩
        · clear hF
          exact hm.tr (mB_Lexer_behindName_38 hG)
        · clear hF
          exact hm.tr (mB_Lexer_behindName_32 ih hG)
      · clear hG
        exact hm.tr (mB_Lexer_behindName_32 ih hF)
set_option maxRecDepth 20000 in
set_option maxHeartbeats 2000000 in
theorem kB_Lexer_behindName_2 {N : Nat} {p0 : Nat} {p1 : Int32} : ∀ (n : Nat) (l2 : Int32) (H : Hp) (r : Int32 × Hp), B_Lexer_behindName_2 N p0 p1 n l2 H = some r → ab_V y_Lexer_behindName { frames := 5, cells := 0, slots := 0, locals := 109 } (po (.returned (some (.int r.1))) r.2) 0 0 0 0 2 [some (.ref p0), some (.int p1), some (.int l2), none] [] (hpw H) := by
  intro n
  induction n with
  | zero => intro l2 H r hF; rw [B_Lexer_behindName_2] at hF; cases hF
  | succ n ih =>
    intro l2 H r hF
    rw [B_Lexer_behindName_2] at hF
    refine ab_iload_n d_Lexer_behindName_2 rfl rfl ?_
    refine ab_aload_n d_Lexer_behindName_3 rfl rfl rfl ?_
    obtain ⟨q1, hG⟩ := ck_s hF; clear hF
    refine hp_getI (f := 1) d_Lexer_behindName_4 q1 (by decide) rfl (by decide) (k1 95 rfl rfl) rfl ?_
    refine ab_topi (fun x2 ex2 => ?_)
    replace hG := bnd_s ex2 hG
    refine ab_icmp_ge (tgt := 38) d_Lexer_behindName_7 (by decide) (fun q3 => ?_) (fun q3 => ?_)
    · rw [if_pos q3] at hG
      exact kB_Lexer_behindName_38 hG
    · rw [if_neg q3] at hG
      refine ab_aload_n d_Lexer_behindName_10 rfl rfl rfl ?_
      refine ab_iload_n d_Lexer_behindName_11 rfl rfl ?_
      obtain ⟨v23, H24, z22, hF⟩ := bC_s hG; clear hG
      refine hp_callV_a (v := .int v23) (H1 := H24) (As := [.int l2]) (rest := []) d_Lexer_behindName_12 (k_Lexer_byteAt z22) (ab_mkC s_Lexer_byteAt (Nat.le_of_ble_eq_true rfl) (Nat.le_of_ble_eq_true rfl) (Nat.le_refl 0) (Nat.le_refl 0)) (k3 226 rfl rfl) i_Lexer_byteAt v_Lexer_byteAt q1 (by decide) rfl rfl (Nat.le_of_ble_eq_true rfl) ?_
      have s_6 : Sa H H24 := (m_Lexer_byteAt z22)
      obtain ⟨v26, H27, z25, hG⟩ := bC_s hF; clear hF
      refine hp_callS_a (v := .int v26) (H1 := H27) (As := [.int v23]) (rest := []) d_Lexer_behindName_15 (k_Lexer_isLetter z25) (ab_mkC s_Lexer_isLetter (Nat.le_of_ble_eq_true rfl) (Nat.le_of_ble_eq_true rfl) (Nat.le_refl 0) (Nat.le_refl 0)) (k3 234 rfl rfl) t_Lexer_isLetter rfl (Nat.le_of_ble_eq_true rfl) ?_
      have s_7 : Sa H H27 := (s_6).tr (m_Lexer_isLetter z25)
      refine ab_if_ne (tgt := 32) d_Lexer_behindName_18 (by decide) (fun q28 => ?_) (fun q28 => ?_)
      · rw [if_neg q28] at hG
        exact kB_Lexer_behindName_32 (mB_Lexer_behindName_2 n) ih hG
      · rw [if_pos q28] at hG
        refine ab_aload_n d_Lexer_behindName_21 rfl rfl rfl ?_
        refine ab_iload_n d_Lexer_behindName_22 rfl rfl ?_
        obtain ⟨v30, H31, z29, hF⟩ := bC_s hG; clear hG
        refine hp_callV_a (v := .int v30) (H1 := H31) (As := [.int l2]) (rest := []) d_Lexer_behindName_23 (k_Lexer_byteAt z29) (ab_mkC s_Lexer_byteAt (Nat.le_of_ble_eq_true rfl) (Nat.le_of_ble_eq_true rfl) (Nat.le_refl 0) (Nat.le_refl 0)) (k3 226 rfl rfl) i_Lexer_byteAt v_Lexer_byteAt (by rw [(s_7).1]; exact q1) (by decide) rfl rfl (Nat.le_of_ble_eq_true rfl) ?_
        have s_8 : Sa H H31 := (s_7).tr (m_Lexer_byteAt z29)
        obtain ⟨v33, H34, z32, hG⟩ := bC_s hF; clear hF
        refine hp_callS_a (v := .int v33) (H1 := H34) (As := [.int v30]) (rest := []) d_Lexer_behindName_26 (k_Lexer_isDigit z32) (ab_mkC s_Lexer_isDigit (Nat.le_of_ble_eq_true rfl) (Nat.le_of_ble_eq_true rfl) (Nat.le_refl 0) (Nat.le_refl 0)) (k4 1 rfl rfl) t_Lexer_isDigit rfl (Nat.le_of_ble_eq_true rfl) ?_
        have s_9 : Sa H H34 := (s_8).tr (m_Lexer_isDigit z32)
        refine ab_if_eq (tgt := 38) d_Lexer_behindName_29 (by decide) (fun q35 => ?_) (fun q35 => ?_)
        · rw [if_pos q35] at hG
          exact kB_Lexer_behindName_38 hG
        · rw [if_neg q35] at hG
          exact kB_Lexer_behindName_32 (mB_Lexer_behindName_2 n) ih hG
def F_Lexer_behindName (N : Nat) (p0 : Nat) (p1 : Int32) (H : Hp) : Option (Int32 × Hp) :=
    B_Lexer_behindName_2 N p0 p1 N p1 H
set_option maxRecDepth 20000 in
set_option maxHeartbeats 2000000 in
theorem m_Lexer_behindName {N : Nat} {p0 : Nat} {p1 : Int32} {H : Hp} {r : Int32 × Hp} (hF : F_Lexer_behindName N p0 p1 H = some r) : Sa H r.2 := by
  unfold F_Lexer_behindName at hF
  have hm := Sa.rf H
  exact hm.tr (mB_Lexer_behindName_2 N p1 H r hF)
set_option maxRecDepth 20000 in
set_option maxHeartbeats 2000000 in
theorem k_Lexer_behindName {N : Nat} {p0 : Nat} {p1 : Int32} {H : Hp} {r : Int32 × Hp} (hF : F_Lexer_behindName N p0 p1 H = some r) : ab_M y_Lexer_behindName { frames := 5, cells := 0, slots := 0, locals := 109 } [.ref p0, .int p1] (hpw H) (po (.returned (some (.int r.1))) r.2) := by
  unfold F_Lexer_behindName at hF
  refine ab_of2 (lv := [some (.ref p0), some (.int p1), none, none]) 2 rfl rfl (Nat.le_of_ble_eq_true rfl) ?_
  refine ab_iload_n d_Lexer_behindName_0 rfl rfl ?_
  refine ab_istore_n (lv' := [some (.ref p0), some (.int p1), some (.int p1), none]) d_Lexer_behindName_1 rfl (by decide) rfl ?_
  exact kB_Lexer_behindName_2 N p1 H r hF
def y_Math_min2 : ab_Y := (⟨"java/lang/Math", "min", "(JJ)J"⟩, prog_23_method_70_code, 4, (some FieldType.long), [])
theorem d_Math_min2_0 : decode y_Math_min2.2.1 0 = .ok (.lload_n 0, 1) := by decide +kernel
theorem d_Math_min2_1 : decode y_Math_min2.2.1 1 = .ok (.lload_n 2, 1) := by decide +kernel
theorem d_Math_min2_2 : decode y_Math_min2.2.1 2 = .ok (.lcmp, 1) := by decide +kernel
theorem d_Math_min2_3 : decode y_Math_min2.2.1 3 = .ok (.ifCond .gt 7, 3) := by decide +kernel
theorem d_Math_min2_6 : decode y_Math_min2.2.1 6 = .ok (.lload_n 0, 1) := by decide +kernel
theorem d_Math_min2_7 : decode y_Math_min2.2.1 7 = .ok (.goto 4, 3) := by decide +kernel
theorem d_Math_min2_10 : decode y_Math_min2.2.1 10 = .ok (.lload_n 2, 1) := by decide +kernel
theorem d_Math_min2_11 : decode y_Math_min2.2.1 11 = .ok (.lreturn, 1) := by decide +kernel
theorem s_Math_min2 : ab_Stat y_Math_min2 2 := ⟨(k4 21 rfl rfl), (k1 17 rfl rfl), ⟨by decide, by decide⟩, by decide +kernel⟩
theorem t_Math_min2 : Cond.static y_Math_min2.1 ∈ ab_T := (k4 20 rfl rfl)
def F_Math_min2 (N : Nat) (p0 : Int64) (p2 : Int64) (H : Hp) : Option (Int64 × Hp) :=
    if (0 : Int32) < (lg_cmp p0 p2) then
    some (p2, H)
    else
    some (p0, H)
set_option maxRecDepth 20000 in
set_option maxHeartbeats 2000000 in
theorem m_Math_min2 {N : Nat} {p0 : Int64} {p2 : Int64} {H : Hp} {r : Int64 × Hp} (hF : F_Math_min2 N p0 p2 H = some r) : Sa H r.2 := by
  unfold F_Math_min2 at hF
  have hm := Sa.rf H
  rcases ite_s hF with ⟨q_1, hG⟩ | ⟨q_1, hG⟩
  · clear hF
    have hr := Option.some.inj hG; subst hr
    exact hm
  · clear hF
    have hr := Option.some.inj hG; subst hr
    exact hm
set_option maxRecDepth 20000 in
set_option maxHeartbeats 2000000 in
theorem k_Math_min2 {N : Nat} {p0 : Int64} {p2 : Int64} {H : Hp} {r : Int64 × Hp} (hF : F_Math_min2 N p0 p2 H = some r) : ab_M y_Math_min2 { frames := 0, cells := 0, slots := 0, locals := 0 } [.long p0, .long p2] (hpw H) (po (.returned (some (.long r.1))) r.2) := by
  unfold F_Math_min2 at hF
  refine ab_of2 (lv := [some (.long p0), none, some (.long p2), none]) 0 rfl (by decide +kernel) (Nat.le_of_ble_eq_true rfl) ?_
  refine ab_lload_n d_Math_min2_0 rfl rfl ?_
  refine ab_lload_n d_Math_min2_1 rfl rfl ?_
  refine ab_lcmp d_Math_min2_2 ?_
  refine ab_if_gt (tgt := 10) d_Math_min2_3 (by decide) (fun q1 => ?_) (fun q1 => ?_)
  · rw [if_pos q1] at hF
    refine ab_lload_n d_Math_min2_10 rfl rfl ?_
    exact ab_lret d_Math_min2_11 rfl (Nat.le_refl _) (Nat.le_refl _) (by have hr := Option.some.inj hF; subst hr; exact ⟨rfl, rfl⟩)
  · rw [if_neg q1] at hF
    refine ab_lload_n d_Math_min2_6 rfl rfl ?_
    refine ab_goto (tgt := 11) d_Math_min2_7 (by decide) ?_
    exact ab_lret d_Math_min2_11 rfl (Nat.le_refl _) (Nat.le_refl _) (by have hr := Option.some.inj hF; subst hr; exact ⟨rfl, rfl⟩)
def y_Math_max2 : ab_Y := (⟨"java/lang/Math", "max", "(JJ)J"⟩, prog_23_method_66_code, 4, (some FieldType.long), [])
theorem d_Math_max2_0 : decode y_Math_max2.2.1 0 = .ok (.lload_n 0, 1) := by decide +kernel
theorem d_Math_max2_1 : decode y_Math_max2.2.1 1 = .ok (.lload_n 2, 1) := by decide +kernel
theorem d_Math_max2_2 : decode y_Math_max2.2.1 2 = .ok (.lcmp, 1) := by decide +kernel
theorem d_Math_max2_3 : decode y_Math_max2.2.1 3 = .ok (.ifCond .lt 7, 3) := by decide +kernel
theorem d_Math_max2_6 : decode y_Math_max2.2.1 6 = .ok (.lload_n 0, 1) := by decide +kernel
theorem d_Math_max2_7 : decode y_Math_max2.2.1 7 = .ok (.goto 4, 3) := by decide +kernel
theorem d_Math_max2_10 : decode y_Math_max2.2.1 10 = .ok (.lload_n 2, 1) := by decide +kernel
theorem d_Math_max2_11 : decode y_Math_max2.2.1 11 = .ok (.lreturn, 1) := by decide +kernel
theorem s_Math_max2 : ab_Stat y_Math_max2 2 := ⟨(k4 28 rfl rfl), (k1 17 rfl rfl), ⟨by decide, by decide⟩, by decide +kernel⟩
theorem t_Math_max2 : Cond.static y_Math_max2.1 ∈ ab_T := (k4 27 rfl rfl)
def F_Math_max2 (N : Nat) (p0 : Int64) (p2 : Int64) (H : Hp) : Option (Int64 × Hp) :=
    if (lg_cmp p0 p2) < (0 : Int32) then
    some (p2, H)
    else
    some (p0, H)
set_option maxRecDepth 20000 in
set_option maxHeartbeats 2000000 in
theorem m_Math_max2 {N : Nat} {p0 : Int64} {p2 : Int64} {H : Hp} {r : Int64 × Hp} (hF : F_Math_max2 N p0 p2 H = some r) : Sa H r.2 := by
  unfold F_Math_max2 at hF
  have hm := Sa.rf H
  rcases ite_s hF with ⟨q_1, hG⟩ | ⟨q_1, hG⟩
  · clear hF
    have hr := Option.some.inj hG; subst hr
    exact hm
  · clear hF
    have hr := Option.some.inj hG; subst hr
    exact hm
set_option maxRecDepth 20000 in
set_option maxHeartbeats 2000000 in
theorem k_Math_max2 {N : Nat} {p0 : Int64} {p2 : Int64} {H : Hp} {r : Int64 × Hp} (hF : F_Math_max2 N p0 p2 H = some r) : ab_M y_Math_max2 { frames := 0, cells := 0, slots := 0, locals := 0 } [.long p0, .long p2] (hpw H) (po (.returned (some (.long r.1))) r.2) := by
  unfold F_Math_max2 at hF
  refine ab_of2 (lv := [some (.long p0), none, some (.long p2), none]) 0 rfl (by decide +kernel) (Nat.le_of_ble_eq_true rfl) ?_
  refine ab_lload_n d_Math_max2_0 rfl rfl ?_
  refine ab_lload_n d_Math_max2_1 rfl rfl ?_
  refine ab_lcmp d_Math_max2_2 ?_
  refine ab_if_lt (tgt := 10) d_Math_max2_3 (by decide) (fun q1 => ?_) (fun q1 => ?_)
  · rw [if_pos q1] at hF
    refine ab_lload_n d_Math_max2_10 rfl rfl ?_
    exact ab_lret d_Math_max2_11 rfl (Nat.le_refl _) (Nat.le_refl _) (by have hr := Option.some.inj hF; subst hr; exact ⟨rfl, rfl⟩)
  · rw [if_neg q1] at hF
    refine ab_lload_n d_Math_max2_6 rfl rfl ?_
    refine ab_goto (tgt := 11) d_Math_max2_7 (by decide) ?_
    exact ab_lret d_Math_max2_11 rfl (Nat.le_refl _) (Nat.le_refl _) (by have hr := Option.some.inj hF; subst hr; exact ⟨rfl, rfl⟩)
