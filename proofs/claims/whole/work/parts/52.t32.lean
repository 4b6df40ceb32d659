def y_World_bear : ab_Y := (⟨"WorldEngine$World", "bear", "(LWorldEngine$Program;I)I"⟩, prog_12_method_13_code, 4, (some FieldType.int), [])
theorem d_World_bear_0 : decode y_World_bear.2.1 0 = .ok (.iconst 0, 1) := by decide +kernel
theorem d_World_bear_1 : decode y_World_bear.2.1 1 = .ok (.istore_n 3, 1) := by decide +kernel
theorem d_World_bear_2 : decode y_World_bear.2.1 2 = .ok (.iload_n 3, 1) := by decide +kernel
theorem d_World_bear_3 : decode y_World_bear.2.1 3 = .ok (.sipush 256, 3) := by decide +kernel
theorem d_World_bear_6 : decode y_World_bear.2.1 6 = .ok (.if_icmp .ge 18, 3) := by decide +kernel
theorem d_World_bear_9 : decode y_World_bear.2.1 9 = .ok (.aload_n 0, 1) := by decide +kernel
theorem d_World_bear_10 : decode y_World_bear.2.1 10 = .ok (.getfield 13, 3) := by decide +kernel
theorem d_World_bear_13 : decode y_World_bear.2.1 13 = .ok (.iload_n 3, 1) := by decide +kernel
theorem d_World_bear_14 : decode y_World_bear.2.1 14 = .ok (.iaload, 1) := by decide +kernel
theorem d_World_bear_15 : decode y_World_bear.2.1 15 = .ok (.ifCond .lt 9, 3) := by decide +kernel
theorem d_World_bear_18 : decode y_World_bear.2.1 18 = .ok (.iinc 3 1, 3) := by decide +kernel
theorem d_World_bear_21 : decode y_World_bear.2.1 21 = .ok (.goto (-19), 3) := by decide +kernel
theorem d_World_bear_24 : decode y_World_bear.2.1 24 = .ok (.iload_n 3, 1) := by decide +kernel
theorem d_World_bear_25 : decode y_World_bear.2.1 25 = .ok (.sipush 256, 3) := by decide +kernel
theorem d_World_bear_28 : decode y_World_bear.2.1 28 = .ok (.if_icmp .lt 5, 3) := by decide +kernel
theorem d_World_bear_31 : decode y_World_bear.2.1 31 = .ok (.iconst (-1), 1) := by decide +kernel
theorem d_World_bear_32 : decode y_World_bear.2.1 32 = .ok (.ireturn, 1) := by decide +kernel
theorem d_World_bear_33 : decode y_World_bear.2.1 33 = .ok (.aload_n 0, 1) := by decide +kernel
theorem d_World_bear_34 : decode y_World_bear.2.1 34 = .ok (.iload_n 3, 1) := by decide +kernel
theorem d_World_bear_35 : decode y_World_bear.2.1 35 = .ok (.aload_n 1, 1) := by decide +kernel
theorem d_World_bear_36 : decode y_World_bear.2.1 36 = .ok (.getfield 89, 3) := by decide +kernel
theorem d_World_bear_39 : decode y_World_bear.2.1 39 = .ok (.iload_n 2, 1) := by decide +kernel
theorem d_World_bear_40 : decode y_World_bear.2.1 40 = .ok (.iaload, 1) := by decide +kernel
theorem d_World_bear_41 : decode y_World_bear.2.1 41 = .ok (.invokevirtual 92, 3) := by decide +kernel
theorem d_World_bear_44 : decode y_World_bear.2.1 44 = .ok (.aload_n 1, 1) := by decide +kernel
theorem d_World_bear_45 : decode y_World_bear.2.1 45 = .ok (.getfield 96, 3) := by decide +kernel
theorem d_World_bear_48 : decode y_World_bear.2.1 48 = .ok (.iload_n 2, 1) := by decide +kernel
theorem d_World_bear_49 : decode y_World_bear.2.1 49 = .ok (.bipush 48, 2) := by decide +kernel
theorem d_World_bear_51 : decode y_World_bear.2.1 51 = .ok (.imul, 1) := by decide +kernel
theorem d_World_bear_52 : decode y_World_bear.2.1 52 = .ok (.aload_n 0, 1) := by decide +kernel
theorem d_World_bear_53 : decode y_World_bear.2.1 53 = .ok (.getfield 24, 3) := by decide +kernel
theorem d_World_bear_56 : decode y_World_bear.2.1 56 = .ok (.iload_n 3, 1) := by decide +kernel
theorem d_World_bear_57 : decode y_World_bear.2.1 57 = .ok (.aload_n 0, 1) := by decide +kernel
theorem d_World_bear_58 : decode y_World_bear.2.1 58 = .ok (.getfield 52, 3) := by decide +kernel
theorem d_World_bear_61 : decode y_World_bear.2.1 61 = .ok (.imul, 1) := by decide +kernel
theorem d_World_bear_62 : decode y_World_bear.2.1 62 = .ok (.aload_n 0, 1) := by decide +kernel
theorem d_World_bear_63 : decode y_World_bear.2.1 63 = .ok (.getfield 52, 3) := by decide +kernel
theorem d_World_bear_66 : decode y_World_bear.2.1 66 = .ok (.invokestatic 67, 3) := by decide +kernel
theorem d_World_bear_69 : decode y_World_bear.2.1 69 = .ok (.iload_n 3, 1) := by decide +kernel
theorem d_World_bear_70 : decode y_World_bear.2.1 70 = .ok (.ireturn, 1) := by decide +kernel
theorem s_World_bear : ab_Stat y_World_bear 2 := ⟨(k7 93 rfl rfl), (k1 10 rfl rfl), ⟨by decide, by decide⟩, by decide +kernel⟩
theorem i_World_bear : Cond.instanceMethod y_World_bear.1 ∈ ab_T := (k7 91 rfl rfl)
theorem v_World_bear : Cond.selects "WorldEngine$World" y_World_bear.1 y_World_bear.1 ∈ ab_T := (k7 92 rfl rfl)
def B_World_bear_24 (N : Nat) (p0 : Nat) (p1 : Nat) (p2 : Int32) (l3 : Int32) (H : Hp) : Option (Int32 × Hp) :=
    if l3 < (256 : Int32) then
    ck (H.sh[p1]? = some (4, 0)) <|
    rf (H.P p1 5) fun a4 =>
    ar H 100 a4 fun n6 =>
    ck (inb p2 n6) <|
    bnd ((H.D a4 (p2).toNatClampNeg)) fun x9 =>
    ck (H.sh[p0]? = some (7, 0)) <|
    bC (F_World_occupy N p0 l3 x9 H) fun v12 H13 =>
    rf (H13.P p1 6) fun a14 =>
    rf (H13.P p0 11) fun a16 =>
    bnd ((H13.D p0 10)) fun x18 =>
    bnd ((H13.D p0 10)) fun x19 =>
    ar H13 100 a14 fun n20 =>
    ar H13 100 a16 fun n22 =>
    ck (¬ (p2 * (48 : Int32)) < 0) <|
    ck (¬ (l3 * x18) < 0) <|
    ck (¬ x19 < 0) <|
    ck (((p2 * (48 : Int32))).toNatClampNeg + (x19).toNatClampNeg ≤ n20) <|
    ck (((l3 * x18)).toNatClampNeg + (x19).toNatClampNeg ≤ n22) <|
    bnd (H13.cpy a14 a16 ((p2 * (48 : Int32))).toNatClampNeg ((l3 * x18)).toNatClampNeg (x19).toNatClampNeg) fun H29 =>
    some (l3, H29)
    else
    some ((-1), H)
set_option maxRecDepth 20000 in
set_option maxHeartbeats 2000000 in
theorem mB_World_bear_24 {N : Nat} {p0 : Nat} {p1 : Nat} {p2 : Int32} {l3 : Int32} {H : Hp} {r : Int32 × Hp} (hF : B_World_bear_24 N p0 p1 p2 l3 H = some r) : Sa H r.2 := by
  unfold B_World_bear_24 at hF
  have hm := Sa.rf H
  rcases ite_s hF with ⟨q_3, hG⟩ | ⟨q_3, hG⟩
  · clear hF
    obtain ⟨q31, hF⟩ := ck_s hG; clear hG
    obtain ⟨a32, e33, hG⟩ := rf_s hF; clear hF
    obtain ⟨n34, q35, hF⟩ := ar_s hG; clear hG
    obtain ⟨q36, hG⟩ := ck_s hF; clear hF
    obtain ⟨x37, -, hF⟩ := bnd_g hG; clear hG
    obtain ⟨q38, hG⟩ := ck_s hF; clear hF
    obtain ⟨v40, H41, z39, hF⟩ := bC_s hG; clear hG
    replace hm : Sa H H41 := hm.tr (m_World_occupy z39)
    obtain ⟨a42, e43, hG⟩ := rf_s hF; clear hF
    obtain ⟨a44, e45, hF⟩ := rf_s hG; clear hG
    obtain ⟨x46, -, hG⟩ := bnd_g hF; clear hF
    obtain ⟨x47, -, hF⟩ := bnd_g hG; clear hG
    obtain ⟨n48, q49, hG⟩ := ar_s hF; clear hF
    obtain ⟨n50, q51, hF⟩ := ar_s hG; clear hG
    obtain ⟨q52, hG⟩ := ck_s hF; clear hF
    obtain ⟨q53, hF⟩ := ck_s hG; clear hG
    obtain ⟨q54, hG⟩ := ck_s hF; clear hF
    obtain ⟨q55, hF⟩ := ck_s hG; clear hG
    obtain ⟨q56, hG⟩ := ck_s hF; clear hF
    obtain ⟨H57, eH57, hF⟩ := bnd_g hG; clear hG
    replace hm : Sa H H57 := by rw [eH57]; exact hm
    have hr := Option.some.inj hF; subst hr
    exact hm
  · clear hF
    have hr := Option.some.inj hG; subst hr
    exact hm
set_option maxRecDepth 20000 in
set_option maxHeartbeats 2000000 in
theorem kB_World_bear_24 {N : Nat} {p0 : Nat} {p1 : Nat} {p2 : Int32} {l3 : Int32} {H : Hp} {r : Int32 × Hp} (hF : B_World_bear_24 N p0 p1 p2 l3 H = some r) : ab_V y_World_bear { frames := 2, cells := 0, slots := 0, locals := 60 } (po (.returned (some (.int r.1))) r.2) 0 0 0 0 24 [some (.ref p0), some (.ref p1), some (.int p2), some (.int l3)] [] (hpw H) := by
  unfold B_World_bear_24 at hF
  refine ab_iload_n d_World_bear_24 rfl rfl ?_
  refine ab_sipush (v := 256) d_World_bear_25 (by decide) ?_
  refine ab_icmp_lt (tgt := 33) d_World_bear_28 (by decide) (fun q2 => ?_) (fun q2 => ?_)
  · rw [if_pos q2] at hF
    refine ab_aload_n d_World_bear_33 rfl rfl rfl ?_
    refine ab_iload_n d_World_bear_34 rfl rfl ?_
    refine ab_aload_n d_World_bear_35 rfl rfl rfl ?_
    obtain ⟨q3, hG⟩ := ck_s hF; clear hF
    obtain ⟨a4, e5, hF⟩ := rf_s hG; clear hG
    refine hp_getR (f := 5) d_World_bear_36 q3 (by decide) rfl (by decide) (k3 74 rfl rfl) rfl e5 ?_
    refine ab_iload_n d_World_bear_39 rfl rfl ?_
    obtain ⟨n6, q7, hG⟩ := ar_s hF; clear hF
    obtain ⟨q8, hF⟩ := ck_s hG; clear hG
    refine hp_iald d_World_bear_40 tI q7 q8 ?_
    refine ab_topi (fun x9 ex9 => ?_)
    replace hF := bnd_s ex9 hF
    obtain ⟨q10, hG⟩ := ck_s hF; clear hF
    obtain ⟨v12, H13, z11, hF⟩ := bC_s hG; clear hG
    refine hp_callV_v (H1 := H13) (As := [.int l3, .int x9]) (rest := []) d_World_bear_41 (k_World_occupy z11) (ab_mkC s_World_occupy (Nat.le_of_ble_eq_true rfl) (Nat.le_of_ble_eq_true rfl) (Nat.le_refl 0) (Nat.le_refl 0)) (k7 94 rfl rfl) i_World_occupy v_World_occupy q10 (by decide) rfl rfl (Nat.le_of_ble_eq_true rfl) ?_
    have s_1 : Sa H H13 := (m_World_occupy z11)
    refine ab_aload_n d_World_bear_44 rfl rfl rfl ?_
    obtain ⟨a14, e15, hG⟩ := rf_s hF; clear hF
    refine hp_getR (f := 6) d_World_bear_45 (by rw [(s_1).1]; exact q3) (by decide) rfl (by decide) (k3 78 rfl rfl) rfl e15 ?_
    refine ab_iload_n d_World_bear_48 rfl rfl ?_
    refine ab_bipush (v := 48) d_World_bear_49 (by decide) ?_
    refine ab_imul d_World_bear_51 ?_
    refine ab_aload_n d_World_bear_52 rfl rfl rfl ?_
    obtain ⟨a16, e17, hF⟩ := rf_s hG; clear hG
    refine hp_getR (f := 11) d_World_bear_53 (by rw [(s_1).1]; exact q10) (by decide) rfl (by decide) (k1 236 rfl rfl) rfl e17 ?_
    refine ab_iload_n d_World_bear_56 rfl rfl ?_
    refine ab_aload_n d_World_bear_57 rfl rfl rfl ?_
    refine hp_getI (f := 10) d_World_bear_58 (by rw [(s_1).1]; exact q10) (by decide) rfl (by decide) (k1 234 rfl rfl) rfl ?_
    refine ab_topi (fun x18 ex18 => ?_)
    replace hF := bnd_s ex18 hF
    refine ab_imul d_World_bear_61 ?_
    refine ab_aload_n d_World_bear_62 rfl rfl rfl ?_
    refine hp_getI (f := 10) d_World_bear_63 (by rw [(s_1).1]; exact q10) (by decide) rfl (by decide) (k1 234 rfl rfl) rfl ?_
    refine ab_topi (fun x19 ex19 => ?_)
    replace hF := bnd_s ex19 hF
    obtain ⟨n20, q21, hG⟩ := ar_s hF; clear hF
    rw [(s_1).1] at q21
    obtain ⟨n22, q23, hF⟩ := ar_s hG; clear hG
    rw [(s_1).1] at q23
    obtain ⟨q24, hG⟩ := ck_s hF; clear hF
    obtain ⟨q25, hF⟩ := ck_s hG; clear hG
    obtain ⟨q26, hG⟩ := ck_s hF; clear hF
    obtain ⟨q27, hF⟩ := ck_s hG; clear hG
    obtain ⟨q28, hG⟩ := ck_s hF; clear hF
    refine hp_acopy d_World_bear_66 (k6 111 rfl rfl) (k6 113 rfl rfl) (k6 112 rfl rfl) (k1 29 rfl rfl) (by rw [(s_1).1]; exact q21) (by rw [(s_1).1]; exact q23) q24 q25 q26 q27 q28 (Nat.le_of_ble_eq_true rfl) (Nat.le_of_ble_eq_true rfl) ?_
    refine hp_gen (fun H29 eH29 => ?_)
    replace hG := bnd_s eH29 hG
    have s_2 : Sa H H29 := by rw [eH29]; exact s_1
    refine ab_iload_n d_World_bear_69 rfl rfl ?_
    exact ab_iret d_World_bear_70 rfl (Nat.le_refl _) (Nat.le_refl _) (by have hr := Option.some.inj hG; subst hr; exact ⟨rfl, rfl⟩)
  · rw [if_neg q2] at hF
    refine ab_iconst (v := (-1)) d_World_bear_31 (by decide) ?_
    exact ab_iret d_World_bear_32 rfl (Nat.le_refl _) (Nat.le_refl _) (by have hr := Option.some.inj hF; subst hr; exact ⟨rfl, rfl⟩)
def B_World_bear_2 (N : Nat) (p0 : Nat) (p1 : Nat) (p2 : Int32) : Nat → Int32 → Hp → Option (Int32 × Hp)
  | 0, _, _ => none
  | n + 1, l3, H =>
    if (256 : Int32) ≤ l3 then
    B_World_bear_24 N p0 p1 p2 l3 H
    else
    ck (H.sh[p0]? = some (7, 0)) <|
    rf (H.P p0 8) fun a59 =>
    ar H 100 a59 fun n61 =>
    ck (inb l3 n61) <|
    bnd ((H.D a59 (l3).toNatClampNeg)) fun x64 =>
    if x64 < (0 : Int32) then
    B_World_bear_24 N p0 p1 p2 l3 H
    else
    B_World_bear_2 N p0 p1 p2 n (l3 + 1) H
termination_by structural n => n
set_option maxRecDepth 20000 in
set_option maxHeartbeats 2000000 in
theorem mB_World_bear_2 {N : Nat} {p0 : Nat} {p1 : Nat} {p2 : Int32} : ∀ (n : Nat) (l3 : Int32) (H : Hp) (r : Int32 × Hp), B_World_bear_2 N p0 p1 p2 n l3 H = some r → Sa H r.2 := by
  intro n
  induction n with
  | zero => intro l3 H r hF; rw [B_World_bear_2] at hF; cases hF
  | succ n ih =>
    intro l3 H r hF
    rw [B_World_bear_2] at hF
    have hm := Sa.rf H
    rcases ite_s hF with ⟨q_6, hG⟩ | ⟨q_6, hG⟩
    · clear hF
      exact hm.tr (mB_World_bear_24 hG)
    · clear hF
      obtain ⟨q67, hF⟩ := ck_s hG; clear hG
      obtain ⟨a68, e69, hG⟩ := rf_s hF; clear hF
      obtain ⟨n70, q71, hF⟩ := ar_s hG; clear hG
      obtain ⟨q72, hG⟩ := ck_s hF; clear hF
      obtain ⟨x73, -, hF⟩ := bnd_g hG; clear hG
      rcases ite_s hF with ⟨q_7, hG⟩ | ⟨q_7, hG⟩
      · clear hF
        exact hm.tr (mB_World_bear_24 hG)
      · clear hF
        exact hm.tr (ih (l3 + 1) H r hG)
set_option maxRecDepth 20000 in
set_option maxHeartbeats 2000000 in
theorem kB_World_bear_2 {N : Nat} {p0 : Nat} {p1 : Nat} {p2 : Int32} : ∀ (n : Nat) (l3 : Int32) (H : Hp) (r : Int32 × Hp), B_World_bear_2 N p0 p1 p2 n l3 H = some r → ab_V y_World_bear { frames := 2, cells := 0, slots := 0, locals := 60 } (po (.returned (some (.int r.1))) r.2) 0 0 0 0 2 [some (.ref p0), some (.ref p1), some (.int p2), some (.int l3)] [] (hpw H) := by
  intro n
  induction n with
  | zero => intro l3 H r hF; rw [B_World_bear_2] at hF; cases hF
  | succ n ih =>
    intro l3 H r hF
    rw [B_World_bear_2] at hF
    refine ab_iload_n d_World_bear_2 rfl rfl ?_
    refine ab_sipush (v := 256) d_World_bear_3 (by decide) ?_
    refine ab_icmp_ge (tgt := 24) d_World_bear_6 (by decide) (fun q1 => ?_) (fun q1 => ?_)
    · rw [if_pos q1] at hF
      exact kB_World_bear_24 hF
    · rw [if_neg q1] at hF
      refine ab_aload_n d_World_bear_9 rfl rfl rfl ?_
      obtain ⟨q58, hG⟩ := ck_s hF; clear hF
      obtain ⟨a59, e60, hF⟩ := rf_s hG; clear hG
      refine hp_getR (f := 8) d_World_bear_10 q58 (by decide) rfl (by decide) (k1 229 rfl rfl) rfl e60 ?_
      refine ab_iload_n d_World_bear_13 rfl rfl ?_
      obtain ⟨n61, q62, hG⟩ := ar_s hF; clear hF
      obtain ⟨q63, hF⟩ := ck_s hG; clear hG
      refine hp_iald d_World_bear_14 tI q62 q63 ?_
      refine ab_topi (fun x64 ex64 => ?_)
      replace hF := bnd_s ex64 hF
      refine ab_if_lt (tgt := 24) d_World_bear_15 (by decide) (fun q65 => ?_) (fun q65 => ?_)
      · rw [if_pos q65] at hF
        exact kB_World_bear_24 hF
      · rw [if_neg q65] at hF
        refine ab_iinc (v := l3 + 1) (lv' := [some (.ref p0), some (.ref p1), some (.int p2), some (.int (l3 + 1))]) d_World_bear_18 rfl rfl (by decide) rfl ?_
        refine ab_goto (tgt := 2) d_World_bear_21 (by decide) ?_
        exact ih (l3 + 1) H r hF
def F_World_bear (N : Nat) (p0 : Nat) (p1 : Nat) (p2 : Int32) (H : Hp) : Option (Int32 × Hp) :=
    B_World_bear_2 N p0 p1 p2 N 0 H
set_option maxRecDepth 20000 in
set_option maxHeartbeats 2000000 in
theorem m_World_bear {N : Nat} {p0 : Nat} {p1 : Nat} {p2 : Int32} {H : Hp} {r : Int32 × Hp} (hF : F_World_bear N p0 p1 p2 H = some r) : Sa H r.2 := by
  unfold F_World_bear at hF
  have hm := Sa.rf H
  exact hm.tr (mB_World_bear_2 N 0 H r hF)
set_option maxRecDepth 20000 in
set_option maxHeartbeats 2000000 in
theorem k_World_bear {N : Nat} {p0 : Nat} {p1 : Nat} {p2 : Int32} {H : Hp} {r : Int32 × Hp} (hF : F_World_bear N p0 p1 p2 H = some r) : ab_M y_World_bear { frames := 2, cells := 0, slots := 0, locals := 60 } [.ref p0, .ref p1, .int p2] (hpw H) (po (.returned (some (.int r.1))) r.2) := by
  unfold F_World_bear at hF
  refine ab_of2 (lv := [some (.ref p0), some (.ref p1), some (.int p2), none]) 1 rfl rfl (Nat.le_of_ble_eq_true rfl) ?_
  refine ab_iconst (v := 0) d_World_bear_0 (by decide) ?_
  refine ab_istore_n (lv' := [some (.ref p0), some (.ref p1), some (.int p2), some (.int 0)]) d_World_bear_1 rfl (by decide) rfl ?_
  exact kB_World_bear_2 N 0 H r hF
def y_Ticker_actSpawn : ab_Y := (⟨"WorldEngine$Ticker", "actSpawn", "([II)Z"⟩, prog_11_method_5_code, 5, (some FieldType.boolean), [])
theorem d_Ticker_actSpawn_0 : decode y_Ticker_actSpawn.2.1 0 = .ok (.aload_n 0, 1) := by decide +kernel
theorem d_Ticker_actSpawn_1 : decode y_Ticker_actSpawn.2.1 1 = .ok (.getfield 20, 3) := by decide +kernel
theorem d_Ticker_actSpawn_4 : decode y_Ticker_actSpawn.2.1 4 = .ok (.aload_n 0, 1) := by decide +kernel
theorem d_Ticker_actSpawn_5 : decode y_Ticker_actSpawn.2.1 5 = .ok (.getfield 16, 3) := by decide +kernel
theorem d_Ticker_actSpawn_8 : decode y_Ticker_actSpawn.2.1 8 = .ok (.aload_n 1, 1) := by decide +kernel
theorem d_Ticker_actSpawn_9 : decode y_Ticker_actSpawn.2.1 9 = .ok (.iload_n 2, 1) := by decide +kernel
theorem d_Ticker_actSpawn_10 : decode y_Ticker_actSpawn.2.1 10 = .ok (.iconst 1, 1) := by decide +kernel
theorem d_Ticker_actSpawn_11 : decode y_Ticker_actSpawn.2.1 11 = .ok (.iadd, 1) := by decide +kernel
theorem d_Ticker_actSpawn_12 : decode y_Ticker_actSpawn.2.1 12 = .ok (.iaload, 1) := by decide +kernel
theorem d_Ticker_actSpawn_13 : decode y_Ticker_actSpawn.2.1 13 = .ok (.invokevirtual 107, 3) := by decide +kernel
theorem d_Ticker_actSpawn_16 : decode y_Ticker_actSpawn.2.1 16 = .ok (.istore_n 3, 1) := by decide +kernel
theorem d_Ticker_actSpawn_17 : decode y_Ticker_actSpawn.2.1 17 = .ok (.iload_n 3, 1) := by decide +kernel
theorem d_Ticker_actSpawn_18 : decode y_Ticker_actSpawn.2.1 18 = .ok (.ifCond .ge 5, 3) := by decide +kernel
theorem d_Ticker_actSpawn_21 : decode y_Ticker_actSpawn.2.1 21 = .ok (.iconst 0, 1) := by decide +kernel
theorem d_Ticker_actSpawn_22 : decode y_Ticker_actSpawn.2.1 22 = .ok (.ireturn, 1) := by decide +kernel
theorem d_Ticker_actSpawn_23 : decode y_Ticker_actSpawn.2.1 23 = .ok (.iconst 0, 1) := by decide +kernel
theorem d_Ticker_actSpawn_24 : decode y_Ticker_actSpawn.2.1 24 = .ok (.istore 4, 2) := by decide +kernel
theorem d_Ticker_actSpawn_26 : decode y_Ticker_actSpawn.2.1 26 = .ok (.iload 4, 2) := by decide +kernel
theorem d_Ticker_actSpawn_28 : decode y_Ticker_actSpawn.2.1 28 = .ok (.aload_n 1, 1) := by decide +kernel
theorem d_Ticker_actSpawn_29 : decode y_Ticker_actSpawn.2.1 29 = .ok (.iload_n 2, 1) := by decide +kernel
theorem d_Ticker_actSpawn_30 : decode y_Ticker_actSpawn.2.1 30 = .ok (.iconst 2, 1) := by decide +kernel
theorem d_Ticker_actSpawn_31 : decode y_Ticker_actSpawn.2.1 31 = .ok (.iadd, 1) := by decide +kernel
theorem d_Ticker_actSpawn_32 : decode y_Ticker_actSpawn.2.1 32 = .ok (.iaload, 1) := by decide +kernel
theorem d_Ticker_actSpawn_33 : decode y_Ticker_actSpawn.2.1 33 = .ok (.if_icmp .ge 34, 3) := by decide +kernel
theorem d_Ticker_actSpawn_36 : decode y_Ticker_actSpawn.2.1 36 = .ok (.aload_n 0, 1) := by decide +kernel
theorem d_Ticker_actSpawn_37 : decode y_Ticker_actSpawn.2.1 37 = .ok (.getfield 20, 3) := by decide +kernel
theorem d_Ticker_actSpawn_40 : decode y_Ticker_actSpawn.2.1 40 = .ok (.iload_n 3, 1) := by decide +kernel
theorem d_Ticker_actSpawn_41 : decode y_Ticker_actSpawn.2.1 41 = .ok (.aload_n 1, 1) := by decide +kernel
theorem d_Ticker_actSpawn_42 : decode y_Ticker_actSpawn.2.1 42 = .ok (.iload_n 2, 1) := by decide +kernel
theorem d_Ticker_actSpawn_43 : decode y_Ticker_actSpawn.2.1 43 = .ok (.iconst 3, 1) := by decide +kernel
theorem d_Ticker_actSpawn_44 : decode y_Ticker_actSpawn.2.1 44 = .ok (.iadd, 1) := by decide +kernel
theorem d_Ticker_actSpawn_45 : decode y_Ticker_actSpawn.2.1 45 = .ok (.iload 4, 2) := by decide +kernel
theorem d_Ticker_actSpawn_47 : decode y_Ticker_actSpawn.2.1 47 = .ok (.iadd, 1) := by decide +kernel
theorem d_Ticker_actSpawn_48 : decode y_Ticker_actSpawn.2.1 48 = .ok (.iaload, 1) := by decide +kernel
theorem d_Ticker_actSpawn_49 : decode y_Ticker_actSpawn.2.1 49 = .ok (.aload_n 1, 1) := by decide +kernel
theorem d_Ticker_actSpawn_50 : decode y_Ticker_actSpawn.2.1 50 = .ok (.iload_n 2, 1) := by decide +kernel
theorem d_Ticker_actSpawn_51 : decode y_Ticker_actSpawn.2.1 51 = .ok (.bipush 7, 2) := by decide +kernel
theorem d_Ticker_actSpawn_53 : decode y_Ticker_actSpawn.2.1 53 = .ok (.iadd, 1) := by decide +kernel
theorem d_Ticker_actSpawn_54 : decode y_Ticker_actSpawn.2.1 54 = .ok (.iload 4, 2) := by decide +kernel
theorem d_Ticker_actSpawn_56 : decode y_Ticker_actSpawn.2.1 56 = .ok (.iadd, 1) := by decide +kernel
theorem d_Ticker_actSpawn_57 : decode y_Ticker_actSpawn.2.1 57 = .ok (.iaload, 1) := by decide +kernel
theorem d_Ticker_actSpawn_58 : decode y_Ticker_actSpawn.2.1 58 = .ok (.invokevirtual 111, 3) := by decide +kernel
theorem d_Ticker_actSpawn_61 : decode y_Ticker_actSpawn.2.1 61 = .ok (.iinc 4 1, 3) := by decide +kernel
theorem d_Ticker_actSpawn_64 : decode y_Ticker_actSpawn.2.1 64 = .ok (.goto (-38), 3) := by decide +kernel
theorem d_Ticker_actSpawn_67 : decode y_Ticker_actSpawn.2.1 67 = .ok (.iconst 1, 1) := by decide +kernel
theorem d_Ticker_actSpawn_68 : decode y_Ticker_actSpawn.2.1 68 = .ok (.ireturn, 1) := by decide +kernel
theorem s_Ticker_actSpawn : ab_Stat y_Ticker_actSpawn 2 := ⟨(k7 89 rfl rfl), (k1 12 rfl rfl), ⟨by decide, by decide⟩, by decide +kernel⟩
theorem i_Ticker_actSpawn : Cond.instanceMethod y_Ticker_actSpawn.1 ∈ ab_T := (k7 88 rfl rfl)
theorem v_Ticker_actSpawn : Cond.selects "WorldEngine$Ticker" y_Ticker_actSpawn.1 y_Ticker_actSpawn.1 ∈ ab_T := ab_s (List.mem_of_getElem? (i := 84) rfl) rfl
def B_Ticker_actSpawn_26 (N : Nat) (p0 : Nat) (p1 : Nat) (p2 : Int32) : Nat → Int32 → Int32 → Hp → Option (Int32 × Hp)
  | 0, _, _, _ => none
  | n + 1, l3, l4, H =>
    ar H 100 p1 fun n15 =>
    ck (inb (p2 + (2 : Int32)) n15) <|
    bnd ((H.D p1 ((p2 + (2 : Int32))).toNatClampNeg)) fun x18 =>
    if x18 ≤ l4 then
    some (1, H)
    else
    ck (H.sh[p0]? = some (9, 0)) <|
    rf (H.P p0 2) fun a21 =>
    ck (inb ((p2 + (3 : Int32)) + l4) n15) <|
    bnd ((H.D p1 (((p2 + (3 : Int32)) + l4)).toNatClampNeg)) fun x24 =>
    ck (inb ((p2 + (7 : Int32)) + l4) n15) <|
    bnd ((H.D p1 (((p2 + (7 : Int32)) + l4)).toNatClampNeg)) fun x26 =>
    ck (H.sh[a21]? = some (7, 0)) <|
    bC (F_World_write N a21 l3 x24 x26 H) fun v29 H30 =>
    B_Ticker_actSpawn_26 N p0 p1 p2 n l3 (l4 + 1) H30
termination_by structural n => n
set_option maxRecDepth 20000 in
set_option maxHeartbeats 2000000 in
theorem mB_Ticker_actSpawn_26 {N : Nat} {p0 : Nat} {p1 : Nat} {p2 : Int32} : ∀ (n : Nat) (l3 : Int32) (l4 : Int32) (H : Hp) (r : Int32 × Hp), B_Ticker_actSpawn_26 N p0 p1 p2 n l3 l4 H = some r → Sa H r.2 := by
  intro n
  induction n with
  | zero => intro l3 l4 H r hF; rw [B_Ticker_actSpawn_26] at hF; cases hF
  | succ n ih =>
    intro l3 l4 H r hF
    rw [B_Ticker_actSpawn_26] at hF
    have hm := Sa.rf H
    obtain ⟨n31, q32, hG⟩ := ar_s hF; clear hF
    obtain ⟨q33, hF⟩ := ck_s hG; clear hG
    obtain ⟨x34, -, hG⟩ := bnd_g hF; clear hF
    rcases ite_s hG with ⟨q_3, hF⟩ | ⟨q_3, hF⟩
    · clear hG
      have hr := Option.some.inj hF; subst hr
      exact hm
    · clear hG
      obtain ⟨q36, hG⟩ := ck_s hF; clear hF
      obtain ⟨a37, e38, hF⟩ := rf_s hG; clear hG
      obtain ⟨q39, hG⟩ := ck_s hF; clear hF
      obtain ⟨x40, -, hF⟩ := bnd_g hG; clear hG
      obtain ⟨q41, hG⟩ := ck_s hF; clear hF
      obtain ⟨x42, -, hF⟩ := bnd_g hG; clear hG
      obtain ⟨q43, hG⟩ := ck_s hF; clear hF
      obtain ⟨v45, H46, z44, hF⟩ := bC_s hG; clear hG
      replace hm : Sa H H46 := hm.tr (m_World_write z44)
      exact hm.tr (ih l3 (l4 + 1) H46 r hF)
set_option maxRecDepth 20000 in
set_option maxHeartbeats 2000000 in
theorem kB_Ticker_actSpawn_26 {N : Nat} {p0 : Nat} {p1 : Nat} {p2 : Int32} : ∀ (n : Nat) (l3 : Int32) (l4 : Int32) (H : Hp) (r : Int32 × Hp), B_Ticker_actSpawn_26 N p0 p1 p2 n l3 l4 H = some r → ab_V y_Ticker_actSpawn { frames := 3, cells := 0, slots := 0, locals := 83 } (po (.returned (some (.int r.1))) r.2) 0 0 0 0 26 [some (.ref p0), some (.ref p1), some (.int p2), some (.int l3), some (.int l4)] [] (hpw H) := by
  intro n
  induction n with
  | zero => intro l3 l4 H r hF; rw [B_Ticker_actSpawn_26] at hF; cases hF
  | succ n ih =>
    intro l3 l4 H r hF
    rw [B_Ticker_actSpawn_26] at hF
    refine ab_iload d_Ticker_actSpawn_26 rfl ?_
    refine ab_aload_n d_Ticker_actSpawn_28 rfl rfl rfl ?_
    refine ab_iload_n d_Ticker_actSpawn_29 rfl rfl ?_
    refine ab_iconst (v := 2) d_Ticker_actSpawn_30 (by decide) ?_
    refine ab_iadd d_Ticker_actSpawn_31 ?_
    obtain ⟨n15, q16, hG⟩ := ar_s hF; clear hF
    obtain ⟨q17, hF⟩ := ck_s hG; clear hG
    refine hp_iald d_Ticker_actSpawn_32 tI q16 q17 ?_
    refine ab_topi (fun x18 ex18 => ?_)
    replace hF := bnd_s ex18 hF
    refine ab_icmp_ge (tgt := 67) d_Ticker_actSpawn_33 (by decide) (fun q19 => ?_) (fun q19 => ?_)
    · rw [if_pos q19] at hF
      refine ab_iconst (v := 1) d_Ticker_actSpawn_67 (by decide) ?_
      exact ab_zret d_Ticker_actSpawn_68 rfl rfl (Nat.le_refl _) (Nat.le_refl _) (by have hr := Option.some.inj hF; subst hr; exact ⟨rfl, rfl⟩)
    · rw [if_neg q19] at hF
      refine ab_aload_n d_Ticker_actSpawn_36 rfl rfl rfl ?_
      obtain ⟨q20, hG⟩ := ck_s hF; clear hF
      obtain ⟨a21, e22, hF⟩ := rf_s hG; clear hG
      refine hp_getR (f := 2) d_Ticker_actSpawn_37 q20 (by decide) rfl (by decide) (k2 122 rfl rfl) rfl e22 ?_
      refine ab_iload_n d_Ticker_actSpawn_40 rfl rfl ?_
      refine ab_aload_n d_Ticker_actSpawn_41 rfl rfl rfl ?_
      refine ab_iload_n d_Ticker_actSpawn_42 rfl rfl ?_
      refine ab_iconst (v := 3) d_Ticker_actSpawn_43 (by decide) ?_
      refine ab_iadd d_Ticker_actSpawn_44 ?_
      refine ab_iload d_Ticker_actSpawn_45 rfl ?_
      refine ab_iadd d_Ticker_actSpawn_47 ?_
      obtain ⟨q23, hG⟩ := ck_s hF; clear hF
      refine hp_iald d_Ticker_actSpawn_48 tI q16 q23 ?_
      refine ab_topi (fun x24 ex24 => ?_)
      replace hG := bnd_s ex24 hG
      refine ab_aload_n d_Ticker_actSpawn_49 rfl rfl rfl ?_
      refine ab_iload_n d_Ticker_actSpawn_50 rfl rfl ?_
      refine ab_bipush (v := 7) d_Ticker_actSpawn_51 (by decide) ?_
      refine ab_iadd d_Ticker_actSpawn_53 ?_
      refine ab_iload d_Ticker_actSpawn_54 rfl ?_
      refine ab_iadd d_Ticker_actSpawn_56 ?_
      obtain ⟨q25, hF⟩ := ck_s hG; clear hG
      refine hp_iald d_Ticker_actSpawn_57 tI q16 q25 ?_
      refine ab_topi (fun x26 ex26 => ?_)
      replace hF := bnd_s ex26 hF
      obtain ⟨q27, hG⟩ := ck_s hF; clear hF
      obtain ⟨v29, H30, z28, hF⟩ := bC_s hG; clear hG
      refine hp_callV_v (H1 := H30) (As := [.int l3, .int x24, .int x26]) (rest := []) d_Ticker_actSpawn_58 (k_World_write z28) (ab_mkC s_World_write (Nat.le_of_ble_eq_true rfl) (Nat.le_of_ble_eq_true rfl) (Nat.le_refl 0) (Nat.le_refl 0)) (k7 98 rfl rfl) i_World_write v_World_write q27 (by decide) rfl rfl (Nat.le_of_ble_eq_true rfl) ?_
      have s_2 : Sa H H30 := (m_World_write z28)
      refine ab_iinc (v := l4 + 1) (lv' := [some (.ref p0), some (.ref p1), some (.int p2), some (.int l3), some (.int (l4 + 1))]) d_Ticker_actSpawn_61 rfl rfl (by decide) rfl ?_
      refine ab_goto (tgt := 26) d_Ticker_actSpawn_64 (by decide) ?_
      exact ih l3 (l4 + 1) H30 r hF
def F_Ticker_actSpawn (N : Nat) (p0 : Nat) (p1 : Nat) (p2 : Int32) (H : Hp) : Option (Int32 × Hp) :=
    ck (H.sh[p0]? = some (9, 0)) <|
    rf (H.P p0 2) fun a2 =>
    rf (H.P p0 1) fun a4 =>
    ar H 100 p1 fun n6 =>
    ck (inb (p2 + (1 : Int32)) n6) <|
    bnd ((H.D p1 ((p2 + (1 : Int32))).toNatClampNeg)) fun x9 =>
    ck (H.sh[a2]? = some (7, 0)) <|
    bC (F_World_bear N a2 a4 x9 H) fun v12 H13 =>
    if (0 : Int32) ≤ v12 then
    B_Ticker_actSpawn_26 N p0 p1 p2 N v12 0 H13
    else
    some (0, H13)
set_option maxRecDepth 20000 in
set_option maxHeartbeats 2000000 in
theorem m_Ticker_actSpawn {N : Nat} {p0 : Nat} {p1 : Nat} {p2 : Int32} {H : Hp} {r : Int32 × Hp} (hF : F_Ticker_actSpawn N p0 p1 p2 H = some r) : Sa H r.2 := by
  unfold F_Ticker_actSpawn at hF
  have hm := Sa.rf H
  obtain ⟨q47, hG⟩ := ck_s hF; clear hF
  obtain ⟨a48, e49, hF⟩ := rf_s hG; clear hG
  obtain ⟨a50, e51, hG⟩ := rf_s hF; clear hF
  obtain ⟨n52, q53, hF⟩ := ar_s hG; clear hG
  obtain ⟨q54, hG⟩ := ck_s hF; clear hF
  obtain ⟨x55, -, hF⟩ := bnd_g hG; clear hG
  obtain ⟨q56, hG⟩ := ck_s hF; clear hF
  obtain ⟨v58, H59, z57, hF⟩ := bC_s hG; clear hG
  replace hm : Sa H H59 := hm.tr (m_World_bear z57)
  rcases ite_s hF with ⟨q_6, hG⟩ | ⟨q_6, hG⟩
  · clear hF
    exact hm.tr (mB_Ticker_actSpawn_26 N v58 0 H59 r hG)
  · clear hF
    have hr := Option.some.inj hG; subst hr
    exact hm
set_option maxRecDepth 20000 in
set_option maxHeartbeats 2000000 in
theorem k_Ticker_actSpawn {N : Nat} {p0 : Nat} {p1 : Nat} {p2 : Int32} {H : Hp} {r : Int32 × Hp} (hF : F_Ticker_actSpawn N p0 p1 p2 H = some r) : ab_M y_Ticker_actSpawn { frames := 3, cells := 0, slots := 0, locals := 83 } [.ref p0, .ref p1, .int p2] (hpw H) (po (.returned (some (.int r.1))) r.2) := by
  unfold F_Ticker_actSpawn at hF
  refine ab_of2 (lv := [some (.ref p0), some (.ref p1), some (.int p2), none, none]) 2 rfl rfl (Nat.le_of_ble_eq_true rfl) ?_
  refine ab_aload_n d_Ticker_actSpawn_0 rfl rfl rfl ?_
  obtain ⟨q1, hG⟩ := ck_s hF; clear hF
  obtain ⟨a2, e3, hF⟩ := rf_s hG; clear hG
  refine hp_getR (f := 2) d_Ticker_actSpawn_1 q1 (by decide) rfl (by decide) (k2 122 rfl rfl) rfl e3 ?_
  refine ab_aload_n d_Ticker_actSpawn_4 rfl rfl rfl ?_
  obtain ⟨a4, e5, hG⟩ := rf_s hF; clear hF
  refine hp_getR (f := 1) d_Ticker_actSpawn_5 q1 (by decide) rfl (by decide) (k2 121 rfl rfl) rfl e5 ?_
  refine ab_aload_n d_Ticker_actSpawn_8 rfl rfl rfl ?_
  refine ab_iload_n d_Ticker_actSpawn_9 rfl rfl ?_
  refine ab_iconst (v := 1) d_Ticker_actSpawn_10 (by decide) ?_
  refine ab_iadd d_Ticker_actSpawn_11 ?_
  obtain ⟨n6, q7, hF⟩ := ar_s hG; clear hG
  obtain ⟨q8, hG⟩ := ck_s hF; clear hF
  refine hp_iald d_Ticker_actSpawn_12 tI q7 q8 ?_
  refine ab_topi (fun x9 ex9 => ?_)
  replace hG := bnd_s ex9 hG
  obtain ⟨q10, hF⟩ := ck_s hG; clear hG
  obtain ⟨v12, H13, z11, hG⟩ := bC_s hF; clear hF
  refine hp_callV_a (v := .int v12) (H1 := H13) (As := [.ref a4, .int x9]) (rest := []) d_Ticker_actSpawn_13 (k_World_bear z11) (ab_mkC s_World_bear (Nat.le_of_ble_eq_true rfl) (Nat.le_of_ble_eq_true rfl) (Nat.le_refl 0) (Nat.le_refl 0)) (k7 90 rfl rfl) i_World_bear v_World_bear q10 (by decide) rfl rfl (Nat.le_of_ble_eq_true rfl) ?_
  have s_1 : Sa H H13 := (m_World_bear z11)
  refine ab_istore_n (lv' := [some (.ref p0), some (.ref p1), some (.int p2), some (.int v12), none]) d_Ticker_actSpawn_16 rfl (by decide) rfl ?_
  refine ab_iload_n d_Ticker_actSpawn_17 rfl rfl ?_
  refine ab_if_ge (tgt := 23) d_Ticker_actSpawn_18 (by decide) (fun q14 => ?_) (fun q14 => ?_)
  · rw [if_pos q14] at hG
    refine ab_iconst (v := 0) d_Ticker_actSpawn_23 (by decide) ?_
    refine ab_istore (lv' := [some (.ref p0), some (.ref p1), some (.int p2), some (.int v12), some (.int 0)]) d_Ticker_actSpawn_24 (by decide) rfl ?_
    exact kB_Ticker_actSpawn_26 N v12 0 H13 r hG
  · rw [if_neg q14] at hG
    refine ab_iconst (v := 0) d_Ticker_actSpawn_21 (by decide) ?_
    exact ab_zret d_Ticker_actSpawn_22 rfl rfl (Nat.le_refl _) (Nat.le_refl _) (by have hr := Option.some.inj hG; subst hr; exact ⟨rfl, rfl⟩)
def y_Ticker_actEmit : ab_Y := (⟨"WorldEngine$Ticker", "actEmit", "([II)Z"⟩, prog_11_method_6_code, 4, (some FieldType.boolean), [])
theorem d_Ticker_actEmit_0 : decode y_Ticker_actEmit.2.1 0 = .ok (.aload_n 0, 1) := by decide +kernel
theorem d_Ticker_actEmit_1 : decode y_Ticker_actEmit.2.1 1 = .ok (.getfield 20, 3) := by decide +kernel
theorem d_Ticker_actEmit_4 : decode y_Ticker_actEmit.2.1 4 = .ok (.getfield 115, 3) := by decide +kernel
theorem d_Ticker_actEmit_7 : decode y_Ticker_actEmit.2.1 7 = .ok (.sipush 256, 3) := by decide +kernel
theorem d_Ticker_actEmit_10 : decode y_Ticker_actEmit.2.1 10 = .ok (.if_icmp .lt 5, 3) := by decide +kernel
theorem d_Ticker_actEmit_13 : decode y_Ticker_actEmit.2.1 13 = .ok (.iconst 0, 1) := by decide +kernel
theorem d_Ticker_actEmit_14 : decode y_Ticker_actEmit.2.1 14 = .ok (.ireturn, 1) := by decide +kernel
theorem d_Ticker_actEmit_15 : decode y_Ticker_actEmit.2.1 15 = .ok (.aload_n 0, 1) := by decide +kernel
theorem d_Ticker_actEmit_16 : decode y_Ticker_actEmit.2.1 16 = .ok (.getfield 20, 3) := by decide +kernel
theorem d_Ticker_actEmit_19 : decode y_Ticker_actEmit.2.1 19 = .ok (.getfield 115, 3) := by decide +kernel
theorem d_Ticker_actEmit_22 : decode y_Ticker_actEmit.2.1 22 = .ok (.bipush 7, 2) := by decide +kernel
theorem d_Ticker_actEmit_24 : decode y_Ticker_actEmit.2.1 24 = .ok (.imul, 1) := by decide +kernel
theorem d_Ticker_actEmit_25 : decode y_Ticker_actEmit.2.1 25 = .ok (.istore_n 3, 1) := by decide +kernel
theorem d_Ticker_actEmit_26 : decode y_Ticker_actEmit.2.1 26 = .ok (.aload_n 1, 1) := by decide +kernel
theorem d_Ticker_actEmit_27 : decode y_Ticker_actEmit.2.1 27 = .ok (.iload_n 2, 1) := by decide +kernel
theorem d_Ticker_actEmit_28 : decode y_Ticker_actEmit.2.1 28 = .ok (.iconst 1, 1) := by decide +kernel
theorem d_Ticker_actEmit_29 : decode y_Ticker_actEmit.2.1 29 = .ok (.iadd, 1) := by decide +kernel
theorem d_Ticker_actEmit_30 : decode y_Ticker_actEmit.2.1 30 = .ok (.aload_n 0, 1) := by decide +kernel
theorem d_Ticker_actEmit_31 : decode y_Ticker_actEmit.2.1 31 = .ok (.getfield 20, 3) := by decide +kernel
theorem d_Ticker_actEmit_34 : decode y_Ticker_actEmit.2.1 34 = .ok (.getfield 118, 3) := by decide +kernel
theorem d_Ticker_actEmit_37 : decode y_Ticker_actEmit.2.1 37 = .ok (.iload_n 3, 1) := by decide +kernel
theorem d_Ticker_actEmit_38 : decode y_Ticker_actEmit.2.1 38 = .ok (.bipush 7, 2) := by decide +kernel
theorem d_Ticker_actEmit_40 : decode y_Ticker_actEmit.2.1 40 = .ok (.invokestatic 121, 3) := by decide +kernel
theorem d_Ticker_actEmit_43 : decode y_Ticker_actEmit.2.1 43 = .ok (.aload_n 0, 1) := by decide +kernel
theorem d_Ticker_actEmit_44 : decode y_Ticker_actEmit.2.1 44 = .ok (.getfield 20, 3) := by decide +kernel
theorem d_Ticker_actEmit_47 : decode y_Ticker_actEmit.2.1 47 = .ok (.getfield 118, 3) := by decide +kernel
theorem d_Ticker_actEmit_50 : decode y_Ticker_actEmit.2.1 50 = .ok (.iload_n 3, 1) := by decide +kernel
theorem d_Ticker_actEmit_51 : decode y_Ticker_actEmit.2.1 51 = .ok (.iconst 1, 1) := by decide +kernel
theorem d_Ticker_actEmit_52 : decode y_Ticker_actEmit.2.1 52 = .ok (.iadd, 1) := by decide +kernel
theorem d_Ticker_actEmit_53 : decode y_Ticker_actEmit.2.1 53 = .ok (.aload_n 0, 1) := by decide +kernel
theorem d_Ticker_actEmit_54 : decode y_Ticker_actEmit.2.1 54 = .ok (.getfield 20, 3) := by decide +kernel
theorem d_Ticker_actEmit_57 : decode y_Ticker_actEmit.2.1 57 = .ok (.getfield 24, 3) := by decide +kernel
theorem d_Ticker_actEmit_60 : decode y_Ticker_actEmit.2.1 60 = .ok (.aload_n 1, 1) := by decide +kernel
theorem d_Ticker_actEmit_61 : decode y_Ticker_actEmit.2.1 61 = .ok (.iload_n 2, 1) := by decide +kernel
theorem d_Ticker_actEmit_62 : decode y_Ticker_actEmit.2.1 62 = .ok (.iconst 2, 1) := by decide +kernel
theorem d_Ticker_actEmit_63 : decode y_Ticker_actEmit.2.1 63 = .ok (.iadd, 1) := by decide +kernel
theorem d_Ticker_actEmit_64 : decode y_Ticker_actEmit.2.1 64 = .ok (.iaload, 1) := by decide +kernel
theorem d_Ticker_actEmit_65 : decode y_Ticker_actEmit.2.1 65 = .ok (.iadd, 1) := by decide +kernel
theorem d_Ticker_actEmit_66 : decode y_Ticker_actEmit.2.1 66 = .ok (.iastore, 1) := by decide +kernel
theorem d_Ticker_actEmit_67 : decode y_Ticker_actEmit.2.1 67 = .ok (.aload_n 0, 1) := by decide +kernel
theorem d_Ticker_actEmit_68 : decode y_Ticker_actEmit.2.1 68 = .ok (.getfield 20, 3) := by decide +kernel
theorem d_Ticker_actEmit_71 : decode y_Ticker_actEmit.2.1 71 = .ok (.dup, 1) := by decide +kernel
theorem d_Ticker_actEmit_72 : decode y_Ticker_actEmit.2.1 72 = .ok (.getfield 115, 3) := by decide +kernel
theorem d_Ticker_actEmit_75 : decode y_Ticker_actEmit.2.1 75 = .ok (.iconst 1, 1) := by decide +kernel
theorem d_Ticker_actEmit_76 : decode y_Ticker_actEmit.2.1 76 = .ok (.iadd, 1) := by decide +kernel
theorem d_Ticker_actEmit_77 : decode y_Ticker_actEmit.2.1 77 = .ok (.putfield 115, 3) := by decide +kernel
theorem d_Ticker_actEmit_80 : decode y_Ticker_actEmit.2.1 80 = .ok (.iconst 1, 1) := by decide +kernel
theorem d_Ticker_actEmit_81 : decode y_Ticker_actEmit.2.1 81 = .ok (.ireturn, 1) := by decide +kernel
theorem s_Ticker_actEmit : ab_Stat y_Ticker_actEmit 2 := ⟨(k7 102 rfl rfl), (k1 12 rfl rfl), ⟨by decide, by decide⟩, by decide +kernel⟩
theorem i_Ticker_actEmit : Cond.instanceMethod y_Ticker_actEmit.1 ∈ ab_T := (k7 101 rfl rfl)
theorem v_Ticker_actEmit : Cond.selects "WorldEngine$Ticker" y_Ticker_actEmit.1 y_Ticker_actEmit.1 ∈ ab_T := ab_s (List.mem_of_getElem? (i := 85) rfl) rfl
def F_Ticker_actEmit (N : Nat) (p0 : Nat) (p1 : Nat) (p2 : Int32) (H : Hp) : Option (Int32 × Hp) :=
    ck (H.sh[p0]? = some (9, 0)) <|
    rf (H.P p0 2) fun a2 =>
    ck (H.sh[a2]? = some (7, 0)) <|
    bnd ((H.D a2 13)) fun x5 =>
    if x5 < (256 : Int32) then
    rf (H.P p0 2) fun a7 =>
    ck (H.sh[a7]? = some (7, 0)) <|
    bnd ((H.D a7 13)) fun x10 =>
    bnd ((x10 * (7 : Int32))) fun x11 =>
    rf (H.P p0 2) fun a12 =>
    ck (H.sh[a12]? = some (7, 0)) <|
    rf (H.P a12 12) fun a15 =>
    ar H 100 p1 fun n17 =>
    ar H 100 a15 fun n19 =>
    ck (¬ (p2 + (1 : Int32)) < 0) <|
    ck (¬ x11 < 0) <|
    ck (¬ (7 : Int32) < 0) <|
    ck (((p2 + (1 : Int32))).toNatClampNeg + ((7 : Int32)).toNatClampNeg ≤ n17) <|
    ck ((x11).toNatClampNeg + ((7 : Int32)).toNatClampNeg ≤ n19) <|
    bnd (H.cpy p1 a15 ((p2 + (1 : Int32))).toNatClampNeg (x11).toNatClampNeg ((7 : Int32)).toNatClampNeg) fun H26 =>
    rf (H26.P p0 2) fun a27 =>
    ck (H26.sh[a27]? = some (7, 0)) <|
    rf (H26.P a27 12) fun a30 =>
    rf (H26.P p0 2) fun a32 =>
    ck (H26.sh[a32]? = some (7, 0)) <|
    bnd ((H26.D a32 0)) fun x35 =>
    ck (inb (p2 + (2 : Int32)) n17) <|
    bnd ((H26.D p1 ((p2 + (2 : Int32))).toNatClampNeg)) fun x37 =>
    ar H26 100 a30 fun n38 =>
    ck (inb (x11 + (1 : Int32)) n38) <|
    bnd (H26.sD a30 ((x11 + (1 : Int32))).toNatClampNeg (x35 + x37)) fun H41 =>
    rf (H41.P p0 2) fun a42 =>
    ck (H41.sh[a42]? = some (7, 0)) <|
    bnd ((H41.D a42 13)) fun x45 =>
    bnd (H41.sD a42 13 (x45 + (1 : Int32))) fun H46 =>
    some (1, H46)
    else
    some (0, H)
set_option maxRecDepth 20000 in
set_option maxHeartbeats 2000000 in
theorem m_Ticker_actEmit {N : Nat} {p0 : Nat} {p1 : Nat} {p2 : Int32} {H : Hp} {r : Int32 × Hp} (hF : F_Ticker_actEmit N p0 p1 p2 H = some r) : Sa H r.2 := by
  unfold F_Ticker_actEmit at hF
  have hm := Sa.rf H
  obtain ⟨q47, hG⟩ := ck_s hF; clear hF
  obtain ⟨a48, e49, hF⟩ := rf_s hG; clear hG
  obtain ⟨q50, hG⟩ := ck_s hF; clear hF
  obtain ⟨x51, -, hF⟩ := bnd_g hG; clear hG
  rcases ite_s hF with ⟨q_4, hG⟩ | ⟨q_4, hG⟩
  · clear hF
    obtain ⟨a53, e54, hF⟩ := rf_s hG; clear hG
    obtain ⟨q55, hG⟩ := ck_s hF; clear hF
    obtain ⟨x56, -, hF⟩ := bnd_g hG; clear hG
    obtain ⟨x57, -, hG⟩ := bnd_g hF; clear hF
    obtain ⟨a58, e59, hF⟩ := rf_s hG; clear hG
    obtain ⟨q60, hG⟩ := ck_s hF; clear hF
    obtain ⟨a61, e62, hF⟩ := rf_s hG; clear hG
    obtain ⟨n63, q64, hG⟩ := ar_s hF; clear hF
    obtain ⟨n65, q66, hF⟩ := ar_s hG; clear hG
    obtain ⟨q67, hG⟩ := ck_s hF; clear hF
    obtain ⟨q68, hF⟩ := ck_s hG; clear hG
    obtain ⟨q69, hG⟩ := ck_s hF; clear hF
    obtain ⟨q70, hF⟩ := ck_s hG; clear hG
    obtain ⟨q71, hG⟩ := ck_s hF; clear hF
    obtain ⟨H72, eH72, hF⟩ := bnd_g hG; clear hG
    replace hm : Sa H H72 := by rw [eH72]; exact hm
    obtain ⟨a73, e74, hG⟩ := rf_s hF; clear hF
    obtain ⟨q75, hF⟩ := ck_s hG; clear hG
    obtain ⟨a76, e77, hG⟩ := rf_s hF; clear hF
    obtain ⟨a78, e79, hF⟩ := rf_s hG; clear hG
    obtain ⟨q80, hG⟩ := ck_s hF; clear hF
    obtain ⟨x81, -, hF⟩ := bnd_g hG; clear hG
    obtain ⟨q82, hG⟩ := ck_s hF; clear hF
    obtain ⟨x83, -, hF⟩ := bnd_g hG; clear hG
    obtain ⟨n84, q85, hG⟩ := ar_s hF; clear hF
    obtain ⟨q86, hF⟩ := ck_s hG; clear hG
    obtain ⟨H87, eH87, hG⟩ := bnd_g hF; clear hF
    replace hm : Sa H H87 := by rw [eH87]; exact hm
    obtain ⟨a88, e89, hF⟩ := rf_s hG; clear hG
    obtain ⟨q90, hG⟩ := ck_s hF; clear hF
    obtain ⟨x91, -, hF⟩ := bnd_g hG; clear hG
    obtain ⟨H92, eH92, hG⟩ := bnd_g hF; clear hF
    replace hm : Sa H H92 := by rw [eH92]; exact hm
    have hr := Option.some.inj hG; subst hr
    exact hm
  · clear hF
    have hr := Option.some.inj hG; subst hr
    exact hm
set_option maxRecDepth 20000 in
set_option maxHeartbeats 2000000 in
theorem k_Ticker_actEmit {N : Nat} {p0 : Nat} {p1 : Nat} {p2 : Int32} {H : Hp} {r : Int32 × Hp} (hF : F_Ticker_actEmit N p0 p1 p2 H = some r) : ab_M y_Ticker_actEmit { frames := 1, cells := 0, slots := 0, locals := 60 } [.ref p0, .ref p1, .int p2] (hpw H) (po (.returned (some (.int r.1))) r.2) := by
  unfold F_Ticker_actEmit at hF
  refine ab_of2 (lv := [some (.ref p0), some (.ref p1), some (.int p2), none]) 1 rfl rfl (Nat.le_of_ble_eq_true rfl) ?_
  refine ab_aload_n d_Ticker_actEmit_0 rfl rfl rfl ?_
  obtain ⟨q1, hG⟩ := ck_s hF; clear hF
  obtain ⟨a2, e3, hF⟩ := rf_s hG; clear hG
  refine hp_getR (f := 2) d_Ticker_actEmit_1 q1 (by decide) rfl (by decide) (k2 122 rfl rfl) rfl e3 ?_
  obtain ⟨q4, hG⟩ := ck_s hF; clear hF
  refine hp_getI (f := 13) d_Ticker_actEmit_4 q4 (by decide) rfl (by decide) (k2 4 rfl rfl) rfl ?_
  refine ab_topi (fun x5 ex5 => ?_)
  replace hG := bnd_s ex5 hG
  refine ab_sipush (v := 256) d_Ticker_actEmit_7 (by decide) ?_
  refine ab_icmp_lt (tgt := 15) d_Ticker_actEmit_10 (by decide) (fun q6 => ?_) (fun q6 => ?_)
  · rw [if_pos q6] at hG
    refine ab_aload_n d_Ticker_actEmit_15 rfl rfl rfl ?_
    obtain ⟨a7, e8, hF⟩ := rf_s hG; clear hG
    refine hp_getR (f := 2) d_Ticker_actEmit_16 q1 (by decide) rfl (by decide) (k2 122 rfl rfl) rfl e8 ?_
    obtain ⟨q9, hG⟩ := ck_s hF; clear hF
    refine hp_getI (f := 13) d_Ticker_actEmit_19 q9 (by decide) rfl (by decide) (k2 4 rfl rfl) rfl ?_
    refine ab_topi (fun x10 ex10 => ?_)
    replace hG := bnd_s ex10 hG
    refine ab_bipush (v := 7) d_Ticker_actEmit_22 (by decide) ?_
    refine ab_imul d_Ticker_actEmit_24 ?_
    refine ab_topi (fun x11 ex11 => ?_)
    replace hG := bnd_s ex11 hG
    refine ab_istore_n (lv' := [some (.ref p0), some (.ref p1), some (.int p2), some (.int x11)]) d_Ticker_actEmit_25 rfl (by decide) rfl ?_
    refine ab_aload_n d_Ticker_actEmit_26 rfl rfl rfl ?_
    refine ab_iload_n d_Ticker_actEmit_27 rfl rfl ?_
    refine ab_iconst (v := 1) d_Ticker_actEmit_28 (by decide) ?_
    refine ab_iadd d_Ticker_actEmit_29 ?_
    refine ab_aload_n d_Ticker_actEmit_30 rfl rfl rfl ?_
    obtain ⟨a12, e13, hF⟩ := rf_s hG; clear hG
    refine hp_getR (f := 2) d_Ticker_actEmit_31 q1 (by decide) rfl (by decide) (k2 122 rfl rfl) rfl e13 ?_
    obtain ⟨q14, hG⟩ := ck_s hF; clear hF
    obtain ⟨a15, e16, hF⟩ := rf_s hG; clear hG
    refine hp_getR (f := 12) d_Ticker_actEmit_34 q14 (by decide) rfl (by decide) (k1 239 rfl rfl) rfl e16 ?_
    refine ab_iload_n d_Ticker_actEmit_37 rfl rfl ?_
    refine ab_bipush (v := 7) d_Ticker_actEmit_38 (by decide) ?_
    obtain ⟨n17, q18, hG⟩ := ar_s hF; clear hF
    obtain ⟨n19, q20, hF⟩ := ar_s hG; clear hG
    obtain ⟨q21, hG⟩ := ck_s hF; clear hF
    obtain ⟨q22, hF⟩ := ck_s hG; clear hG
    obtain ⟨q23, hG⟩ := ck_s hF; clear hF
    obtain ⟨q24, hF⟩ := ck_s hG; clear hG
    obtain ⟨q25, hG⟩ := ck_s hF; clear hF
    refine hp_acopy d_Ticker_actEmit_40 (k7 103 rfl rfl) (k6 113 rfl rfl) (k6 112 rfl rfl) (k1 29 rfl rfl) q18 q20 q21 q22 q23 q24 q25 (Nat.le_of_ble_eq_true rfl) (Nat.le_of_ble_eq_true rfl) ?_
    refine hp_gen (fun H26 eH26 => ?_)
    replace hG := bnd_s eH26 hG
    have s_1 : Sa H H26 := by rw [eH26]; exact Sa.rf _
    refine ab_aload_n d_Ticker_actEmit_43 rfl rfl rfl ?_
    obtain ⟨a27, e28, hF⟩ := rf_s hG; clear hG
    refine hp_getR (f := 2) d_Ticker_actEmit_44 (by rw [(s_1).1]; exact q1) (by decide) rfl (by decide) (k2 122 rfl rfl) rfl e28 ?_
    obtain ⟨q29, hG⟩ := ck_s hF; clear hF
    rw [(s_1).1] at q29
    obtain ⟨a30, e31, hF⟩ := rf_s hG; clear hG
    refine hp_getR (f := 12) d_Ticker_actEmit_47 (by rw [(s_1).1]; exact q29) (by decide) rfl (by decide) (k1 239 rfl rfl) rfl e31 ?_
    refine ab_iload_n d_Ticker_actEmit_50 rfl rfl ?_
    refine ab_iconst (v := 1) d_Ticker_actEmit_51 (by decide) ?_
    refine ab_iadd d_Ticker_actEmit_52 ?_
    refine ab_aload_n d_Ticker_actEmit_53 rfl rfl rfl ?_
    obtain ⟨a32, e33, hG⟩ := rf_s hF; clear hF
    refine hp_getR (f := 2) d_Ticker_actEmit_54 (by rw [(s_1).1]; exact q1) (by decide) rfl (by decide) (k2 122 rfl rfl) rfl e33 ?_
    obtain ⟨q34, hF⟩ := ck_s hG; clear hG
    rw [(s_1).1] at q34
    refine hp_getI (f := 0) d_Ticker_actEmit_57 (by rw [(s_1).1]; exact q34) (by decide) rfl (by decide) (k1 206 rfl rfl) rfl ?_
    refine ab_topi (fun x35 ex35 => ?_)
    replace hF := bnd_s ex35 hF
    refine ab_aload_n d_Ticker_actEmit_60 rfl rfl rfl ?_
    refine ab_iload_n d_Ticker_actEmit_61 rfl rfl ?_
    refine ab_iconst (v := 2) d_Ticker_actEmit_62 (by decide) ?_
    refine ab_iadd d_Ticker_actEmit_63 ?_
    obtain ⟨q36, hG⟩ := ck_s hF; clear hF
    refine hp_iald d_Ticker_actEmit_64 tI (by rw [(s_1).1]; exact q18) q36 ?_
    refine ab_topi (fun x37 ex37 => ?_)
    replace hG := bnd_s ex37 hG
    refine ab_iadd d_Ticker_actEmit_65 ?_
    obtain ⟨n38, q39, hF⟩ := ar_s hG; clear hG
    rw [(s_1).1] at q39
    obtain ⟨q40, hG⟩ := ck_s hF; clear hF
    refine hp_iast d_Ticker_actEmit_66 tI (by rw [(s_1).1]; exact q39) q40 ?_
    refine hp_gen (fun H41 eH41 => ?_)
    replace hG := bnd_s eH41 hG
    have s_2 : Sa H H41 := by rw [eH41]; exact s_1
    refine ab_aload_n d_Ticker_actEmit_67 rfl rfl rfl ?_
    obtain ⟨a42, e43, hF⟩ := rf_s hG; clear hG
    refine hp_getR (f := 2) d_Ticker_actEmit_68 (by rw [(s_2).1]; exact q1) (by decide) rfl (by decide) (k2 122 rfl rfl) rfl e43 ?_
    refine ab_dup d_Ticker_actEmit_71 rfl ?_
    obtain ⟨q44, hG⟩ := ck_s hF; clear hF
    rw [(s_2).1] at q44
    refine hp_getI (f := 13) d_Ticker_actEmit_72 (by rw [(s_2).1]; exact q44) (by decide) rfl (by decide) (k2 4 rfl rfl) rfl ?_
    refine ab_topi (fun x45 ex45 => ?_)
    replace hG := bnd_s ex45 hG
    refine ab_iconst (v := 1) d_Ticker_actEmit_75 (by decide) ?_
    refine ab_iadd d_Ticker_actEmit_76 ?_
    refine hp_putI (v := x45 + (1 : Int32)) (f := 13) d_Ticker_actEmit_77 (by rw [(s_2).1]; exact q44) (by decide) rfl (by decide) (k2 4 rfl rfl) rfl rfl (fun _ => rfl) (fun _ => rfl) rfl ?_
    refine hp_gen (fun H46 eH46 => ?_)
    replace hG := bnd_s eH46 hG
    have s_3 : Sa H H46 := by rw [eH46]; exact s_2
    refine ab_iconst (v := 1) d_Ticker_actEmit_80 (by decide) ?_
    exact ab_zret d_Ticker_actEmit_81 rfl rfl (Nat.le_refl _) (Nat.le_refl _) (by have hr := Option.some.inj hG; subst hr; exact ⟨rfl, rfl⟩)
  · rw [if_neg q6] at hG
    refine ab_iconst (v := 0) d_Ticker_actEmit_13 (by decide) ?_
    exact ab_zret d_Ticker_actEmit_14 rfl rfl (Nat.le_refl _) (Nat.le_refl _) (by have hr := Option.some.inj hG; subst hr; exact ⟨rfl, rfl⟩)
def y_Ticker_actShow : ab_Y := (⟨"WorldEngine$Ticker", "actShow", "(I)Z"⟩, prog_11_method_7_code, 2, (some FieldType.boolean), [])
theorem d_Ticker_actShow_0 : decode y_Ticker_actShow.2.1 0 = .ok (.aload_n 0, 1) := by decide +kernel
theorem d_Ticker_actShow_1 : decode y_Ticker_actShow.2.1 1 = .ok (.getfield 20, 3) := by decide +kernel
theorem d_Ticker_actShow_4 : decode y_Ticker_actShow.2.1 4 = .ok (.getfield 33, 3) := by decide +kernel
theorem d_Ticker_actShow_7 : decode y_Ticker_actShow.2.1 7 = .ok (.bipush 32, 2) := by decide +kernel
theorem d_Ticker_actShow_9 : decode y_Ticker_actShow.2.1 9 = .ok (.if_icmp .lt 5, 3) := by decide +kernel
theorem d_Ticker_actShow_12 : decode y_Ticker_actShow.2.1 12 = .ok (.iconst 0, 1) := by decide +kernel
theorem d_Ticker_actShow_13 : decode y_Ticker_actShow.2.1 13 = .ok (.ireturn, 1) := by decide +kernel
theorem d_Ticker_actShow_14 : decode y_Ticker_actShow.2.1 14 = .ok (.aload_n 0, 1) := by decide +kernel
theorem d_Ticker_actShow_15 : decode y_Ticker_actShow.2.1 15 = .ok (.getfield 20, 3) := by decide +kernel
theorem d_Ticker_actShow_18 : decode y_Ticker_actShow.2.1 18 = .ok (.getfield 127, 3) := by decide +kernel
theorem d_Ticker_actShow_21 : decode y_Ticker_actShow.2.1 21 = .ok (.aload_n 0, 1) := by decide +kernel
theorem d_Ticker_actShow_22 : decode y_Ticker_actShow.2.1 22 = .ok (.getfield 20, 3) := by decide +kernel
theorem d_Ticker_actShow_25 : decode y_Ticker_actShow.2.1 25 = .ok (.getfield 33, 3) := by decide +kernel
theorem d_Ticker_actShow_28 : decode y_Ticker_actShow.2.1 28 = .ok (.iload_n 1, 1) := by decide +kernel
theorem d_Ticker_actShow_29 : decode y_Ticker_actShow.2.1 29 = .ok (.iastore, 1) := by decide +kernel
theorem d_Ticker_actShow_30 : decode y_Ticker_actShow.2.1 30 = .ok (.aload_n 0, 1) := by decide +kernel
theorem d_Ticker_actShow_31 : decode y_Ticker_actShow.2.1 31 = .ok (.getfield 20, 3) := by decide +kernel
theorem d_Ticker_actShow_34 : decode y_Ticker_actShow.2.1 34 = .ok (.dup, 1) := by decide +kernel
theorem d_Ticker_actShow_35 : decode y_Ticker_actShow.2.1 35 = .ok (.getfield 33, 3) := by decide +kernel
theorem d_Ticker_actShow_38 : decode y_Ticker_actShow.2.1 38 = .ok (.iconst 1, 1) := by decide +kernel
theorem d_Ticker_actShow_39 : decode y_Ticker_actShow.2.1 39 = .ok (.iadd, 1) := by decide +kernel
theorem d_Ticker_actShow_40 : decode y_Ticker_actShow.2.1 40 = .ok (.putfield 33, 3) := by decide +kernel
theorem d_Ticker_actShow_43 : decode y_Ticker_actShow.2.1 43 = .ok (.iconst 1, 1) := by decide +kernel
theorem d_Ticker_actShow_44 : decode y_Ticker_actShow.2.1 44 = .ok (.ireturn, 1) := by decide +kernel
theorem s_Ticker_actShow : ab_Stat y_Ticker_actShow 1 := ⟨(k7 107 rfl rfl), (k1 12 rfl rfl), ⟨by decide, by decide⟩, by decide +kernel⟩
theorem i_Ticker_actShow : Cond.instanceMethod y_Ticker_actShow.1 ∈ ab_T := (k7 106 rfl rfl)
theorem v_Ticker_actShow : Cond.selects "WorldEngine$Ticker" y_Ticker_actShow.1 y_Ticker_actShow.1 ∈ ab_T := ab_s (List.mem_of_getElem? (i := 86) rfl) rfl
def F_Ticker_actShow (N : Nat) (p0 : Nat) (p1 : Int32) (H : Hp) : Option (Int32 × Hp) :=
    ck (H.sh[p0]? = some (9, 0)) <|
    rf (H.P p0 2) fun a2 =>
    ck (H.sh[a2]? = some (7, 0)) <|
    bnd ((H.D a2 15)) fun x5 =>
    if x5 < (32 : Int32) then
    rf (H.P p0 2) fun a7 =>
    ck (H.sh[a7]? = some (7, 0)) <|
    rf (H.P a7 14) fun a10 =>
    rf (H.P p0 2) fun a12 =>
    ck (H.sh[a12]? = some (7, 0)) <|
    bnd ((H.D a12 15)) fun x15 =>
    ar H 100 a10 fun n16 =>
    ck (inb x15 n16) <|
    bnd (H.sD a10 (x15).toNatClampNeg p1) fun H19 =>
    rf (H19.P p0 2) fun a20 =>
    ck (H19.sh[a20]? = some (7, 0)) <|
    bnd ((H19.D a20 15)) fun x23 =>
    bnd (H19.sD a20 15 (x23 + (1 : Int32))) fun H24 =>
    some (1, H24)
    else
    some (0, H)
set_option maxRecDepth 20000 in
set_option maxHeartbeats 2000000 in
theorem m_Ticker_actShow {N : Nat} {p0 : Nat} {p1 : Int32} {H : Hp} {r : Int32 × Hp} (hF : F_Ticker_actShow N p0 p1 H = some r) : Sa H r.2 := by
  unfold F_Ticker_actShow at hF
  have hm := Sa.rf H
  obtain ⟨q25, hG⟩ := ck_s hF; clear hF
  obtain ⟨a26, e27, hF⟩ := rf_s hG; clear hG
  obtain ⟨q28, hG⟩ := ck_s hF; clear hF
  obtain ⟨x29, -, hF⟩ := bnd_g hG; clear hG
  rcases ite_s hF with ⟨q_3, hG⟩ | ⟨q_3, hG⟩
  · clear hF
    obtain ⟨a31, e32, hF⟩ := rf_s hG; clear hG
    obtain ⟨q33, hG⟩ := ck_s hF; clear hF
    obtain ⟨a34, e35, hF⟩ := rf_s hG; clear hG
    obtain ⟨a36, e37, hG⟩ := rf_s hF; clear hF
    obtain ⟨q38, hF⟩ := ck_s hG; clear hG
    obtain ⟨x39, -, hG⟩ := bnd_g hF; clear hF
    obtain ⟨n40, q41, hF⟩ := ar_s hG; clear hG
    obtain ⟨q42, hG⟩ := ck_s hF; clear hF
    obtain ⟨H43, eH43, hF⟩ := bnd_g hG; clear hG
    replace hm : Sa H H43 := by rw [eH43]; exact hm
    obtain ⟨a44, e45, hG⟩ := rf_s hF; clear hF
    obtain ⟨q46, hF⟩ := ck_s hG; clear hG
    obtain ⟨x47, -, hG⟩ := bnd_g hF; clear hF
    obtain ⟨H48, eH48, hF⟩ := bnd_g hG; clear hG
    replace hm : Sa H H48 := by rw [eH48]; exact hm
    have hr := Option.some.inj hF; subst hr
    exact hm
  · clear hF
    have hr := Option.some.inj hG; subst hr
    exact hm
set_option maxRecDepth 20000 in
set_option maxHeartbeats 2000000 in
theorem k_Ticker_actShow {N : Nat} {p0 : Nat} {p1 : Int32} {H : Hp} {r : Int32 × Hp} (hF : F_Ticker_actShow N p0 p1 H = some r) : ab_M y_Ticker_actShow { frames := 0, cells := 0, slots := 0, locals := 0 } [.ref p0, .int p1] (hpw H) (po (.returned (some (.int r.1))) r.2) := by
  unfold F_Ticker_actShow at hF
  refine ab_of2 (lv := [some (.ref p0), some (.int p1)]) 0 rfl rfl (Nat.le_of_ble_eq_true rfl) ?_
  refine ab_aload_n d_Ticker_actShow_0 rfl rfl rfl ?_
  obtain ⟨q1, hG⟩ := ck_s hF; clear hF
  obtain ⟨a2, e3, hF⟩ := rf_s hG; clear hG
  refine hp_getR (f := 2) d_Ticker_actShow_1 q1 (by decide) rfl (by decide) (k2 122 rfl rfl) rfl e3 ?_
  obtain ⟨q4, hG⟩ := ck_s hF; clear hF
  refine hp_getI (f := 15) d_Ticker_actShow_4 q4 (by decide) rfl (by decide) (k2 11 rfl rfl) rfl ?_
  refine ab_topi (fun x5 ex5 => ?_)
  replace hG := bnd_s ex5 hG
  refine ab_bipush (v := 32) d_Ticker_actShow_7 (by decide) ?_
  refine ab_icmp_lt (tgt := 14) d_Ticker_actShow_9 (by decide) (fun q6 => ?_) (fun q6 => ?_)
  · rw [if_pos q6] at hG
    refine ab_aload_n d_Ticker_actShow_14 rfl rfl rfl ?_
    obtain ⟨a7, e8, hF⟩ := rf_s hG; clear hG
    refine hp_getR (f := 2) d_Ticker_actShow_15 q1 (by decide) rfl (by decide) (k2 122 rfl rfl) rfl e8 ?_
    obtain ⟨q9, hG⟩ := ck_s hF; clear hF
    obtain ⟨a10, e11, hF⟩ := rf_s hG; clear hG
    refine hp_getR (f := 14) d_Ticker_actShow_18 q9 (by decide) rfl (by decide) (k2 9 rfl rfl) rfl e11 ?_
    refine ab_aload_n d_Ticker_actShow_21 rfl rfl rfl ?_
    obtain ⟨a12, e13, hG⟩ := rf_s hF; clear hF
    refine hp_getR (f := 2) d_Ticker_actShow_22 q1 (by decide) rfl (by decide) (k2 122 rfl rfl) rfl e13 ?_
    obtain ⟨q14, hF⟩ := ck_s hG; clear hG
    refine hp_getI (f := 15) d_Ticker_actShow_25 q14 (by decide) rfl (by decide) (k2 11 rfl rfl) rfl ?_
    refine ab_topi (fun x15 ex15 => ?_)
    replace hF := bnd_s ex15 hF
    refine ab_iload_n d_Ticker_actShow_28 rfl rfl ?_
    obtain ⟨n16, q17, hG⟩ := ar_s hF; clear hF
    obtain ⟨q18, hF⟩ := ck_s hG; clear hG
    refine hp_iast d_Ticker_actShow_29 tI q17 q18 ?_
    refine hp_gen (fun H19 eH19 => ?_)
    replace hF := bnd_s eH19 hF
    have s_1 : Sa H H19 := by rw [eH19]; exact Sa.rf _
    refine ab_aload_n d_Ticker_actShow_30 rfl rfl rfl ?_
    obtain ⟨a20, e21, hG⟩ := rf_s hF; clear hF
    refine hp_getR (f := 2) d_Ticker_actShow_31 (by rw [(s_1).1]; exact q1) (by decide) rfl (by decide) (k2 122 rfl rfl) rfl e21 ?_
    refine ab_dup d_Ticker_actShow_34 rfl ?_
    obtain ⟨q22, hF⟩ := ck_s hG; clear hG
    rw [(s_1).1] at q22
    refine hp_getI (f := 15) d_Ticker_actShow_35 (by rw [(s_1).1]; exact q22) (by decide) rfl (by decide) (k2 11 rfl rfl) rfl ?_
    refine ab_topi (fun x23 ex23 => ?_)
    replace hF := bnd_s ex23 hF
    refine ab_iconst (v := 1) d_Ticker_actShow_38 (by decide) ?_
    refine ab_iadd d_Ticker_actShow_39 ?_
    refine hp_putI (v := x23 + (1 : Int32)) (f := 15) d_Ticker_actShow_40 (by rw [(s_1).1]; exact q22) (by decide) rfl (by decide) (k2 11 rfl rfl) rfl rfl (fun _ => rfl) (fun _ => rfl) rfl ?_
    refine hp_gen (fun H24 eH24 => ?_)
    replace hF := bnd_s eH24 hF
    have s_2 : Sa H H24 := by rw [eH24]; exact s_1
    refine ab_iconst (v := 1) d_Ticker_actShow_43 (by decide) ?_
    exact ab_zret d_Ticker_actShow_44 rfl rfl (Nat.le_refl _) (Nat.le_refl _) (by have hr := Option.some.inj hF; subst hr; exact ⟨rfl, rfl⟩)
  · rw [if_neg q6] at hG
    refine ab_iconst (v := 0) d_Ticker_actShow_12 (by decide) ?_
    exact ab_zret d_Ticker_actShow_13 rfl rfl (Nat.le_refl _) (Nat.le_refl _) (by have hr := Option.some.inj hG; subst hr; exact ⟨rfl, rfl⟩)
def y_World_remove : ab_Y := (⟨"WorldEngine$World", "remove", "(I)V"⟩, prog_12_method_14_code, 2, none, [])
theorem d_World_remove_0 : decode y_World_remove.2.1 0 = .ok (.aload_n 0, 1) := by decide +kernel
theorem d_World_remove_1 : decode y_World_remove.2.1 1 = .ok (.getfield 13, 3) := by decide +kernel
theorem d_World_remove_4 : decode y_World_remove.2.1 4 = .ok (.iload_n 1, 1) := by decide +kernel
theorem d_World_remove_5 : decode y_World_remove.2.1 5 = .ok (.iconst (-1), 1) := by decide +kernel
theorem d_World_remove_6 : decode y_World_remove.2.1 6 = .ok (.iastore, 1) := by decide +kernel
theorem d_World_remove_7 : decode y_World_remove.2.1 7 = .ok (.aload_n 0, 1) := by decide +kernel
theorem d_World_remove_8 : decode y_World_remove.2.1 8 = .ok (.getfield 9, 3) := by decide +kernel
theorem d_World_remove_11 : decode y_World_remove.2.1 11 = .ok (.iload_n 1, 1) := by decide +kernel
theorem d_World_remove_12 : decode y_World_remove.2.1 12 = .ok (.dup2, 1) := by decide +kernel
theorem d_World_remove_13 : decode y_World_remove.2.1 13 = .ok (.iaload, 1) := by decide +kernel
theorem d_World_remove_14 : decode y_World_remove.2.1 14 = .ok (.iconst 1, 1) := by decide +kernel
theorem d_World_remove_15 : decode y_World_remove.2.1 15 = .ok (.iadd, 1) := by decide +kernel
theorem d_World_remove_16 : decode y_World_remove.2.1 16 = .ok (.iastore, 1) := by decide +kernel
theorem d_World_remove_17 : decode y_World_remove.2.1 17 = .ok (.return_, 1) := by decide +kernel
theorem s_World_remove : ab_Stat y_World_remove 1 := ⟨(k7 116 rfl rfl), (k1 10 rfl rfl), ⟨by decide, by decide⟩, by decide +kernel⟩
theorem i_World_remove : Cond.instanceMethod y_World_remove.1 ∈ ab_T := (k7 114 rfl rfl)
theorem v_World_remove : Cond.selects "WorldEngine$World" y_World_remove.1 y_World_remove.1 ∈ ab_T := (k7 115 rfl rfl)
def F_World_remove (N : Nat) (p0 : Nat) (p1 : Int32) (H : Hp) : Option (Unit × Hp) :=
    ck (H.sh[p0]? = some (7, 0)) <|
    rf (H.P p0 8) fun a2 =>
    ar H 100 a2 fun n4 =>
    ck (inb p1 n4) <|
    bnd (H.sD a2 (p1).toNatClampNeg ((-1) : Int32)) fun H7 =>
    rf (H7.P p0 7) fun a8 =>
    ar H7 100 a8 fun n10 =>
    ck (inb p1 n10) <|
    bnd ((H7.D a8 (p1).toNatClampNeg)) fun x13 =>
    ck (inb p1 n10) <|
    bnd (H7.sD a8 (p1).toNatClampNeg (x13 + (1 : Int32))) fun H15 =>
    some ((), H15)
set_option maxRecDepth 20000 in
set_option maxHeartbeats 2000000 in
theorem m_World_remove {N : Nat} {p0 : Nat} {p1 : Int32} {H : Hp} {r : Unit × Hp} (hF : F_World_remove N p0 p1 H = some r) : Sa H r.2 := by
  unfold F_World_remove at hF
  have hm := Sa.rf H
  obtain ⟨q16, hG⟩ := ck_s hF; clear hF
  obtain ⟨a17, e18, hF⟩ := rf_s hG; clear hG
  obtain ⟨n19, q20, hG⟩ := ar_s hF; clear hF
  obtain ⟨q21, hF⟩ := ck_s hG; clear hG
  obtain ⟨H22, eH22, hG⟩ := bnd_g hF; clear hF
  replace hm : Sa H H22 := by rw [eH22]; exact hm
  obtain ⟨a23, e24, hF⟩ := rf_s hG; clear hG
  obtain ⟨n25, q26, hG⟩ := ar_s hF; clear hF
  obtain ⟨q27, hF⟩ := ck_s hG; clear hG
  obtain ⟨x28, -, hG⟩ := bnd_g hF; clear hF
  obtain ⟨q29, hF⟩ := ck_s hG; clear hG
  obtain ⟨H30, eH30, hG⟩ := bnd_g hF; clear hF
  replace hm : Sa H H30 := by rw [eH30]; exact hm
  have hr := Option.some.inj hG; subst hr
  exact hm
set_option maxRecDepth 20000 in
set_option maxHeartbeats 2000000 in
theorem k_World_remove {N : Nat} {p0 : Nat} {p1 : Int32} {H : Hp} {r : Unit × Hp} (hF : F_World_remove N p0 p1 H = some r) : ab_M y_World_remove { frames := 0, cells := 0, slots := 0, locals := 0 } [.ref p0, .int p1] (hpw H) (po (.returned none) r.2) := by
  unfold F_World_remove at hF
  refine ab_of2 (lv := [some (.ref p0), some (.int p1)]) 0 rfl rfl (Nat.le_of_ble_eq_true rfl) ?_
  refine ab_aload_n d_World_remove_0 rfl rfl rfl ?_
  obtain ⟨q1, hG⟩ := ck_s hF; clear hF
  obtain ⟨a2, e3, hF⟩ := rf_s hG; clear hG
  refine hp_getR (f := 8) d_World_remove_1 q1 (by decide) rfl (by decide) (k1 229 rfl rfl) rfl e3 ?_
  refine ab_iload_n d_World_remove_4 rfl rfl ?_
  refine ab_iconst (v := (-1)) d_World_remove_5 (by decide) ?_
  obtain ⟨n4, q5, hG⟩ := ar_s hF; clear hF
  obtain ⟨q6, hF⟩ := ck_s hG; clear hG
  refine hp_iast d_World_remove_6 tI q5 q6 ?_
  refine hp_gen (fun H7 eH7 => ?_)
  replace hF := bnd_s eH7 hF
  have s_1 : Sa H H7 := by rw [eH7]; exact Sa.rf _
  refine ab_aload_n d_World_remove_7 rfl rfl rfl ?_
  obtain ⟨a8, e9, hG⟩ := rf_s hF; clear hF
  refine hp_getR (f := 7) d_World_remove_8 (by rw [(s_1).1]; exact q1) (by decide) rfl (by decide) (k1 227 rfl rfl) rfl e9 ?_
  refine ab_iload_n d_World_remove_11 rfl rfl ?_
  refine ab_dup2_11 d_World_remove_12 rfl rfl ?_
  obtain ⟨n10, q11, hF⟩ := ar_s hG; clear hG
  rw [(s_1).1] at q11
  obtain ⟨q12, hG⟩ := ck_s hF; clear hF
  refine hp_iald d_World_remove_13 tI (by rw [(s_1).1]; exact q11) q12 ?_
  refine ab_topi (fun x13 ex13 => ?_)
  replace hG := bnd_s ex13 hG
  refine ab_iconst (v := 1) d_World_remove_14 (by decide) ?_
  refine ab_iadd d_World_remove_15 ?_
  obtain ⟨q14, hF⟩ := ck_s hG; clear hG
  refine hp_iast d_World_remove_16 tI (by rw [(s_1).1]; exact q11) q14 ?_
  refine hp_gen (fun H15 eH15 => ?_)
  replace hF := bnd_s eH15 hF
  have s_2 : Sa H H15 := by rw [eH15]; exact s_1
  exact ab_vret d_World_remove_17 rfl (Nat.le_refl _) (Nat.le_refl _) (by have hr := Option.some.inj hF; subst hr; exact ⟨rfl, rfl⟩)
def y_World_giveAt : ab_Y := (⟨"WorldEngine$World", "giveAt", "(LWorldEngine$Program;II)V"⟩, prog_12_method_15_code, 6, none, [])
theorem d_World_giveAt_0 : decode y_World_giveAt.2.1 0 = .ok (.aload_n 0, 1) := by decide +kernel
theorem d_World_giveAt_1 : decode y_World_giveAt.2.1 1 = .ok (.getfield 13, 3) := by decide +kernel
theorem d_World_giveAt_4 : decode y_World_giveAt.2.1 4 = .ok (.iload_n 2, 1) := by decide +kernel
theorem d_World_giveAt_5 : decode y_World_giveAt.2.1 5 = .ok (.dup2, 1) := by decide +kernel
theorem d_World_giveAt_6 : decode y_World_giveAt.2.1 6 = .ok (.iaload, 1) := by decide +kernel
theorem d_World_giveAt_7 : decode y_World_giveAt.2.1 7 = .ok (.iconst 1, 1) := by decide +kernel
theorem d_World_giveAt_8 : decode y_World_giveAt.2.1 8 = .ok (.iload_n 3, 1) := by decide +kernel
theorem d_World_giveAt_9 : decode y_World_giveAt.2.1 9 = .ok (.ishl, 1) := by decide +kernel
theorem d_World_giveAt_10 : decode y_World_giveAt.2.1 10 = .ok (.ior, 1) := by decide +kernel
theorem d_World_giveAt_11 : decode y_World_giveAt.2.1 11 = .ok (.iastore, 1) := by decide +kernel
theorem d_World_giveAt_12 : decode y_World_giveAt.2.1 12 = .ok (.aload_n 1, 1) := by decide +kernel
theorem d_World_giveAt_13 : decode y_World_giveAt.2.1 13 = .ok (.getfield 99, 3) := by decide +kernel
theorem d_World_giveAt_16 : decode y_World_giveAt.2.1 16 = .ok (.astore 4, 2) := by decide +kernel
theorem d_World_giveAt_18 : decode y_World_giveAt.2.1 18 = .ok (.aload 4, 2) := by decide +kernel
theorem d_World_giveAt_20 : decode y_World_giveAt.2.1 20 = .ok (.getfield 103, 3) := by decide +kernel
theorem d_World_giveAt_23 : decode y_World_giveAt.2.1 23 = .ok (.iload_n 3, 1) := by decide +kernel
theorem d_World_giveAt_24 : decode y_World_giveAt.2.1 24 = .ok (.iaload, 1) := by decide +kernel
theorem d_World_giveAt_25 : decode y_World_giveAt.2.1 25 = .ok (.istore 5, 2) := by decide +kernel
theorem d_World_giveAt_27 : decode y_World_giveAt.2.1 27 = .ok (.iload 5, 2) := by decide +kernel
theorem d_World_giveAt_29 : decode y_World_giveAt.2.1 29 = .ok (.aload 4, 2) := by decide +kernel
theorem d_World_giveAt_31 : decode y_World_giveAt.2.1 31 = .ok (.getfield 103, 3) := by decide +kernel
theorem d_World_giveAt_34 : decode y_World_giveAt.2.1 34 = .ok (.iload_n 3, 1) := by decide +kernel
theorem d_World_giveAt_35 : decode y_World_giveAt.2.1 35 = .ok (.iconst 1, 1) := by decide +kernel
theorem d_World_giveAt_36 : decode y_World_giveAt.2.1 36 = .ok (.iadd, 1) := by decide +kernel
theorem d_World_giveAt_37 : decode y_World_giveAt.2.1 37 = .ok (.iaload, 1) := by decide +kernel
theorem d_World_giveAt_38 : decode y_World_giveAt.2.1 38 = .ok (.if_icmp .ge 22, 3) := by decide +kernel
theorem d_World_giveAt_41 : decode y_World_giveAt.2.1 41 = .ok (.aload_n 0, 1) := by decide +kernel
theorem d_World_giveAt_42 : decode y_World_giveAt.2.1 42 = .ok (.iload_n 2, 1) := by decide +kernel
theorem d_World_giveAt_43 : decode y_World_giveAt.2.1 43 = .ok (.iload 5, 2) := by decide +kernel
theorem d_World_giveAt_45 : decode y_World_giveAt.2.1 45 = .ok (.aload_n 1, 1) := by decide +kernel
theorem d_World_giveAt_46 : decode y_World_giveAt.2.1 46 = .ok (.iload 5, 2) := by decide +kernel
theorem d_World_giveAt_48 : decode y_World_giveAt.2.1 48 = .ok (.invokevirtual 108, 3) := by decide +kernel
theorem d_World_giveAt_51 : decode y_World_giveAt.2.1 51 = .ok (.invokevirtual 111, 3) := by decide +kernel
theorem d_World_giveAt_54 : decode y_World_giveAt.2.1 54 = .ok (.iinc 5 1, 3) := by decide +kernel
theorem d_World_giveAt_57 : decode y_World_giveAt.2.1 57 = .ok (.goto (-30), 3) := by decide +kernel
theorem d_World_giveAt_60 : decode y_World_giveAt.2.1 60 = .ok (.return_, 1) := by decide +kernel
theorem s_World_giveAt : ab_Stat y_World_giveAt 3 := ⟨(k7 121 rfl rfl), (k1 10 rfl rfl), ⟨by decide, by decide⟩, by decide +kernel⟩
theorem i_World_giveAt : Cond.instanceMethod y_World_giveAt.1 ∈ ab_T := (k7 119 rfl rfl)
theorem v_World_giveAt : Cond.selects "WorldEngine$World" y_World_giveAt.1 y_World_giveAt.1 ∈ ab_T := (k7 120 rfl rfl)
def B_World_giveAt_27 (N : Nat) (p0 : Nat) (p1 : Nat) (p2 : Int32) (p3 : Int32) : Nat → Nat → Int32 → Hp → Option (Unit × Hp)
  | 0, _, _, _ => none
  | n + 1, l4, l5, H =>
    ck (H.sh[l4]? = some (3, 0)) <|
    rf (H.P l4 2) fun a21 =>
    ar H 100 a21 fun n23 =>
    ck (inb (p3 + (1 : Int32)) n23) <|
    bnd ((H.D a21 ((p3 + (1 : Int32))).toNatClampNeg)) fun x26 =>
    if x26 ≤ l5 then
    some ((), H)
    else
    ck (H.sh[p1]? = some (4, 0)) <|
    bC (F_Program_firstValue N p1 l5 H) fun v30 H31 =>
    ck (H31.sh[p0]? = some (7, 0)) <|
    bC (F_World_write N p0 p2 l5 v30 H31) fun v34 H35 =>
    B_World_giveAt_27 N p0 p1 p2 p3 n l4 (l5 + 1) H35
termination_by structural n => n
set_option maxRecDepth 20000 in
set_option maxHeartbeats 2000000 in
theorem mB_World_giveAt_27 {N : Nat} {p0 : Nat} {p1 : Nat} {p2 : Int32} {p3 : Int32} : ∀ (n : Nat) (l4 : Nat) (l5 : Int32) (H : Hp) (r : Unit × Hp), B_World_giveAt_27 N p0 p1 p2 p3 n l4 l5 H = some r → Sa H r.2 := by
  intro n
  induction n with
  | zero => intro l4 l5 H r hF; rw [B_World_giveAt_27] at hF; cases hF
  | succ n ih =>
    intro l4 l5 H r hF
    rw [B_World_giveAt_27] at hF
    have hm := Sa.rf H
    obtain ⟨q36, hG⟩ := ck_s hF; clear hF
    obtain ⟨a37, e38, hF⟩ := rf_s hG; clear hG
    obtain ⟨n39, q40, hG⟩ := ar_s hF; clear hF
    obtain ⟨q41, hF⟩ := ck_s hG; clear hG
    obtain ⟨x42, -, hG⟩ := bnd_g hF; clear hF
    rcases ite_s hG with ⟨q_4, hF⟩ | ⟨q_4, hF⟩
    · clear hG
      have hr := Option.some.inj hF; subst hr
      exact hm
    · clear hG
      obtain ⟨q44, hG⟩ := ck_s hF; clear hF
      obtain ⟨v46, H47, z45, hF⟩ := bC_s hG; clear hG
      replace hm : Sa H H47 := hm.tr (m_Program_firstValue z45)
      obtain ⟨q48, hG⟩ := ck_s hF; clear hF
      obtain ⟨v50, H51, z49, hF⟩ := bC_s hG; clear hG
      replace hm : Sa H H51 := hm.tr (m_World_write z49)
      exact hm.tr (ih l4 (l5 + 1) H51 r hF)
set_option maxRecDepth 20000 in
set_option maxHeartbeats 2000000 in
theorem kB_World_giveAt_27 {N : Nat} {p0 : Nat} {p1 : Nat} {p2 : Int32} {p3 : Int32} : ∀ (n : Nat) (l4 : Nat) (l5 : Int32) (H : Hp) (r : Unit × Hp), B_World_giveAt_27 N p0 p1 p2 p3 n l4 l5 H = some r → ab_V y_World_giveAt { frames := 1, cells := 0, slots := 0, locals := 24 } (po (.returned none) r.2) 0 0 0 0 27 [some (.ref p0), some (.ref p1), some (.int p2), some (.int p3), some (.ref l4), some (.int l5)] [] (hpw H) := by
  intro n
  induction n with
  | zero => intro l4 l5 H r hF; rw [B_World_giveAt_27] at hF; cases hF
  | succ n ih =>
    intro l4 l5 H r hF
    rw [B_World_giveAt_27] at hF
    refine ab_iload d_World_giveAt_27 rfl ?_
    refine ab_aload d_World_giveAt_29 rfl rfl ?_
    obtain ⟨q20, hG⟩ := ck_s hF; clear hF
    obtain ⟨a21, e22, hF⟩ := rf_s hG; clear hG
    refine hp_getR (f := 2) d_World_giveAt_31 q20 (by decide) rfl (by decide) (k3 37 rfl rfl) rfl e22 ?_
    refine ab_iload_n d_World_giveAt_34 rfl rfl ?_
    refine ab_iconst (v := 1) d_World_giveAt_35 (by decide) ?_
    refine ab_iadd d_World_giveAt_36 ?_
    obtain ⟨n23, q24, hG⟩ := ar_s hF; clear hF
    obtain ⟨q25, hF⟩ := ck_s hG; clear hG
    refine hp_iald d_World_giveAt_37 tI q24 q25 ?_
    refine ab_topi (fun x26 ex26 => ?_)
    replace hF := bnd_s ex26 hF
    refine ab_icmp_ge (tgt := 60) d_World_giveAt_38 (by decide) (fun q27 => ?_) (fun q27 => ?_)
    · rw [if_pos q27] at hF
      exact ab_vret d_World_giveAt_60 rfl (Nat.le_refl _) (Nat.le_refl _) (by have hr := Option.some.inj hF; subst hr; exact ⟨rfl, rfl⟩)
    · rw [if_neg q27] at hF
      refine ab_aload_n d_World_giveAt_41 rfl rfl rfl ?_
      refine ab_iload_n d_World_giveAt_42 rfl rfl ?_
      refine ab_iload d_World_giveAt_43 rfl ?_
      refine ab_aload_n d_World_giveAt_45 rfl rfl rfl ?_
      refine ab_iload d_World_giveAt_46 rfl ?_
      obtain ⟨q28, hG⟩ := ck_s hF; clear hF
      obtain ⟨v30, H31, z29, hF⟩ := bC_s hG; clear hG
      refine hp_callV_a (v := .int v30) (H1 := H31) (As := [.int l5]) (rest := [.int l5, .int p2, .ref p0]) d_World_giveAt_48 (k_Program_firstValue z29) (ab_mkC s_Program_firstValue (Nat.le_of_ble_eq_true rfl) (Nat.le_of_ble_eq_true rfl) (Nat.le_refl 0) (Nat.le_refl 0)) (k6 132 rfl rfl) i_Program_firstValue v_Program_firstValue q28 (by decide) rfl rfl (Nat.le_of_ble_eq_true rfl) ?_
      have s_2 : Sa H H31 := (m_Program_firstValue z29)
      obtain ⟨q32, hG⟩ := ck_s hF; clear hF
      rw [(s_2).1] at q32
      obtain ⟨v34, H35, z33, hF⟩ := bC_s hG; clear hG
      refine hp_callV_v (H1 := H35) (As := [.int p2, .int l5, .int v30]) (rest := []) d_World_giveAt_51 (k_World_write z33) (ab_mkC s_World_write (Nat.le_of_ble_eq_true rfl) (Nat.le_of_ble_eq_true rfl) (Nat.le_refl 0) (Nat.le_refl 0)) (k6 147 rfl rfl) i_World_write v_World_write (by rw [(s_2).1]; exact q32) (by decide) rfl rfl (Nat.le_of_ble_eq_true rfl) ?_
      have s_3 : Sa H H35 := (s_2).tr (m_World_write z33)
      refine ab_iinc (v := l5 + 1) (lv' := [some (.ref p0), some (.ref p1), some (.int p2), some (.int p3), some (.ref l4), some (.int (l5 + 1))]) d_World_giveAt_54 rfl rfl (by decide) rfl ?_
      refine ab_goto (tgt := 27) d_World_giveAt_57 (by decide) ?_
      exact ih l4 (l5 + 1) H35 r hF
def F_World_giveAt (N : Nat) (p0 : Nat) (p1 : Nat) (p2 : Int32) (p3 : Int32) (H : Hp) : Option (Unit × Hp) :=
    ck (H.sh[p0]? = some (7, 0)) <|
    rf (H.P p0 8) fun a2 =>
    ar H 100 a2 fun n4 =>
    ck (inb p2 n4) <|
    bnd ((H.D a2 (p2).toNatClampNeg)) fun x7 =>
    ck (inb p2 n4) <|
    bnd (H.sD a2 (p2).toNatClampNeg (x7 ||| ((1 : Int32) <<< (p3 &&& 31)))) fun H9 =>
    ck (H9.sh[p1]? = some (4, 0)) <|
    rf (H9.P p1 2) fun a11 =>
    ck (H9.sh[a11]? = some (3, 0)) <|
    rf (H9.P a11 2) fun a14 =>
    ar H9 100 a14 fun n16 =>
    ck (inb p3 n16) <|
    bnd ((H9.D a14 (p3).toNatClampNeg)) fun x19 =>
    B_World_giveAt_27 N p0 p1 p2 p3 N a11 x19 H9
set_option maxRecDepth 20000 in
set_option maxHeartbeats 2000000 in
theorem m_World_giveAt {N : Nat} {p0 : Nat} {p1 : Nat} {p2 : Int32} {p3 : Int32} {H : Hp} {r : Unit × Hp} (hF : F_World_giveAt N p0 p1 p2 p3 H = some r) : Sa H r.2 := by
  unfold F_World_giveAt at hF
  have hm := Sa.rf H
  obtain ⟨q52, hG⟩ := ck_s hF; clear hF
  obtain ⟨a53, e54, hF⟩ := rf_s hG; clear hG
  obtain ⟨n55, q56, hG⟩ := ar_s hF; clear hF
  obtain ⟨q57, hF⟩ := ck_s hG; clear hG
  obtain ⟨x58, -, hG⟩ := bnd_g hF; clear hF
  obtain ⟨q59, hF⟩ := ck_s hG; clear hG
  obtain ⟨H60, eH60, hG⟩ := bnd_g hF; clear hF
  replace hm : Sa H H60 := by rw [eH60]; exact hm
  obtain ⟨q61, hF⟩ := ck_s hG; clear hG
  obtain ⟨a62, e63, hG⟩ := rf_s hF; clear hF
  obtain ⟨q64, hF⟩ := ck_s hG; clear hG
  obtain ⟨a65, e66, hG⟩ := rf_s hF; clear hF
  obtain ⟨n67, q68, hF⟩ := ar_s hG; clear hG
  obtain ⟨q69, hG⟩ := ck_s hF; clear hF
  obtain ⟨x70, -, hF⟩ := bnd_g hG; clear hG
  exact hm.tr (mB_World_giveAt_27 N a62 x70 H60 r hF)
set_option maxRecDepth 20000 in
set_option maxHeartbeats 2000000 in
theorem k_World_giveAt {N : Nat} {p0 : Nat} {p1 : Nat} {p2 : Int32} {p3 : Int32} {H : Hp} {r : Unit × Hp} (hF : F_World_giveAt N p0 p1 p2 p3 H = some r) : ab_M y_World_giveAt { frames := 1, cells := 0, slots := 0, locals := 24 } [.ref p0, .ref p1, .int p2, .int p3] (hpw H) (po (.returned none) r.2) := by
  unfold F_World_giveAt at hF
  refine ab_of2 (lv := [some (.ref p0), some (.ref p1), some (.int p2), some (.int p3), none, none]) 2 rfl rfl (Nat.le_of_ble_eq_true rfl) ?_
  refine ab_aload_n d_World_giveAt_0 rfl rfl rfl ?_
  obtain ⟨q1, hG⟩ := ck_s hF; clear hF
  obtain ⟨a2, e3, hF⟩ := rf_s hG; clear hG
  refine hp_getR (f := 8) d_World_giveAt_1 q1 (by decide) rfl (by decide) (k1 229 rfl rfl) rfl e3 ?_
  refine ab_iload_n d_World_giveAt_4 rfl rfl ?_
  refine ab_dup2_11 d_World_giveAt_5 rfl rfl ?_
  obtain ⟨n4, q5, hG⟩ := ar_s hF; clear hF
  obtain ⟨q6, hF⟩ := ck_s hG; clear hG
  refine hp_iald d_World_giveAt_6 tI q5 q6 ?_
  refine ab_topi (fun x7 ex7 => ?_)
  replace hF := bnd_s ex7 hF
  refine ab_iconst (v := 1) d_World_giveAt_7 (by decide) ?_
  refine ab_iload_n d_World_giveAt_8 rfl rfl ?_
  refine ab_ishl d_World_giveAt_9 ?_
  refine ab_ior d_World_giveAt_10 ?_
  obtain ⟨q8, hG⟩ := ck_s hF; clear hF
  refine hp_iast d_World_giveAt_11 tI q5 q8 ?_
  refine hp_gen (fun H9 eH9 => ?_)
  replace hG := bnd_s eH9 hG
  have s_1 : Sa H H9 := by rw [eH9]; exact Sa.rf _
  refine ab_aload_n d_World_giveAt_12 rfl rfl rfl ?_
  obtain ⟨q10, hF⟩ := ck_s hG; clear hG
  rw [(s_1).1] at q10
  obtain ⟨a11, e12, hG⟩ := rf_s hF; clear hF
  refine hp_getR (f := 2) d_World_giveAt_13 (by rw [(s_1).1]; exact q10) (by decide) rfl (by decide) (k3 61 rfl rfl) rfl e12 ?_
  refine ab_astore (lv' := [some (.ref p0), some (.ref p1), some (.int p2), some (.int p3), some (.ref a11), none]) d_World_giveAt_16 (by decide) rfl rfl ?_
  refine ab_aload d_World_giveAt_18 rfl rfl ?_
  obtain ⟨q13, hF⟩ := ck_s hG; clear hG
  rw [(s_1).1] at q13
  obtain ⟨a14, e15, hG⟩ := rf_s hF; clear hF
  refine hp_getR (f := 2) d_World_giveAt_20 (by rw [(s_1).1]; exact q13) (by decide) rfl (by decide) (k3 37 rfl rfl) rfl e15 ?_
  refine ab_iload_n d_World_giveAt_23 rfl rfl ?_
  obtain ⟨n16, q17, hF⟩ := ar_s hG; clear hG
  rw [(s_1).1] at q17
  obtain ⟨q18, hG⟩ := ck_s hF; clear hF
  refine hp_iald d_World_giveAt_24 tI (by rw [(s_1).1]; exact q17) q18 ?_
  refine ab_topi (fun x19 ex19 => ?_)
  replace hG := bnd_s ex19 hG
  refine ab_istore (lv' := [some (.ref p0), some (.ref p1), some (.int p2), some (.int p3), some (.ref a11), some (.int x19)]) d_World_giveAt_25 (by decide) rfl ?_
  exact kB_World_giveAt_27 N a11 x19 H9 r hG
def y_World_takeAt : ab_Y := (⟨"WorldEngine$World", "takeAt", "(II)V"⟩, prog_12_method_16_code, 3, none, [])
theorem d_World_takeAt_0 : decode y_World_takeAt.2.1 0 = .ok (.aload_n 0, 1) := by decide +kernel
theorem d_World_takeAt_1 : decode y_World_takeAt.2.1 1 = .ok (.getfield 13, 3) := by decide +kernel
theorem d_World_takeAt_4 : decode y_World_takeAt.2.1 4 = .ok (.iload_n 1, 1) := by decide +kernel
theorem d_World_takeAt_5 : decode y_World_takeAt.2.1 5 = .ok (.dup2, 1) := by decide +kernel
theorem d_World_takeAt_6 : decode y_World_takeAt.2.1 6 = .ok (.iaload, 1) := by decide +kernel
theorem d_World_takeAt_7 : decode y_World_takeAt.2.1 7 = .ok (.iconst 1, 1) := by decide +kernel
theorem d_World_takeAt_8 : decode y_World_takeAt.2.1 8 = .ok (.iload_n 2, 1) := by decide +kernel
theorem d_World_takeAt_9 : decode y_World_takeAt.2.1 9 = .ok (.ishl, 1) := by decide +kernel
theorem d_World_takeAt_10 : decode y_World_takeAt.2.1 10 = .ok (.iconst (-1), 1) := by decide +kernel
theorem d_World_takeAt_11 : decode y_World_takeAt.2.1 11 = .ok (.ixor, 1) := by decide +kernel
theorem d_World_takeAt_12 : decode y_World_takeAt.2.1 12 = .ok (.iand, 1) := by decide +kernel
theorem d_World_takeAt_13 : decode y_World_takeAt.2.1 13 = .ok (.iastore, 1) := by decide +kernel
theorem d_World_takeAt_14 : decode y_World_takeAt.2.1 14 = .ok (.return_, 1) := by decide +kernel
theorem s_World_takeAt : ab_Stat y_World_takeAt 2 := ⟨(k7 125 rfl rfl), (k1 10 rfl rfl), ⟨by decide, by decide⟩, by decide +kernel⟩
theorem i_World_takeAt : Cond.instanceMethod y_World_takeAt.1 ∈ ab_T := (k7 123 rfl rfl)
theorem v_World_takeAt : Cond.selects "WorldEngine$World" y_World_takeAt.1 y_World_takeAt.1 ∈ ab_T := (k7 124 rfl rfl)
def F_World_takeAt (N : Nat) (p0 : Nat) (p1 : Int32) (p2 : Int32) (H : Hp) : Option (Unit × Hp) :=
    ck (H.sh[p0]? = some (7, 0)) <|
    rf (H.P p0 8) fun a2 =>
    ar H 100 a2 fun n4 =>
    ck (inb p1 n4) <|
    bnd ((H.D a2 (p1).toNatClampNeg)) fun x7 =>
    ck (inb p1 n4) <|
    bnd (H.sD a2 (p1).toNatClampNeg (x7 &&& (((1 : Int32) <<< (p2 &&& 31)) ^^^ ((-1) : Int32)))) fun H9 =>
    some ((), H9)
set_option maxRecDepth 20000 in
set_option maxHeartbeats 2000000 in
theorem m_World_takeAt {N : Nat} {p0 : Nat} {p1 : Int32} {p2 : Int32} {H : Hp} {r : Unit × Hp} (hF : F_World_takeAt N p0 p1 p2 H = some r) : Sa H r.2 := by
  unfold F_World_takeAt at hF
  have hm := Sa.rf H
  obtain ⟨q10, hG⟩ := ck_s hF; clear hF
  obtain ⟨a11, e12, hF⟩ := rf_s hG; clear hG
  obtain ⟨n13, q14, hG⟩ := ar_s hF; clear hF
  obtain ⟨q15, hF⟩ := ck_s hG; clear hG
  obtain ⟨x16, -, hG⟩ := bnd_g hF; clear hF
  obtain ⟨q17, hF⟩ := ck_s hG; clear hG
  obtain ⟨H18, eH18, hG⟩ := bnd_g hF; clear hF
  replace hm : Sa H H18 := by rw [eH18]; exact hm
  have hr := Option.some.inj hG; subst hr
  exact hm
set_option maxRecDepth 20000 in
set_option maxHeartbeats 2000000 in
theorem k_World_takeAt {N : Nat} {p0 : Nat} {p1 : Int32} {p2 : Int32} {H : Hp} {r : Unit × Hp} (hF : F_World_takeAt N p0 p1 p2 H = some r) : ab_M y_World_takeAt { frames := 0, cells := 0, slots := 0, locals := 0 } [.ref p0, .int p1, .int p2] (hpw H) (po (.returned none) r.2) := by
  unfold F_World_takeAt at hF
  refine ab_of2 (lv := [some (.ref p0), some (.int p1), some (.int p2)]) 0 rfl rfl (Nat.le_of_ble_eq_true rfl) ?_
  refine ab_aload_n d_World_takeAt_0 rfl rfl rfl ?_
  obtain ⟨q1, hG⟩ := ck_s hF; clear hF
  obtain ⟨a2, e3, hF⟩ := rf_s hG; clear hG
  refine hp_getR (f := 8) d_World_takeAt_1 q1 (by decide) rfl (by decide) (k1 229 rfl rfl) rfl e3 ?_
  refine ab_iload_n d_World_takeAt_4 rfl rfl ?_
  refine ab_dup2_11 d_World_takeAt_5 rfl rfl ?_
  obtain ⟨n4, q5, hG⟩ := ar_s hF; clear hF
  obtain ⟨q6, hF⟩ := ck_s hG; clear hG
  refine hp_iald d_World_takeAt_6 tI q5 q6 ?_
  refine ab_topi (fun x7 ex7 => ?_)
  replace hF := bnd_s ex7 hF
  refine ab_iconst (v := 1) d_World_takeAt_7 (by decide) ?_
  refine ab_iload_n d_World_takeAt_8 rfl rfl ?_
  refine ab_ishl d_World_takeAt_9 ?_
  refine ab_iconst (v := (-1)) d_World_takeAt_10 (by decide) ?_
  refine ab_ixor d_World_takeAt_11 ?_
  refine ab_iand d_World_takeAt_12 ?_
  obtain ⟨q8, hG⟩ := ck_s hF; clear hF
  refine hp_iast d_World_takeAt_13 tI q5 q8 ?_
  refine hp_gen (fun H9 eH9 => ?_)
  replace hG := bnd_s eH9 hG
  have s_1 : Sa H H9 := by rw [eH9]; exact Sa.rf _
  exact ab_vret d_World_takeAt_14 rfl (Nat.le_refl _) (Nat.le_refl _) (by have hr := Option.some.inj hG; subst hr; exact ⟨rfl, rfl⟩)
def y_Ticker_actOn : ab_Y := (⟨"WorldEngine$Ticker", "actOn", "([III)Z"⟩, prog_11_method_8_code, 6, (some FieldType.boolean), [])
theorem d_Ticker_actOn_0 : decode y_Ticker_actOn.2.1 0 = .ok (.iload_n 3, 1) := by decide +kernel
theorem d_Ticker_actOn_1 : decode y_Ticker_actOn.2.1 1 = .ok (.ifCond .ge 5, 3) := by decide +kernel
theorem d_Ticker_actOn_4 : decode y_Ticker_actOn.2.1 4 = .ok (.iconst 0, 1) := by decide +kernel
theorem d_Ticker_actOn_5 : decode y_Ticker_actOn.2.1 5 = .ok (.ireturn, 1) := by decide +kernel
theorem d_Ticker_actOn_6 : decode y_Ticker_actOn.2.1 6 = .ok (.aload_n 1, 1) := by decide +kernel
theorem d_Ticker_actOn_7 : decode y_Ticker_actOn.2.1 7 = .ok (.iload_n 2, 1) := by decide +kernel
theorem d_Ticker_actOn_8 : decode y_Ticker_actOn.2.1 8 = .ok (.iaload, 1) := by decide +kernel
theorem d_Ticker_actOn_9 : decode y_Ticker_actOn.2.1 9 = .ok (.istore 4, 2) := by decide +kernel
theorem d_Ticker_actOn_11 : decode y_Ticker_actOn.2.1 11 = .ok (.iload 4, 2) := by decide +kernel
theorem d_Ticker_actOn_13 : decode y_Ticker_actOn.2.1 13 = .ok (.bipush 21, 2) := by decide +kernel
theorem d_Ticker_actOn_15 : decode y_Ticker_actOn.2.1 15 = .ok (.if_icmp .ne 13, 3) := by decide +kernel
theorem d_Ticker_actOn_18 : decode y_Ticker_actOn.2.1 18 = .ok (.aload_n 0, 1) := by decide +kernel
theorem d_Ticker_actOn_19 : decode y_Ticker_actOn.2.1 19 = .ok (.getfield 20, 3) := by decide +kernel
theorem d_Ticker_actOn_22 : decode y_Ticker_actOn.2.1 22 = .ok (.iload_n 3, 1) := by decide +kernel
theorem d_Ticker_actOn_23 : decode y_Ticker_actOn.2.1 23 = .ok (.invokevirtual 130, 3) := by decide +kernel
theorem d_Ticker_actOn_26 : decode y_Ticker_actOn.2.1 26 = .ok (.iconst 1, 1) := by decide +kernel
theorem d_Ticker_actOn_27 : decode y_Ticker_actOn.2.1 27 = .ok (.ireturn, 1) := by decide +kernel
theorem d_Ticker_actOn_28 : decode y_Ticker_actOn.2.1 28 = .ok (.aload_n 1, 1) := by decide +kernel
theorem d_Ticker_actOn_29 : decode y_Ticker_actOn.2.1 29 = .ok (.iload_n 2, 1) := by decide +kernel
theorem d_Ticker_actOn_30 : decode y_Ticker_actOn.2.1 30 = .ok (.iconst 2, 1) := by decide +kernel
theorem d_Ticker_actOn_31 : decode y_Ticker_actOn.2.1 31 = .ok (.iadd, 1) := by decide +kernel
theorem d_Ticker_actOn_32 : decode y_Ticker_actOn.2.1 32 = .ok (.iaload, 1) := by decide +kernel
theorem d_Ticker_actOn_33 : decode y_Ticker_actOn.2.1 33 = .ok (.istore 5, 2) := by decide +kernel
theorem d_Ticker_actOn_35 : decode y_Ticker_actOn.2.1 35 = .ok (.aload_n 0, 1) := by decide +kernel
theorem d_Ticker_actOn_36 : decode y_Ticker_actOn.2.1 36 = .ok (.getfield 20, 3) := by decide +kernel
theorem d_Ticker_actOn_39 : decode y_Ticker_actOn.2.1 39 = .ok (.iload_n 3, 1) := by decide +kernel
theorem d_Ticker_actOn_40 : decode y_Ticker_actOn.2.1 40 = .ok (.iload 5, 2) := by decide +kernel
theorem d_Ticker_actOn_42 : decode y_Ticker_actOn.2.1 42 = .ok (.invokevirtual 133, 3) := by decide +kernel
theorem d_Ticker_actOn_45 : decode y_Ticker_actOn.2.1 45 = .ok (.iload 4, 2) := by decide +kernel
theorem d_Ticker_actOn_47 : decode y_Ticker_actOn.2.1 47 = .ok (.bipush 22, 2) := by decide +kernel
theorem d_Ticker_actOn_49 : decode y_Ticker_actOn.2.1 49 = .ok (.if_icmp .ne 7, 3) := by decide +kernel
theorem d_Ticker_actOn_52 : decode y_Ticker_actOn.2.1 52 = .ok (.iconst 1, 1) := by decide +kernel
theorem d_Ticker_actOn_53 : decode y_Ticker_actOn.2.1 53 = .ok (.goto 4, 3) := by decide +kernel
theorem d_Ticker_actOn_56 : decode y_Ticker_actOn.2.1 56 = .ok (.iconst 0, 1) := by decide +kernel
theorem d_Ticker_actOn_57 : decode y_Ticker_actOn.2.1 57 = .ok (.if_icmp .ne 5, 3) := by decide +kernel
theorem d_Ticker_actOn_60 : decode y_Ticker_actOn.2.1 60 = .ok (.iconst 0, 1) := by decide +kernel
theorem d_Ticker_actOn_61 : decode y_Ticker_actOn.2.1 61 = .ok (.ireturn, 1) := by decide +kernel
theorem d_Ticker_actOn_62 : decode y_Ticker_actOn.2.1 62 = .ok (.iload 4, 2) := by decide +kernel
theorem d_Ticker_actOn_64 : decode y_Ticker_actOn.2.1 64 = .ok (.bipush 22, 2) := by decide +kernel
theorem d_Ticker_actOn_66 : decode y_Ticker_actOn.2.1 66 = .ok (.if_icmp .ne 20, 3) := by decide +kernel
theorem d_Ticker_actOn_69 : decode y_Ticker_actOn.2.1 69 = .ok (.aload_n 0, 1) := by decide +kernel
theorem d_Ticker_actOn_70 : decode y_Ticker_actOn.2.1 70 = .ok (.getfield 20, 3) := by decide +kernel
theorem d_Ticker_actOn_73 : decode y_Ticker_actOn.2.1 73 = .ok (.aload_n 0, 1) := by decide +kernel
theorem d_Ticker_actOn_74 : decode y_Ticker_actOn.2.1 74 = .ok (.getfield 16, 3) := by decide +kernel
theorem d_Ticker_actOn_77 : decode y_Ticker_actOn.2.1 77 = .ok (.iload_n 3, 1) := by decide +kernel
theorem d_Ticker_actOn_78 : decode y_Ticker_actOn.2.1 78 = .ok (.iload 5, 2) := by decide +kernel
theorem d_Ticker_actOn_80 : decode y_Ticker_actOn.2.1 80 = .ok (.invokevirtual 137, 3) := by decide +kernel
theorem d_Ticker_actOn_83 : decode y_Ticker_actOn.2.1 83 = .ok (.goto 41, 3) := by decide +kernel
theorem d_Ticker_actOn_86 : decode y_Ticker_actOn.2.1 86 = .ok (.iload 4, 2) := by decide +kernel
theorem d_Ticker_actOn_88 : decode y_Ticker_actOn.2.1 88 = .ok (.bipush 23, 2) := by decide +kernel
theorem d_Ticker_actOn_90 : decode y_Ticker_actOn.2.1 90 = .ok (.if_icmp .ne 16, 3) := by decide +kernel
theorem d_Ticker_actOn_93 : decode y_Ticker_actOn.2.1 93 = .ok (.aload_n 0, 1) := by decide +kernel
theorem d_Ticker_actOn_94 : decode y_Ticker_actOn.2.1 94 = .ok (.getfield 20, 3) := by decide +kernel
theorem d_Ticker_actOn_97 : decode y_Ticker_actOn.2.1 97 = .ok (.iload_n 3, 1) := by decide +kernel
theorem d_Ticker_actOn_98 : decode y_Ticker_actOn.2.1 98 = .ok (.iload 5, 2) := by decide +kernel
theorem d_Ticker_actOn_100 : decode y_Ticker_actOn.2.1 100 = .ok (.invokevirtual 141, 3) := by decide +kernel
theorem d_Ticker_actOn_103 : decode y_Ticker_actOn.2.1 103 = .ok (.goto 21, 3) := by decide +kernel
theorem d_Ticker_actOn_106 : decode y_Ticker_actOn.2.1 106 = .ok (.aload_n 0, 1) := by decide +kernel
theorem d_Ticker_actOn_107 : decode y_Ticker_actOn.2.1 107 = .ok (.getfield 20, 3) := by decide +kernel
theorem d_Ticker_actOn_110 : decode y_Ticker_actOn.2.1 110 = .ok (.iload_n 3, 1) := by decide +kernel
theorem d_Ticker_actOn_111 : decode y_Ticker_actOn.2.1 111 = .ok (.aload_n 1, 1) := by decide +kernel
theorem d_Ticker_actOn_112 : decode y_Ticker_actOn.2.1 112 = .ok (.iload_n 2, 1) := by decide +kernel
theorem d_Ticker_actOn_113 : decode y_Ticker_actOn.2.1 113 = .ok (.iconst 3, 1) := by decide +kernel
theorem d_Ticker_actOn_114 : decode y_Ticker_actOn.2.1 114 = .ok (.iadd, 1) := by decide +kernel
theorem d_Ticker_actOn_115 : decode y_Ticker_actOn.2.1 115 = .ok (.iaload, 1) := by decide +kernel
theorem d_Ticker_actOn_116 : decode y_Ticker_actOn.2.1 116 = .ok (.aload_n 1, 1) := by decide +kernel
theorem d_Ticker_actOn_117 : decode y_Ticker_actOn.2.1 117 = .ok (.iload_n 2, 1) := by decide +kernel
theorem d_Ticker_actOn_118 : decode y_Ticker_actOn.2.1 118 = .ok (.iconst 4, 1) := by decide +kernel
theorem d_Ticker_actOn_119 : decode y_Ticker_actOn.2.1 119 = .ok (.iadd, 1) := by decide +kernel
theorem d_Ticker_actOn_120 : decode y_Ticker_actOn.2.1 120 = .ok (.iaload, 1) := by decide +kernel
theorem d_Ticker_actOn_121 : decode y_Ticker_actOn.2.1 121 = .ok (.invokevirtual 111, 3) := by decide +kernel
theorem d_Ticker_actOn_124 : decode y_Ticker_actOn.2.1 124 = .ok (.iconst 1, 1) := by decide +kernel
theorem d_Ticker_actOn_125 : decode y_Ticker_actOn.2.1 125 = .ok (.ireturn, 1) := by decide +kernel
theorem s_Ticker_actOn : ab_Stat y_Ticker_actOn 3 := ⟨(k7 112 rfl rfl), (k1 12 rfl rfl), ⟨by decide, by decide⟩, by decide +kernel⟩
theorem i_Ticker_actOn : Cond.instanceMethod y_Ticker_actOn.1 ∈ ab_T := (k7 111 rfl rfl)
theorem v_Ticker_actOn : Cond.selects "WorldEngine$Ticker" y_Ticker_actOn.1 y_Ticker_actOn.1 ∈ ab_T := ab_s (List.mem_of_getElem? (i := 87) rfl) rfl
def B_Ticker_actOn_57 (N : Nat) (p0 : Nat) (p1 : Nat) (p2 : Int32) (p3 : Int32) (l4 : Int32) (l5 : Int32) (w0 : Int32) (w1 : Int32) (H : Hp) : Option (Int32 × Hp) :=
    if w0 = w1 then
    some (0, H)
    else
    if l4 = (22 : Int32) then
    ck (H.sh[p0]? = some (9, 0)) <|
    rf (H.P p0 2) fun a41 =>
    rf (H.P p0 1) fun a43 =>
    ck (H.sh[a41]? = some (7, 0)) <|
    bC (F_World_giveAt N a41 a43 p3 l5 H) fun v47 H48 =>
    some (1, H48)
    else
    if l4 = (23 : Int32) then
    ck (H.sh[p0]? = some (9, 0)) <|
    rf (H.P p0 2) fun a34 =>
    ck (H.sh[a34]? = some (7, 0)) <|
    bC (F_World_takeAt N a34 p3 l5 H) fun v38 H39 =>
    some (1, H39)
    else
    ck (H.sh[p0]? = some (9, 0)) <|
    rf (H.P p0 2) fun a21 =>
    ar H 100 p1 fun n23 =>
    ck (inb (p2 + (3 : Int32)) n23) <|
    bnd ((H.D p1 ((p2 + (3 : Int32))).toNatClampNeg)) fun x26 =>
    ck (inb (p2 + (4 : Int32)) n23) <|
    bnd ((H.D p1 ((p2 + (4 : Int32))).toNatClampNeg)) fun x28 =>
    ck (H.sh[a21]? = some (7, 0)) <|
    bC (F_World_write N a21 p3 x26 x28 H) fun v31 H32 =>
    some (1, H32)
set_option maxRecDepth 20000 in
set_option maxHeartbeats 2000000 in
theorem mB_Ticker_actOn_57 {N : Nat} {p0 : Nat} {p1 : Nat} {p2 : Int32} {p3 : Int32} {l4 : Int32} {l5 : Int32} {w0 : Int32} {w1 : Int32} {H : Hp} {r : Int32 × Hp} (hF : B_Ticker_actOn_57 N p0 p1 p2 p3 l4 l5 w0 w1 H = some r) : Sa H r.2 := by
  unfold B_Ticker_actOn_57 at hF
  have hm := Sa.rf H
  rcases ite_s hF with ⟨q_5, hG⟩ | ⟨q_5, hG⟩
  · clear hF
    have hr := Option.some.inj hG; subst hr
    exact hm
  · clear hF
    rcases ite_s hG with ⟨q_6, hF⟩ | ⟨q_6, hF⟩
    · clear hG
      obtain ⟨q51, hG⟩ := ck_s hF; clear hF
      obtain ⟨a52, e53, hF⟩ := rf_s hG; clear hG
      obtain ⟨a54, e55, hG⟩ := rf_s hF; clear hF
      obtain ⟨q56, hF⟩ := ck_s hG; clear hG
      obtain ⟨v58, H59, z57, hG⟩ := bC_s hF; clear hF
      replace hm : Sa H H59 := hm.tr (m_World_giveAt z57)
      have hr := Option.some.inj hG; subst hr
      exact hm
    · clear hG
      rcases ite_s hF with ⟨q_8, hG⟩ | ⟨q_8, hG⟩
      · clear hF
        obtain ⟨q61, hF⟩ := ck_s hG; clear hG
        obtain ⟨a62, e63, hG⟩ := rf_s hF; clear hF
        obtain ⟨q64, hF⟩ := ck_s hG; clear hG
        obtain ⟨v66, H67, z65, hG⟩ := bC_s hF; clear hF
        replace hm : Sa H H67 := hm.tr (m_World_takeAt z65)
        have hr := Option.some.inj hG; subst hr
        exact hm
      · clear hF
        obtain ⟨q68, hF⟩ := ck_s hG; clear hG
        obtain ⟨a69, e70, hG⟩ := rf_s hF; clear hF
        obtain ⟨n71, q72, hF⟩ := ar_s hG; clear hG
        obtain ⟨q73, hG⟩ := ck_s hF; clear hF
        obtain ⟨x74, -, hF⟩ := bnd_g hG; clear hG
        obtain ⟨q75, hG⟩ := ck_s hF; clear hF
        obtain ⟨x76, -, hF⟩ := bnd_g hG; clear hG
        obtain ⟨q77, hG⟩ := ck_s hF; clear hF
        obtain ⟨v79, H80, z78, hF⟩ := bC_s hG; clear hG
        replace hm : Sa H H80 := hm.tr (m_World_write z78)
        have hr := Option.some.inj hF; subst hr
        exact hm
set_option maxRecDepth 20000 in
set_option maxHeartbeats 2000000 in
theorem kB_Ticker_actOn_57 {N : Nat} {p0 : Nat} {p1 : Nat} {p2 : Int32} {p3 : Int32} {l4 : Int32} {l5 : Int32} {w0 : Int32} {w1 : Int32} {H : Hp} {r : Int32 × Hp} (hF : B_Ticker_actOn_57 N p0 p1 p2 p3 l4 l5 w0 w1 H = some r) : ab_V y_Ticker_actOn { frames := 2, cells := 0, slots := 0, locals := 49 } (po (.returned (some (.int r.1))) r.2) 0 0 0 0 57 [some (.ref p0), some (.ref p1), some (.int p2), some (.int p3), some (.int l4), some (.int l5)] [.int w1, .int w0] (hpw H) := by
  unfold B_Ticker_actOn_57 at hF
  refine ab_icmp_ne (tgt := 62) d_Ticker_actOn_57 (by decide) (fun q17 => ?_) (fun q17 => ?_)
  · rw [if_neg q17] at hF
    refine ab_iload d_Ticker_actOn_62 rfl ?_
    refine ab_bipush (v := 22) d_Ticker_actOn_64 (by decide) ?_
    refine ab_icmp_ne (tgt := 86) d_Ticker_actOn_66 (by decide) (fun q18 => ?_) (fun q18 => ?_)
    · rw [if_neg q18] at hF
      refine ab_iload d_Ticker_actOn_86 rfl ?_
      refine ab_bipush (v := 23) d_Ticker_actOn_88 (by decide) ?_
      refine ab_icmp_ne (tgt := 106) d_Ticker_actOn_90 (by decide) (fun q19 => ?_) (fun q19 => ?_)
      · rw [if_neg q19] at hF
        refine ab_aload_n d_Ticker_actOn_106 rfl rfl rfl ?_
        obtain ⟨q20, hG⟩ := ck_s hF; clear hF
        obtain ⟨a21, e22, hF⟩ := rf_s hG; clear hG
        refine hp_getR (f := 2) d_Ticker_actOn_107 q20 (by decide) rfl (by decide) (k2 122 rfl rfl) rfl e22 ?_
        refine ab_iload_n d_Ticker_actOn_110 rfl rfl ?_
        refine ab_aload_n d_Ticker_actOn_111 rfl rfl rfl ?_
        refine ab_iload_n d_Ticker_actOn_112 rfl rfl ?_
        refine ab_iconst (v := 3) d_Ticker_actOn_113 (by decide) ?_
        refine ab_iadd d_Ticker_actOn_114 ?_
        obtain ⟨n23, q24, hG⟩ := ar_s hF; clear hF
        obtain ⟨q25, hF⟩ := ck_s hG; clear hG
        refine hp_iald d_Ticker_actOn_115 tI q24 q25 ?_
        refine ab_topi (fun x26 ex26 => ?_)
        replace hF := bnd_s ex26 hF
        refine ab_aload_n d_Ticker_actOn_116 rfl rfl rfl ?_
        refine ab_iload_n d_Ticker_actOn_117 rfl rfl ?_
        refine ab_iconst (v := 4) d_Ticker_actOn_118 (by decide) ?_
        refine ab_iadd d_Ticker_actOn_119 ?_
        obtain ⟨q27, hG⟩ := ck_s hF; clear hF
        refine hp_iald d_Ticker_actOn_120 tI q24 q27 ?_
        refine ab_topi (fun x28 ex28 => ?_)
        replace hG := bnd_s ex28 hG
        obtain ⟨q29, hF⟩ := ck_s hG; clear hG
        obtain ⟨v31, H32, z30, hG⟩ := bC_s hF; clear hF
        refine hp_callV_v (H1 := H32) (As := [.int p3, .int x26, .int x28]) (rest := []) d_Ticker_actOn_121 (k_World_write z30) (ab_mkC s_World_write (Nat.le_of_ble_eq_true rfl) (Nat.le_of_ble_eq_true rfl) (Nat.le_refl 0) (Nat.le_refl 0)) (k7 98 rfl rfl) i_World_write v_World_write q29 (by decide) rfl rfl (Nat.le_of_ble_eq_true rfl) ?_
        have s_2 : Sa H H32 := (m_World_write z30)
        refine ab_iconst (v := 1) d_Ticker_actOn_124 (by decide) ?_
        exact ab_zret d_Ticker_actOn_125 rfl rfl (Nat.le_refl _) (Nat.le_refl _) (by have hr := Option.some.inj hG; subst hr; exact ⟨rfl, rfl⟩)
      · rw [if_pos q19] at hF
        refine ab_aload_n d_Ticker_actOn_93 rfl rfl rfl ?_
        obtain ⟨q33, hG⟩ := ck_s hF; clear hF
        obtain ⟨a34, e35, hF⟩ := rf_s hG; clear hG
        refine hp_getR (f := 2) d_Ticker_actOn_94 q33 (by decide) rfl (by decide) (k2 122 rfl rfl) rfl e35 ?_
        refine ab_iload_n d_Ticker_actOn_97 rfl rfl ?_
        refine ab_iload d_Ticker_actOn_98 rfl ?_
        obtain ⟨q36, hG⟩ := ck_s hF; clear hF
        obtain ⟨v38, H39, z37, hF⟩ := bC_s hG; clear hG
        refine hp_callV_v (H1 := H39) (As := [.int p3, .int l5]) (rest := []) d_Ticker_actOn_100 (k_World_takeAt z37) (ab_mkC s_World_takeAt (Nat.le_of_ble_eq_true rfl) (Nat.le_of_ble_eq_true rfl) (Nat.le_refl 0) (Nat.le_refl 0)) (k7 122 rfl rfl) i_World_takeAt v_World_takeAt q36 (by decide) rfl rfl (Nat.le_of_ble_eq_true rfl) ?_
        have s_3 : Sa H H39 := (m_World_takeAt z37)
        refine ab_goto (tgt := 124) d_Ticker_actOn_103 (by decide) ?_
        refine ab_iconst (v := 1) d_Ticker_actOn_124 (by decide) ?_
        exact ab_zret d_Ticker_actOn_125 rfl rfl (Nat.le_refl _) (Nat.le_refl _) (by have hr := Option.some.inj hF; subst hr; exact ⟨rfl, rfl⟩)
    · rw [if_pos q18] at hF
      refine ab_aload_n d_Ticker_actOn_69 rfl rfl rfl ?_
      obtain ⟨q40, hG⟩ := ck_s hF; clear hF
      obtain ⟨a41, e42, hF⟩ := rf_s hG; clear hG
      refine hp_getR (f := 2) d_Ticker_actOn_70 q40 (by decide) rfl (by decide) (k2 122 rfl rfl) rfl e42 ?_
      refine ab_aload_n d_Ticker_actOn_73 rfl rfl rfl ?_
      obtain ⟨a43, e44, hG⟩ := rf_s hF; clear hF
      refine hp_getR (f := 1) d_Ticker_actOn_74 q40 (by decide) rfl (by decide) (k2 121 rfl rfl) rfl e44 ?_
      refine ab_iload_n d_Ticker_actOn_77 rfl rfl ?_
      refine ab_iload d_Ticker_actOn_78 rfl ?_
      obtain ⟨q45, hF⟩ := ck_s hG; clear hG
      obtain ⟨v47, H48, z46, hG⟩ := bC_s hF; clear hF
      refine hp_callV_v (H1 := H48) (As := [.ref a43, .int p3, .int l5]) (rest := []) d_Ticker_actOn_80 (k_World_giveAt z46) (ab_mkC s_World_giveAt (Nat.le_of_ble_eq_true rfl) (Nat.le_of_ble_eq_true rfl) (Nat.le_refl 0) (Nat.le_refl 0)) (k7 118 rfl rfl) i_World_giveAt v_World_giveAt q45 (by decide) rfl rfl (Nat.le_of_ble_eq_true rfl) ?_
      have s_4 : Sa H H48 := (m_World_giveAt z46)
      refine ab_goto (tgt := 124) d_Ticker_actOn_83 (by decide) ?_
      refine ab_iconst (v := 1) d_Ticker_actOn_124 (by decide) ?_
      exact ab_zret d_Ticker_actOn_125 rfl rfl (Nat.le_refl _) (Nat.le_refl _) (by have hr := Option.some.inj hG; subst hr; exact ⟨rfl, rfl⟩)
  · rw [if_pos q17] at hF
    refine ab_iconst (v := 0) d_Ticker_actOn_60 (by decide) ?_
    exact ab_zret d_Ticker_actOn_61 rfl rfl (Nat.le_refl _) (Nat.le_refl _) (by have hr := Option.some.inj hF; subst hr; exact ⟨rfl, rfl⟩)
def F_Ticker_actOn (N : Nat) (p0 : Nat) (p1 : Nat) (p2 : Int32) (p3 : Int32) (H : Hp) : Option (Int32 × Hp) :=
    if (0 : Int32) ≤ p3 then
    ar H 100 p1 fun n2 =>
    ck (inb p2 n2) <|
    bnd ((H.D p1 (p2).toNatClampNeg)) fun x5 =>
    if x5 = (21 : Int32) then
    ck (H.sh[p0]? = some (9, 0)) <|
    rf (H.P p0 2) fun a82 =>
    ck (H.sh[a82]? = some (7, 0)) <|
    bC (F_World_remove N a82 p3 H) fun v86 H87 =>
    some (1, H87)
    else
    ck (inb (p2 + (2 : Int32)) n2) <|
    bnd ((H.D p1 ((p2 + (2 : Int32))).toNatClampNeg)) fun x8 =>
    ck (H.sh[p0]? = some (9, 0)) <|
    rf (H.P p0 2) fun a10 =>
    ck (H.sh[a10]? = some (7, 0)) <|
    bC (F_World_owns N a10 p3 x8 H) fun v14 H15 =>
    if x5 = (22 : Int32) then
    B_Ticker_actOn_57 N p0 p1 p2 p3 x5 x8 v14 1 H15
    else
    B_Ticker_actOn_57 N p0 p1 p2 p3 x5 x8 v14 0 H15
    else
    some (0, H)
set_option maxRecDepth 20000 in
set_option maxHeartbeats 2000000 in
theorem m_Ticker_actOn {N : Nat} {p0 : Nat} {p1 : Nat} {p2 : Int32} {p3 : Int32} {H : Hp} {r : Int32 × Hp} (hF : F_Ticker_actOn N p0 p1 p2 p3 H = some r) : Sa H r.2 := by
  unfold F_Ticker_actOn at hF
  have hm := Sa.rf H
  rcases ite_s hF with ⟨q_12, hG⟩ | ⟨q_12, hG⟩
  · clear hF
    obtain ⟨n89, q90, hF⟩ := ar_s hG; clear hG
    obtain ⟨q91, hG⟩ := ck_s hF; clear hF
    obtain ⟨x92, -, hF⟩ := bnd_g hG; clear hG
    rcases ite_s hF with ⟨q_13, hG⟩ | ⟨q_13, hG⟩
    · clear hF
      obtain ⟨q94, hF⟩ := ck_s hG; clear hG
      obtain ⟨a95, e96, hG⟩ := rf_s hF; clear hF
      obtain ⟨q97, hF⟩ := ck_s hG; clear hG
      obtain ⟨v99, H100, z98, hG⟩ := bC_s hF; clear hF
      replace hm : Sa H H100 := hm.tr (m_World_remove z98)
      have hr := Option.some.inj hG; subst hr
      exact hm
    · clear hF
      obtain ⟨q101, hF⟩ := ck_s hG; clear hG
      obtain ⟨x102, -, hG⟩ := bnd_g hF; clear hF
      obtain ⟨q103, hF⟩ := ck_s hG; clear hG
      obtain ⟨a104, e105, hG⟩ := rf_s hF; clear hF
      obtain ⟨q106, hF⟩ := ck_s hG; clear hG
      obtain ⟨v108, H109, z107, hG⟩ := bC_s hF; clear hF
      replace hm : Sa H H109 := hm.tr (m_World_owns z107)
      rcases ite_s hG with ⟨q_16, hF⟩ | ⟨q_16, hF⟩
      · clear hG
        exact hm.tr (mB_Ticker_actOn_57 hF)
      · clear hG
        exact hm.tr (mB_Ticker_actOn_57 hF)
  · clear hF
    have hr := Option.some.inj hG; subst hr
    exact hm
set_option maxRecDepth 20000 in
set_option maxHeartbeats 2000000 in
theorem k_Ticker_actOn {N : Nat} {p0 : Nat} {p1 : Nat} {p2 : Int32} {p3 : Int32} {H : Hp} {r : Int32 × Hp} (hF : F_Ticker_actOn N p0 p1 p2 p3 H = some r) : ab_M y_Ticker_actOn { frames := 2, cells := 0, slots := 0, locals := 49 } [.ref p0, .ref p1, .int p2, .int p3] (hpw H) (po (.returned (some (.int r.1))) r.2) := by
  unfold F_Ticker_actOn at hF
  refine ab_of2 (lv := [some (.ref p0), some (.ref p1), some (.int p2), some (.int p3), none, none]) 2 rfl rfl (Nat.le_of_ble_eq_true rfl) ?_
  refine ab_iload_n d_Ticker_actOn_0 rfl rfl ?_
  refine ab_if_ge (tgt := 6) d_Ticker_actOn_1 (by decide) (fun q1 => ?_) (fun q1 => ?_)
  · rw [if_pos q1] at hF
    refine ab_aload_n d_Ticker_actOn_6 rfl rfl rfl ?_
    refine ab_iload_n d_Ticker_actOn_7 rfl rfl ?_
    obtain ⟨n2, q3, hG⟩ := ar_s hF; clear hF
    obtain ⟨q4, hF⟩ := ck_s hG; clear hG
    refine hp_iald d_Ticker_actOn_8 tI q3 q4 ?_
    refine ab_topi (fun x5 ex5 => ?_)
    replace hF := bnd_s ex5 hF
    refine ab_istore (lv' := [some (.ref p0), some (.ref p1), some (.int p2), some (.int p3), some (.int x5), none]) d_Ticker_actOn_9 (by decide) rfl ?_
    refine ab_iload d_Ticker_actOn_11 rfl ?_
    refine ab_bipush (v := 21) d_Ticker_actOn_13 (by decide) ?_
    refine ab_icmp_ne (tgt := 28) d_Ticker_actOn_15 (by decide) (fun q6 => ?_) (fun q6 => ?_)
    · rw [if_neg q6] at hF
      refine ab_aload_n d_Ticker_actOn_28 rfl rfl rfl ?_
      refine ab_iload_n d_Ticker_actOn_29 rfl rfl ?_
      refine ab_iconst (v := 2) d_Ticker_actOn_30 (by decide) ?_
      refine ab_iadd d_Ticker_actOn_31 ?_
      obtain ⟨q7, hG⟩ := ck_s hF; clear hF
      refine hp_iald d_Ticker_actOn_32 tI q3 q7 ?_
      refine ab_topi (fun x8 ex8 => ?_)
      replace hG := bnd_s ex8 hG
      refine ab_istore (lv' := [some (.ref p0), some (.ref p1), some (.int p2), some (.int p3), some (.int x5), some (.int x8)]) d_Ticker_actOn_33 (by decide) rfl ?_
      refine ab_aload_n d_Ticker_actOn_35 rfl rfl rfl ?_
      obtain ⟨q9, hF⟩ := ck_s hG; clear hG
      obtain ⟨a10, e11, hG⟩ := rf_s hF; clear hF
      refine hp_getR (f := 2) d_Ticker_actOn_36 q9 (by decide) rfl (by decide) (k2 122 rfl rfl) rfl e11 ?_
      refine ab_iload_n d_Ticker_actOn_39 rfl rfl ?_
      refine ab_iload d_Ticker_actOn_40 rfl ?_
      obtain ⟨q12, hF⟩ := ck_s hG; clear hG
      obtain ⟨v14, H15, z13, hG⟩ := bC_s hF; clear hF
      refine hp_callV_a (v := .int v14) (H1 := H15) (As := [.int p3, .int x8]) (rest := []) d_Ticker_actOn_42 (k_World_owns z13) (ab_mkC s_World_owns (Nat.le_of_ble_eq_true rfl) (Nat.le_of_ble_eq_true rfl) (Nat.le_refl 0) (Nat.le_refl 0)) (k7 117 rfl rfl) i_World_owns v_World_owns q12 (by decide) rfl rfl (Nat.le_of_ble_eq_true rfl) ?_
      have s_1 : Sa H H15 := (m_World_owns z13)
      refine ab_iload d_Ticker_actOn_45 rfl ?_
      refine ab_bipush (v := 22) d_Ticker_actOn_47 (by decide) ?_
      refine ab_icmp_ne (tgt := 56) d_Ticker_actOn_49 (by decide) (fun q16 => ?_) (fun q16 => ?_)
      · rw [if_neg q16] at hG
        refine ab_iconst (v := 0) d_Ticker_actOn_56 (by decide) ?_
        exact kB_Ticker_actOn_57 hG
      · rw [if_pos q16] at hG
        refine ab_iconst (v := 1) d_Ticker_actOn_52 (by decide) ?_
        refine ab_goto (tgt := 57) d_Ticker_actOn_53 (by decide) ?_
        exact kB_Ticker_actOn_57 hG
    · rw [if_pos q6] at hF
      refine ab_aload_n d_Ticker_actOn_18 rfl rfl rfl ?_
      obtain ⟨q81, hG⟩ := ck_s hF; clear hF
      obtain ⟨a82, e83, hF⟩ := rf_s hG; clear hG
      refine hp_getR (f := 2) d_Ticker_actOn_19 q81 (by decide) rfl (by decide) (k2 122 rfl rfl) rfl e83 ?_
      refine ab_iload_n d_Ticker_actOn_22 rfl rfl ?_
      obtain ⟨q84, hG⟩ := ck_s hF; clear hF
      obtain ⟨v86, H87, z85, hF⟩ := bC_s hG; clear hG
      refine hp_callV_v (H1 := H87) (As := [.int p3]) (rest := []) d_Ticker_actOn_23 (k_World_remove z85) (ab_mkC s_World_remove (Nat.le_of_ble_eq_true rfl) (Nat.le_of_ble_eq_true rfl) (Nat.le_refl 0) (Nat.le_refl 0)) (k7 113 rfl rfl) i_World_remove v_World_remove q84 (by decide) rfl rfl (Nat.le_of_ble_eq_true rfl) ?_
      have s_11 : Sa H H87 := (m_World_remove z85)
      refine ab_iconst (v := 1) d_Ticker_actOn_26 (by decide) ?_
      exact ab_zret d_Ticker_actOn_27 rfl rfl (Nat.le_refl _) (Nat.le_refl _) (by have hr := Option.some.inj hF; subst hr; exact ⟨rfl, rfl⟩)
  · rw [if_neg q1] at hF
    refine ab_iconst (v := 0) d_Ticker_actOn_4 (by decide) ?_
    exact ab_zret d_Ticker_actOn_5 rfl rfl (Nat.le_refl _) (Nat.le_refl _) (by have hr := Option.some.inj hF; subst hr; exact ⟨rfl, rfl⟩)
def y_Ticker_acts : ab_Y := (⟨"WorldEngine$Ticker", "acts", "([II)Z"⟩, prog_11_method_4_code, 3, (some FieldType.boolean), [])
theorem d_Ticker_acts_0 : decode y_Ticker_acts.2.1 0 = .ok (.aload_n 1, 1) := by decide +kernel
theorem d_Ticker_acts_1 : decode y_Ticker_acts.2.1 1 = .ok (.iload_n 2, 1) := by decide +kernel
theorem d_Ticker_acts_2 : decode y_Ticker_acts.2.1 2 = .ok (.iaload, 1) := by decide +kernel
theorem d_Ticker_acts_3 : decode y_Ticker_acts.2.1 3 = .ok (.lookupswitch 57 #[(20, 33), (25, 40), (26, 47)], 33) := by decide +kernel
theorem d_Ticker_acts_36 : decode y_Ticker_acts.2.1 36 = .ok (.aload_n 0, 1) := by decide +kernel
theorem d_Ticker_acts_37 : decode y_Ticker_acts.2.1 37 = .ok (.aload_n 1, 1) := by decide +kernel
theorem d_Ticker_acts_38 : decode y_Ticker_acts.2.1 38 = .ok (.iload_n 2, 1) := by decide +kernel
theorem d_Ticker_acts_39 : decode y_Ticker_acts.2.1 39 = .ok (.invokevirtual 89, 3) := by decide +kernel
theorem d_Ticker_acts_42 : decode y_Ticker_acts.2.1 42 = .ok (.ireturn, 1) := by decide +kernel
theorem d_Ticker_acts_43 : decode y_Ticker_acts.2.1 43 = .ok (.aload_n 0, 1) := by decide +kernel
theorem d_Ticker_acts_44 : decode y_Ticker_acts.2.1 44 = .ok (.aload_n 1, 1) := by decide +kernel
theorem d_Ticker_acts_45 : decode y_Ticker_acts.2.1 45 = .ok (.iload_n 2, 1) := by decide +kernel
theorem d_Ticker_acts_46 : decode y_Ticker_acts.2.1 46 = .ok (.invokevirtual 92, 3) := by decide +kernel
theorem d_Ticker_acts_49 : decode y_Ticker_acts.2.1 49 = .ok (.ireturn, 1) := by decide +kernel
theorem d_Ticker_acts_50 : decode y_Ticker_acts.2.1 50 = .ok (.aload_n 0, 1) := by decide +kernel
theorem d_Ticker_acts_51 : decode y_Ticker_acts.2.1 51 = .ok (.aload_n 1, 1) := by decide +kernel
theorem d_Ticker_acts_52 : decode y_Ticker_acts.2.1 52 = .ok (.iload_n 2, 1) := by decide +kernel
theorem d_Ticker_acts_53 : decode y_Ticker_acts.2.1 53 = .ok (.iconst 1, 1) := by decide +kernel
theorem d_Ticker_acts_54 : decode y_Ticker_acts.2.1 54 = .ok (.iadd, 1) := by decide +kernel
theorem d_Ticker_acts_55 : decode y_Ticker_acts.2.1 55 = .ok (.iaload, 1) := by decide +kernel
theorem d_Ticker_acts_56 : decode y_Ticker_acts.2.1 56 = .ok (.invokevirtual 95, 3) := by decide +kernel
theorem d_Ticker_acts_59 : decode y_Ticker_acts.2.1 59 = .ok (.ireturn, 1) := by decide +kernel
theorem d_Ticker_acts_60 : decode y_Ticker_acts.2.1 60 = .ok (.aload_n 0, 1) := by decide +kernel
theorem d_Ticker_acts_61 : decode y_Ticker_acts.2.1 61 = .ok (.aload_n 1, 1) := by decide +kernel
theorem d_Ticker_acts_62 : decode y_Ticker_acts.2.1 62 = .ok (.iload_n 2, 1) := by decide +kernel
theorem d_Ticker_acts_63 : decode y_Ticker_acts.2.1 63 = .ok (.aload_n 0, 1) := by decide +kernel
theorem d_Ticker_acts_64 : decode y_Ticker_acts.2.1 64 = .ok (.getfield 20, 3) := by decide +kernel
theorem d_Ticker_acts_67 : decode y_Ticker_acts.2.1 67 = .ok (.aload_n 1, 1) := by decide +kernel
theorem d_Ticker_acts_68 : decode y_Ticker_acts.2.1 68 = .ok (.iload_n 2, 1) := by decide +kernel
theorem d_Ticker_acts_69 : decode y_Ticker_acts.2.1 69 = .ok (.iconst 1, 1) := by decide +kernel
theorem d_Ticker_acts_70 : decode y_Ticker_acts.2.1 70 = .ok (.iadd, 1) := by decide +kernel
theorem d_Ticker_acts_71 : decode y_Ticker_acts.2.1 71 = .ok (.iaload, 1) := by decide +kernel
theorem d_Ticker_acts_72 : decode y_Ticker_acts.2.1 72 = .ok (.invokevirtual 99, 3) := by decide +kernel
theorem d_Ticker_acts_75 : decode y_Ticker_acts.2.1 75 = .ok (.invokevirtual 103, 3) := by decide +kernel
theorem d_Ticker_acts_78 : decode y_Ticker_acts.2.1 78 = .ok (.ireturn, 1) := by decide +kernel
theorem s_Ticker_acts : ab_Stat y_Ticker_acts 2 := ⟨(k7 85 rfl rfl), (k1 12 rfl rfl), ⟨by decide, by decide⟩, by decide +kernel⟩
theorem i_Ticker_acts : Cond.instanceMethod y_Ticker_acts.1 ∈ ab_T := (k7 84 rfl rfl)
theorem v_Ticker_acts : Cond.selects "WorldEngine$Ticker" y_Ticker_acts.1 y_Ticker_acts.1 ∈ ab_T := ab_s (List.mem_of_getElem? (i := 83) rfl) rfl
def F_Ticker_acts (N : Nat) (p0 : Nat) (p1 : Nat) (p2 : Int32) (H : Hp) : Option (Int32 × Hp) :=
    ar H 100 p1 fun n1 =>
    ck (inb p2 n1) <|
    bnd ((H.D p1 (p2).toNatClampNeg)) fun x4 =>
    if x4 = 20 then
    ck (H.sh[p0]? = some (9, 0)) <|
    bC (F_Ticker_actSpawn N p0 p1 p2 H) fun v8 H9 =>
    ck (v8 &&& 1 = v8) <|
    some (v8, H9)
    else if x4 = 25 then
    ck (H.sh[p0]? = some (9, 0)) <|
    bC (F_Ticker_actEmit N p0 p1 p2 H) fun v14 H15 =>
    ck (v14 &&& 1 = v14) <|
    some (v14, H15)
    else if x4 = 26 then
    ck (inb (p2 + (1 : Int32)) n1) <|
    bnd ((H.D p1 ((p2 + (1 : Int32))).toNatClampNeg)) fun x19 =>
    ck (H.sh[p0]? = some (9, 0)) <|
    bC (F_Ticker_actShow N p0 x19 H) fun v22 H23 =>
    ck (v22 &&& 1 = v22) <|
    some (v22, H23)
    else ck (H.sh[p0]? = some (9, 0)) <|
    rf (H.P p0 2) fun a26 =>
    ck (inb (p2 + (1 : Int32)) n1) <|
    bnd ((H.D p1 ((p2 + (1 : Int32))).toNatClampNeg)) fun x29 =>
    ck (H.sh[a26]? = some (7, 0)) <|
    bC (F_World_placeOf N a26 x29 H) fun v32 H33 =>
    bC (F_Ticker_actOn N p0 p1 p2 v32 H33) fun v35 H36 =>
    ck (v35 &&& 1 = v35) <|
    some (v35, H36)
set_option maxRecDepth 20000 in
set_option maxHeartbeats 2000000 in
theorem m_Ticker_acts {N : Nat} {p0 : Nat} {p1 : Nat} {p2 : Int32} {H : Hp} {r : Int32 × Hp} (hF : F_Ticker_acts N p0 p1 p2 H = some r) : Sa H r.2 := by
  unfold F_Ticker_acts at hF
  have hm := Sa.rf H
  obtain ⟨n38, q39, hG⟩ := ar_s hF; clear hF
  obtain ⟨q40, hF⟩ := ck_s hG; clear hG
  obtain ⟨x41, -, hG⟩ := bnd_g hF; clear hF
  rcases ite_s hG with ⟨q_6, hF⟩ | ⟨q_6, hF⟩
  · clear hG
    obtain ⟨q43, hG⟩ := ck_s hF; clear hF
    obtain ⟨v45, H46, z44, hF⟩ := bC_s hG; clear hG
    replace hm : Sa H H46 := hm.tr (m_Ticker_actSpawn z44)
    obtain ⟨q47, hG⟩ := ck_s hF; clear hF
    have hr := Option.some.inj hG; subst hr
    exact hm
  clear hG
  rcases ite_s hF with ⟨q_8, hG⟩ | ⟨q_8, hG⟩
  · clear hF
    obtain ⟨q49, hF⟩ := ck_s hG; clear hG
    obtain ⟨v51, H52, z50, hG⟩ := bC_s hF; clear hF
    replace hm : Sa H H52 := hm.tr (m_Ticker_actEmit z50)
    obtain ⟨q53, hF⟩ := ck_s hG; clear hG
    have hr := Option.some.inj hF; subst hr
    exact hm
  clear hF
  rcases ite_s hG with ⟨q_10, hF⟩ | ⟨q_10, hF⟩
  · clear hG
    obtain ⟨q55, hG⟩ := ck_s hF; clear hF
    obtain ⟨x56, -, hF⟩ := bnd_g hG; clear hG
    obtain ⟨q57, hG⟩ := ck_s hF; clear hF
    obtain ⟨v59, H60, z58, hF⟩ := bC_s hG; clear hG
    replace hm : Sa H H60 := hm.tr (m_Ticker_actShow z58)
    obtain ⟨q61, hG⟩ := ck_s hF; clear hF
    have hr := Option.some.inj hG; subst hr
    exact hm
  clear hG
  obtain ⟨q62, hG⟩ := ck_s hF; clear hF
  obtain ⟨a63, e64, hF⟩ := rf_s hG; clear hG
  obtain ⟨q65, hG⟩ := ck_s hF; clear hF
  obtain ⟨x66, -, hF⟩ := bnd_g hG; clear hG
  obtain ⟨q67, hG⟩ := ck_s hF; clear hF
  obtain ⟨v69, H70, z68, hF⟩ := bC_s hG; clear hG
  replace hm : Sa H H70 := hm.tr (m_World_placeOf z68)
  obtain ⟨v72, H73, z71, hG⟩ := bC_s hF; clear hF
  replace hm : Sa H H73 := hm.tr (m_Ticker_actOn z71)
  obtain ⟨q74, hF⟩ := ck_s hG; clear hG
  have hr := Option.some.inj hF; subst hr
  exact hm
set_option maxRecDepth 20000 in
set_option maxHeartbeats 2000000 in
theorem k_Ticker_acts {N : Nat} {p0 : Nat} {p1 : Nat} {p2 : Int32} {H : Hp} {r : Int32 × Hp} (hF : F_Ticker_acts N p0 p1 p2 H = some r) : ab_M y_Ticker_acts { frames := 4, cells := 0, slots := 0, locals := 107 } [.ref p0, .ref p1, .int p2] (hpw H) (po (.returned (some (.int r.1))) r.2) := by
  unfold F_Ticker_acts at hF
  refine ab_of2 (lv := [some (.ref p0), some (.ref p1), some (.int p2)]) 0 rfl rfl (Nat.le_of_ble_eq_true rfl) ?_
  refine ab_aload_n d_Ticker_acts_0 rfl rfl rfl ?_
  refine ab_iload_n d_Ticker_acts_1 rfl rfl ?_
  obtain ⟨n1, q2, hG⟩ := ar_s hF; clear hF
  obtain ⟨q3, hF⟩ := ck_s hG; clear hG
  refine hp_iald d_Ticker_acts_2 tI q2 q3 ?_
  refine ab_topi (fun x4 ex4 => ?_)
  replace hF := bnd_s ex4 hF
  by_cases t5 : x4 = 20
  · rw [if_pos t5] at hF
    refine ab_lookup (off := 33) (tgt := 36) d_Ticker_acts_3 (by decide) (by rw [t5]; decide) (by decide) ?_
    refine ab_aload_n d_Ticker_acts_36 rfl rfl rfl ?_
    refine ab_aload_n d_Ticker_acts_37 rfl rfl rfl ?_
    refine ab_iload_n d_Ticker_acts_38 rfl rfl ?_
    obtain ⟨q6, hG⟩ := ck_s hF; clear hF
    obtain ⟨v8, H9, z7, hF⟩ := bC_s hG; clear hG
    refine hp_callV_a (v := .int v8) (H1 := H9) (As := [.ref p1, .int p2]) (rest := []) d_Ticker_acts_39 (k_Ticker_actSpawn z7) (ab_mkC s_Ticker_actSpawn (Nat.le_of_ble_eq_true rfl) (Nat.le_of_ble_eq_true rfl) (Nat.le_refl 0) (Nat.le_refl 0)) (k7 86 rfl rfl) i_Ticker_actSpawn v_Ticker_actSpawn q6 (by decide) rfl rfl (Nat.le_of_ble_eq_true rfl) ?_
    have s_1 : Sa H H9 := (m_Ticker_actSpawn z7)
    obtain ⟨q10, hG⟩ := ck_s hF; clear hF
    exact ab_zret d_Ticker_acts_42 rfl (congrArg Value.int q10) (Nat.le_refl _) (Nat.le_refl _) (by have hr := Option.some.inj hG; subst hr; exact ⟨rfl, rfl⟩)
  rw [if_neg t5] at hF
  have ut5 : ¬ (20 : Int) = (x4).toInt := fun z => t5 (Int32.toInt_inj.mp (z.symm.trans (by decide)))
  by_cases t11 : x4 = 25
  · rw [if_pos t11] at hF
    refine ab_lookup (off := 40) (tgt := 43) d_Ticker_acts_3 (by decide) (by rw [t11]; decide) (by decide) ?_
    refine ab_aload_n d_Ticker_acts_43 rfl rfl rfl ?_
    refine ab_aload_n d_Ticker_acts_44 rfl rfl rfl ?_
    refine ab_iload_n d_Ticker_acts_45 rfl rfl ?_
    obtain ⟨q12, hG⟩ := ck_s hF; clear hF
    obtain ⟨v14, H15, z13, hF⟩ := bC_s hG; clear hG
    refine hp_callV_a (v := .int v14) (H1 := H15) (As := [.ref p1, .int p2]) (rest := []) d_Ticker_acts_46 (k_Ticker_actEmit z13) (ab_mkC s_Ticker_actEmit (Nat.le_of_ble_eq_true rfl) (Nat.le_of_ble_eq_true rfl) (Nat.le_refl 0) (Nat.le_refl 0)) (k7 99 rfl rfl) i_Ticker_actEmit v_Ticker_actEmit q12 (by decide) rfl rfl (Nat.le_of_ble_eq_true rfl) ?_
    have s_2 : Sa H H15 := (m_Ticker_actEmit z13)
    obtain ⟨q16, hG⟩ := ck_s hF; clear hF
    exact ab_zret d_Ticker_acts_49 rfl (congrArg Value.int q16) (Nat.le_refl _) (Nat.le_refl _) (by have hr := Option.some.inj hG; subst hr; exact ⟨rfl, rfl⟩)
  rw [if_neg t11] at hF
  have ut11 : ¬ (25 : Int) = (x4).toInt := fun z => t11 (Int32.toInt_inj.mp (z.symm.trans (by decide)))
  by_cases t17 : x4 = 26
  · rw [if_pos t17] at hF
    refine ab_lookup (off := 47) (tgt := 50) d_Ticker_acts_3 (by decide) (by rw [t17]; decide) (by decide) ?_
    refine ab_aload_n d_Ticker_acts_50 rfl rfl rfl ?_
    refine ab_aload_n d_Ticker_acts_51 rfl rfl rfl ?_
    refine ab_iload_n d_Ticker_acts_52 rfl rfl ?_
    refine ab_iconst (v := 1) d_Ticker_acts_53 (by decide) ?_
    refine ab_iadd d_Ticker_acts_54 ?_
    obtain ⟨q18, hG⟩ := ck_s hF; clear hF
    refine hp_iald d_Ticker_acts_55 tI q2 q18 ?_
    refine ab_topi (fun x19 ex19 => ?_)
    replace hG := bnd_s ex19 hG
    obtain ⟨q20, hF⟩ := ck_s hG; clear hG
    obtain ⟨v22, H23, z21, hG⟩ := bC_s hF; clear hF
    refine hp_callV_a (v := .int v22) (H1 := H23) (As := [.int x19]) (rest := []) d_Ticker_acts_56 (k_Ticker_actShow z21) (ab_mkC s_Ticker_actShow (Nat.le_of_ble_eq_true rfl) (Nat.le_of_ble_eq_true rfl) (Nat.le_refl 0) (Nat.le_refl 0)) (k7 104 rfl rfl) i_Ticker_actShow v_Ticker_actShow q20 (by decide) rfl rfl (Nat.le_of_ble_eq_true rfl) ?_
    have s_3 : Sa H H23 := (m_Ticker_actShow z21)
    obtain ⟨q24, hF⟩ := ck_s hG; clear hG
    exact ab_zret d_Ticker_acts_59 rfl (congrArg Value.int q24) (Nat.le_refl _) (Nat.le_refl _) (by have hr := Option.some.inj hF; subst hr; exact ⟨rfl, rfl⟩)
  rw [if_neg t17] at hF
  have ut17 : ¬ (26 : Int) = (x4).toInt := fun z => t17 (Int32.toInt_inj.mp (z.symm.trans (by decide)))
  refine ab_lookup (off := 57) (tgt := 60) d_Ticker_acts_3 (by decide) (by simp [Op.lookupswitch.offset, ut5, ut11, ut17]) (by decide) ?_
  refine ab_aload_n d_Ticker_acts_60 rfl rfl rfl ?_
  refine ab_aload_n d_Ticker_acts_61 rfl rfl rfl ?_
  refine ab_iload_n d_Ticker_acts_62 rfl rfl ?_
  refine ab_aload_n d_Ticker_acts_63 rfl rfl rfl ?_
  obtain ⟨q25, hG⟩ := ck_s hF; clear hF
  obtain ⟨a26, e27, hF⟩ := rf_s hG; clear hG
  refine hp_getR (f := 2) d_Ticker_acts_64 q25 (by decide) rfl (by decide) (k2 122 rfl rfl) rfl e27 ?_
  refine ab_aload_n d_Ticker_acts_67 rfl rfl rfl ?_
  refine ab_iload_n d_Ticker_acts_68 rfl rfl ?_
  refine ab_iconst (v := 1) d_Ticker_acts_69 (by decide) ?_
  refine ab_iadd d_Ticker_acts_70 ?_
  obtain ⟨q28, hG⟩ := ck_s hF; clear hF
  refine hp_iald d_Ticker_acts_71 tI q2 q28 ?_
  refine ab_topi (fun x29 ex29 => ?_)
  replace hG := bnd_s ex29 hG
  obtain ⟨q30, hF⟩ := ck_s hG; clear hG
  obtain ⟨v32, H33, z31, hG⟩ := bC_s hF; clear hF
  refine hp_callV_a (v := .int v32) (H1 := H33) (As := [.int x29]) (rest := [.int p2, .ref p1, .ref p0]) d_Ticker_acts_72 (k_World_placeOf z31) (ab_mkC s_World_placeOf (Nat.le_of_ble_eq_true rfl) (Nat.le_of_ble_eq_true rfl) (Nat.le_refl 0) (Nat.le_refl 0)) (k7 108 rfl rfl) i_World_placeOf v_World_placeOf q30 (by decide) rfl rfl (Nat.le_of_ble_eq_true rfl) ?_
  have s_4 : Sa H H33 := (m_World_placeOf z31)
  obtain ⟨v35, H36, z34, hF⟩ := bC_s hG; clear hG
  refine hp_callV_a (v := .int v35) (H1 := H36) (As := [.ref p1, .int p2, .int v32]) (rest := []) d_Ticker_acts_75 (k_Ticker_actOn z34) (ab_mkC s_Ticker_actOn (Nat.le_of_ble_eq_true rfl) (Nat.le_of_ble_eq_true rfl) (Nat.le_refl 0) (Nat.le_refl 0)) (k7 109 rfl rfl) i_Ticker_actOn v_Ticker_actOn (by rw [(s_4).1]; exact q25) (by decide) rfl rfl (Nat.le_of_ble_eq_true rfl) ?_
  have s_5 : Sa H H36 := (s_4).tr (m_Ticker_actOn z34)
  obtain ⟨q37, hG⟩ := ck_s hF; clear hF
  exact ab_zret d_Ticker_acts_78 rfl (congrArg Value.int q37) (Nat.le_refl _) (Nat.le_refl _) (by have hr := Option.some.inj hG; subst hr; exact ⟨rfl, rfl⟩)
