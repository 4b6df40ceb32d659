def y_MWorld_drops : ab_Y := (⟨"WorldEngineModel$World", "drops", "(I)Z"⟩, prog_17_method_10_code, 2, (some FieldType.boolean), [])
theorem d_MWorld_drops_0 : decode y_MWorld_drops.2.1 0 = .ok (.aload_n 0, 1) := by decide +kernel
theorem d_MWorld_drops_1 : decode y_MWorld_drops.2.1 1 = .ok (.iload_n 1, 1) := by decide +kernel
theorem d_MWorld_drops_2 : decode y_MWorld_drops.2.1 2 = .ok (.invokevirtual 79, 3) := by decide +kernel
theorem d_MWorld_drops_5 : decode y_MWorld_drops.2.1 5 = .ok (.ifCond .ne 5, 3) := by decide +kernel
theorem d_MWorld_drops_8 : decode y_MWorld_drops.2.1 8 = .ok (.iconst 0, 1) := by decide +kernel
theorem d_MWorld_drops_9 : decode y_MWorld_drops.2.1 9 = .ok (.ireturn, 1) := by decide +kernel
theorem d_MWorld_drops_10 : decode y_MWorld_drops.2.1 10 = .ok (.aload_n 0, 1) := by decide +kernel
theorem d_MWorld_drops_11 : decode y_MWorld_drops.2.1 11 = .ok (.getfield 15, 3) := by decide +kernel
theorem d_MWorld_drops_14 : decode y_MWorld_drops.2.1 14 = .ok (.iload_n 1, 1) := by decide +kernel
theorem d_MWorld_drops_15 : decode y_MWorld_drops.2.1 15 = .ok (.sipush 255, 3) := by decide +kernel
theorem d_MWorld_drops_18 : decode y_MWorld_drops.2.1 18 = .ok (.iand, 1) := by decide +kernel
theorem d_MWorld_drops_19 : decode y_MWorld_drops.2.1 19 = .ok (.iconst 0, 1) := by decide +kernel
theorem d_MWorld_drops_20 : decode y_MWorld_drops.2.1 20 = .ok (.bastore, 1) := by decide +kernel
theorem d_MWorld_drops_21 : decode y_MWorld_drops.2.1 21 = .ok (.aload_n 0, 1) := by decide +kernel
theorem d_MWorld_drops_22 : decode y_MWorld_drops.2.1 22 = .ok (.getfield 19, 3) := by decide +kernel
theorem d_MWorld_drops_25 : decode y_MWorld_drops.2.1 25 = .ok (.iload_n 1, 1) := by decide +kernel
theorem d_MWorld_drops_26 : decode y_MWorld_drops.2.1 26 = .ok (.sipush 255, 3) := by decide +kernel
theorem d_MWorld_drops_29 : decode y_MWorld_drops.2.1 29 = .ok (.iand, 1) := by decide +kernel
theorem d_MWorld_drops_30 : decode y_MWorld_drops.2.1 30 = .ok (.iconst 0, 1) := by decide +kernel
theorem d_MWorld_drops_31 : decode y_MWorld_drops.2.1 31 = .ok (.iastore, 1) := by decide +kernel
theorem d_MWorld_drops_32 : decode y_MWorld_drops.2.1 32 = .ok (.aload_n 0, 1) := by decide +kernel
theorem d_MWorld_drops_33 : decode y_MWorld_drops.2.1 33 = .ok (.getfield 9, 3) := by decide +kernel
theorem d_MWorld_drops_36 : decode y_MWorld_drops.2.1 36 = .ok (.iload_n 1, 1) := by decide +kernel
theorem d_MWorld_drops_37 : decode y_MWorld_drops.2.1 37 = .ok (.sipush 255, 3) := by decide +kernel
theorem d_MWorld_drops_40 : decode y_MWorld_drops.2.1 40 = .ok (.iand, 1) := by decide +kernel
theorem d_MWorld_drops_41 : decode y_MWorld_drops.2.1 41 = .ok (.dup2, 1) := by decide +kernel
theorem d_MWorld_drops_42 : decode y_MWorld_drops.2.1 42 = .ok (.iaload, 1) := by decide +kernel
theorem d_MWorld_drops_43 : decode y_MWorld_drops.2.1 43 = .ok (.iconst 1, 1) := by decide +kernel
theorem d_MWorld_drops_44 : decode y_MWorld_drops.2.1 44 = .ok (.iadd, 1) := by decide +kernel
theorem d_MWorld_drops_45 : decode y_MWorld_drops.2.1 45 = .ok (.iastore, 1) := by decide +kernel
theorem d_MWorld_drops_46 : decode y_MWorld_drops.2.1 46 = .ok (.iconst 1, 1) := by decide +kernel
theorem d_MWorld_drops_47 : decode y_MWorld_drops.2.1 47 = .ok (.ireturn, 1) := by decide +kernel
theorem s_MWorld_drops : ab_Stat y_MWorld_drops 1 := ⟨(k12 145 rfl rfl), (k1 21 rfl rfl), ⟨by decide, by decide⟩, by decide +kernel⟩
theorem i_MWorld_drops : Cond.instanceMethod y_MWorld_drops.1 ∈ ab_T := (k12 143 rfl rfl)
theorem v_MWorld_drops : Cond.selects "WorldEngineModel$World" y_MWorld_drops.1 y_MWorld_drops.1 ∈ ab_T := (k12 144 rfl rfl)
def F_MWorld_drops (N : Nat) (p0 : Nat) (p1 : Int32) (H : Hp) : Option (Int32 × Hp) :=
    ck (H.sh[p0]? = some (13, 0)) <|
    bC (F_MWorld_isAlive N p0 p1 H) fun v3 H4 =>
    if v3 = (0 : Int32) then
    some (0, H4)
    else
    rf (H4.P p0 5) fun a6 =>
    ar H4 102 a6 fun n8 =>
    ck (inb (p1 &&& (255 : Int32)) n8) <|
    bnd (H4.sD a6 ((p1 &&& (255 : Int32))).toNatClampNeg (vp_nar .boolean (0 : Int32))) fun H11 =>
    rf (H11.P p0 6) fun a12 =>
    ar H11 100 a12 fun n14 =>
    ck (inb (p1 &&& (255 : Int32)) n14) <|
    bnd (H11.sD a12 ((p1 &&& (255 : Int32))).toNatClampNeg (0 : Int32)) fun H17 =>
    rf (H17.P p0 4) fun a18 =>
    ar H17 100 a18 fun n20 =>
    ck (inb (p1 &&& (255 : Int32)) n20) <|
    bnd ((H17.D a18 ((p1 &&& (255 : Int32))).toNatClampNeg)) fun x23 =>
    ck (inb (p1 &&& (255 : Int32)) n20) <|
    bnd (H17.sD a18 ((p1 &&& (255 : Int32))).toNatClampNeg (x23 + (1 : Int32))) fun H25 =>
    some (1, H25)
set_option maxRecDepth 20000 in
set_option maxHeartbeats 2000000 in
theorem m_MWorld_drops {N : Nat} {p0 : Nat} {p1 : Int32} {H : Hp} {r : Int32 × Hp} (hF : F_MWorld_drops N p0 p1 H = some r) : Sa H r.2 := by
  unfold F_MWorld_drops at hF
  have hm := Sa.rf H
  obtain ⟨q26, hG⟩ := ck_s hF; clear hF
  obtain ⟨v28, H29, z27, hF⟩ := bC_s hG; clear hG
  replace hm : Sa H H29 := hm.tr (m_MWorld_isAlive z27)
  rcases ite_s hF with ⟨q_6, hG⟩ | ⟨q_6, hG⟩
  · clear hF
    have hr := Option.some.inj hG; subst hr
    exact hm
  · clear hF
    obtain ⟨a31, e32, hF⟩ := rf_s hG; clear hG
    obtain ⟨n33, q34, hG⟩ := ar_s hF; clear hF
    obtain ⟨q35, hF⟩ := ck_s hG; clear hG
    obtain ⟨H36, eH36, hG⟩ := bnd_g hF; clear hF
    replace hm : Sa H H36 := by rw [eH36]; exact hm
    obtain ⟨a37, e38, hF⟩ := rf_s hG; clear hG
    obtain ⟨n39, q40, hG⟩ := ar_s hF; clear hF
    obtain ⟨q41, hF⟩ := ck_s hG; clear hG
    obtain ⟨H42, eH42, hG⟩ := bnd_g hF; clear hF
    replace hm : Sa H H42 := by rw [eH42]; exact hm
    obtain ⟨a43, e44, hF⟩ := rf_s hG; clear hG
    obtain ⟨n45, q46, hG⟩ := ar_s hF; clear hF
    obtain ⟨q47, hF⟩ := ck_s hG; clear hG
    obtain ⟨x48, -, hG⟩ := bnd_g hF; clear hF
    obtain ⟨q49, hF⟩ := ck_s hG; clear hG
    obtain ⟨H50, eH50, hG⟩ := bnd_g hF; clear hF
    replace hm : Sa H H50 := by rw [eH50]; exact hm
    have hr := Option.some.inj hG; subst hr
    exact hm
set_option maxRecDepth 20000 in
set_option maxHeartbeats 2000000 in
theorem k_MWorld_drops {N : Nat} {p0 : Nat} {p1 : Int32} {H : Hp} {r : Int32 × Hp} (hF : F_MWorld_drops N p0 p1 H = some r) : ab_M y_MWorld_drops { frames := 2, cells := 0, slots := 0, locals := 43 } [.ref p0, .int p1] (hpw H) (po (.returned (some (.int r.1))) r.2) := by
  unfold F_MWorld_drops at hF
  refine ab_of2 (lv := [some (.ref p0), some (.int p1)]) 0 rfl rfl (Nat.le_of_ble_eq_true rfl) ?_
  refine ab_aload_n d_MWorld_drops_0 rfl rfl rfl ?_
  refine ab_iload_n d_MWorld_drops_1 rfl rfl ?_
  obtain ⟨q1, hG⟩ := ck_s hF; clear hF
  obtain ⟨v3, H4, z2, hF⟩ := bC_s hG; clear hG
  refine hp_callV_a (v := .int v3) (H1 := H4) (As := [.int p1]) (rest := []) d_MWorld_drops_2 (k_MWorld_isAlive z2) (ab_mkC s_MWorld_isAlive (Nat.le_of_ble_eq_true rfl) (Nat.le_of_ble_eq_true rfl) (Nat.le_refl 0) (Nat.le_refl 0)) (k12 50 rfl rfl) i_MWorld_isAlive v_MWorld_isAlive q1 (by decide) rfl rfl (Nat.le_of_ble_eq_true rfl) ?_
  have s_1 : Sa H H4 := (m_MWorld_isAlive z2)
  refine ab_if_ne (tgt := 10) d_MWorld_drops_5 (by decide) (fun q5 => ?_) (fun q5 => ?_)
  · rw [if_neg q5] at hF
    refine ab_aload_n d_MWorld_drops_10 rfl rfl rfl ?_
    obtain ⟨a6, e7, hG⟩ := rf_s hF; clear hF
    refine hp_getR (f := 5) d_MWorld_drops_11 (by rw [(s_1).1]; exact q1) (by decide) rfl (by decide) (k9 100 rfl rfl) rfl e7 ?_
    refine ab_iload_n d_MWorld_drops_14 rfl rfl ?_
    refine ab_sipush (v := 255) d_MWorld_drops_15 (by decide) ?_
    refine ab_iand d_MWorld_drops_18 ?_
    refine ab_iconst (v := 0) d_MWorld_drops_19 (by decide) ?_
    obtain ⟨n8, q9, hF⟩ := ar_s hG; clear hG
    rw [(s_1).1] at q9
    obtain ⟨q10, hG⟩ := ck_s hF; clear hF
    refine hp_zast d_MWorld_drops_20 tZ (by rw [(s_1).1]; exact q9) q10 ?_
    refine hp_gen (fun H11 eH11 => ?_)
    replace hG := bnd_s eH11 hG
    have s_2 : Sa H H11 := by rw [eH11]; exact s_1
    refine ab_aload_n d_MWorld_drops_21 rfl rfl rfl ?_
    obtain ⟨a12, e13, hF⟩ := rf_s hG; clear hG
    refine hp_getR (f := 6) d_MWorld_drops_22 (by rw [(s_2).1]; exact q1) (by decide) rfl (by decide) (k9 104 rfl rfl) rfl e13 ?_
    refine ab_iload_n d_MWorld_drops_25 rfl rfl ?_
    refine ab_sipush (v := 255) d_MWorld_drops_26 (by decide) ?_
    refine ab_iand d_MWorld_drops_29 ?_
    refine ab_iconst (v := 0) d_MWorld_drops_30 (by decide) ?_
    obtain ⟨n14, q15, hG⟩ := ar_s hF; clear hF
    rw [(s_2).1] at q15
    obtain ⟨q16, hF⟩ := ck_s hG; clear hG
    refine hp_iast d_MWorld_drops_31 tI (by rw [(s_2).1]; exact q15) q16 ?_
    refine hp_gen (fun H17 eH17 => ?_)
    replace hF := bnd_s eH17 hF
    have s_3 : Sa H H17 := by rw [eH17]; exact s_2
    refine ab_aload_n d_MWorld_drops_32 rfl rfl rfl ?_
    obtain ⟨a18, e19, hG⟩ := rf_s hF; clear hF
    refine hp_getR (f := 4) d_MWorld_drops_33 (by rw [(s_3).1]; exact q1) (by decide) rfl (by decide) (k9 98 rfl rfl) rfl e19 ?_
    refine ab_iload_n d_MWorld_drops_36 rfl rfl ?_
    refine ab_sipush (v := 255) d_MWorld_drops_37 (by decide) ?_
    refine ab_iand d_MWorld_drops_40 ?_
    refine ab_dup2_11 d_MWorld_drops_41 rfl rfl ?_
    obtain ⟨n20, q21, hF⟩ := ar_s hG; clear hG
    rw [(s_3).1] at q21
    obtain ⟨q22, hG⟩ := ck_s hF; clear hF
    refine hp_iald d_MWorld_drops_42 tI (by rw [(s_3).1]; exact q21) q22 ?_
    refine ab_topi (fun x23 ex23 => ?_)
    replace hG := bnd_s ex23 hG
    refine ab_iconst (v := 1) d_MWorld_drops_43 (by decide) ?_
    refine ab_iadd d_MWorld_drops_44 ?_
    obtain ⟨q24, hF⟩ := ck_s hG; clear hG
    refine hp_iast d_MWorld_drops_45 tI (by rw [(s_3).1]; exact q21) q24 ?_
    refine hp_gen (fun H25 eH25 => ?_)
    replace hF := bnd_s eH25 hF
    have s_4 : Sa H H25 := by rw [eH25]; exact s_3
    refine ab_iconst (v := 1) d_MWorld_drops_46 (by decide) ?_
    exact ab_zret d_MWorld_drops_47 rfl rfl (Nat.le_refl _) (Nat.le_refl _) (by have hr := Option.some.inj hF; subst hr; exact ⟨rfl, rfl⟩)
  · rw [if_pos q5] at hF
    refine ab_iconst (v := 0) d_MWorld_drops_8 (by decide) ?_
    exact ab_zret d_MWorld_drops_9 rfl rfl (Nat.le_refl _) (Nat.le_refl _) (by have hr := Option.some.inj hF; subst hr; exact ⟨rfl, rfl⟩)
def y_MWorld_gives : ab_Y := (⟨"WorldEngineModel$World", "gives", "(LWorldEngineModel$Text;II)Z"⟩, prog_17_method_11_code, 5, (some FieldType.boolean), [])
theorem d_MWorld_gives_0 : decode y_MWorld_gives.2.1 0 = .ok (.aload_n 0, 1) := by decide +kernel
theorem d_MWorld_gives_1 : decode y_MWorld_gives.2.1 1 = .ok (.iload_n 2, 1) := by decide +kernel
theorem d_MWorld_gives_2 : decode y_MWorld_gives.2.1 2 = .ok (.invokevirtual 79, 3) := by decide +kernel
theorem d_MWorld_gives_5 : decode y_MWorld_gives.2.1 5 = .ok (.ifCond .eq 12, 3) := by decide +kernel
theorem d_MWorld_gives_8 : decode y_MWorld_gives.2.1 8 = .ok (.aload_n 0, 1) := by decide +kernel
theorem d_MWorld_gives_9 : decode y_MWorld_gives.2.1 9 = .ok (.iload_n 2, 1) := by decide +kernel
theorem d_MWorld_gives_10 : decode y_MWorld_gives.2.1 10 = .ok (.iload_n 3, 1) := by decide +kernel
theorem d_MWorld_gives_11 : decode y_MWorld_gives.2.1 11 = .ok (.invokevirtual 91, 3) := by decide +kernel
theorem d_MWorld_gives_14 : decode y_MWorld_gives.2.1 14 = .ok (.ifCond .eq 5, 3) := by decide +kernel
theorem d_MWorld_gives_17 : decode y_MWorld_gives.2.1 17 = .ok (.iconst 0, 1) := by decide +kernel
theorem d_MWorld_gives_18 : decode y_MWorld_gives.2.1 18 = .ok (.ireturn, 1) := by decide +kernel
theorem d_MWorld_gives_19 : decode y_MWorld_gives.2.1 19 = .ok (.aload_n 0, 1) := by decide +kernel
theorem d_MWorld_gives_20 : decode y_MWorld_gives.2.1 20 = .ok (.getfield 19, 3) := by decide +kernel
theorem d_MWorld_gives_23 : decode y_MWorld_gives.2.1 23 = .ok (.iload_n 2, 1) := by decide +kernel
theorem d_MWorld_gives_24 : decode y_MWorld_gives.2.1 24 = .ok (.sipush 255, 3) := by decide +kernel
theorem d_MWorld_gives_27 : decode y_MWorld_gives.2.1 27 = .ok (.iand, 1) := by decide +kernel
theorem d_MWorld_gives_28 : decode y_MWorld_gives.2.1 28 = .ok (.dup2, 1) := by decide +kernel
theorem d_MWorld_gives_29 : decode y_MWorld_gives.2.1 29 = .ok (.iaload, 1) := by decide +kernel
theorem d_MWorld_gives_30 : decode y_MWorld_gives.2.1 30 = .ok (.iconst 1, 1) := by decide +kernel
theorem d_MWorld_gives_31 : decode y_MWorld_gives.2.1 31 = .ok (.iload_n 3, 1) := by decide +kernel
theorem d_MWorld_gives_32 : decode y_MWorld_gives.2.1 32 = .ok (.ishl, 1) := by decide +kernel
theorem d_MWorld_gives_33 : decode y_MWorld_gives.2.1 33 = .ok (.ior, 1) := by decide +kernel
theorem d_MWorld_gives_34 : decode y_MWorld_gives.2.1 34 = .ok (.iastore, 1) := by decide +kernel
theorem d_MWorld_gives_35 : decode y_MWorld_gives.2.1 35 = .ok (.aload_n 1, 1) := by decide +kernel
theorem d_MWorld_gives_36 : decode y_MWorld_gives.2.1 36 = .ok (.getfield 95, 3) := by decide +kernel
theorem d_MWorld_gives_39 : decode y_MWorld_gives.2.1 39 = .ok (.iload_n 3, 1) := by decide +kernel
theorem d_MWorld_gives_40 : decode y_MWorld_gives.2.1 40 = .ok (.iaload, 1) := by decide +kernel
theorem d_MWorld_gives_41 : decode y_MWorld_gives.2.1 41 = .ok (.istore 4, 2) := by decide +kernel
theorem d_MWorld_gives_43 : decode y_MWorld_gives.2.1 43 = .ok (.iload 4, 2) := by decide +kernel
theorem d_MWorld_gives_45 : decode y_MWorld_gives.2.1 45 = .ok (.aload_n 1, 1) := by decide +kernel
theorem d_MWorld_gives_46 : decode y_MWorld_gives.2.1 46 = .ok (.getfield 95, 3) := by decide +kernel
theorem d_MWorld_gives_49 : decode y_MWorld_gives.2.1 49 = .ok (.iload_n 3, 1) := by decide +kernel
theorem d_MWorld_gives_50 : decode y_MWorld_gives.2.1 50 = .ok (.iconst 1, 1) := by decide +kernel
theorem d_MWorld_gives_51 : decode y_MWorld_gives.2.1 51 = .ok (.iadd, 1) := by decide +kernel
theorem d_MWorld_gives_52 : decode y_MWorld_gives.2.1 52 = .ok (.iaload, 1) := by decide +kernel
theorem d_MWorld_gives_53 : decode y_MWorld_gives.2.1 53 = .ok (.if_icmp .ge 35, 3) := by decide +kernel
theorem d_MWorld_gives_56 : decode y_MWorld_gives.2.1 56 = .ok (.aload_n 0, 1) := by decide +kernel
theorem d_MWorld_gives_57 : decode y_MWorld_gives.2.1 57 = .ok (.getfield 22, 3) := by decide +kernel
theorem d_MWorld_gives_60 : decode y_MWorld_gives.2.1 60 = .ok (.bipush 48, 2) := by decide +kernel
theorem d_MWorld_gives_62 : decode y_MWorld_gives.2.1 62 = .ok (.iload_n 2, 1) := by decide +kernel
theorem d_MWorld_gives_63 : decode y_MWorld_gives.2.1 63 = .ok (.sipush 255, 3) := by decide +kernel
theorem d_MWorld_gives_66 : decode y_MWorld_gives.2.1 66 = .ok (.iand, 1) := by decide +kernel
theorem d_MWorld_gives_67 : decode y_MWorld_gives.2.1 67 = .ok (.imul, 1) := by decide +kernel
theorem d_MWorld_gives_68 : decode y_MWorld_gives.2.1 68 = .ok (.iload 4, 2) := by decide +kernel
theorem d_MWorld_gives_70 : decode y_MWorld_gives.2.1 70 = .ok (.iadd, 1) := by decide +kernel
theorem d_MWorld_gives_71 : decode y_MWorld_gives.2.1 71 = .ok (.aload_n 1, 1) := by decide +kernel
theorem d_MWorld_gives_72 : decode y_MWorld_gives.2.1 72 = .ok (.getfield 98, 3) := by decide +kernel
theorem d_MWorld_gives_75 : decode y_MWorld_gives.2.1 75 = .ok (.iload 4, 2) := by decide +kernel
theorem d_MWorld_gives_77 : decode y_MWorld_gives.2.1 77 = .ok (.iaload, 1) := by decide +kernel
theorem d_MWorld_gives_78 : decode y_MWorld_gives.2.1 78 = .ok (.invokestatic 101, 3) := by decide +kernel
theorem d_MWorld_gives_81 : decode y_MWorld_gives.2.1 81 = .ok (.iastore, 1) := by decide +kernel
theorem d_MWorld_gives_82 : decode y_MWorld_gives.2.1 82 = .ok (.iinc 4 1, 3) := by decide +kernel
theorem d_MWorld_gives_85 : decode y_MWorld_gives.2.1 85 = .ok (.goto (-42), 3) := by decide +kernel
theorem d_MWorld_gives_88 : decode y_MWorld_gives.2.1 88 = .ok (.iconst 1, 1) := by decide +kernel
theorem d_MWorld_gives_89 : decode y_MWorld_gives.2.1 89 = .ok (.ireturn, 1) := by decide +kernel
theorem s_MWorld_gives : ab_Stat y_MWorld_gives 3 := ⟨(k12 149 rfl rfl), (k1 21 rfl rfl), ⟨by decide, by decide⟩, by decide +kernel⟩
theorem i_MWorld_gives : Cond.instanceMethod y_MWorld_gives.1 ∈ ab_T := (k12 147 rfl rfl)
theorem v_MWorld_gives : Cond.selects "WorldEngineModel$World" y_MWorld_gives.1 y_MWorld_gives.1 ∈ ab_T := (k12 148 rfl rfl)
def B_MWorld_gives_43 (N : Nat) (p0 : Nat) (p1 : Nat) (p2 : Int32) (p3 : Int32) : Nat → Int32 → Hp → Option (Int32 × Hp)
  | 0, _, _ => none
  | n + 1, l4, H =>
    ck (H.sh[p1]? = some (14, 0)) <|
    rf (H.P p1 18) fun a26 =>
    ar H 100 a26 fun n28 =>
    ck (inb (p3 + (1 : Int32)) n28) <|
    bnd ((H.D a26 ((p3 + (1 : Int32))).toNatClampNeg)) fun x31 =>
    if x31 ≤ l4 then
    some (1, H)
    else
    ck (H.sh[p0]? = some (13, 0)) <|
    rf (H.P p0 7) fun a34 =>
    rf (H.P p1 19) fun a36 =>
    ar H 100 a36 fun n38 =>
    ck (inb l4 n38) <|
    bnd ((H.D a36 (l4).toNatClampNeg)) fun x41 =>
    bC (F_M_first N x41 H) fun v43 H44 =>
    ar H44 100 a34 fun n45 =>
    ck (inb (((48 : Int32) * (p2 &&& (255 : Int32))) + l4) n45) <|
    bnd (H44.sD a34 ((((48 : Int32) * (p2 &&& (255 : Int32))) + l4)).toNatClampNeg v43) fun H48 =>
    B_MWorld_gives_43 N p0 p1 p2 p3 n (l4 + 1) H48
termination_by structural n => n
set_option maxRecDepth 20000 in
set_option maxHeartbeats 2000000 in
theorem mB_MWorld_gives_43 {N : Nat} {p0 : Nat} {p1 : Nat} {p2 : Int32} {p3 : Int32} : ∀ (n : Nat) (l4 : Int32) (H : Hp) (r : Int32 × Hp), B_MWorld_gives_43 N p0 p1 p2 p3 n l4 H = some r → Sa H r.2 := by
  intro n
  induction n with
  | zero => intro l4 H r hF; rw [B_MWorld_gives_43] at hF; cases hF
  | succ n ih =>
    intro l4 H r hF
    rw [B_MWorld_gives_43] at hF
    have hm := Sa.rf H
    obtain ⟨q49, hG⟩ := ck_s hF; clear hF
    obtain ⟨a50, e51, hF⟩ := rf_s hG; clear hG
    obtain ⟨n52, q53, hG⟩ := ar_s hF; clear hF
    obtain ⟨q54, hF⟩ := ck_s hG; clear hG
    obtain ⟨x55, -, hG⟩ := bnd_g hF; clear hF
    rcases ite_s hG with ⟨q_6, hF⟩ | ⟨q_6, hF⟩
    · clear hG
      have hr := Option.some.inj hF; subst hr
      exact hm
    · clear hG
      obtain ⟨q57, hG⟩ := ck_s hF; clear hF
      obtain ⟨a58, e59, hF⟩ := rf_s hG; clear hG
      obtain ⟨a60, e61, hG⟩ := rf_s hF; clear hF
      obtain ⟨n62, q63, hF⟩ := ar_s hG; clear hG
      obtain ⟨q64, hG⟩ := ck_s hF; clear hF
      obtain ⟨x65, -, hF⟩ := bnd_g hG; clear hG
      obtain ⟨v67, H68, z66, hG⟩ := bC_s hF; clear hF
      replace hm : Sa H H68 := hm.tr (m_M_first z66)
      obtain ⟨n69, q70, hF⟩ := ar_s hG; clear hG
      obtain ⟨q71, hG⟩ := ck_s hF; clear hF
      obtain ⟨H72, eH72, hF⟩ := bnd_g hG; clear hG
      replace hm : Sa H H72 := by rw [eH72]; exact hm
      exact hm.tr (ih (l4 + 1) H72 r hF)
set_option maxRecDepth 20000 in
set_option maxHeartbeats 2000000 in
theorem kB_MWorld_gives_43 {N : Nat} {p0 : Nat} {p1 : Nat} {p2 : Int32} {p3 : Int32} : ∀ (n : Nat) (l4 : Int32) (H : Hp) (r : Int32 × Hp), B_MWorld_gives_43 N p0 p1 p2 p3 n l4 H = some r → ab_V y_MWorld_gives { frames := 3, cells := 0, slots := 0, locals := 65 } (po (.returned (some (.int r.1))) r.2) 0 0 0 0 43 [some (.ref p0), some (.ref p1), some (.int p2), some (.int p3), some (.int l4)] [] (hpw H) := by
  intro n
  induction n with
  | zero => intro l4 H r hF; rw [B_MWorld_gives_43] at hF; cases hF
  | succ n ih =>
    intro l4 H r hF
    rw [B_MWorld_gives_43] at hF
    refine ab_iload d_MWorld_gives_43 rfl ?_
    refine ab_aload_n d_MWorld_gives_45 rfl rfl rfl ?_
    obtain ⟨q25, hG⟩ := ck_s hF; clear hF
    obtain ⟨a26, e27, hF⟩ := rf_s hG; clear hG
    refine hp_getRN (f := 18) d_MWorld_gives_46 q25 (by decide) rfl (by decide) (k8 185 rfl rfl) rfl e27 ?_
    refine ab_iload_n d_MWorld_gives_49 rfl rfl ?_
    refine ab_iconst (v := 1) d_MWorld_gives_50 (by decide) ?_
    refine ab_iadd d_MWorld_gives_51 ?_
    obtain ⟨n28, q29, hG⟩ := ar_s hF; clear hF
    obtain ⟨q30, hF⟩ := ck_s hG; clear hG
    refine hp_iald d_MWorld_gives_52 tI q29 q30 ?_
    refine ab_topi (fun x31 ex31 => ?_)
    replace hF := bnd_s ex31 hF
    refine ab_icmp_ge (tgt := 88) d_MWorld_gives_53 (by decide) (fun q32 => ?_) (fun q32 => ?_)
    · rw [if_pos q32] at hF
      refine ab_iconst (v := 1) d_MWorld_gives_88 (by decide) ?_
      exact ab_zret d_MWorld_gives_89 rfl rfl (Nat.le_refl _) (Nat.le_refl _) (by have hr := Option.some.inj hF; subst hr; exact ⟨rfl, rfl⟩)
    · rw [if_neg q32] at hF
      refine ab_aload_n d_MWorld_gives_56 rfl rfl rfl ?_
      obtain ⟨q33, hG⟩ := ck_s hF; clear hF
      obtain ⟨a34, e35, hF⟩ := rf_s hG; clear hG
      refine hp_getR (f := 7) d_MWorld_gives_57 q33 (by decide) rfl (by decide) (k9 108 rfl rfl) rfl e35 ?_
      refine ab_bipush (v := 48) d_MWorld_gives_60 (by decide) ?_
      refine ab_iload_n d_MWorld_gives_62 rfl rfl ?_
      refine ab_sipush (v := 255) d_MWorld_gives_63 (by decide) ?_
      refine ab_iand d_MWorld_gives_66 ?_
      refine ab_imul d_MWorld_gives_67 ?_
      refine ab_iload d_MWorld_gives_68 rfl ?_
      refine ab_iadd d_MWorld_gives_70 ?_
      refine ab_aload_n d_MWorld_gives_71 rfl rfl rfl ?_
      obtain ⟨a36, e37, hG⟩ := rf_s hF; clear hF
      refine hp_getRN (f := 19) d_MWorld_gives_72 q25 (by decide) rfl (by decide) (k8 190 rfl rfl) rfl e37 ?_
      refine ab_iload d_MWorld_gives_75 rfl ?_
      obtain ⟨n38, q39, hF⟩ := ar_s hG; clear hG
      obtain ⟨q40, hG⟩ := ck_s hF; clear hF
      refine hp_iald d_MWorld_gives_77 tI q39 q40 ?_
      refine ab_topi (fun x41 ex41 => ?_)
      replace hG := bnd_s ex41 hG
      obtain ⟨v43, H44, z42, hF⟩ := bC_s hG; clear hG
      refine hp_callSN_a (v := .int v43) (H1 := H44) (As := [.int x41]) (rest := [.int (((48 : Int32) * (p2 &&& (255 : Int32))) + l4), .ref a34]) d_MWorld_gives_78 (k_M_first z42) (ab_mkC s_M_first (Nat.le_of_ble_eq_true rfl) (Nat.le_of_ble_eq_true rfl) (Nat.le_refl 0) (Nat.le_refl 0)) (k12 151 rfl rfl) t_M_first rfl (Nat.le_of_ble_eq_true rfl) ?_
      have s_4 : Sa H H44 := (m_M_first z42)
      obtain ⟨n45, q46, hG⟩ := ar_s hF; clear hF
      rw [(s_4).1] at q46
      obtain ⟨q47, hF⟩ := ck_s hG; clear hG
      refine hp_iast d_MWorld_gives_81 tI (by rw [(s_4).1]; exact q46) q47 ?_
      refine hp_gen (fun H48 eH48 => ?_)
      replace hF := bnd_s eH48 hF
      have s_5 : Sa H H48 := by rw [eH48]; exact s_4
      refine ab_iinc (v := l4 + 1) (lv' := [some (.ref p0), some (.ref p1), some (.int p2), some (.int p3), some (.int (l4 + 1))]) d_MWorld_gives_82 rfl rfl (by decide) rfl ?_
      refine ab_goto (tgt := 43) d_MWorld_gives_85 (by decide) ?_
      exact ih (l4 + 1) H48 r hF
def F_MWorld_gives (N : Nat) (p0 : Nat) (p1 : Nat) (p2 : Int32) (p3 : Int32) (H : Hp) : Option (Int32 × Hp) :=
    ck (H.sh[p0]? = some (13, 0)) <|
    bC (F_MWorld_isAlive N p0 p2 H) fun v3 H4 =>
    if v3 = (0 : Int32) then
    some (0, H4)
    else
    bC (F_MWorld_has N p0 p2 p3 H4) fun v7 H8 =>
    if v7 = (0 : Int32) then
    rf (H8.P p0 6) fun a10 =>
    ar H8 100 a10 fun n12 =>
    ck (inb (p2 &&& (255 : Int32)) n12) <|
    bnd ((H8.D a10 ((p2 &&& (255 : Int32))).toNatClampNeg)) fun x15 =>
    ck (inb (p2 &&& (255 : Int32)) n12) <|
    bnd (H8.sD a10 ((p2 &&& (255 : Int32))).toNatClampNeg (x15 ||| ((1 : Int32) <<< (p3 &&& 31)))) fun H17 =>
    ck (H17.sh[p1]? = some (14, 0)) <|
    rf (H17.P p1 18) fun a19 =>
    ar H17 100 a19 fun n21 =>
    ck (inb p3 n21) <|
    bnd ((H17.D a19 (p3).toNatClampNeg)) fun x24 =>
    B_MWorld_gives_43 N p0 p1 p2 p3 N x24 H17
    else
    some (0, H8)
set_option maxRecDepth 20000 in
set_option maxHeartbeats 2000000 in
theorem m_MWorld_gives {N : Nat} {p0 : Nat} {p1 : Nat} {p2 : Int32} {p3 : Int32} {H : Hp} {r : Int32 × Hp} (hF : F_MWorld_gives N p0 p1 p2 p3 H = some r) : Sa H r.2 := by
  unfold F_MWorld_gives at hF
  have hm := Sa.rf H
  obtain ⟨q73, hG⟩ := ck_s hF; clear hF
  obtain ⟨v75, H76, z74, hF⟩ := bC_s hG; clear hG
  replace hm : Sa H H76 := hm.tr (m_MWorld_isAlive z74)
  rcases ite_s hF with ⟨q_10, hG⟩ | ⟨q_10, hG⟩
  · clear hF
    have hr := Option.some.inj hG; subst hr
    exact hm
  · clear hF
    obtain ⟨v79, H80, z78, hF⟩ := bC_s hG; clear hG
    replace hm : Sa H H80 := hm.tr (m_MWorld_has z78)
    rcases ite_s hF with ⟨q_12, hG⟩ | ⟨q_12, hG⟩
    · clear hF
      obtain ⟨a82, e83, hF⟩ := rf_s hG; clear hG
      obtain ⟨n84, q85, hG⟩ := ar_s hF; clear hF
      obtain ⟨q86, hF⟩ := ck_s hG; clear hG
      obtain ⟨x87, -, hG⟩ := bnd_g hF; clear hF
      obtain ⟨q88, hF⟩ := ck_s hG; clear hG
      obtain ⟨H89, eH89, hG⟩ := bnd_g hF; clear hF
      replace hm : Sa H H89 := by rw [eH89]; exact hm
      obtain ⟨q90, hF⟩ := ck_s hG; clear hG
      obtain ⟨a91, e92, hG⟩ := rf_s hF; clear hF
      obtain ⟨n93, q94, hF⟩ := ar_s hG; clear hG
      obtain ⟨q95, hG⟩ := ck_s hF; clear hF
      obtain ⟨x96, -, hF⟩ := bnd_g hG; clear hG
      exact hm.tr (mB_MWorld_gives_43 N x96 H89 r hF)
    · clear hF
      have hr := Option.some.inj hG; subst hr
      exact hm
set_option maxRecDepth 20000 in
set_option maxHeartbeats 2000000 in
theorem k_MWorld_gives {N : Nat} {p0 : Nat} {p1 : Nat} {p2 : Int32} {p3 : Int32} {H : Hp} {r : Int32 × Hp} (hF : F_MWorld_gives N p0 p1 p2 p3 H = some r) : ab_M y_MWorld_gives { frames := 3, cells := 0, slots := 0, locals := 65 } [.ref p0, .ref p1, .int p2, .int p3] (hpw H) (po (.returned (some (.int r.1))) r.2) := by
  unfold F_MWorld_gives at hF
  refine ab_of2 (lv := [some (.ref p0), some (.ref p1), some (.int p2), some (.int p3), none]) 1 rfl rfl (Nat.le_of_ble_eq_true rfl) ?_
  refine ab_aload_n d_MWorld_gives_0 rfl rfl rfl ?_
  refine ab_iload_n d_MWorld_gives_1 rfl rfl ?_
  obtain ⟨q1, hG⟩ := ck_s hF; clear hF
  obtain ⟨v3, H4, z2, hF⟩ := bC_s hG; clear hG
  refine hp_callV_a (v := .int v3) (H1 := H4) (As := [.int p2]) (rest := []) d_MWorld_gives_2 (k_MWorld_isAlive z2) (ab_mkC s_MWorld_isAlive (Nat.le_of_ble_eq_true rfl) (Nat.le_of_ble_eq_true rfl) (Nat.le_refl 0) (Nat.le_refl 0)) (k12 50 rfl rfl) i_MWorld_isAlive v_MWorld_isAlive q1 (by decide) rfl rfl (Nat.le_of_ble_eq_true rfl) ?_
  have s_1 : Sa H H4 := (m_MWorld_isAlive z2)
  refine ab_if_eq (tgt := 17) d_MWorld_gives_5 (by decide) (fun q5 => ?_) (fun q5 => ?_)
  · rw [if_pos q5] at hF
    refine ab_iconst (v := 0) d_MWorld_gives_17 (by decide) ?_
    exact ab_zret d_MWorld_gives_18 rfl rfl (Nat.le_refl _) (Nat.le_refl _) (by have hr := Option.some.inj hF; subst hr; exact ⟨rfl, rfl⟩)
  · rw [if_neg q5] at hF
    refine ab_aload_n d_MWorld_gives_8 rfl rfl rfl ?_
    refine ab_iload_n d_MWorld_gives_9 rfl rfl ?_
    refine ab_iload_n d_MWorld_gives_10 rfl rfl ?_
    obtain ⟨v7, H8, z6, hG⟩ := bC_s hF; clear hF
    refine hp_callV_a (v := .int v7) (H1 := H8) (As := [.int p2, .int p3]) (rest := []) d_MWorld_gives_11 (k_MWorld_has z6) (ab_mkC s_MWorld_has (Nat.le_of_ble_eq_true rfl) (Nat.le_of_ble_eq_true rfl) (Nat.le_refl 0) (Nat.le_refl 0)) (k12 150 rfl rfl) i_MWorld_has v_MWorld_has (by rw [(s_1).1]; exact q1) (by decide) rfl rfl (Nat.le_of_ble_eq_true rfl) ?_
    have s_2 : Sa H H8 := (s_1).tr (m_MWorld_has z6)
    refine ab_if_eq (tgt := 19) d_MWorld_gives_14 (by decide) (fun q9 => ?_) (fun q9 => ?_)
    · rw [if_pos q9] at hG
      refine ab_aload_n d_MWorld_gives_19 rfl rfl rfl ?_
      obtain ⟨a10, e11, hF⟩ := rf_s hG; clear hG
      refine hp_getR (f := 6) d_MWorld_gives_20 (by rw [(s_2).1]; exact q1) (by decide) rfl (by decide) (k9 104 rfl rfl) rfl e11 ?_
      refine ab_iload_n d_MWorld_gives_23 rfl rfl ?_
      refine ab_sipush (v := 255) d_MWorld_gives_24 (by decide) ?_
      refine ab_iand d_MWorld_gives_27 ?_
      refine ab_dup2_11 d_MWorld_gives_28 rfl rfl ?_
      obtain ⟨n12, q13, hG⟩ := ar_s hF; clear hF
      rw [(s_2).1] at q13
      obtain ⟨q14, hF⟩ := ck_s hG; clear hG
      refine hp_iald d_MWorld_gives_29 tI (by rw [(s_2).1]; exact q13) q14 ?_
      refine ab_topi (fun x15 ex15 => ?_)
      replace hF := bnd_s ex15 hF
      refine ab_iconst (v := 1) d_MWorld_gives_30 (by decide) ?_
      refine ab_iload_n d_MWorld_gives_31 rfl rfl ?_
      refine ab_ishl d_MWorld_gives_32 ?_
      refine ab_ior d_MWorld_gives_33 ?_
      obtain ⟨q16, hG⟩ := ck_s hF; clear hF
      refine hp_iast d_MWorld_gives_34 tI (by rw [(s_2).1]; exact q13) q16 ?_
      refine hp_gen (fun H17 eH17 => ?_)
      replace hG := bnd_s eH17 hG
      have s_3 : Sa H H17 := by rw [eH17]; exact s_2
      refine ab_aload_n d_MWorld_gives_35 rfl rfl rfl ?_
      obtain ⟨q18, hF⟩ := ck_s hG; clear hG
      rw [(s_3).1] at q18
      obtain ⟨a19, e20, hG⟩ := rf_s hF; clear hF
      refine hp_getRN (f := 18) d_MWorld_gives_36 (by rw [(s_3).1]; exact q18) (by decide) rfl (by decide) (k8 185 rfl rfl) rfl e20 ?_
      refine ab_iload_n d_MWorld_gives_39 rfl rfl ?_
      obtain ⟨n21, q22, hF⟩ := ar_s hG; clear hG
      rw [(s_3).1] at q22
      obtain ⟨q23, hG⟩ := ck_s hF; clear hF
      refine hp_iald d_MWorld_gives_40 tI (by rw [(s_3).1]; exact q22) q23 ?_
      refine ab_topi (fun x24 ex24 => ?_)
      replace hG := bnd_s ex24 hG
      refine ab_istore (lv' := [some (.ref p0), some (.ref p1), some (.int p2), some (.int p3), some (.int x24)]) d_MWorld_gives_41 (by decide) rfl ?_
      exact kB_MWorld_gives_43 N x24 H17 r hG
    · rw [if_neg q9] at hG
      refine ab_iconst (v := 0) d_MWorld_gives_17 (by decide) ?_
      exact ab_zret d_MWorld_gives_18 rfl rfl (Nat.le_refl _) (Nat.le_refl _) (by have hr := Option.some.inj hG; subst hr; exact ⟨rfl, rfl⟩)
def y_MWorld_takes : ab_Y := (⟨"WorldEngineModel$World", "takes", "(II)Z"⟩, prog_17_method_12_code, 3, (some FieldType.boolean), [])
theorem d_MWorld_takes_0 : decode y_MWorld_takes.2.1 0 = .ok (.aload_n 0, 1) := by decide +kernel
theorem d_MWorld_takes_1 : decode y_MWorld_takes.2.1 1 = .ok (.iload_n 1, 1) := by decide +kernel
theorem d_MWorld_takes_2 : decode y_MWorld_takes.2.1 2 = .ok (.iload_n 2, 1) := by decide +kernel
theorem d_MWorld_takes_3 : decode y_MWorld_takes.2.1 3 = .ok (.invokevirtual 91, 3) := by decide +kernel
theorem d_MWorld_takes_6 : decode y_MWorld_takes.2.1 6 = .ok (.ifCond .ne 5, 3) := by decide +kernel
theorem d_MWorld_takes_9 : decode y_MWorld_takes.2.1 9 = .ok (.iconst 0, 1) := by decide +kernel
theorem d_MWorld_takes_10 : decode y_MWorld_takes.2.1 10 = .ok (.ireturn, 1) := by decide +kernel
theorem d_MWorld_takes_11 : decode y_MWorld_takes.2.1 11 = .ok (.aload_n 0, 1) := by decide +kernel
theorem d_MWorld_takes_12 : decode y_MWorld_takes.2.1 12 = .ok (.getfield 19, 3) := by decide +kernel
theorem d_MWorld_takes_15 : decode y_MWorld_takes.2.1 15 = .ok (.iload_n 1, 1) := by decide +kernel
theorem d_MWorld_takes_16 : decode y_MWorld_takes.2.1 16 = .ok (.sipush 255, 3) := by decide +kernel
theorem d_MWorld_takes_19 : decode y_MWorld_takes.2.1 19 = .ok (.iand, 1) := by decide +kernel
theorem d_MWorld_takes_20 : decode y_MWorld_takes.2.1 20 = .ok (.dup2, 1) := by decide +kernel
theorem d_MWorld_takes_21 : decode y_MWorld_takes.2.1 21 = .ok (.iaload, 1) := by decide +kernel
theorem d_MWorld_takes_22 : decode y_MWorld_takes.2.1 22 = .ok (.iconst 1, 1) := by decide +kernel
theorem d_MWorld_takes_23 : decode y_MWorld_takes.2.1 23 = .ok (.iload_n 2, 1) := by decide +kernel
theorem d_MWorld_takes_24 : decode y_MWorld_takes.2.1 24 = .ok (.ishl, 1) := by decide +kernel
theorem d_MWorld_takes_25 : decode y_MWorld_takes.2.1 25 = .ok (.iconst (-1), 1) := by decide +kernel
theorem d_MWorld_takes_26 : decode y_MWorld_takes.2.1 26 = .ok (.ixor, 1) := by decide +kernel
theorem d_MWorld_takes_27 : decode y_MWorld_takes.2.1 27 = .ok (.iand, 1) := by decide +kernel
theorem d_MWorld_takes_28 : decode y_MWorld_takes.2.1 28 = .ok (.iastore, 1) := by decide +kernel
theorem d_MWorld_takes_29 : decode y_MWorld_takes.2.1 29 = .ok (.iconst 1, 1) := by decide +kernel
theorem d_MWorld_takes_30 : decode y_MWorld_takes.2.1 30 = .ok (.ireturn, 1) := by decide +kernel
theorem s_MWorld_takes : ab_Stat y_MWorld_takes 2 := ⟨(k12 155 rfl rfl), (k1 21 rfl rfl), ⟨by decide, by decide⟩, by decide +kernel⟩
theorem i_MWorld_takes : Cond.instanceMethod y_MWorld_takes.1 ∈ ab_T := (k12 153 rfl rfl)
theorem v_MWorld_takes : Cond.selects "WorldEngineModel$World" y_MWorld_takes.1 y_MWorld_takes.1 ∈ ab_T := (k12 154 rfl rfl)
def F_MWorld_takes (N : Nat) (p0 : Nat) (p1 : Int32) (p2 : Int32) (H : Hp) : Option (Int32 × Hp) :=
    ck (H.sh[p0]? = some (13, 0)) <|
    bC (F_MWorld_has N p0 p1 p2 H) fun v3 H4 =>
    if v3 = (0 : Int32) then
    some (0, H4)
    else
    rf (H4.P p0 6) fun a6 =>
    ar H4 100 a6 fun n8 =>
    ck (inb (p1 &&& (255 : Int32)) n8) <|
    bnd ((H4.D a6 ((p1 &&& (255 : Int32))).toNatClampNeg)) fun x11 =>
    ck (inb (p1 &&& (255 : Int32)) n8) <|
    bnd (H4.sD a6 ((p1 &&& (255 : Int32))).toNatClampNeg (x11 &&& (((1 : Int32) <<< (p2 &&& 31)) ^^^ ((-1) : Int32)))) fun H13 =>
    some (1, H13)
set_option maxRecDepth 20000 in
set_option maxHeartbeats 2000000 in
theorem m_MWorld_takes {N : Nat} {p0 : Nat} {p1 : Int32} {p2 : Int32} {H : Hp} {r : Int32 × Hp} (hF : F_MWorld_takes N p0 p1 p2 H = some r) : Sa H r.2 := by
  unfold F_MWorld_takes at hF
  have hm := Sa.rf H
  obtain ⟨q14, hG⟩ := ck_s hF; clear hF
  obtain ⟨v16, H17, z15, hF⟩ := bC_s hG; clear hG
  replace hm : Sa H H17 := hm.tr (m_MWorld_has z15)
  rcases ite_s hF with ⟨q_4, hG⟩ | ⟨q_4, hG⟩
  · clear hF
    have hr := Option.some.inj hG; subst hr
    exact hm
  · clear hF
    obtain ⟨a19, e20, hF⟩ := rf_s hG; clear hG
    obtain ⟨n21, q22, hG⟩ := ar_s hF; clear hF
    obtain ⟨q23, hF⟩ := ck_s hG; clear hG
    obtain ⟨x24, -, hG⟩ := bnd_g hF; clear hF
    obtain ⟨q25, hF⟩ := ck_s hG; clear hG
    obtain ⟨H26, eH26, hG⟩ := bnd_g hF; clear hF
    replace hm : Sa H H26 := by rw [eH26]; exact hm
    have hr := Option.some.inj hG; subst hr
    exact hm
set_option maxRecDepth 20000 in
set_option maxHeartbeats 2000000 in
theorem k_MWorld_takes {N : Nat} {p0 : Nat} {p1 : Int32} {p2 : Int32} {H : Hp} {r : Int32 × Hp} (hF : F_MWorld_takes N p0 p1 p2 H = some r) : ab_M y_MWorld_takes { frames := 3, cells := 0, slots := 0, locals := 65 } [.ref p0, .int p1, .int p2] (hpw H) (po (.returned (some (.int r.1))) r.2) := by
  unfold F_MWorld_takes at hF
  refine ab_of2 (lv := [some (.ref p0), some (.int p1), some (.int p2)]) 0 rfl rfl (Nat.le_of_ble_eq_true rfl) ?_
  refine ab_aload_n d_MWorld_takes_0 rfl rfl rfl ?_
  refine ab_iload_n d_MWorld_takes_1 rfl rfl ?_
  refine ab_iload_n d_MWorld_takes_2 rfl rfl ?_
  obtain ⟨q1, hG⟩ := ck_s hF; clear hF
  obtain ⟨v3, H4, z2, hF⟩ := bC_s hG; clear hG
  refine hp_callV_a (v := .int v3) (H1 := H4) (As := [.int p1, .int p2]) (rest := []) d_MWorld_takes_3 (k_MWorld_has z2) (ab_mkC s_MWorld_has (Nat.le_of_ble_eq_true rfl) (Nat.le_of_ble_eq_true rfl) (Nat.le_refl 0) (Nat.le_refl 0)) (k12 150 rfl rfl) i_MWorld_has v_MWorld_has q1 (by decide) rfl rfl (Nat.le_of_ble_eq_true rfl) ?_
  have s_1 : Sa H H4 := (m_MWorld_has z2)
  refine ab_if_ne (tgt := 11) d_MWorld_takes_6 (by decide) (fun q5 => ?_) (fun q5 => ?_)
  · rw [if_neg q5] at hF
    refine ab_aload_n d_MWorld_takes_11 rfl rfl rfl ?_
    obtain ⟨a6, e7, hG⟩ := rf_s hF; clear hF
    refine hp_getR (f := 6) d_MWorld_takes_12 (by rw [(s_1).1]; exact q1) (by decide) rfl (by decide) (k9 104 rfl rfl) rfl e7 ?_
    refine ab_iload_n d_MWorld_takes_15 rfl rfl ?_
    refine ab_sipush (v := 255) d_MWorld_takes_16 (by decide) ?_
    refine ab_iand d_MWorld_takes_19 ?_
    refine ab_dup2_11 d_MWorld_takes_20 rfl rfl ?_
    obtain ⟨n8, q9, hF⟩ := ar_s hG; clear hG
    rw [(s_1).1] at q9
    obtain ⟨q10, hG⟩ := ck_s hF; clear hF
    refine hp_iald d_MWorld_takes_21 tI (by rw [(s_1).1]; exact q9) q10 ?_
    refine ab_topi (fun x11 ex11 => ?_)
    replace hG := bnd_s ex11 hG
    refine ab_iconst (v := 1) d_MWorld_takes_22 (by decide) ?_
    refine ab_iload_n d_MWorld_takes_23 rfl rfl ?_
    refine ab_ishl d_MWorld_takes_24 ?_
    refine ab_iconst (v := (-1)) d_MWorld_takes_25 (by decide) ?_
    refine ab_ixor d_MWorld_takes_26 ?_
    refine ab_iand d_MWorld_takes_27 ?_
    obtain ⟨q12, hF⟩ := ck_s hG; clear hG
    refine hp_iast d_MWorld_takes_28 tI (by rw [(s_1).1]; exact q9) q12 ?_
    refine hp_gen (fun H13 eH13 => ?_)
    replace hF := bnd_s eH13 hF
    have s_2 : Sa H H13 := by rw [eH13]; exact s_1
    refine ab_iconst (v := 1) d_MWorld_takes_29 (by decide) ?_
    exact ab_zret d_MWorld_takes_30 rfl rfl (Nat.le_refl _) (Nat.le_refl _) (by have hr := Option.some.inj hF; subst hr; exact ⟨rfl, rfl⟩)
  · rw [if_pos q5] at hF
    refine ab_iconst (v := 0) d_MWorld_takes_9 (by decide) ?_
    exact ab_zret d_MWorld_takes_10 rfl rfl (Nat.le_refl _) (Nat.le_refl _) (by have hr := Option.some.inj hF; subst hr; exact ⟨rfl, rfl⟩)
def y_MRunner_acts : ab_Y := (⟨"WorldEngineModel$Runner", "acts", "(I)Z"⟩, prog_15_method_20_code, 6, (some FieldType.boolean), [])
theorem d_MRunner_acts_0 : decode y_MRunner_acts.2.1 0 = .ok (.aload_n 0, 1) := by decide +kernel
theorem d_MRunner_acts_1 : decode y_MRunner_acts.2.1 1 = .ok (.getfield 12, 3) := by decide +kernel
theorem d_MRunner_acts_4 : decode y_MRunner_acts.2.1 4 = .ok (.iload_n 1, 1) := by decide +kernel
theorem d_MRunner_acts_5 : decode y_MRunner_acts.2.1 5 = .ok (.iconst 1, 1) := by decide +kernel
theorem d_MRunner_acts_6 : decode y_MRunner_acts.2.1 6 = .ok (.iadd, 1) := by decide +kernel
theorem d_MRunner_acts_7 : decode y_MRunner_acts.2.1 7 = .ok (.iaload, 1) := by decide +kernel
theorem d_MRunner_acts_8 : decode y_MRunner_acts.2.1 8 = .ok (.istore_n 2, 1) := by decide +kernel
theorem d_MRunner_acts_9 : decode y_MRunner_acts.2.1 9 = .ok (.aload_n 0, 1) := by decide +kernel
theorem d_MRunner_acts_10 : decode y_MRunner_acts.2.1 10 = .ok (.getfield 12, 3) := by decide +kernel
theorem d_MRunner_acts_13 : decode y_MRunner_acts.2.1 13 = .ok (.iload_n 1, 1) := by decide +kernel
theorem d_MRunner_acts_14 : decode y_MRunner_acts.2.1 14 = .ok (.iconst 2, 1) := by decide +kernel
theorem d_MRunner_acts_15 : decode y_MRunner_acts.2.1 15 = .ok (.iadd, 1) := by decide +kernel
theorem d_MRunner_acts_16 : decode y_MRunner_acts.2.1 16 = .ok (.iaload, 1) := by decide +kernel
theorem d_MRunner_acts_17 : decode y_MRunner_acts.2.1 17 = .ok (.istore_n 3, 1) := by decide +kernel
theorem d_MRunner_acts_18 : decode y_MRunner_acts.2.1 18 = .ok (.aload_n 0, 1) := by decide +kernel
theorem d_MRunner_acts_19 : decode y_MRunner_acts.2.1 19 = .ok (.getfield 12, 3) := by decide +kernel
theorem d_MRunner_acts_22 : decode y_MRunner_acts.2.1 22 = .ok (.iload_n 1, 1) := by decide +kernel
theorem d_MRunner_acts_23 : decode y_MRunner_acts.2.1 23 = .ok (.iaload, 1) := by decide +kernel
theorem d_MRunner_acts_24 : decode y_MRunner_acts.2.1 24 = .ok (.tableswitch 235 222 227 #[40, 153, 162, 176, 186, 128], 40) := by decide +kernel
theorem d_MRunner_acts_64 : decode y_MRunner_acts.2.1 64 = .ok (.aload_n 0, 1) := by decide +kernel
theorem d_MRunner_acts_65 : decode y_MRunner_acts.2.1 65 = .ok (.getfield 29, 3) := by decide +kernel
theorem d_MRunner_acts_68 : decode y_MRunner_acts.2.1 68 = .ok (.aload_n 0, 1) := by decide +kernel
theorem d_MRunner_acts_69 : decode y_MRunner_acts.2.1 69 = .ok (.getfield 25, 3) := by decide +kernel
theorem d_MRunner_acts_72 : decode y_MRunner_acts.2.1 72 = .ok (.iload_n 2, 1) := by decide +kernel
theorem d_MRunner_acts_73 : decode y_MRunner_acts.2.1 73 = .ok (.invokevirtual 215, 3) := by decide +kernel
theorem d_MRunner_acts_76 : decode y_MRunner_acts.2.1 76 = .ok (.istore 4, 2) := by decide +kernel
theorem d_MRunner_acts_78 : decode y_MRunner_acts.2.1 78 = .ok (.iconst 0, 1) := by decide +kernel
theorem d_MRunner_acts_79 : decode y_MRunner_acts.2.1 79 = .ok (.istore 5, 2) := by decide +kernel
theorem d_MRunner_acts_81 : decode y_MRunner_acts.2.1 81 = .ok (.iload 5, 2) := by decide +kernel
theorem d_MRunner_acts_83 : decode y_MRunner_acts.2.1 83 = .ok (.iload_n 3, 1) := by decide +kernel
theorem d_MRunner_acts_84 : decode y_MRunner_acts.2.1 84 = .ok (.if_icmp .ge 57, 3) := by decide +kernel
theorem d_MRunner_acts_87 : decode y_MRunner_acts.2.1 87 = .ok (.iload 4, 2) := by decide +kernel
theorem d_MRunner_acts_89 : decode y_MRunner_acts.2.1 89 = .ok (.ifCond .lt 52, 3) := by decide +kernel
theorem d_MRunner_acts_92 : decode y_MRunner_acts.2.1 92 = .ok (.aload_n 0, 1) := by decide +kernel
theorem d_MRunner_acts_93 : decode y_MRunner_acts.2.1 93 = .ok (.getfield 29, 3) := by decide +kernel
theorem d_MRunner_acts_96 : decode y_MRunner_acts.2.1 96 = .ok (.getfield 102, 3) := by decide +kernel
theorem d_MRunner_acts_99 : decode y_MRunner_acts.2.1 99 = .ok (.bipush 48, 2) := by decide +kernel
theorem d_MRunner_acts_101 : decode y_MRunner_acts.2.1 101 = .ok (.iload 4, 2) := by decide +kernel
theorem d_MRunner_acts_103 : decode y_MRunner_acts.2.1 103 = .ok (.imul, 1) := by decide +kernel
theorem d_MRunner_acts_104 : decode y_MRunner_acts.2.1 104 = .ok (.aload_n 0, 1) := by decide +kernel
theorem d_MRunner_acts_105 : decode y_MRunner_acts.2.1 105 = .ok (.getfield 12, 3) := by decide +kernel
theorem d_MRunner_acts_108 : decode y_MRunner_acts.2.1 108 = .ok (.iload_n 1, 1) := by decide +kernel
theorem d_MRunner_acts_109 : decode y_MRunner_acts.2.1 109 = .ok (.iconst 3, 1) := by decide +kernel
theorem d_MRunner_acts_110 : decode y_MRunner_acts.2.1 110 = .ok (.iadd, 1) := by decide +kernel
theorem d_MRunner_acts_111 : decode y_MRunner_acts.2.1 111 = .ok (.iaload, 1) := by decide +kernel
theorem d_MRunner_acts_112 : decode y_MRunner_acts.2.1 112 = .ok (.bipush 8, 2) := by decide +kernel
theorem d_MRunner_acts_114 : decode y_MRunner_acts.2.1 114 = .ok (.iload 5, 2) := by decide +kernel
theorem d_MRunner_acts_116 : decode y_MRunner_acts.2.1 116 = .ok (.imul, 1) := by decide +kernel
theorem d_MRunner_acts_117 : decode y_MRunner_acts.2.1 117 = .ok (.ishr, 1) := by decide +kernel
theorem d_MRunner_acts_118 : decode y_MRunner_acts.2.1 118 = .ok (.sipush 255, 3) := by decide +kernel
theorem d_MRunner_acts_121 : decode y_MRunner_acts.2.1 121 = .ok (.iand, 1) := by decide +kernel
theorem d_MRunner_acts_122 : decode y_MRunner_acts.2.1 122 = .ok (.iadd, 1) := by decide +kernel
theorem d_MRunner_acts_123 : decode y_MRunner_acts.2.1 123 = .ok (.aload_n 0, 1) := by decide +kernel
theorem d_MRunner_acts_124 : decode y_MRunner_acts.2.1 124 = .ok (.getfield 12, 3) := by decide +kernel
theorem d_MRunner_acts_127 : decode y_MRunner_acts.2.1 127 = .ok (.iload_n 1, 1) := by decide +kernel
theorem d_MRunner_acts_128 : decode y_MRunner_acts.2.1 128 = .ok (.iconst 4, 1) := by decide +kernel
theorem d_MRunner_acts_129 : decode y_MRunner_acts.2.1 129 = .ok (.iadd, 1) := by decide +kernel
theorem d_MRunner_acts_130 : decode y_MRunner_acts.2.1 130 = .ok (.iload 5, 2) := by decide +kernel
theorem d_MRunner_acts_132 : decode y_MRunner_acts.2.1 132 = .ok (.iadd, 1) := by decide +kernel
theorem d_MRunner_acts_133 : decode y_MRunner_acts.2.1 133 = .ok (.iaload, 1) := by decide +kernel
theorem d_MRunner_acts_134 : decode y_MRunner_acts.2.1 134 = .ok (.iastore, 1) := by decide +kernel
theorem d_MRunner_acts_135 : decode y_MRunner_acts.2.1 135 = .ok (.iinc 5 1, 3) := by decide +kernel
theorem d_MRunner_acts_138 : decode y_MRunner_acts.2.1 138 = .ok (.goto (-57), 3) := by decide +kernel
theorem d_MRunner_acts_141 : decode y_MRunner_acts.2.1 141 = .ok (.iload 4, 2) := by decide +kernel
theorem d_MRunner_acts_143 : decode y_MRunner_acts.2.1 143 = .ok (.ifCond .lt 7, 3) := by decide +kernel
theorem d_MRunner_acts_146 : decode y_MRunner_acts.2.1 146 = .ok (.iconst 1, 1) := by decide +kernel
theorem d_MRunner_acts_147 : decode y_MRunner_acts.2.1 147 = .ok (.goto 4, 3) := by decide +kernel
theorem d_MRunner_acts_150 : decode y_MRunner_acts.2.1 150 = .ok (.iconst 0, 1) := by decide +kernel
theorem d_MRunner_acts_151 : decode y_MRunner_acts.2.1 151 = .ok (.ireturn, 1) := by decide +kernel
theorem d_MRunner_acts_152 : decode y_MRunner_acts.2.1 152 = .ok (.aload_n 0, 1) := by decide +kernel
theorem d_MRunner_acts_153 : decode y_MRunner_acts.2.1 153 = .ok (.getfield 29, 3) := by decide +kernel
theorem d_MRunner_acts_156 : decode y_MRunner_acts.2.1 156 = .ok (.iload_n 2, 1) := by decide +kernel
theorem d_MRunner_acts_157 : decode y_MRunner_acts.2.1 157 = .ok (.aload_n 0, 1) := by decide +kernel
theorem d_MRunner_acts_158 : decode y_MRunner_acts.2.1 158 = .ok (.getfield 12, 3) := by decide +kernel
theorem d_MRunner_acts_161 : decode y_MRunner_acts.2.1 161 = .ok (.iload_n 1, 1) := by decide +kernel
theorem d_MRunner_acts_162 : decode y_MRunner_acts.2.1 162 = .ok (.iconst 3, 1) := by decide +kernel
theorem d_MRunner_acts_163 : decode y_MRunner_acts.2.1 163 = .ok (.iadd, 1) := by decide +kernel
theorem d_MRunner_acts_164 : decode y_MRunner_acts.2.1 164 = .ok (.iaload, 1) := by decide +kernel
theorem d_MRunner_acts_165 : decode y_MRunner_acts.2.1 165 = .ok (.iload_n 3, 1) := by decide +kernel
theorem d_MRunner_acts_166 : decode y_MRunner_acts.2.1 166 = .ok (.aload_n 0, 1) := by decide +kernel
theorem d_MRunner_acts_167 : decode y_MRunner_acts.2.1 167 = .ok (.getfield 12, 3) := by decide +kernel
theorem d_MRunner_acts_170 : decode y_MRunner_acts.2.1 170 = .ok (.iload_n 1, 1) := by decide +kernel
theorem d_MRunner_acts_171 : decode y_MRunner_acts.2.1 171 = .ok (.iconst 4, 1) := by decide +kernel
theorem d_MRunner_acts_172 : decode y_MRunner_acts.2.1 172 = .ok (.iadd, 1) := by decide +kernel
theorem d_MRunner_acts_173 : decode y_MRunner_acts.2.1 173 = .ok (.invokevirtual 218, 3) := by decide +kernel
theorem d_MRunner_acts_176 : decode y_MRunner_acts.2.1 176 = .ok (.ireturn, 1) := by decide +kernel
theorem d_MRunner_acts_177 : decode y_MRunner_acts.2.1 177 = .ok (.aload_n 0, 1) := by decide +kernel
theorem d_MRunner_acts_178 : decode y_MRunner_acts.2.1 178 = .ok (.getfield 29, 3) := by decide +kernel
theorem d_MRunner_acts_181 : decode y_MRunner_acts.2.1 181 = .ok (.iload_n 2, 1) := by decide +kernel
theorem d_MRunner_acts_182 : decode y_MRunner_acts.2.1 182 = .ok (.invokevirtual 222, 3) := by decide +kernel
theorem d_MRunner_acts_185 : decode y_MRunner_acts.2.1 185 = .ok (.ireturn, 1) := by decide +kernel
theorem d_MRunner_acts_186 : decode y_MRunner_acts.2.1 186 = .ok (.aload_n 0, 1) := by decide +kernel
theorem d_MRunner_acts_187 : decode y_MRunner_acts.2.1 187 = .ok (.getfield 29, 3) := by decide +kernel
theorem d_MRunner_acts_190 : decode y_MRunner_acts.2.1 190 = .ok (.aload_n 0, 1) := by decide +kernel
theorem d_MRunner_acts_191 : decode y_MRunner_acts.2.1 191 = .ok (.getfield 25, 3) := by decide +kernel
theorem d_MRunner_acts_194 : decode y_MRunner_acts.2.1 194 = .ok (.iload_n 2, 1) := by decide +kernel
theorem d_MRunner_acts_195 : decode y_MRunner_acts.2.1 195 = .ok (.iload_n 3, 1) := by decide +kernel
theorem d_MRunner_acts_196 : decode y_MRunner_acts.2.1 196 = .ok (.invokevirtual 225, 3) := by decide +kernel
theorem d_MRunner_acts_199 : decode y_MRunner_acts.2.1 199 = .ok (.ireturn, 1) := by decide +kernel
theorem d_MRunner_acts_200 : decode y_MRunner_acts.2.1 200 = .ok (.aload_n 0, 1) := by decide +kernel
theorem d_MRunner_acts_201 : decode y_MRunner_acts.2.1 201 = .ok (.getfield 29, 3) := by decide +kernel
theorem d_MRunner_acts_204 : decode y_MRunner_acts.2.1 204 = .ok (.iload_n 2, 1) := by decide +kernel
theorem d_MRunner_acts_205 : decode y_MRunner_acts.2.1 205 = .ok (.iload_n 3, 1) := by decide +kernel
theorem d_MRunner_acts_206 : decode y_MRunner_acts.2.1 206 = .ok (.invokevirtual 229, 3) := by decide +kernel
theorem d_MRunner_acts_209 : decode y_MRunner_acts.2.1 209 = .ok (.ireturn, 1) := by decide +kernel
theorem d_MRunner_acts_210 : decode y_MRunner_acts.2.1 210 = .ok (.aload_n 0, 1) := by decide +kernel
theorem d_MRunner_acts_211 : decode y_MRunner_acts.2.1 211 = .ok (.getfield 29, 3) := by decide +kernel
theorem d_MRunner_acts_214 : decode y_MRunner_acts.2.1 214 = .ok (.iload_n 2, 1) := by decide +kernel
theorem d_MRunner_acts_215 : decode y_MRunner_acts.2.1 215 = .ok (.iload_n 3, 1) := by decide +kernel
theorem d_MRunner_acts_216 : decode y_MRunner_acts.2.1 216 = .ok (.invokevirtual 233, 3) := by decide +kernel
theorem d_MRunner_acts_219 : decode y_MRunner_acts.2.1 219 = .ok (.ifCond .ne 5, 3) := by decide +kernel
theorem d_MRunner_acts_222 : decode y_MRunner_acts.2.1 222 = .ok (.iconst 0, 1) := by decide +kernel
theorem d_MRunner_acts_223 : decode y_MRunner_acts.2.1 223 = .ok (.ireturn, 1) := by decide +kernel
theorem d_MRunner_acts_224 : decode y_MRunner_acts.2.1 224 = .ok (.aload_n 0, 1) := by decide +kernel
theorem d_MRunner_acts_225 : decode y_MRunner_acts.2.1 225 = .ok (.getfield 29, 3) := by decide +kernel
theorem d_MRunner_acts_228 : decode y_MRunner_acts.2.1 228 = .ok (.getfield 102, 3) := by decide +kernel
theorem d_MRunner_acts_231 : decode y_MRunner_acts.2.1 231 = .ok (.bipush 48, 2) := by decide +kernel
theorem d_MRunner_acts_233 : decode y_MRunner_acts.2.1 233 = .ok (.iload_n 2, 1) := by decide +kernel
theorem d_MRunner_acts_234 : decode y_MRunner_acts.2.1 234 = .ok (.sipush 255, 3) := by decide +kernel
theorem d_MRunner_acts_237 : decode y_MRunner_acts.2.1 237 = .ok (.iand, 1) := by decide +kernel
theorem d_MRunner_acts_238 : decode y_MRunner_acts.2.1 238 = .ok (.imul, 1) := by decide +kernel
theorem d_MRunner_acts_239 : decode y_MRunner_acts.2.1 239 = .ok (.aload_n 0, 1) := by decide +kernel
theorem d_MRunner_acts_240 : decode y_MRunner_acts.2.1 240 = .ok (.getfield 12, 3) := by decide +kernel
theorem d_MRunner_acts_243 : decode y_MRunner_acts.2.1 243 = .ok (.iload_n 1, 1) := by decide +kernel
theorem d_MRunner_acts_244 : decode y_MRunner_acts.2.1 244 = .ok (.iconst 3, 1) := by decide +kernel
theorem d_MRunner_acts_245 : decode y_MRunner_acts.2.1 245 = .ok (.iadd, 1) := by decide +kernel
theorem d_MRunner_acts_246 : decode y_MRunner_acts.2.1 246 = .ok (.iaload, 1) := by decide +kernel
theorem d_MRunner_acts_247 : decode y_MRunner_acts.2.1 247 = .ok (.iadd, 1) := by decide +kernel
theorem d_MRunner_acts_248 : decode y_MRunner_acts.2.1 248 = .ok (.aload_n 0, 1) := by decide +kernel
theorem d_MRunner_acts_249 : decode y_MRunner_acts.2.1 249 = .ok (.getfield 12, 3) := by decide +kernel
theorem d_MRunner_acts_252 : decode y_MRunner_acts.2.1 252 = .ok (.iload_n 1, 1) := by decide +kernel
theorem d_MRunner_acts_253 : decode y_MRunner_acts.2.1 253 = .ok (.iconst 4, 1) := by decide +kernel
theorem d_MRunner_acts_254 : decode y_MRunner_acts.2.1 254 = .ok (.iadd, 1) := by decide +kernel
theorem d_MRunner_acts_255 : decode y_MRunner_acts.2.1 255 = .ok (.iaload, 1) := by decide +kernel
theorem d_MRunner_acts_256 : decode y_MRunner_acts.2.1 256 = .ok (.iastore, 1) := by decide +kernel
theorem d_MRunner_acts_257 : decode y_MRunner_acts.2.1 257 = .ok (.iconst 1, 1) := by decide +kernel
theorem d_MRunner_acts_258 : decode y_MRunner_acts.2.1 258 = .ok (.ireturn, 1) := by decide +kernel
theorem d_MRunner_acts_259 : decode y_MRunner_acts.2.1 259 = .ok (.aload_n 0, 1) := by decide +kernel
theorem d_MRunner_acts_260 : decode y_MRunner_acts.2.1 260 = .ok (.getfield 29, 3) := by decide +kernel
theorem d_MRunner_acts_263 : decode y_MRunner_acts.2.1 263 = .ok (.getfield 45, 3) := by decide +kernel
theorem d_MRunner_acts_266 : decode y_MRunner_acts.2.1 266 = .ok (.bipush 32, 2) := by decide +kernel
theorem d_MRunner_acts_268 : decode y_MRunner_acts.2.1 268 = .ok (.if_icmp .ne 5, 3) := by decide +kernel
theorem d_MRunner_acts_271 : decode y_MRunner_acts.2.1 271 = .ok (.iconst 0, 1) := by decide +kernel
theorem d_MRunner_acts_272 : decode y_MRunner_acts.2.1 272 = .ok (.ireturn, 1) := by decide +kernel
theorem d_MRunner_acts_273 : decode y_MRunner_acts.2.1 273 = .ok (.aload_n 0, 1) := by decide +kernel
theorem d_MRunner_acts_274 : decode y_MRunner_acts.2.1 274 = .ok (.getfield 29, 3) := by decide +kernel
theorem d_MRunner_acts_277 : decode y_MRunner_acts.2.1 277 = .ok (.getfield 236, 3) := by decide +kernel
theorem d_MRunner_acts_280 : decode y_MRunner_acts.2.1 280 = .ok (.aload_n 0, 1) := by decide +kernel
theorem d_MRunner_acts_281 : decode y_MRunner_acts.2.1 281 = .ok (.getfield 29, 3) := by decide +kernel
theorem d_MRunner_acts_284 : decode y_MRunner_acts.2.1 284 = .ok (.getfield 45, 3) := by decide +kernel
theorem d_MRunner_acts_287 : decode y_MRunner_acts.2.1 287 = .ok (.iload_n 2, 1) := by decide +kernel
theorem d_MRunner_acts_288 : decode y_MRunner_acts.2.1 288 = .ok (.iastore, 1) := by decide +kernel
theorem d_MRunner_acts_289 : decode y_MRunner_acts.2.1 289 = .ok (.aload_n 0, 1) := by decide +kernel
theorem d_MRunner_acts_290 : decode y_MRunner_acts.2.1 290 = .ok (.getfield 29, 3) := by decide +kernel
theorem d_MRunner_acts_293 : decode y_MRunner_acts.2.1 293 = .ok (.dup, 1) := by decide +kernel
theorem d_MRunner_acts_294 : decode y_MRunner_acts.2.1 294 = .ok (.getfield 45, 3) := by decide +kernel
theorem d_MRunner_acts_297 : decode y_MRunner_acts.2.1 297 = .ok (.iconst 1, 1) := by decide +kernel
theorem d_MRunner_acts_298 : decode y_MRunner_acts.2.1 298 = .ok (.iadd, 1) := by decide +kernel
theorem d_MRunner_acts_299 : decode y_MRunner_acts.2.1 299 = .ok (.putfield 45, 3) := by decide +kernel
theorem d_MRunner_acts_302 : decode y_MRunner_acts.2.1 302 = .ok (.iconst 1, 1) := by decide +kernel
theorem d_MRunner_acts_303 : decode y_MRunner_acts.2.1 303 = .ok (.ireturn, 1) := by decide +kernel
theorem s_MRunner_acts : ab_Stat y_MRunner_acts 1 := ⟨(k12 136 rfl rfl), (k1 22 rfl rfl), ⟨by decide, by decide⟩, by decide +kernel⟩
theorem i_MRunner_acts : Cond.instanceMethod y_MRunner_acts.1 ∈ ab_T := (k12 135 rfl rfl)
theorem v_MRunner_acts : Cond.selects "WorldEngineModel$Runner" y_MRunner_acts.1 y_MRunner_acts.1 ∈ ab_T := ab_s (List.mem_of_getElem? (i := 204) rfl) rfl
def B_MRunner_acts_141 (N : Nat) (p0 : Nat) (p1 : Int32) (l4 : Int32) (H : Hp) : Option (Int32 × Hp) :=
    if l4 < (0 : Int32) then
    some (0, H)
    else
    some (1, H)
set_option maxRecDepth 20000 in
set_option maxHeartbeats 2000000 in
theorem mB_MRunner_acts_141 {N : Nat} {p0 : Nat} {p1 : Int32} {l4 : Int32} {H : Hp} {r : Int32 × Hp} (hF : B_MRunner_acts_141 N p0 p1 l4 H = some r) : Sa H r.2 := by
  unfold B_MRunner_acts_141 at hF
  have hm := Sa.rf H
  rcases ite_s hF with ⟨q_2, hG⟩ | ⟨q_2, hG⟩
  · clear hF
    have hr := Option.some.inj hG; subst hr
    exact hm
  · clear hF
    have hr := Option.some.inj hG; subst hr
    exact hm
set_option maxRecDepth 20000 in
set_option maxHeartbeats 2000000 in
theorem kB_MRunner_acts_141 {N : Nat} {p0 : Nat} {p1 : Int32} {l4 : Int32} {H : Hp} {r : Int32 × Hp} (hF : B_MRunner_acts_141 N p0 p1 l4 H = some r) : ab_V y_MRunner_acts { frames := 4, cells := 0, slots := 0, locals := 89 } (po (.returned (some (.int r.1))) r.2) 0 0 0 0 141 [some (.ref p0), some (.int p1), none, none, some (.int l4), none] [] (hpw H) := by
  unfold B_MRunner_acts_141 at hF
  refine ab_iload d_MRunner_acts_141 rfl ?_
  refine ab_if_lt (tgt := 150) d_MRunner_acts_143 (by decide) (fun q30 => ?_) (fun q30 => ?_)
  · rw [if_pos q30] at hF
    refine ab_iconst (v := 0) d_MRunner_acts_150 (by decide) ?_
    exact ab_zret d_MRunner_acts_151 rfl rfl (Nat.le_refl _) (Nat.le_refl _) (by have hr := Option.some.inj hF; subst hr; exact ⟨rfl, rfl⟩)
  · rw [if_neg q30] at hF
    refine ab_iconst (v := 1) d_MRunner_acts_146 (by decide) ?_
    refine ab_goto (tgt := 151) d_MRunner_acts_147 (by decide) ?_
    exact ab_zret d_MRunner_acts_151 rfl rfl (Nat.le_refl _) (Nat.le_refl _) (by have hr := Option.some.inj hF; subst hr; exact ⟨rfl, rfl⟩)
def B_MRunner_acts_81 (N : Nat) (p0 : Nat) (p1 : Int32) : Nat → Int32 → Int32 → Int32 → Hp → Option (Int32 × Hp)
  | 0, _, _, _, _ => none
  | n + 1, l3, l4, l5, H =>
    if l3 ≤ l5 then
    B_MRunner_acts_141 N p0 p1 l4 H
    else
    if l4 < (0 : Int32) then
    B_MRunner_acts_141 N p0 p1 l4 H
    else
    ck (H.sh[p0]? = some (15, 0)) <|
    rf (H.P p0 1) fun a34 =>
    ck (H.sh[a34]? = some (13, 0)) <|
    rf (H.P a34 7) fun a37 =>
    rf (H.P p0 3) fun a39 =>
    ar H 100 a39 fun n41 =>
    ck (inb (p1 + (3 : Int32)) n41) <|
    bnd ((H.D a39 ((p1 + (3 : Int32))).toNatClampNeg)) fun x44 =>
    bnd ((((48 : Int32) * l4) + ((x44 >>> (((8 : Int32) * l5) &&& 31)) &&& (255 : Int32)))) fun x45 =>
    rf (H.P p0 3) fun a46 =>
    ar H 100 a46 fun n48 =>
    ck (inb ((p1 + (4 : Int32)) + l5) n48) <|
    bnd ((H.D a46 (((p1 + (4 : Int32)) + l5)).toNatClampNeg)) fun x51 =>
    ar H 100 a37 fun n52 =>
    ck (inb x45 n52) <|
    bnd (H.sD a37 (x45).toNatClampNeg x51) fun H55 =>
    B_MRunner_acts_81 N p0 p1 n l3 l4 (l5 + 1) H55
termination_by structural n => n
set_option maxRecDepth 20000 in
set_option maxHeartbeats 2000000 in
theorem mB_MRunner_acts_81 {N : Nat} {p0 : Nat} {p1 : Int32} : ∀ (n : Nat) (l3 : Int32) (l4 : Int32) (l5 : Int32) (H : Hp) (r : Int32 × Hp), B_MRunner_acts_81 N p0 p1 n l3 l4 l5 H = some r → Sa H r.2 := by
  intro n
  induction n with
  | zero => intro l3 l4 l5 H r hF; rw [B_MRunner_acts_81] at hF; cases hF
  | succ n ih =>
    intro l3 l4 l5 H r hF
    rw [B_MRunner_acts_81] at hF
    have hm := Sa.rf H
    rcases ite_s hF with ⟨q_4, hG⟩ | ⟨q_4, hG⟩
    · clear hF
      exact hm.tr (mB_MRunner_acts_141 hG)
    · clear hF
      rcases ite_s hG with ⟨q_5, hF⟩ | ⟨q_5, hF⟩
      · clear hG
        exact hm.tr (mB_MRunner_acts_141 hF)
      · clear hG
        obtain ⟨q58, hG⟩ := ck_s hF; clear hF
        obtain ⟨a59, e60, hF⟩ := rf_s hG; clear hG
        obtain ⟨q61, hG⟩ := ck_s hF; clear hF
        obtain ⟨a62, e63, hF⟩ := rf_s hG; clear hG
        obtain ⟨a64, e65, hG⟩ := rf_s hF; clear hF
        obtain ⟨n66, q67, hF⟩ := ar_s hG; clear hG
        obtain ⟨q68, hG⟩ := ck_s hF; clear hF
        obtain ⟨x69, -, hF⟩ := bnd_g hG; clear hG
        obtain ⟨x70, -, hG⟩ := bnd_g hF; clear hF
        obtain ⟨a71, e72, hF⟩ := rf_s hG; clear hG
        obtain ⟨n73, q74, hG⟩ := ar_s hF; clear hF
        obtain ⟨q75, hF⟩ := ck_s hG; clear hG
        obtain ⟨x76, -, hG⟩ := bnd_g hF; clear hF
        obtain ⟨n77, q78, hF⟩ := ar_s hG; clear hG
        obtain ⟨q79, hG⟩ := ck_s hF; clear hF
        obtain ⟨H80, eH80, hF⟩ := bnd_g hG; clear hG
        replace hm : Sa H H80 := by rw [eH80]; exact hm
        exact hm.tr (ih l3 l4 (l5 + 1) H80 r hF)
set_option maxRecDepth 20000 in
set_option maxHeartbeats 2000000 in
theorem kB_MRunner_acts_81 {N : Nat} {p0 : Nat} {p1 : Int32} : ∀ (n : Nat) (l3 : Int32) (l4 : Int32) (l5 : Int32) (H : Hp) (r : Int32 × Hp), B_MRunner_acts_81 N p0 p1 n l3 l4 l5 H = some r → ab_V y_MRunner_acts { frames := 4, cells := 0, slots := 0, locals := 89 } (po (.returned (some (.int r.1))) r.2) 0 0 0 0 81 [some (.ref p0), some (.int p1), none, some (.int l3), some (.int l4), some (.int l5)] [] (hpw H) := by
  intro n
  induction n with
  | zero => intro l3 l4 l5 H r hF; rw [B_MRunner_acts_81] at hF; cases hF
  | succ n ih =>
    intro l3 l4 l5 H r hF
    rw [B_MRunner_acts_81] at hF
    refine ab_iload d_MRunner_acts_81 rfl ?_
    refine ab_iload_n d_MRunner_acts_83 rfl rfl ?_
    refine ab_icmp_ge (tgt := 141) d_MRunner_acts_84 (by decide) (fun q29 => ?_) (fun q29 => ?_)
    · rw [if_pos q29] at hF
      refine ab_le (lv' := [some (.ref p0), some (.int p1), none, none, some (.int l4), none]) ⟨rfl, ⟨rfl, ⟨rfl, trivial⟩⟩⟩ ?_
      exact kB_MRunner_acts_141 hF
    · rw [if_neg q29] at hF
      refine ab_iload d_MRunner_acts_87 rfl ?_
      refine ab_if_lt (tgt := 141) d_MRunner_acts_89 (by decide) (fun q32 => ?_) (fun q32 => ?_)
      · rw [if_pos q32] at hF
        refine ab_le (lv' := [some (.ref p0), some (.int p1), none, none, some (.int l4), none]) ⟨rfl, ⟨rfl, ⟨rfl, trivial⟩⟩⟩ ?_
        exact kB_MRunner_acts_141 hF
      · rw [if_neg q32] at hF
        refine ab_aload_n d_MRunner_acts_92 rfl rfl rfl ?_
        obtain ⟨q33, hG⟩ := ck_s hF; clear hF
        obtain ⟨a34, e35, hF⟩ := rf_s hG; clear hG
        refine hp_getR (f := 1) d_MRunner_acts_93 q33 (by decide) rfl (by decide) (k9 184 rfl rfl) rfl e35 ?_
        obtain ⟨q36, hG⟩ := ck_s hF; clear hF
        obtain ⟨a37, e38, hF⟩ := rf_s hG; clear hG
        refine hp_getRN (f := 7) d_MRunner_acts_96 q36 (by decide) rfl (by decide) (k9 109 rfl rfl) rfl e38 ?_
        refine ab_bipush (v := 48) d_MRunner_acts_99 (by decide) ?_
        refine ab_iload d_MRunner_acts_101 rfl ?_
        refine ab_imul d_MRunner_acts_103 ?_
        refine ab_aload_n d_MRunner_acts_104 rfl rfl rfl ?_
        obtain ⟨a39, e40, hG⟩ := rf_s hF; clear hF
        refine hp_getR (f := 3) d_MRunner_acts_105 q33 (by decide) rfl (by decide) (k9 186 rfl rfl) rfl e40 ?_
        refine ab_iload_n d_MRunner_acts_108 rfl rfl ?_
        refine ab_iconst (v := 3) d_MRunner_acts_109 (by decide) ?_
        refine ab_iadd d_MRunner_acts_110 ?_
        obtain ⟨n41, q42, hF⟩ := ar_s hG; clear hG
        obtain ⟨q43, hG⟩ := ck_s hF; clear hF
        refine hp_iald d_MRunner_acts_111 tI q42 q43 ?_
        refine ab_topi (fun x44 ex44 => ?_)
        replace hG := bnd_s ex44 hG
        refine ab_bipush (v := 8) d_MRunner_acts_112 (by decide) ?_
        refine ab_iload d_MRunner_acts_114 rfl ?_
        refine ab_imul d_MRunner_acts_116 ?_
        refine ab_ishr d_MRunner_acts_117 ?_
        refine ab_sipush (v := 255) d_MRunner_acts_118 (by decide) ?_
        refine ab_iand d_MRunner_acts_121 ?_
        refine ab_iadd d_MRunner_acts_122 ?_
        refine ab_topi (fun x45 ex45 => ?_)
        replace hG := bnd_s ex45 hG
        refine ab_aload_n d_MRunner_acts_123 rfl rfl rfl ?_
        obtain ⟨a46, e47, hF⟩ := rf_s hG; clear hG
        refine hp_getR (f := 3) d_MRunner_acts_124 q33 (by decide) rfl (by decide) (k9 186 rfl rfl) rfl e47 ?_
        refine ab_iload_n d_MRunner_acts_127 rfl rfl ?_
        refine ab_iconst (v := 4) d_MRunner_acts_128 (by decide) ?_
        refine ab_iadd d_MRunner_acts_129 ?_
        refine ab_iload d_MRunner_acts_130 rfl ?_
        refine ab_iadd d_MRunner_acts_132 ?_
        obtain ⟨n48, q49, hG⟩ := ar_s hF; clear hF
        obtain ⟨q50, hF⟩ := ck_s hG; clear hG
        refine hp_iald d_MRunner_acts_133 tI q49 q50 ?_
        refine ab_topi (fun x51 ex51 => ?_)
        replace hF := bnd_s ex51 hF
        obtain ⟨n52, q53, hG⟩ := ar_s hF; clear hF
        obtain ⟨q54, hF⟩ := ck_s hG; clear hG
        refine hp_iast d_MRunner_acts_134 tI q53 q54 ?_
        refine hp_gen (fun H55 eH55 => ?_)
        replace hF := bnd_s eH55 hF
        have s_3 : Sa H H55 := by rw [eH55]; exact Sa.rf _
        refine ab_iinc (v := l5 + 1) (lv' := [some (.ref p0), some (.int p1), none, some (.int l3), some (.int l4), some (.int (l5 + 1))]) d_MRunner_acts_135 rfl rfl (by decide) rfl ?_
        refine ab_goto (tgt := 81) d_MRunner_acts_138 (by decide) ?_
        exact ih l3 l4 (l5 + 1) H55 r hF
def F_MRunner_acts (N : Nat) (p0 : Nat) (p1 : Int32) (H : Hp) : Option (Int32 × Hp) :=
    ck (H.sh[p0]? = some (15, 0)) <|
    rf (H.P p0 3) fun a2 =>
    ar H 100 a2 fun n4 =>
    ck (inb (p1 + (1 : Int32)) n4) <|
    bnd ((H.D a2 ((p1 + (1 : Int32))).toNatClampNeg)) fun x7 =>
    rf (H.P p0 3) fun a8 =>
    ar H 100 a8 fun n10 =>
    ck (inb (p1 + (2 : Int32)) n10) <|
    bnd ((H.D a8 ((p1 + (2 : Int32))).toNatClampNeg)) fun x13 =>
    rf (H.P p0 3) fun a14 =>
    ar H 100 a14 fun n16 =>
    ck (inb p1 n16) <|
    bnd ((H.D a14 (p1).toNatClampNeg)) fun x19 =>
    if x19 = 222 then
    rf (H.P p0 1) fun a21 =>
    rf (H.P p0 0) fun a23 =>
    ck (H.sh[a21]? = some (13, 0)) <|
    bC (F_MWorld_spawns N a21 a23 x7 H) fun v27 H28 =>
    B_MRunner_acts_81 N p0 p1 N x13 v27 0 H28
    else if x19 = 223 then
    rf (H.P p0 1) fun a82 =>
    ck (H.sh[a82]? = some (13, 0)) <|
    bC (F_MWorld_drops N a82 x7 H) fun v86 H87 =>
    ck (v86 &&& 1 = v86) <|
    some (v86, H87)
    else if x19 = 224 then
    rf (H.P p0 1) fun a90 =>
    rf (H.P p0 0) fun a92 =>
    ck (H.sh[a90]? = some (13, 0)) <|
    bC (F_MWorld_gives N a90 a92 x7 x13 H) fun v96 H97 =>
    ck (v96 &&& 1 = v96) <|
    some (v96, H97)
    else if x19 = 225 then
    rf (H.P p0 1) fun a100 =>
    ck (H.sh[a100]? = some (13, 0)) <|
    bC (F_MWorld_takes N a100 x7 x13 H) fun v104 H105 =>
    ck (v104 &&& 1 = v104) <|
    some (v104, H105)
    else if x19 = 226 then
    rf (H.P p0 1) fun a108 =>
    ck (H.sh[a108]? = some (13, 0)) <|
    bC (F_MWorld_has N a108 x7 x13 H) fun v112 H113 =>
    if v112 = (0 : Int32) then
    some (0, H113)
    else
    rf (H113.P p0 1) fun a115 =>
    ck (H113.sh[a115]? = some (13, 0)) <|
    rf (H113.P a115 7) fun a118 =>
    rf (H113.P p0 3) fun a120 =>
    ar H113 100 a120 fun n122 =>
    ck (inb (p1 + (3 : Int32)) n122) <|
    bnd ((H113.D a120 ((p1 + (3 : Int32))).toNatClampNeg)) fun x125 =>
    rf (H113.P p0 3) fun a126 =>
    ar H113 100 a126 fun n128 =>
    ck (inb (p1 + (4 : Int32)) n128) <|
    bnd ((H113.D a126 ((p1 + (4 : Int32))).toNatClampNeg)) fun x131 =>
    ar H113 100 a118 fun n132 =>
    ck (inb (((48 : Int32) * (x7 &&& (255 : Int32))) + x125) n132) <|
    bnd (H113.sD a118 ((((48 : Int32) * (x7 &&& (255 : Int32))) + x125)).toNatClampNeg x131) fun H135 =>
    some (1, H135)
    else if x19 = 227 then
    rf (H.P p0 1) fun a137 =>
    rf (H.P p0 3) fun a139 =>
    ar H 100 a139 fun n141 =>
    ck (inb (p1 + (3 : Int32)) n141) <|
    bnd ((H.D a139 ((p1 + (3 : Int32))).toNatClampNeg)) fun x144 =>
    rf (H.P p0 3) fun a145 =>
    ck (H.sh[a137]? = some (13, 0)) <|
    bC (F_MWorld_pends N a137 x7 x144 x13 a145 (p1 + (4 : Int32)) H) fun v149 H150 =>
    ck (v149 &&& 1 = v149) <|
    some (v149, H150)
    else rf (H.P p0 1) fun a152 =>
    ck (H.sh[a152]? = some (13, 0)) <|
    bnd ((H.D a152 16)) fun x155 =>
    if x155 = (32 : Int32) then
    some (0, H)
    else
    rf (H.P p0 1) fun a157 =>
    ck (H.sh[a157]? = some (13, 0)) <|
    rf (H.P a157 17) fun a160 =>
    rf (H.P p0 1) fun a162 =>
    ck (H.sh[a162]? = some (13, 0)) <|
    bnd ((H.D a162 16)) fun x165 =>
    ar H 100 a160 fun n166 =>
    ck (inb x165 n166) <|
    bnd (H.sD a160 (x165).toNatClampNeg x7) fun H169 =>
    rf (H169.P p0 1) fun a170 =>
    ck (H169.sh[a170]? = some (13, 0)) <|
    bnd ((H169.D a170 16)) fun x173 =>
    bnd (H169.sD a170 16 (x173 + (1 : Int32))) fun H174 =>
    some (1, H174)
set_option maxRecDepth 20000 in
set_option maxHeartbeats 2000000 in
theorem m_MRunner_acts {N : Nat} {p0 : Nat} {p1 : Int32} {H : Hp} {r : Int32 × Hp} (hF : F_MRunner_acts N p0 p1 H = some r) : Sa H r.2 := by
  unfold F_MRunner_acts at hF
  have hm := Sa.rf H
  obtain ⟨q175, hG⟩ := ck_s hF; clear hF
  obtain ⟨a176, e177, hF⟩ := rf_s hG; clear hG
  obtain ⟨n178, q179, hG⟩ := ar_s hF; clear hF
  obtain ⟨q180, hF⟩ := ck_s hG; clear hG
  obtain ⟨x181, -, hG⟩ := bnd_g hF; clear hF
  obtain ⟨a182, e183, hF⟩ := rf_s hG; clear hG
  obtain ⟨n184, q185, hG⟩ := ar_s hF; clear hF
  obtain ⟨q186, hF⟩ := ck_s hG; clear hG
  obtain ⟨x187, -, hG⟩ := bnd_g hF; clear hF
  obtain ⟨a188, e189, hF⟩ := rf_s hG; clear hG
  obtain ⟨n190, q191, hG⟩ := ar_s hF; clear hF
  obtain ⟨q192, hF⟩ := ck_s hG; clear hG
  obtain ⟨x193, -, hG⟩ := bnd_g hF; clear hF
  rcases ite_s hG with ⟨q_15, hF⟩ | ⟨q_15, hF⟩
  · clear hG
    obtain ⟨a195, e196, hG⟩ := rf_s hF; clear hF
    obtain ⟨a197, e198, hF⟩ := rf_s hG; clear hG
    obtain ⟨q199, hG⟩ := ck_s hF; clear hF
    obtain ⟨v201, H202, z200, hF⟩ := bC_s hG; clear hG
    replace hm : Sa H H202 := hm.tr (m_MWorld_spawns z200)
    exact hm.tr (mB_MRunner_acts_81 N x187 v201 0 H202 r hF)
  clear hG
  rcases ite_s hF with ⟨q_17, hG⟩ | ⟨q_17, hG⟩
  · clear hF
    obtain ⟨a204, e205, hF⟩ := rf_s hG; clear hG
    obtain ⟨q206, hG⟩ := ck_s hF; clear hF
    obtain ⟨v208, H209, z207, hF⟩ := bC_s hG; clear hG
    replace hm : Sa H H209 := hm.tr (m_MWorld_drops z207)
    obtain ⟨q210, hG⟩ := ck_s hF; clear hF
    have hr := Option.some.inj hG; subst hr
    exact hm
  clear hF
  rcases ite_s hG with ⟨q_19, hF⟩ | ⟨q_19, hF⟩
  · clear hG
    obtain ⟨a212, e213, hG⟩ := rf_s hF; clear hF
    obtain ⟨a214, e215, hF⟩ := rf_s hG; clear hG
    obtain ⟨q216, hG⟩ := ck_s hF; clear hF
    obtain ⟨v218, H219, z217, hF⟩ := bC_s hG; clear hG
    replace hm : Sa H H219 := hm.tr (m_MWorld_gives z217)
    obtain ⟨q220, hG⟩ := ck_s hF; clear hF
    have hr := Option.some.inj hG; subst hr
    exact hm
  clear hG
  rcases ite_s hF with ⟨q_21, hG⟩ | ⟨q_21, hG⟩
  · clear hF
    obtain ⟨a222, e223, hF⟩ := rf_s hG; clear hG
    obtain ⟨q224, hG⟩ := ck_s hF; clear hF
    obtain ⟨v226, H227, z225, hF⟩ := bC_s hG; clear hG
    replace hm : Sa H H227 := hm.tr (m_MWorld_takes z225)
    obtain ⟨q228, hG⟩ := ck_s hF; clear hF
    have hr := Option.some.inj hG; subst hr
    exact hm
  clear hF
  rcases ite_s hG with ⟨q_23, hF⟩ | ⟨q_23, hF⟩
  · clear hG
    obtain ⟨a230, e231, hG⟩ := rf_s hF; clear hF
    obtain ⟨q232, hF⟩ := ck_s hG; clear hG
    obtain ⟨v234, H235, z233, hG⟩ := bC_s hF; clear hF
    replace hm : Sa H H235 := hm.tr (m_MWorld_has z233)
    rcases ite_s hG with ⟨q_25, hF⟩ | ⟨q_25, hF⟩
    · clear hG
      have hr := Option.some.inj hF; subst hr
      exact hm
    · clear hG
      obtain ⟨a237, e238, hG⟩ := rf_s hF; clear hF
      obtain ⟨q239, hF⟩ := ck_s hG; clear hG
      obtain ⟨a240, e241, hG⟩ := rf_s hF; clear hF
      obtain ⟨a242, e243, hF⟩ := rf_s hG; clear hG
      obtain ⟨n244, q245, hG⟩ := ar_s hF; clear hF
      obtain ⟨q246, hF⟩ := ck_s hG; clear hG
      obtain ⟨x247, -, hG⟩ := bnd_g hF; clear hF
      obtain ⟨a248, e249, hF⟩ := rf_s hG; clear hG
      obtain ⟨n250, q251, hG⟩ := ar_s hF; clear hF
      obtain ⟨q252, hF⟩ := ck_s hG; clear hG
      obtain ⟨x253, -, hG⟩ := bnd_g hF; clear hF
      obtain ⟨n254, q255, hF⟩ := ar_s hG; clear hG
      obtain ⟨q256, hG⟩ := ck_s hF; clear hF
      obtain ⟨H257, eH257, hF⟩ := bnd_g hG; clear hG
      replace hm : Sa H H257 := by rw [eH257]; exact hm
      have hr := Option.some.inj hF; subst hr
      exact hm
  clear hG
  rcases ite_s hF with ⟨q_27, hG⟩ | ⟨q_27, hG⟩
  · clear hF
    obtain ⟨a259, e260, hF⟩ := rf_s hG; clear hG
    obtain ⟨a261, e262, hG⟩ := rf_s hF; clear hF
    obtain ⟨n263, q264, hF⟩ := ar_s hG; clear hG
    obtain ⟨q265, hG⟩ := ck_s hF; clear hF
    obtain ⟨x266, -, hF⟩ := bnd_g hG; clear hG
    obtain ⟨a267, e268, hG⟩ := rf_s hF; clear hF
    obtain ⟨q269, hF⟩ := ck_s hG; clear hG
    obtain ⟨v271, H272, z270, hG⟩ := bC_s hF; clear hF
    replace hm : Sa H H272 := hm.tr (m_MWorld_pends z270)
    obtain ⟨q273, hF⟩ := ck_s hG; clear hG
    have hr := Option.some.inj hF; subst hr
    exact hm
  clear hF
  obtain ⟨a274, e275, hF⟩ := rf_s hG; clear hG
  obtain ⟨q276, hG⟩ := ck_s hF; clear hF
  obtain ⟨x277, -, hF⟩ := bnd_g hG; clear hG
  rcases ite_s hF with ⟨q_29, hG⟩ | ⟨q_29, hG⟩
  · clear hF
    have hr := Option.some.inj hG; subst hr
    exact hm
  · clear hF
    obtain ⟨a279, e280, hF⟩ := rf_s hG; clear hG
    obtain ⟨q281, hG⟩ := ck_s hF; clear hF
    obtain ⟨a282, e283, hF⟩ := rf_s hG; clear hG
    obtain ⟨a284, e285, hG⟩ := rf_s hF; clear hF
    obtain ⟨q286, hF⟩ := ck_s hG; clear hG
    obtain ⟨x287, -, hG⟩ := bnd_g hF; clear hF
    obtain ⟨n288, q289, hF⟩ := ar_s hG; clear hG
    obtain ⟨q290, hG⟩ := ck_s hF; clear hF
    obtain ⟨H291, eH291, hF⟩ := bnd_g hG; clear hG
    replace hm : Sa H H291 := by rw [eH291]; exact hm
    obtain ⟨a292, e293, hG⟩ := rf_s hF; clear hF
    obtain ⟨q294, hF⟩ := ck_s hG; clear hG
    obtain ⟨x295, -, hG⟩ := bnd_g hF; clear hF
    obtain ⟨H296, eH296, hF⟩ := bnd_g hG; clear hG
    replace hm : Sa H H296 := by rw [eH296]; exact hm
    have hr := Option.some.inj hF; subst hr
    exact hm
set_option maxRecDepth 20000 in
set_option maxHeartbeats 2000000 in
theorem k_MRunner_acts {N : Nat} {p0 : Nat} {p1 : Int32} {H : Hp} {r : Int32 × Hp} (hF : F_MRunner_acts N p0 p1 H = some r) : ab_M y_MRunner_acts { frames := 4, cells := 0, slots := 0, locals := 89 } [.ref p0, .int p1] (hpw H) (po (.returned (some (.int r.1))) r.2) := by
  unfold F_MRunner_acts at hF
  refine ab_of2 (lv := [some (.ref p0), some (.int p1), none, none, none, none]) 4 rfl rfl (Nat.le_of_ble_eq_true rfl) ?_
  refine ab_aload_n d_MRunner_acts_0 rfl rfl rfl ?_
  obtain ⟨q1, hG⟩ := ck_s hF; clear hF
  obtain ⟨a2, e3, hF⟩ := rf_s hG; clear hG
  refine hp_getR (f := 3) d_MRunner_acts_1 q1 (by decide) rfl (by decide) (k9 186 rfl rfl) rfl e3 ?_
  refine ab_iload_n d_MRunner_acts_4 rfl rfl ?_
  refine ab_iconst (v := 1) d_MRunner_acts_5 (by decide) ?_
  refine ab_iadd d_MRunner_acts_6 ?_
  obtain ⟨n4, q5, hG⟩ := ar_s hF; clear hF
  obtain ⟨q6, hF⟩ := ck_s hG; clear hG
  refine hp_iald d_MRunner_acts_7 tI q5 q6 ?_
  refine ab_topi (fun x7 ex7 => ?_)
  replace hF := bnd_s ex7 hF
  refine ab_istore_n (lv' := [some (.ref p0), some (.int p1), some (.int x7), none, none, none]) d_MRunner_acts_8 rfl (by decide) rfl ?_
  refine ab_aload_n d_MRunner_acts_9 rfl rfl rfl ?_
  obtain ⟨a8, e9, hG⟩ := rf_s hF; clear hF
  refine hp_getR (f := 3) d_MRunner_acts_10 q1 (by decide) rfl (by decide) (k9 186 rfl rfl) rfl e9 ?_
  refine ab_iload_n d_MRunner_acts_13 rfl rfl ?_
  refine ab_iconst (v := 2) d_MRunner_acts_14 (by decide) ?_
  refine ab_iadd d_MRunner_acts_15 ?_
  obtain ⟨n10, q11, hF⟩ := ar_s hG; clear hG
  obtain ⟨q12, hG⟩ := ck_s hF; clear hF
  refine hp_iald d_MRunner_acts_16 tI q11 q12 ?_
  refine ab_topi (fun x13 ex13 => ?_)
  replace hG := bnd_s ex13 hG
  refine ab_istore_n (lv' := [some (.ref p0), some (.int p1), some (.int x7), some (.int x13), none, none]) d_MRunner_acts_17 rfl (by decide) rfl ?_
  refine ab_aload_n d_MRunner_acts_18 rfl rfl rfl ?_
  obtain ⟨a14, e15, hF⟩ := rf_s hG; clear hG
  refine hp_getR (f := 3) d_MRunner_acts_19 q1 (by decide) rfl (by decide) (k9 186 rfl rfl) rfl e15 ?_
  refine ab_iload_n d_MRunner_acts_22 rfl rfl ?_
  obtain ⟨n16, q17, hG⟩ := ar_s hF; clear hF
  obtain ⟨q18, hF⟩ := ck_s hG; clear hG
  refine hp_iald d_MRunner_acts_23 tI q17 q18 ?_
  refine ab_topi (fun x19 ex19 => ?_)
  replace hF := bnd_s ex19 hF
  by_cases t20 : x19 = 222
  · rw [if_pos t20] at hF
    refine ab_tableIn (off := 40) (tgt := 64) d_MRunner_acts_24 (by rw [t20]; decide) (by rw [t20]; decide) (by rw [t20]; decide) (by decide) ?_
    refine ab_aload_n d_MRunner_acts_64 rfl rfl rfl ?_
    obtain ⟨a21, e22, hG⟩ := rf_s hF; clear hF
    refine hp_getR (f := 1) d_MRunner_acts_65 q1 (by decide) rfl (by decide) (k9 184 rfl rfl) rfl e22 ?_
    refine ab_aload_n d_MRunner_acts_68 rfl rfl rfl ?_
    obtain ⟨a23, e24, hF⟩ := rf_s hG; clear hG
    refine hp_getR (f := 0) d_MRunner_acts_69 q1 (by decide) rfl (by decide) (k9 183 rfl rfl) rfl e24 ?_
    refine ab_iload_n d_MRunner_acts_72 rfl rfl ?_
    obtain ⟨q25, hG⟩ := ck_s hF; clear hF
    obtain ⟨v27, H28, z26, hF⟩ := bC_s hG; clear hG
    refine hp_callV_a (v := .int v27) (H1 := H28) (As := [.ref a23, .int x7]) (rest := []) d_MRunner_acts_73 (k_MWorld_spawns z26) (ab_mkC s_MWorld_spawns (Nat.le_of_ble_eq_true rfl) (Nat.le_of_ble_eq_true rfl) (Nat.le_refl 0) (Nat.le_refl 0)) (k12 137 rfl rfl) i_MWorld_spawns v_MWorld_spawns q25 (by decide) rfl rfl (Nat.le_of_ble_eq_true rfl) ?_
    have s_1 : Sa H H28 := (m_MWorld_spawns z26)
    refine ab_istore (lv' := [some (.ref p0), some (.int p1), some (.int x7), some (.int x13), some (.int v27), none]) d_MRunner_acts_76 (by decide) rfl ?_
    refine ab_iconst (v := 0) d_MRunner_acts_78 (by decide) ?_
    refine ab_istore (lv' := [some (.ref p0), some (.int p1), some (.int x7), some (.int x13), some (.int v27), some (.int 0)]) d_MRunner_acts_79 (by decide) rfl ?_
    refine ab_le (lv' := [some (.ref p0), some (.int p1), none, some (.int x13), some (.int v27), some (.int 0)]) ⟨rfl, ⟨rfl, ⟨rfl, ⟨rfl, ⟨rfl, trivial⟩⟩⟩⟩⟩ ?_
    exact kB_MRunner_acts_81 N x13 v27 0 H28 r hF
  rw [if_neg t20] at hF
  have ut20 : ¬ (222 : Int) = (x19).toInt := fun z => t20 (Int32.toInt_inj.mp (z.symm.trans (by decide)))
  by_cases t81 : x19 = 223
  · rw [if_pos t81] at hF
    refine ab_tableIn (off := 153) (tgt := 177) d_MRunner_acts_24 (by rw [t81]; decide) (by rw [t81]; decide) (by rw [t81]; decide) (by decide) ?_
    refine ab_aload_n d_MRunner_acts_177 rfl rfl rfl ?_
    obtain ⟨a82, e83, hG⟩ := rf_s hF; clear hF
    refine hp_getR (f := 1) d_MRunner_acts_178 q1 (by decide) rfl (by decide) (k9 184 rfl rfl) rfl e83 ?_
    refine ab_iload_n d_MRunner_acts_181 rfl rfl ?_
    obtain ⟨q84, hF⟩ := ck_s hG; clear hG
    obtain ⟨v86, H87, z85, hG⟩ := bC_s hF; clear hF
    refine hp_callV_a (v := .int v86) (H1 := H87) (As := [.int x7]) (rest := []) d_MRunner_acts_182 (k_MWorld_drops z85) (ab_mkC s_MWorld_drops (Nat.le_of_ble_eq_true rfl) (Nat.le_of_ble_eq_true rfl) (Nat.le_refl 0) (Nat.le_refl 0)) (k12 142 rfl rfl) i_MWorld_drops v_MWorld_drops q84 (by decide) rfl rfl (Nat.le_of_ble_eq_true rfl) ?_
    have s_7 : Sa H H87 := (m_MWorld_drops z85)
    obtain ⟨q88, hF⟩ := ck_s hG; clear hG
    exact ab_zret d_MRunner_acts_185 rfl (congrArg Value.int q88) (Nat.le_refl _) (Nat.le_refl _) (by have hr := Option.some.inj hF; subst hr; exact ⟨rfl, rfl⟩)
  rw [if_neg t81] at hF
  have ut81 : ¬ (223 : Int) = (x19).toInt := fun z => t81 (Int32.toInt_inj.mp (z.symm.trans (by decide)))
  by_cases t89 : x19 = 224
  · rw [if_pos t89] at hF
    refine ab_tableIn (off := 162) (tgt := 186) d_MRunner_acts_24 (by rw [t89]; decide) (by rw [t89]; decide) (by rw [t89]; decide) (by decide) ?_
    refine ab_aload_n d_MRunner_acts_186 rfl rfl rfl ?_
    obtain ⟨a90, e91, hG⟩ := rf_s hF; clear hF
    refine hp_getR (f := 1) d_MRunner_acts_187 q1 (by decide) rfl (by decide) (k9 184 rfl rfl) rfl e91 ?_
    refine ab_aload_n d_MRunner_acts_190 rfl rfl rfl ?_
    obtain ⟨a92, e93, hF⟩ := rf_s hG; clear hG
    refine hp_getR (f := 0) d_MRunner_acts_191 q1 (by decide) rfl (by decide) (k9 183 rfl rfl) rfl e93 ?_
    refine ab_iload_n d_MRunner_acts_194 rfl rfl ?_
    refine ab_iload_n d_MRunner_acts_195 rfl rfl ?_
    obtain ⟨q94, hG⟩ := ck_s hF; clear hF
    obtain ⟨v96, H97, z95, hF⟩ := bC_s hG; clear hG
    refine hp_callV_a (v := .int v96) (H1 := H97) (As := [.ref a92, .int x7, .int x13]) (rest := []) d_MRunner_acts_196 (k_MWorld_gives z95) (ab_mkC s_MWorld_gives (Nat.le_of_ble_eq_true rfl) (Nat.le_of_ble_eq_true rfl) (Nat.le_refl 0) (Nat.le_refl 0)) (k12 146 rfl rfl) i_MWorld_gives v_MWorld_gives q94 (by decide) rfl rfl (Nat.le_of_ble_eq_true rfl) ?_
    have s_8 : Sa H H97 := (m_MWorld_gives z95)
    obtain ⟨q98, hG⟩ := ck_s hF; clear hF
    exact ab_zret d_MRunner_acts_199 rfl (congrArg Value.int q98) (Nat.le_refl _) (Nat.le_refl _) (by have hr := Option.some.inj hG; subst hr; exact ⟨rfl, rfl⟩)
  rw [if_neg t89] at hF
  have ut89 : ¬ (224 : Int) = (x19).toInt := fun z => t89 (Int32.toInt_inj.mp (z.symm.trans (by decide)))
  by_cases t99 : x19 = 225
  · rw [if_pos t99] at hF
    refine ab_tableIn (off := 176) (tgt := 200) d_MRunner_acts_24 (by rw [t99]; decide) (by rw [t99]; decide) (by rw [t99]; decide) (by decide) ?_
    refine ab_aload_n d_MRunner_acts_200 rfl rfl rfl ?_
    obtain ⟨a100, e101, hG⟩ := rf_s hF; clear hF
    refine hp_getR (f := 1) d_MRunner_acts_201 q1 (by decide) rfl (by decide) (k9 184 rfl rfl) rfl e101 ?_
    refine ab_iload_n d_MRunner_acts_204 rfl rfl ?_
    refine ab_iload_n d_MRunner_acts_205 rfl rfl ?_
    obtain ⟨q102, hF⟩ := ck_s hG; clear hG
    obtain ⟨v104, H105, z103, hG⟩ := bC_s hF; clear hF
    refine hp_callV_a (v := .int v104) (H1 := H105) (As := [.int x7, .int x13]) (rest := []) d_MRunner_acts_206 (k_MWorld_takes z103) (ab_mkC s_MWorld_takes (Nat.le_of_ble_eq_true rfl) (Nat.le_of_ble_eq_true rfl) (Nat.le_refl 0) (Nat.le_refl 0)) (k12 152 rfl rfl) i_MWorld_takes v_MWorld_takes q102 (by decide) rfl rfl (Nat.le_of_ble_eq_true rfl) ?_
    have s_9 : Sa H H105 := (m_MWorld_takes z103)
    obtain ⟨q106, hF⟩ := ck_s hG; clear hG
    exact ab_zret d_MRunner_acts_209 rfl (congrArg Value.int q106) (Nat.le_refl _) (Nat.le_refl _) (by have hr := Option.some.inj hF; subst hr; exact ⟨rfl, rfl⟩)
  rw [if_neg t99] at hF
  have ut99 : ¬ (225 : Int) = (x19).toInt := fun z => t99 (Int32.toInt_inj.mp (z.symm.trans (by decide)))
  by_cases t107 : x19 = 226
  · rw [if_pos t107] at hF
    refine ab_tableIn (off := 186) (tgt := 210) d_MRunner_acts_24 (by rw [t107]; decide) (by rw [t107]; decide) (by rw [t107]; decide) (by decide) ?_
    refine ab_aload_n d_MRunner_acts_210 rfl rfl rfl ?_
    obtain ⟨a108, e109, hG⟩ := rf_s hF; clear hF
    refine hp_getR (f := 1) d_MRunner_acts_211 q1 (by decide) rfl (by decide) (k9 184 rfl rfl) rfl e109 ?_
    refine ab_iload_n d_MRunner_acts_214 rfl rfl ?_
    refine ab_iload_n d_MRunner_acts_215 rfl rfl ?_
    obtain ⟨q110, hF⟩ := ck_s hG; clear hG
    obtain ⟨v112, H113, z111, hG⟩ := bC_s hF; clear hF
    refine hp_callV_a (v := .int v112) (H1 := H113) (As := [.int x7, .int x13]) (rest := []) d_MRunner_acts_216 (k_MWorld_has z111) (ab_mkC s_MWorld_has (Nat.le_of_ble_eq_true rfl) (Nat.le_of_ble_eq_true rfl) (Nat.le_refl 0) (Nat.le_refl 0)) (k12 46 rfl rfl) i_MWorld_has v_MWorld_has q110 (by decide) rfl rfl (Nat.le_of_ble_eq_true rfl) ?_
    have s_10 : Sa H H113 := (m_MWorld_has z111)
    refine ab_if_ne (tgt := 224) d_MRunner_acts_219 (by decide) (fun q114 => ?_) (fun q114 => ?_)
    · rw [if_neg q114] at hG
      refine ab_aload_n d_MRunner_acts_224 rfl rfl rfl ?_
      obtain ⟨a115, e116, hF⟩ := rf_s hG; clear hG
      refine hp_getR (f := 1) d_MRunner_acts_225 (by rw [(s_10).1]; exact q1) (by decide) rfl (by decide) (k9 184 rfl rfl) rfl e116 ?_
      obtain ⟨q117, hG⟩ := ck_s hF; clear hF
      rw [(s_10).1] at q117
      obtain ⟨a118, e119, hF⟩ := rf_s hG; clear hG
      refine hp_getRN (f := 7) d_MRunner_acts_228 (by rw [(s_10).1]; exact q117) (by decide) rfl (by decide) (k9 109 rfl rfl) rfl e119 ?_
      refine ab_bipush (v := 48) d_MRunner_acts_231 (by decide) ?_
      refine ab_iload_n d_MRunner_acts_233 rfl rfl ?_
      refine ab_sipush (v := 255) d_MRunner_acts_234 (by decide) ?_
      refine ab_iand d_MRunner_acts_237 ?_
      refine ab_imul d_MRunner_acts_238 ?_
      refine ab_aload_n d_MRunner_acts_239 rfl rfl rfl ?_
      obtain ⟨a120, e121, hG⟩ := rf_s hF; clear hF
      refine hp_getR (f := 3) d_MRunner_acts_240 (by rw [(s_10).1]; exact q1) (by decide) rfl (by decide) (k9 186 rfl rfl) rfl e121 ?_
      refine ab_iload_n d_MRunner_acts_243 rfl rfl ?_
      refine ab_iconst (v := 3) d_MRunner_acts_244 (by decide) ?_
      refine ab_iadd d_MRunner_acts_245 ?_
      obtain ⟨n122, q123, hF⟩ := ar_s hG; clear hG
      rw [(s_10).1] at q123
      obtain ⟨q124, hG⟩ := ck_s hF; clear hF
      refine hp_iald d_MRunner_acts_246 tI (by rw [(s_10).1]; exact q123) q124 ?_
      refine ab_topi (fun x125 ex125 => ?_)
      replace hG := bnd_s ex125 hG
      refine ab_iadd d_MRunner_acts_247 ?_
      refine ab_aload_n d_MRunner_acts_248 rfl rfl rfl ?_
      obtain ⟨a126, e127, hF⟩ := rf_s hG; clear hG
      refine hp_getR (f := 3) d_MRunner_acts_249 (by rw [(s_10).1]; exact q1) (by decide) rfl (by decide) (k9 186 rfl rfl) rfl e127 ?_
      refine ab_iload_n d_MRunner_acts_252 rfl rfl ?_
      refine ab_iconst (v := 4) d_MRunner_acts_253 (by decide) ?_
      refine ab_iadd d_MRunner_acts_254 ?_
      obtain ⟨n128, q129, hG⟩ := ar_s hF; clear hF
      rw [(s_10).1] at q129
      obtain ⟨q130, hF⟩ := ck_s hG; clear hG
      refine hp_iald d_MRunner_acts_255 tI (by rw [(s_10).1]; exact q129) q130 ?_
      refine ab_topi (fun x131 ex131 => ?_)
      replace hF := bnd_s ex131 hF
      obtain ⟨n132, q133, hG⟩ := ar_s hF; clear hF
      rw [(s_10).1] at q133
      obtain ⟨q134, hF⟩ := ck_s hG; clear hG
      refine hp_iast d_MRunner_acts_256 tI (by rw [(s_10).1]; exact q133) q134 ?_
      refine hp_gen (fun H135 eH135 => ?_)
      replace hF := bnd_s eH135 hF
      have s_11 : Sa H H135 := by rw [eH135]; exact s_10
      refine ab_iconst (v := 1) d_MRunner_acts_257 (by decide) ?_
      exact ab_zret d_MRunner_acts_258 rfl rfl (Nat.le_refl _) (Nat.le_refl _) (by have hr := Option.some.inj hF; subst hr; exact ⟨rfl, rfl⟩)
    · rw [if_pos q114] at hG
      refine ab_iconst (v := 0) d_MRunner_acts_222 (by decide) ?_
      exact ab_zret d_MRunner_acts_223 rfl rfl (Nat.le_refl _) (Nat.le_refl _) (by have hr := Option.some.inj hG; subst hr; exact ⟨rfl, rfl⟩)
  rw [if_neg t107] at hF
  have ut107 : ¬ (226 : Int) = (x19).toInt := fun z => t107 (Int32.toInt_inj.mp (z.symm.trans (by decide)))
  by_cases t136 : x19 = 227
  · rw [if_pos t136] at hF
    refine ab_tableIn (off := 128) (tgt := 152) d_MRunner_acts_24 (by rw [t136]; decide) (by rw [t136]; decide) (by rw [t136]; decide) (by decide) ?_
    refine ab_aload_n d_MRunner_acts_152 rfl rfl rfl ?_
    obtain ⟨a137, e138, hG⟩ := rf_s hF; clear hF
    refine hp_getR (f := 1) d_MRunner_acts_153 q1 (by decide) rfl (by decide) (k9 184 rfl rfl) rfl e138 ?_
    refine ab_iload_n d_MRunner_acts_156 rfl rfl ?_
    refine ab_aload_n d_MRunner_acts_157 rfl rfl rfl ?_
    obtain ⟨a139, e140, hF⟩ := rf_s hG; clear hG
    refine hp_getR (f := 3) d_MRunner_acts_158 q1 (by decide) rfl (by decide) (k9 186 rfl rfl) rfl e140 ?_
    refine ab_iload_n d_MRunner_acts_161 rfl rfl ?_
    refine ab_iconst (v := 3) d_MRunner_acts_162 (by decide) ?_
    refine ab_iadd d_MRunner_acts_163 ?_
    obtain ⟨n141, q142, hG⟩ := ar_s hF; clear hF
    obtain ⟨q143, hF⟩ := ck_s hG; clear hG
    refine hp_iald d_MRunner_acts_164 tI q142 q143 ?_
    refine ab_topi (fun x144 ex144 => ?_)
    replace hF := bnd_s ex144 hF
    refine ab_iload_n d_MRunner_acts_165 rfl rfl ?_
    refine ab_aload_n d_MRunner_acts_166 rfl rfl rfl ?_
    obtain ⟨a145, e146, hG⟩ := rf_s hF; clear hF
    refine hp_getR (f := 3) d_MRunner_acts_167 q1 (by decide) rfl (by decide) (k9 186 rfl rfl) rfl e146 ?_
    refine ab_iload_n d_MRunner_acts_170 rfl rfl ?_
    refine ab_iconst (v := 4) d_MRunner_acts_171 (by decide) ?_
    refine ab_iadd d_MRunner_acts_172 ?_
    obtain ⟨q147, hF⟩ := ck_s hG; clear hG
    obtain ⟨v149, H150, z148, hG⟩ := bC_s hF; clear hF
    refine hp_callV_a (v := .int v149) (H1 := H150) (As := [.int x7, .int x144, .int x13, .ref a145, .int (p1 + (4 : Int32))]) (rest := []) d_MRunner_acts_173 (k_MWorld_pends z148) (ab_mkC s_MWorld_pends (Nat.le_of_ble_eq_true rfl) (Nat.le_of_ble_eq_true rfl) (Nat.le_refl 0) (Nat.le_refl 0)) (k12 141 rfl rfl) i_MWorld_pends v_MWorld_pends q147 (by decide) rfl rfl (Nat.le_of_ble_eq_true rfl) ?_
    have s_12 : Sa H H150 := (m_MWorld_pends z148)
    obtain ⟨q151, hF⟩ := ck_s hG; clear hG
    exact ab_zret d_MRunner_acts_176 rfl (congrArg Value.int q151) (Nat.le_refl _) (Nat.le_refl _) (by have hr := Option.some.inj hF; subst hr; exact ⟨rfl, rfl⟩)
  rw [if_neg t136] at hF
  have ut136 : ¬ (227 : Int) = (x19).toInt := fun z => t136 (Int32.toInt_inj.mp (z.symm.trans (by decide)))
  refine ab_tableOut (tgt := 259) d_MRunner_acts_24 (by omega) (by decide) ?_
  refine ab_aload_n d_MRunner_acts_259 rfl rfl rfl ?_
  obtain ⟨a152, e153, hG⟩ := rf_s hF; clear hF
  refine hp_getR (f := 1) d_MRunner_acts_260 q1 (by decide) rfl (by decide) (k9 184 rfl rfl) rfl e153 ?_
  obtain ⟨q154, hF⟩ := ck_s hG; clear hG
  refine hp_getIN (f := 16) d_MRunner_acts_263 q154 (by decide) rfl (by decide) (k9 134 rfl rfl) rfl ?_
  refine ab_topi (fun x155 ex155 => ?_)
  replace hF := bnd_s ex155 hF
  refine ab_bipush (v := 32) d_MRunner_acts_266 (by decide) ?_
  refine ab_icmp_ne (tgt := 273) d_MRunner_acts_268 (by decide) (fun q156 => ?_) (fun q156 => ?_)
  · rw [if_neg q156] at hF
    refine ab_aload_n d_MRunner_acts_273 rfl rfl rfl ?_
    obtain ⟨a157, e158, hG⟩ := rf_s hF; clear hF
    refine hp_getR (f := 1) d_MRunner_acts_274 q1 (by decide) rfl (by decide) (k9 184 rfl rfl) rfl e158 ?_
    obtain ⟨q159, hF⟩ := ck_s hG; clear hG
    obtain ⟨a160, e161, hG⟩ := rf_s hF; clear hF
    refine hp_getRN (f := 17) d_MRunner_acts_277 q159 (by decide) rfl (by decide) (k9 138 rfl rfl) rfl e161 ?_
    refine ab_aload_n d_MRunner_acts_280 rfl rfl rfl ?_
    obtain ⟨a162, e163, hF⟩ := rf_s hG; clear hG
    refine hp_getR (f := 1) d_MRunner_acts_281 q1 (by decide) rfl (by decide) (k9 184 rfl rfl) rfl e163 ?_
    obtain ⟨q164, hG⟩ := ck_s hF; clear hF
    refine hp_getIN (f := 16) d_MRunner_acts_284 q164 (by decide) rfl (by decide) (k9 134 rfl rfl) rfl ?_
    refine ab_topi (fun x165 ex165 => ?_)
    replace hG := bnd_s ex165 hG
    refine ab_iload_n d_MRunner_acts_287 rfl rfl ?_
    obtain ⟨n166, q167, hF⟩ := ar_s hG; clear hG
    obtain ⟨q168, hG⟩ := ck_s hF; clear hF
    refine hp_iast d_MRunner_acts_288 tI q167 q168 ?_
    refine hp_gen (fun H169 eH169 => ?_)
    replace hG := bnd_s eH169 hG
    have s_13 : Sa H H169 := by rw [eH169]; exact Sa.rf _
    refine ab_aload_n d_MRunner_acts_289 rfl rfl rfl ?_
    obtain ⟨a170, e171, hF⟩ := rf_s hG; clear hG
    refine hp_getR (f := 1) d_MRunner_acts_290 (by rw [(s_13).1]; exact q1) (by decide) rfl (by decide) (k9 184 rfl rfl) rfl e171 ?_
    refine ab_dup d_MRunner_acts_293 rfl ?_
    obtain ⟨q172, hG⟩ := ck_s hF; clear hF
    rw [(s_13).1] at q172
    refine hp_getIN (f := 16) d_MRunner_acts_294 (by rw [(s_13).1]; exact q172) (by decide) rfl (by decide) (k9 134 rfl rfl) rfl ?_
    refine ab_topi (fun x173 ex173 => ?_)
    replace hG := bnd_s ex173 hG
    refine ab_iconst (v := 1) d_MRunner_acts_297 (by decide) ?_
    refine ab_iadd d_MRunner_acts_298 ?_
    refine hp_putIN (v := x173 + (1 : Int32)) (f := 16) d_MRunner_acts_299 (by rw [(s_13).1]; exact q172) (by decide) rfl (by decide) (k9 134 rfl rfl) rfl rfl (fun _ => rfl) (fun _ => rfl) rfl ?_
    refine hp_gen (fun H174 eH174 => ?_)
    replace hG := bnd_s eH174 hG
    have s_14 : Sa H H174 := by rw [eH174]; exact s_13
    refine ab_iconst (v := 1) d_MRunner_acts_302 (by decide) ?_
    exact ab_zret d_MRunner_acts_303 rfl rfl (Nat.le_refl _) (Nat.le_refl _) (by have hr := Option.some.inj hG; subst hr; exact ⟨rfl, rfl⟩)
  · rw [if_pos q156] at hF
    refine ab_iconst (v := 0) d_MRunner_acts_271 (by decide) ?_
    exact ab_zret d_MRunner_acts_272 rfl rfl (Nat.le_refl _) (Nat.le_refl _) (by have hr := Option.some.inj hF; subst hr; exact ⟨rfl, rfl⟩)
def y_MWorld_clears : ab_Y := (⟨"WorldEngineModel$World", "clears", "()V"⟩, prog_17_method_14_code, 3, none, [])
theorem d_MWorld_clears_0 : decode y_MWorld_clears.2.1 0 = .ok (.iconst 0, 1) := by decide +kernel
theorem d_MWorld_clears_1 : decode y_MWorld_clears.2.1 1 = .ok (.istore_n 1, 1) := by decide +kernel
theorem d_MWorld_clears_2 : decode y_MWorld_clears.2.1 2 = .ok (.iconst 0, 1) := by decide +kernel
theorem d_MWorld_clears_3 : decode y_MWorld_clears.2.1 3 = .ok (.istore_n 2, 1) := by decide +kernel
theorem d_MWorld_clears_4 : decode y_MWorld_clears.2.1 4 = .ok (.iload_n 2, 1) := by decide +kernel
theorem d_MWorld_clears_5 : decode y_MWorld_clears.2.1 5 = .ok (.aload_n 0, 1) := by decide +kernel
theorem d_MWorld_clears_6 : decode y_MWorld_clears.2.1 6 = .ok (.getfield 56, 3) := by decide +kernel
theorem d_MWorld_clears_9 : decode y_MWorld_clears.2.1 9 = .ok (.if_icmp .ge 35, 3) := by decide +kernel
theorem d_MWorld_clears_12 : decode y_MWorld_clears.2.1 12 = .ok (.aload_n 0, 1) := by decide +kernel
theorem d_MWorld_clears_13 : decode y_MWorld_clears.2.1 13 = .ok (.getfield 28, 3) := by decide +kernel
theorem d_MWorld_clears_16 : decode y_MWorld_clears.2.1 16 = .ok (.iload_n 2, 1) := by decide +kernel
theorem d_MWorld_clears_17 : decode y_MWorld_clears.2.1 17 = .ok (.iaload, 1) := by decide +kernel
theorem d_MWorld_clears_18 : decode y_MWorld_clears.2.1 18 = .ok (.aload_n 0, 1) := by decide +kernel
theorem d_MWorld_clears_19 : decode y_MWorld_clears.2.1 19 = .ok (.getfield 43, 3) := by decide +kernel
theorem d_MWorld_clears_22 : decode y_MWorld_clears.2.1 22 = .ok (.if_icmp .ne 6, 3) := by decide +kernel
theorem d_MWorld_clears_25 : decode y_MWorld_clears.2.1 25 = .ok (.goto 13, 3) := by decide +kernel
theorem d_MWorld_clears_28 : decode y_MWorld_clears.2.1 28 = .ok (.aload_n 0, 1) := by decide +kernel
theorem d_MWorld_clears_29 : decode y_MWorld_clears.2.1 29 = .ok (.aload_n 0, 1) := by decide +kernel
theorem d_MWorld_clears_30 : decode y_MWorld_clears.2.1 30 = .ok (.iload_n 2, 1) := by decide +kernel
theorem d_MWorld_clears_31 : decode y_MWorld_clears.2.1 31 = .ok (.iload_n 1, 1) := by decide +kernel
theorem d_MWorld_clears_32 : decode y_MWorld_clears.2.1 32 = .ok (.invokevirtual 71, 3) := by decide +kernel
theorem d_MWorld_clears_35 : decode y_MWorld_clears.2.1 35 = .ok (.iinc 1 1, 3) := by decide +kernel
theorem d_MWorld_clears_38 : decode y_MWorld_clears.2.1 38 = .ok (.iinc 2 1, 3) := by decide +kernel
theorem d_MWorld_clears_41 : decode y_MWorld_clears.2.1 41 = .ok (.goto (-37), 3) := by decide +kernel
theorem d_MWorld_clears_44 : decode y_MWorld_clears.2.1 44 = .ok (.aload_n 0, 1) := by decide +kernel
theorem d_MWorld_clears_45 : decode y_MWorld_clears.2.1 45 = .ok (.iload_n 1, 1) := by decide +kernel
theorem d_MWorld_clears_46 : decode y_MWorld_clears.2.1 46 = .ok (.putfield 56, 3) := by decide +kernel
theorem d_MWorld_clears_49 : decode y_MWorld_clears.2.1 49 = .ok (.return_, 1) := by decide +kernel
theorem s_MWorld_clears : ab_Stat y_MWorld_clears 0 := ⟨(k12 159 rfl rfl), (k1 21 rfl rfl), ⟨by decide, by decide⟩, by decide +kernel⟩
theorem i_MWorld_clears : Cond.instanceMethod y_MWorld_clears.1 ∈ ab_T := (k12 157 rfl rfl)
theorem v_MWorld_clears : Cond.selects "WorldEngineModel$World" y_MWorld_clears.1 y_MWorld_clears.1 ∈ ab_T := (k12 158 rfl rfl)
def B_MWorld_clears_38 (N : Nat) (p0 : Nat) (kq4 : Int32 → Int32 → Hp → Option (Unit × Hp)) (l1 : Int32) (l2 : Int32) (H : Hp) : Option (Unit × Hp) :=
    kq4 l1 (l2 + 1) H
set_option maxRecDepth 20000 in
set_option maxHeartbeats 2000000 in
theorem mB_MWorld_clears_38 {N : Nat} {p0 : Nat} {kq4 : Int32 → Int32 → Hp → Option (Unit × Hp)} (hm4 : ∀ (l1 : Int32) (l2 : Int32) (H : Hp) (r : Unit × Hp), kq4 l1 l2 H = some r → Sa H r.2) {l1 : Int32} {l2 : Int32} {H : Hp} {r : Unit × Hp} (hF : B_MWorld_clears_38 N p0 kq4 l1 l2 H = some r) : Sa H r.2 := by
  unfold B_MWorld_clears_38 at hF
  have hm := Sa.rf H
  exact hm.tr (hm4 l1 (l2 + 1) H r hF)
set_option maxRecDepth 20000 in
set_option maxHeartbeats 2000000 in
theorem kB_MWorld_clears_38 {N : Nat} {p0 : Nat} {kq4 : Int32 → Int32 → Hp → Option (Unit × Hp)} (hm4 : ∀ (l1 : Int32) (l2 : Int32) (H : Hp) (r : Unit × Hp), kq4 l1 l2 H = some r → Sa H r.2) (hk4 : ∀ (l1 : Int32) (l2 : Int32) (H : Hp) (r : Unit × Hp), kq4 l1 l2 H = some r → ab_V y_MWorld_clears { frames := 1, cells := 0, slots := 0, locals := 24 } (po (.returned none) r.2) 0 0 0 0 4 [some (.ref p0), some (.int l1), some (.int l2)] [] (hpw H)) {l1 : Int32} {l2 : Int32} {H : Hp} {r : Unit × Hp} (hF : B_MWorld_clears_38 N p0 kq4 l1 l2 H = some r) : ab_V y_MWorld_clears { frames := 1, cells := 0, slots := 0, locals := 24 } (po (.returned none) r.2) 0 0 0 0 38 [some (.ref p0), some (.int l1), some (.int l2)] [] (hpw H) := by
  unfold B_MWorld_clears_38 at hF
  refine ab_iinc (v := l2 + 1) (lv' := [some (.ref p0), some (.int l1), some (.int (l2 + 1))]) d_MWorld_clears_38 rfl rfl (by decide) rfl ?_
  refine ab_goto (tgt := 4) d_MWorld_clears_41 (by decide) ?_
  exact hk4 l1 (l2 + 1) H r hF
def B_MWorld_clears_4 (N : Nat) (p0 : Nat) : Nat → Int32 → Int32 → Hp → Option (Unit × Hp)
  | 0, _, _, _ => none
  | n + 1, l1, l2, H =>
    ck (H.sh[p0]? = some (13, 0)) <|
    bnd ((H.D p0 8)) fun x2 =>
    if x2 ≤ l2 then
    bnd (H.sD p0 8 l1) fun H4 =>
    some ((), H4)
    else
    rf (H.P p0 10) fun a5 =>
    ar H 100 a5 fun n7 =>
    ck (inb l2 n7) <|
    bnd ((H.D a5 (l2).toNatClampNeg)) fun x10 =>
    bnd ((H.D p0 0)) fun x11 =>
    if x10 = x11 then
    B_MWorld_clears_38 N p0 (fun l1 l2 H => B_MWorld_clears_4 N p0 n l1 l2 H) l1 l2 H
    else
    bC (F_MWorld_moves N p0 p0 l2 l1 H) fun v14 H15 =>
    B_MWorld_clears_38 N p0 (fun l1 l2 H => B_MWorld_clears_4 N p0 n l1 l2 H) (l1 + 1) l2 H15
termination_by structural n => n
set_option maxRecDepth 20000 in
set_option maxHeartbeats 2000000 in
theorem mB_MWorld_clears_4 {N : Nat} {p0 : Nat} : ∀ (n : Nat) (l1 : Int32) (l2 : Int32) (H : Hp) (r : Unit × Hp), B_MWorld_clears_4 N p0 n l1 l2 H = some r → Sa H r.2 := by
  intro n
  induction n with
  | zero => intro l1 l2 H r hF; rw [B_MWorld_clears_4] at hF; cases hF
  | succ n ih =>
    intro l1 l2 H r hF
    rw [B_MWorld_clears_4] at hF
    have hm := Sa.rf H
    obtain ⟨q16, hG⟩ := ck_s hF; clear hF
    obtain ⟨x17, -, hF⟩ := bnd_g hG; clear hG
    rcases ite_s hF with ⟨q_3, hG⟩ | ⟨q_3, hG⟩
    · clear hF
      obtain ⟨H19, eH19, hF⟩ := bnd_g hG; clear hG
      replace hm : Sa H H19 := by rw [eH19]; exact hm
      have hr := Option.some.inj hF; subst hr
      exact hm
    · clear hF
      obtain ⟨a20, e21, hF⟩ := rf_s hG; clear hG
      obtain ⟨n22, q23, hG⟩ := ar_s hF; clear hF
      obtain ⟨q24, hF⟩ := ck_s hG; clear hG
      obtain ⟨x25, -, hG⟩ := bnd_g hF; clear hF
      obtain ⟨x26, -, hF⟩ := bnd_g hG; clear hG
      rcases ite_s hF with ⟨q_5, hG⟩ | ⟨q_5, hG⟩
      · clear hF
        exact hm.tr (mB_MWorld_clears_38 ih hG)
      · clear hF
        obtain ⟨v29, H30, z28, hF⟩ := bC_s hG; clear hG
        replace hm : Sa H H30 := hm.tr (m_MWorld_moves z28)
        exact hm.tr (mB_MWorld_clears_38 ih hF)
set_option maxRecDepth 20000 in
set_option maxHeartbeats 2000000 in
theorem kB_MWorld_clears_4 {N : Nat} {p0 : Nat} : ∀ (n : Nat) (l1 : Int32) (l2 : Int32) (H : Hp) (r : Unit × Hp), B_MWorld_clears_4 N p0 n l1 l2 H = some r → ab_V y_MWorld_clears { frames := 1, cells := 0, slots := 0, locals := 24 } (po (.returned none) r.2) 0 0 0 0 4 [some (.ref p0), some (.int l1), some (.int l2)] [] (hpw H) := by
  intro n
  induction n with
  | zero => intro l1 l2 H r hF; rw [B_MWorld_clears_4] at hF; cases hF
  | succ n ih =>
    intro l1 l2 H r hF
    rw [B_MWorld_clears_4] at hF
    refine ab_iload_n d_MWorld_clears_4 rfl rfl ?_
    refine ab_aload_n d_MWorld_clears_5 rfl rfl rfl ?_
    obtain ⟨q1, hG⟩ := ck_s hF; clear hF
    refine hp_getI (f := 8) d_MWorld_clears_6 q1 (by decide) rfl (by decide) (k9 111 rfl rfl) rfl ?_
    refine ab_topi (fun x2 ex2 => ?_)
    replace hG := bnd_s ex2 hG
    refine ab_icmp_ge (tgt := 44) d_MWorld_clears_9 (by decide) (fun q3 => ?_) (fun q3 => ?_)
    · rw [if_pos q3] at hG
      refine ab_aload_n d_MWorld_clears_44 rfl rfl rfl ?_
      refine ab_iload_n d_MWorld_clears_45 rfl rfl ?_
      refine hp_putI (v := l1) (f := 8) d_MWorld_clears_46 q1 (by decide) rfl (by decide) (k9 111 rfl rfl) rfl rfl (fun _ => rfl) (fun _ => rfl) rfl ?_
      refine hp_gen (fun H4 eH4 => ?_)
      replace hG := bnd_s eH4 hG
      have s_1 : Sa H H4 := by rw [eH4]; exact Sa.rf _
      exact ab_vret d_MWorld_clears_49 rfl (Nat.le_refl _) (Nat.le_refl _) (by have hr := Option.some.inj hG; subst hr; exact ⟨rfl, rfl⟩)
    · rw [if_neg q3] at hG
      refine ab_aload_n d_MWorld_clears_12 rfl rfl rfl ?_
      obtain ⟨a5, e6, hF⟩ := rf_s hG; clear hG
      refine hp_getR (f := 10) d_MWorld_clears_13 q1 (by decide) rfl (by decide) (k9 117 rfl rfl) rfl e6 ?_
      refine ab_iload_n d_MWorld_clears_16 rfl rfl ?_
      obtain ⟨n7, q8, hG⟩ := ar_s hF; clear hF
      obtain ⟨q9, hF⟩ := ck_s hG; clear hG
      refine hp_iald d_MWorld_clears_17 tI q8 q9 ?_
      refine ab_topi (fun x10 ex10 => ?_)
      replace hF := bnd_s ex10 hF
      refine ab_aload_n d_MWorld_clears_18 rfl rfl rfl ?_
      refine hp_getI (f := 0) d_MWorld_clears_19 q1 (by decide) rfl (by decide) (k9 87 rfl rfl) rfl ?_
      refine ab_topi (fun x11 ex11 => ?_)
      replace hF := bnd_s ex11 hF
      refine ab_icmp_ne (tgt := 28) d_MWorld_clears_22 (by decide) (fun q12 => ?_) (fun q12 => ?_)
      · rw [if_neg q12] at hF
        refine ab_aload_n d_MWorld_clears_28 rfl rfl rfl ?_
        refine ab_aload_n d_MWorld_clears_29 rfl rfl rfl ?_
        refine ab_iload_n d_MWorld_clears_30 rfl rfl ?_
        refine ab_iload_n d_MWorld_clears_31 rfl rfl ?_
        obtain ⟨v14, H15, z13, hG⟩ := bC_s hF; clear hF
        refine hp_callV_v (H1 := H15) (As := [.ref p0, .int l2, .int l1]) (rest := []) d_MWorld_clears_32 (k_MWorld_moves z13) (ab_mkC s_MWorld_moves (Nat.le_of_ble_eq_true rfl) (Nat.le_of_ble_eq_true rfl) (Nat.le_refl 0) (Nat.le_refl 0)) (k11 150 rfl rfl) i_MWorld_moves v_MWorld_moves q1 (by decide) rfl rfl (Nat.le_of_ble_eq_true rfl) ?_
        have s_2 : Sa H H15 := (m_MWorld_moves z13)
        refine ab_iinc (v := l1 + 1) (lv' := [some (.ref p0), some (.int (l1 + 1)), some (.int l2)]) d_MWorld_clears_35 rfl rfl (by decide) rfl ?_
        exact kB_MWorld_clears_38 (mB_MWorld_clears_4 n) ih hG
      · rw [if_pos q12] at hF
        refine ab_goto (tgt := 38) d_MWorld_clears_25 (by decide) ?_
        exact kB_MWorld_clears_38 (mB_MWorld_clears_4 n) ih hF
def F_MWorld_clears (N : Nat) (p0 : Nat) (H : Hp) : Option (Unit × Hp) :=
    B_MWorld_clears_4 N p0 N 0 0 H
set_option maxRecDepth 20000 in
set_option maxHeartbeats 2000000 in
theorem m_MWorld_clears {N : Nat} {p0 : Nat} {H : Hp} {r : Unit × Hp} (hF : F_MWorld_clears N p0 H = some r) : Sa H r.2 := by
  unfold F_MWorld_clears at hF
  have hm := Sa.rf H
  exact hm.tr (mB_MWorld_clears_4 N 0 0 H r hF)
set_option maxRecDepth 20000 in
set_option maxHeartbeats 2000000 in
theorem k_MWorld_clears {N : Nat} {p0 : Nat} {H : Hp} {r : Unit × Hp} (hF : F_MWorld_clears N p0 H = some r) : ab_M y_MWorld_clears { frames := 1, cells := 0, slots := 0, locals := 24 } [.ref p0] (hpw H) (po (.returned none) r.2) := by
  unfold F_MWorld_clears at hF
  refine ab_of2 (lv := [some (.ref p0), none, none]) 2 rfl rfl (Nat.le_of_ble_eq_true rfl) ?_
  refine ab_iconst (v := 0) d_MWorld_clears_0 (by decide) ?_
  refine ab_istore_n (lv' := [some (.ref p0), some (.int 0), none]) d_MWorld_clears_1 rfl (by decide) rfl ?_
  refine ab_iconst (v := 0) d_MWorld_clears_2 (by decide) ?_
  refine ab_istore_n (lv' := [some (.ref p0), some (.int 0), some (.int 0)]) d_MWorld_clears_3 rfl (by decide) rfl ?_
  exact kB_MWorld_clears_4 N 0 0 H r hF
