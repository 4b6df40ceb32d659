def y_MText_tells : ab_Y := (⟨"WorldEngineModel$Text", "tells", "(IIZ)V"⟩, prog_16_method_48_code, 4, none, [])
theorem d_MText_tells_0 : decode y_MText_tells.2.1 0 = .ok (.aload_n 0, 1) := by decide +kernel
theorem d_MText_tells_1 : decode y_MText_tells.2.1 1 = .ok (.getfield 185, 3) := by decide +kernel
theorem d_MText_tells_4 : decode y_MText_tells.2.1 4 = .ok (.ifCond .le 4, 3) := by decide +kernel
theorem d_MText_tells_7 : decode y_MText_tells.2.1 7 = .ok (.return_, 1) := by decide +kernel
theorem d_MText_tells_8 : decode y_MText_tells.2.1 8 = .ok (.aload_n 0, 1) := by decide +kernel
theorem d_MText_tells_9 : decode y_MText_tells.2.1 9 = .ok (.getfield 32, 3) := by decide +kernel
theorem d_MText_tells_12 : decode y_MText_tells.2.1 12 = .ok (.iload_n 1, 1) := by decide +kernel
theorem d_MText_tells_13 : decode y_MText_tells.2.1 13 = .ok (.aload_n 0, 1) := by decide +kernel
theorem d_MText_tells_14 : decode y_MText_tells.2.1 14 = .ok (.getfield 281, 3) := by decide +kernel
theorem d_MText_tells_17 : decode y_MText_tells.2.1 17 = .ok (.iastore, 1) := by decide +kernel
theorem d_MText_tells_18 : decode y_MText_tells.2.1 18 = .ok (.aload_n 0, 1) := by decide +kernel
theorem d_MText_tells_19 : decode y_MText_tells.2.1 19 = .ok (.getfield 95, 3) := by decide +kernel
theorem d_MText_tells_22 : decode y_MText_tells.2.1 22 = .ok (.aload_n 0, 1) := by decide +kernel
theorem d_MText_tells_23 : decode y_MText_tells.2.1 23 = .ok (.getfield 281, 3) := by decide +kernel
theorem d_MText_tells_26 : decode y_MText_tells.2.1 26 = .ok (.iload_n 1, 1) := by decide +kernel
theorem d_MText_tells_27 : decode y_MText_tells.2.1 27 = .ok (.iastore, 1) := by decide +kernel
theorem d_MText_tells_28 : decode y_MText_tells.2.1 28 = .ok (.aload_n 0, 1) := by decide +kernel
theorem d_MText_tells_29 : decode y_MText_tells.2.1 29 = .ok (.getfield 98, 3) := by decide +kernel
theorem d_MText_tells_32 : decode y_MText_tells.2.1 32 = .ok (.aload_n 0, 1) := by decide +kernel
theorem d_MText_tells_33 : decode y_MText_tells.2.1 33 = .ok (.getfield 281, 3) := by decide +kernel
theorem d_MText_tells_36 : decode y_MText_tells.2.1 36 = .ok (.iload_n 2, 1) := by decide +kernel
theorem d_MText_tells_37 : decode y_MText_tells.2.1 37 = .ok (.iastore, 1) := by decide +kernel
theorem d_MText_tells_38 : decode y_MText_tells.2.1 38 = .ok (.aload_n 0, 1) := by decide +kernel
theorem d_MText_tells_39 : decode y_MText_tells.2.1 39 = .ok (.getfield 101, 3) := by decide +kernel
theorem d_MText_tells_42 : decode y_MText_tells.2.1 42 = .ok (.aload_n 0, 1) := by decide +kernel
theorem d_MText_tells_43 : decode y_MText_tells.2.1 43 = .ok (.getfield 281, 3) := by decide +kernel
theorem d_MText_tells_46 : decode y_MText_tells.2.1 46 = .ok (.iload_n 3, 1) := by decide +kernel
theorem d_MText_tells_47 : decode y_MText_tells.2.1 47 = .ok (.bastore, 1) := by decide +kernel
theorem d_MText_tells_48 : decode y_MText_tells.2.1 48 = .ok (.aload_n 0, 1) := by decide +kernel
theorem d_MText_tells_49 : decode y_MText_tells.2.1 49 = .ok (.dup, 1) := by decide +kernel
theorem d_MText_tells_50 : decode y_MText_tells.2.1 50 = .ok (.getfield 281, 3) := by decide +kernel
theorem d_MText_tells_53 : decode y_MText_tells.2.1 53 = .ok (.iconst 1, 1) := by decide +kernel
theorem d_MText_tells_54 : decode y_MText_tells.2.1 54 = .ok (.iadd, 1) := by decide +kernel
theorem d_MText_tells_55 : decode y_MText_tells.2.1 55 = .ok (.putfield 281, 3) := by decide +kernel
theorem d_MText_tells_58 : decode y_MText_tells.2.1 58 = .ok (.return_, 1) := by decide +kernel
theorem s_MText_tells : ab_Stat y_MText_tells 3 := ⟨(k11 112 rfl rfl), (k1 20 rfl rfl), ⟨by decide, by decide⟩, by decide +kernel⟩
theorem i_MText_tells : Cond.instanceMethod y_MText_tells.1 ∈ ab_T := (k11 111 rfl rfl)
theorem v_MText_tells : Cond.selects "WorldEngineModel$Text" y_MText_tells.1 y_MText_tells.1 ∈ ab_T := ab_s (List.mem_of_getElem? (i := 158) rfl) rfl
def F_MText_tells (N : Nat) (p0 : Nat) (p1 : Int32) (p2 : Int32) (p3 : Int32) (H : Hp) : Option (Unit × Hp) :=
    ck (H.sh[p0]? = some (14, 0)) <|
    bnd ((H.D p0 9)) fun x2 =>
    if x2 ≤ (0 : Int32) then
    rf (H.P p0 8) fun a4 =>
    bnd ((H.D p0 37)) fun x6 =>
    ar H 100 a4 fun n7 =>
    ck (inb p1 n7) <|
    bnd (H.sD a4 (p1).toNatClampNeg x6) fun H10 =>
    rf (H10.P p0 38) fun a11 =>
    bnd ((H10.D p0 37)) fun x13 =>
    ar H10 100 a11 fun n14 =>
    ck (inb x13 n14) <|
    bnd (H10.sD a11 (x13).toNatClampNeg p1) fun H17 =>
    rf (H17.P p0 39) fun a18 =>
    bnd ((H17.D p0 37)) fun x20 =>
    ar H17 100 a18 fun n21 =>
    ck (inb x20 n21) <|
    bnd (H17.sD a18 (x20).toNatClampNeg p2) fun H24 =>
    rf (H24.P p0 40) fun a25 =>
    bnd ((H24.D p0 37)) fun x27 =>
    ar H24 102 a25 fun n28 =>
    ck (inb x27 n28) <|
    bnd (H24.sD a25 (x27).toNatClampNeg (vp_nar .boolean p3)) fun H31 =>
    bnd ((H31.D p0 37)) fun x32 =>
    bnd (H31.sD p0 37 (x32 + (1 : Int32))) fun H33 =>
    some ((), H33)
    else
    some ((), H)
set_option maxRecDepth 20000 in
set_option maxHeartbeats 2000000 in
theorem m_MText_tells {N : Nat} {p0 : Nat} {p1 : Int32} {p2 : Int32} {p3 : Int32} {H : Hp} {r : Unit × Hp} (hF : F_MText_tells N p0 p1 p2 p3 H = some r) : Sa H r.2 := by
  unfold F_MText_tells at hF
  have hm := Sa.rf H
  obtain ⟨q34, hG⟩ := ck_s hF; clear hF
  obtain ⟨x35, -, hF⟩ := bnd_g hG; clear hG
  rcases ite_s hF with ⟨q_6, hG⟩ | ⟨q_6, hG⟩
  · clear hF
    obtain ⟨a37, e38, hF⟩ := rf_s hG; clear hG
    obtain ⟨x39, -, hG⟩ := bnd_g hF; clear hF
    obtain ⟨n40, q41, hF⟩ := ar_s hG; clear hG
    obtain ⟨q42, hG⟩ := ck_s hF; clear hF
    obtain ⟨H43, eH43, hF⟩ := bnd_g hG; clear hG
    replace hm : Sa H H43 := by rw [eH43]; exact hm
    obtain ⟨a44, e45, hG⟩ := rf_s hF; clear hF
    obtain ⟨x46, -, hF⟩ := bnd_g hG; clear hG
    obtain ⟨n47, q48, hG⟩ := ar_s hF; clear hF
    obtain ⟨q49, hF⟩ := ck_s hG; clear hG
    obtain ⟨H50, eH50, hG⟩ := bnd_g hF; clear hF
    replace hm : Sa H H50 := by rw [eH50]; exact hm
    obtain ⟨a51, e52, hF⟩ := rf_s hG; clear hG
    obtain ⟨x53, -, hG⟩ := bnd_g hF; clear hF
    obtain ⟨n54, q55, hF⟩ := ar_s hG; clear hG
    obtain ⟨q56, hG⟩ := ck_s hF; clear hF
    obtain ⟨H57, eH57, hF⟩ := bnd_g hG; clear hG
    replace hm : Sa H H57 := by rw [eH57]; exact hm
    obtain ⟨a58, e59, hG⟩ := rf_s hF; clear hF
    obtain ⟨x60, -, hF⟩ := bnd_g hG; clear hG
    obtain ⟨n61, q62, hG⟩ := ar_s hF; clear hF
    obtain ⟨q63, hF⟩ := ck_s hG; clear hG
    obtain ⟨H64, eH64, hG⟩ := bnd_g hF; clear hF
    replace hm : Sa H H64 := by rw [eH64]; exact hm
    obtain ⟨x65, -, hF⟩ := bnd_g hG; clear hG
    obtain ⟨H66, eH66, hG⟩ := bnd_g hF; clear hF
    replace hm : Sa H H66 := by rw [eH66]; exact hm
    have hr := Option.some.inj hG; subst hr
    exact hm
  · clear hF
    have hr := Option.some.inj hG; subst hr
    exact hm
set_option maxRecDepth 20000 in
set_option maxHeartbeats 2000000 in
theorem k_MText_tells {N : Nat} {p0 : Nat} {p1 : Int32} {p2 : Int32} {p3 : Int32} {H : Hp} {r : Unit × Hp} (hF : F_MText_tells N p0 p1 p2 p3 H = some r) : ab_M y_MText_tells { frames := 0, cells := 0, slots := 0, locals := 0 } [.ref p0, .int p1, .int p2, .int p3] (hpw H) (po (.returned none) r.2) := by
  unfold F_MText_tells at hF
  refine ab_of2 (lv := [some (.ref p0), some (.int p1), some (.int p2), some (.int p3)]) 0 rfl rfl (Nat.le_of_ble_eq_true rfl) ?_
  refine ab_aload_n d_MText_tells_0 rfl rfl rfl ?_
  obtain ⟨q1, hG⟩ := ck_s hF; clear hF
  refine hp_getI (f := 9) d_MText_tells_1 q1 (by decide) rfl (by decide) (k8 172 rfl rfl) rfl ?_
  refine ab_topi (fun x2 ex2 => ?_)
  replace hG := bnd_s ex2 hG
  refine ab_if_le (tgt := 8) d_MText_tells_4 (by decide) (fun q3 => ?_) (fun q3 => ?_)
  · rw [if_pos q3] at hG
    refine ab_aload_n d_MText_tells_8 rfl rfl rfl ?_
    obtain ⟨a4, e5, hF⟩ := rf_s hG; clear hG
    refine hp_getR (f := 8) d_MText_tells_9 q1 (by decide) rfl (by decide) (k8 169 rfl rfl) rfl e5 ?_
    refine ab_iload_n d_MText_tells_12 rfl rfl ?_
    refine ab_aload_n d_MText_tells_13 rfl rfl rfl ?_
    refine hp_getI (f := 37) d_MText_tells_14 q1 (by decide) rfl (by decide) (k8 224 rfl rfl) rfl ?_
    refine ab_topi (fun x6 ex6 => ?_)
    replace hF := bnd_s ex6 hF
    obtain ⟨n7, q8, hG⟩ := ar_s hF; clear hF
    obtain ⟨q9, hF⟩ := ck_s hG; clear hG
    refine hp_iast d_MText_tells_17 tI q8 q9 ?_
    refine hp_gen (fun H10 eH10 => ?_)
    replace hF := bnd_s eH10 hF
    have s_1 : Sa H H10 := by rw [eH10]; exact Sa.rf _
    refine ab_aload_n d_MText_tells_18 rfl rfl rfl ?_
    obtain ⟨a11, e12, hG⟩ := rf_s hF; clear hF
    refine hp_getR (f := 38) d_MText_tells_19 (by rw [(s_1).1]; exact q1) (by decide) rfl (by decide) (k8 225 rfl rfl) rfl e12 ?_
    refine ab_aload_n d_MText_tells_22 rfl rfl rfl ?_
    refine hp_getI (f := 37) d_MText_tells_23 (by rw [(s_1).1]; exact q1) (by decide) rfl (by decide) (k8 224 rfl rfl) rfl ?_
    refine ab_topi (fun x13 ex13 => ?_)
    replace hG := bnd_s ex13 hG
    refine ab_iload_n d_MText_tells_26 rfl rfl ?_
    obtain ⟨n14, q15, hF⟩ := ar_s hG; clear hG
    rw [(s_1).1] at q15
    obtain ⟨q16, hG⟩ := ck_s hF; clear hF
    refine hp_iast d_MText_tells_27 tI (by rw [(s_1).1]; exact q15) q16 ?_
    refine hp_gen (fun H17 eH17 => ?_)
    replace hG := bnd_s eH17 hG
    have s_2 : Sa H H17 := by rw [eH17]; exact s_1
    refine ab_aload_n d_MText_tells_28 rfl rfl rfl ?_
    obtain ⟨a18, e19, hF⟩ := rf_s hG; clear hG
    refine hp_getR (f := 39) d_MText_tells_29 (by rw [(s_2).1]; exact q1) (by decide) rfl (by decide) (k8 226 rfl rfl) rfl e19 ?_
    refine ab_aload_n d_MText_tells_32 rfl rfl rfl ?_
    refine hp_getI (f := 37) d_MText_tells_33 (by rw [(s_2).1]; exact q1) (by decide) rfl (by decide) (k8 224 rfl rfl) rfl ?_
    refine ab_topi (fun x20 ex20 => ?_)
    replace hF := bnd_s ex20 hF
    refine ab_iload_n d_MText_tells_36 rfl rfl ?_
    obtain ⟨n21, q22, hG⟩ := ar_s hF; clear hF
    rw [(s_2).1] at q22
    obtain ⟨q23, hF⟩ := ck_s hG; clear hG
    refine hp_iast d_MText_tells_37 tI (by rw [(s_2).1]; exact q22) q23 ?_
    refine hp_gen (fun H24 eH24 => ?_)
    replace hF := bnd_s eH24 hF
    have s_3 : Sa H H24 := by rw [eH24]; exact s_2
    refine ab_aload_n d_MText_tells_38 rfl rfl rfl ?_
    obtain ⟨a25, e26, hG⟩ := rf_s hF; clear hF
    refine hp_getR (f := 40) d_MText_tells_39 (by rw [(s_3).1]; exact q1) (by decide) rfl (by decide) (k8 227 rfl rfl) rfl e26 ?_
    refine ab_aload_n d_MText_tells_42 rfl rfl rfl ?_
    refine hp_getI (f := 37) d_MText_tells_43 (by rw [(s_3).1]; exact q1) (by decide) rfl (by decide) (k8 224 rfl rfl) rfl ?_
    refine ab_topi (fun x27 ex27 => ?_)
    replace hG := bnd_s ex27 hG
    refine ab_iload_n d_MText_tells_46 rfl rfl ?_
    obtain ⟨n28, q29, hF⟩ := ar_s hG; clear hG
    rw [(s_3).1] at q29
    obtain ⟨q30, hG⟩ := ck_s hF; clear hF
    refine hp_zast d_MText_tells_47 tZ (by rw [(s_3).1]; exact q29) q30 ?_
    refine hp_gen (fun H31 eH31 => ?_)
    replace hG := bnd_s eH31 hG
    have s_4 : Sa H H31 := by rw [eH31]; exact s_3
    refine ab_aload_n d_MText_tells_48 rfl rfl rfl ?_
    refine ab_dup d_MText_tells_49 rfl ?_
    refine hp_getI (f := 37) d_MText_tells_50 (by rw [(s_4).1]; exact q1) (by decide) rfl (by decide) (k8 224 rfl rfl) rfl ?_
    refine ab_topi (fun x32 ex32 => ?_)
    replace hG := bnd_s ex32 hG
    refine ab_iconst (v := 1) d_MText_tells_53 (by decide) ?_
    refine ab_iadd d_MText_tells_54 ?_
    refine hp_putI (v := x32 + (1 : Int32)) (f := 37) d_MText_tells_55 (by rw [(s_4).1]; exact q1) (by decide) rfl (by decide) (k8 224 rfl rfl) rfl rfl (fun _ => rfl) (fun _ => rfl) rfl ?_
    refine hp_gen (fun H33 eH33 => ?_)
    replace hG := bnd_s eH33 hG
    have s_5 : Sa H H33 := by rw [eH33]; exact s_4
    exact ab_vret d_MText_tells_58 rfl (Nat.le_refl _) (Nat.le_refl _) (by have hr := Option.some.inj hG; subst hr; exact ⟨rfl, rfl⟩)
  · rw [if_neg q3] at hG
    exact ab_vret d_MText_tells_7 rfl (Nat.le_refl _) (Nat.le_refl _) (by have hr := Option.some.inj hG; subst hr; exact ⟨rfl, rfl⟩)
def y_MText_spawns : ab_Y := (⟨"WorldEngineModel$Text", "spawns", "()V"⟩, prog_16_method_55_code, 7, none, [])
theorem d_MText_spawns_0 : decode y_MText_spawns.2.1 0 = .ok (.aload_n 0, 1) := by decide +kernel
theorem d_MText_spawns_1 : decode y_MText_spawns.2.1 1 = .ok (.aload_n 0, 1) := by decide +kernel
theorem d_MText_spawns_2 : decode y_MText_spawns.2.1 2 = .ok (.invokevirtual 240, 3) := by decide +kernel
theorem d_MText_spawns_5 : decode y_MText_spawns.2.1 5 = .ok (.iconst 4, 1) := by decide +kernel
theorem d_MText_spawns_6 : decode y_MText_spawns.2.1 6 = .ok (.invokevirtual 290, 3) := by decide +kernel
theorem d_MText_spawns_9 : decode y_MText_spawns.2.1 9 = .ok (.istore_n 1, 1) := by decide +kernel
theorem d_MText_spawns_10 : decode y_MText_spawns.2.1 10 = .ok (.aload_n 0, 1) := by decide +kernel
theorem d_MText_spawns_11 : decode y_MText_spawns.2.1 11 = .ok (.bipush 40, 2) := by decide +kernel
theorem d_MText_spawns_13 : decode y_MText_spawns.2.1 13 = .ok (.invokevirtual 194, 3) := by decide +kernel
theorem d_MText_spawns_16 : decode y_MText_spawns.2.1 16 = .ok (.ifCond .eq 142, 3) := by decide +kernel
theorem d_MText_spawns_19 : decode y_MText_spawns.2.1 19 = .ok (.aload_n 0, 1) := by decide +kernel
theorem d_MText_spawns_20 : decode y_MText_spawns.2.1 20 = .ok (.invokevirtual 354, 3) := by decide +kernel
theorem d_MText_spawns_23 : decode y_MText_spawns.2.1 23 = .ok (.iconst 0, 1) := by decide +kernel
theorem d_MText_spawns_24 : decode y_MText_spawns.2.1 24 = .ok (.istore_n 2, 1) := by decide +kernel
theorem d_MText_spawns_25 : decode y_MText_spawns.2.1 25 = .ok (.iconst 1, 1) := by decide +kernel
theorem d_MText_spawns_26 : decode y_MText_spawns.2.1 26 = .ok (.istore_n 3, 1) := by decide +kernel
theorem d_MText_spawns_27 : decode y_MText_spawns.2.1 27 = .ok (.aload_n 0, 1) := by decide +kernel
theorem d_MText_spawns_28 : decode y_MText_spawns.2.1 28 = .ok (.getfield 185, 3) := by decide +kernel
theorem d_MText_spawns_31 : decode y_MText_spawns.2.1 31 = .ok (.ifCond .ne 123, 3) := by decide +kernel
theorem d_MText_spawns_34 : decode y_MText_spawns.2.1 34 = .ok (.iload_n 3, 1) := by decide +kernel
theorem d_MText_spawns_35 : decode y_MText_spawns.2.1 35 = .ok (.ifCond .eq 119, 3) := by decide +kernel
theorem d_MText_spawns_38 : decode y_MText_spawns.2.1 38 = .ok (.aload_n 0, 1) := by decide +kernel
theorem d_MText_spawns_39 : decode y_MText_spawns.2.1 39 = .ok (.invokevirtual 240, 3) := by decide +kernel
theorem d_MText_spawns_42 : decode y_MText_spawns.2.1 42 = .ok (.istore 4, 2) := by decide +kernel
theorem d_MText_spawns_44 : decode y_MText_spawns.2.1 44 = .ok (.aload_n 0, 1) := by decide +kernel
theorem d_MText_spawns_45 : decode y_MText_spawns.2.1 45 = .ok (.getfield 185, 3) := by decide +kernel
theorem d_MText_spawns_48 : decode y_MText_spawns.2.1 48 = .ok (.ifCond .ne 15, 3) := by decide +kernel
theorem d_MText_spawns_51 : decode y_MText_spawns.2.1 51 = .ok (.iload_n 2, 1) := by decide +kernel
theorem d_MText_spawns_52 : decode y_MText_spawns.2.1 52 = .ok (.iconst 4, 1) := by decide +kernel
theorem d_MText_spawns_53 : decode y_MText_spawns.2.1 53 = .ok (.if_icmp .ne 10, 3) := by decide +kernel
theorem d_MText_spawns_56 : decode y_MText_spawns.2.1 56 = .ok (.aload_n 0, 1) := by decide +kernel
theorem d_MText_spawns_57 : decode y_MText_spawns.2.1 57 = .ok (.iconst 2, 1) := by decide +kernel
theorem d_MText_spawns_58 : decode y_MText_spawns.2.1 58 = .ok (.iload 4, 2) := by decide +kernel
theorem d_MText_spawns_60 : decode y_MText_spawns.2.1 60 = .ok (.invokevirtual 200, 3) := by decide +kernel
theorem d_MText_spawns_63 : decode y_MText_spawns.2.1 63 = .ok (.aload_n 0, 1) := by decide +kernel
theorem d_MText_spawns_64 : decode y_MText_spawns.2.1 64 = .ok (.iload 4, 2) := by decide +kernel
theorem d_MText_spawns_66 : decode y_MText_spawns.2.1 66 = .ok (.iconst 2, 1) := by decide +kernel
theorem d_MText_spawns_67 : decode y_MText_spawns.2.1 67 = .ok (.invokevirtual 290, 3) := by decide +kernel
theorem d_MText_spawns_70 : decode y_MText_spawns.2.1 70 = .ok (.istore 5, 2) := by decide +kernel
theorem d_MText_spawns_72 : decode y_MText_spawns.2.1 72 = .ok (.aload_n 0, 1) := by decide +kernel
theorem d_MText_spawns_73 : decode y_MText_spawns.2.1 73 = .ok (.getfield 185, 3) := by decide +kernel
theorem d_MText_spawns_76 : decode y_MText_spawns.2.1 76 = .ok (.ifCond .ne 24, 3) := by decide +kernel
theorem d_MText_spawns_79 : decode y_MText_spawns.2.1 79 = .ok (.aload_n 0, 1) := by decide +kernel
theorem d_MText_spawns_80 : decode y_MText_spawns.2.1 80 = .ok (.getfield 68, 3) := by decide +kernel
theorem d_MText_spawns_83 : decode y_MText_spawns.2.1 83 = .ok (.iload_n 1, 1) := by decide +kernel
theorem d_MText_spawns_84 : decode y_MText_spawns.2.1 84 = .ok (.iaload, 1) := by decide +kernel
theorem d_MText_spawns_85 : decode y_MText_spawns.2.1 85 = .ok (.iload 5, 2) := by decide +kernel
theorem d_MText_spawns_87 : decode y_MText_spawns.2.1 87 = .ok (.ishr, 1) := by decide +kernel
theorem d_MText_spawns_88 : decode y_MText_spawns.2.1 88 = .ok (.iconst 1, 1) := by decide +kernel
theorem d_MText_spawns_89 : decode y_MText_spawns.2.1 89 = .ok (.iand, 1) := by decide +kernel
theorem d_MText_spawns_90 : decode y_MText_spawns.2.1 90 = .ok (.ifCond .ne 10, 3) := by decide +kernel
theorem d_MText_spawns_93 : decode y_MText_spawns.2.1 93 = .ok (.aload_n 0, 1) := by decide +kernel
theorem d_MText_spawns_94 : decode y_MText_spawns.2.1 94 = .ok (.iconst 5, 1) := by decide +kernel
theorem d_MText_spawns_95 : decode y_MText_spawns.2.1 95 = .ok (.iload 4, 2) := by decide +kernel
theorem d_MText_spawns_97 : decode y_MText_spawns.2.1 97 = .ok (.invokevirtual 200, 3) := by decide +kernel
theorem d_MText_spawns_100 : decode y_MText_spawns.2.1 100 = .ok (.aload_n 0, 1) := by decide +kernel
theorem d_MText_spawns_101 : decode y_MText_spawns.2.1 101 = .ok (.bipush 46, 2) := by decide +kernel
theorem d_MText_spawns_103 : decode y_MText_spawns.2.1 103 = .ok (.invokevirtual 204, 3) := by decide +kernel
theorem d_MText_spawns_106 : decode y_MText_spawns.2.1 106 = .ok (.aload_n 0, 1) := by decide +kernel
theorem d_MText_spawns_107 : decode y_MText_spawns.2.1 107 = .ok (.iload 5, 2) := by decide +kernel
theorem d_MText_spawns_109 : decode y_MText_spawns.2.1 109 = .ok (.invokevirtual 348, 3) := by decide +kernel
theorem d_MText_spawns_112 : decode y_MText_spawns.2.1 112 = .ok (.istore 6, 2) := by decide +kernel
theorem d_MText_spawns_114 : decode y_MText_spawns.2.1 114 = .ok (.aload_n 0, 1) := by decide +kernel
theorem d_MText_spawns_115 : decode y_MText_spawns.2.1 115 = .ok (.bipush 61, 2) := by decide +kernel
theorem d_MText_spawns_117 : decode y_MText_spawns.2.1 117 = .ok (.invokevirtual 204, 3) := by decide +kernel
theorem d_MText_spawns_120 : decode y_MText_spawns.2.1 120 = .ok (.aload_n 0, 1) := by decide +kernel
theorem d_MText_spawns_121 : decode y_MText_spawns.2.1 121 = .ok (.getfield 185, 3) := by decide +kernel
theorem d_MText_spawns_124 : decode y_MText_spawns.2.1 124 = .ok (.ifCond .ne 17, 3) := by decide +kernel
theorem d_MText_spawns_127 : decode y_MText_spawns.2.1 127 = .ok (.aload_n 0, 1) := by decide +kernel
theorem d_MText_spawns_128 : decode y_MText_spawns.2.1 128 = .ok (.aload_n 0, 1) := by decide +kernel
theorem d_MText_spawns_129 : decode y_MText_spawns.2.1 129 = .ok (.getfield 50, 3) := by decide +kernel
theorem d_MText_spawns_132 : decode y_MText_spawns.2.1 132 = .ok (.iload 6, 2) := by decide +kernel
theorem d_MText_spawns_134 : decode y_MText_spawns.2.1 134 = .ok (.iaload, 1) := by decide +kernel
theorem d_MText_spawns_135 : decode y_MText_spawns.2.1 135 = .ok (.invokestatic 351, 3) := by decide +kernel
theorem d_MText_spawns_138 : decode y_MText_spawns.2.1 138 = .ok (.invokevirtual 327, 3) := by decide +kernel
theorem d_MText_spawns_141 : decode y_MText_spawns.2.1 141 = .ok (.iinc 2 1, 3) := by decide +kernel
theorem d_MText_spawns_144 : decode y_MText_spawns.2.1 144 = .ok (.aload_n 0, 1) := by decide +kernel
theorem d_MText_spawns_145 : decode y_MText_spawns.2.1 145 = .ok (.bipush 44, 2) := by decide +kernel
theorem d_MText_spawns_147 : decode y_MText_spawns.2.1 147 = .ok (.invokevirtual 197, 3) := by decide +kernel
theorem d_MText_spawns_150 : decode y_MText_spawns.2.1 150 = .ok (.istore_n 3, 1) := by decide +kernel
theorem d_MText_spawns_151 : decode y_MText_spawns.2.1 151 = .ok (.goto (-124), 3) := by decide +kernel
theorem d_MText_spawns_154 : decode y_MText_spawns.2.1 154 = .ok (.aload_n 0, 1) := by decide +kernel
theorem d_MText_spawns_155 : decode y_MText_spawns.2.1 155 = .ok (.invokevirtual 357, 3) := by decide +kernel
theorem d_MText_spawns_158 : decode y_MText_spawns.2.1 158 = .ok (.aload_n 0, 1) := by decide +kernel
theorem d_MText_spawns_159 : decode y_MText_spawns.2.1 159 = .ok (.bipush 59, 2) := by decide +kernel
theorem d_MText_spawns_161 : decode y_MText_spawns.2.1 161 = .ok (.invokevirtual 204, 3) := by decide +kernel
theorem d_MText_spawns_164 : decode y_MText_spawns.2.1 164 = .ok (.return_, 1) := by decide +kernel
theorem s_MText_spawns : ab_Stat y_MText_spawns 0 := ⟨(k11 128 rfl rfl), (k1 20 rfl rfl), ⟨by decide, by decide⟩, by decide +kernel⟩
theorem i_MText_spawns : Cond.instanceMethod y_MText_spawns.1 ∈ ab_T := (k11 127 rfl rfl)
theorem v_MText_spawns : Cond.selects "WorldEngineModel$Text" y_MText_spawns.1 y_MText_spawns.1 ∈ ab_T := ab_s (List.mem_of_getElem? (i := 162) rfl) rfl
def B_MText_spawns_158 (N : Nat) (p0 : Nat)  (H : Hp) : Option (Unit × Hp) :=
    ck (H.sh[p0]? = some (14, 0)) <|
    bC (F_MText_takes N p0 (59 : Int32) H) fun v14 H15 =>
    some ((), H15)
set_option maxRecDepth 20000 in
set_option maxHeartbeats 2000000 in
theorem mB_MText_spawns_158 {N : Nat} {p0 : Nat}  {H : Hp} {r : Unit × Hp} (hF : B_MText_spawns_158 N p0  H = some r) : Sa H r.2 := by
  unfold B_MText_spawns_158 at hF
  have hm := Sa.rf H
  obtain ⟨q16, hG⟩ := ck_s hF; clear hF
  obtain ⟨v18, H19, z17, hF⟩ := bC_s hG; clear hG
  replace hm : Sa H H19 := hm.tr (m_MText_takes z17)
  have hr := Option.some.inj hF; subst hr
  exact hm
set_option maxRecDepth 20000 in
set_option maxHeartbeats 2000000 in
theorem kB_MText_spawns_158 {N : Nat} {p0 : Nat}  {H : Hp} {r : Unit × Hp} (hF : B_MText_spawns_158 N p0  H = some r) : ab_V y_MText_spawns { frames := 257, cells := 0, slots := 0, locals := 5853 } (po (.returned none) r.2) 0 0 0 0 158 [some (.ref p0), none, none, none, none, none, none] [] (hpw H) := by
  unfold B_MText_spawns_158 at hF
  refine ab_aload_n d_MText_spawns_158 rfl rfl rfl ?_
  refine ab_bipush (v := 59) d_MText_spawns_159 (by decide) ?_
  obtain ⟨q12, hG⟩ := ck_s hF; clear hF
  obtain ⟨v14, H15, z13, hF⟩ := bC_s hG; clear hG
  refine hp_callV_v (H1 := H15) (As := [.int 59]) (rest := []) d_MText_spawns_161 (k_MText_takes z13) (ab_mkC s_MText_takes (Nat.le_of_ble_eq_true rfl) (Nat.le_of_ble_eq_true rfl) (Nat.le_refl 0) (Nat.le_refl 0)) (k10 172 rfl rfl) i_MText_takes v_MText_takes q12 (by decide) rfl rfl (Nat.le_of_ble_eq_true rfl) ?_
  have s_4 : Sa H H15 := (m_MText_takes z13)
  exact ab_vret d_MText_spawns_164 rfl (Nat.le_refl _) (Nat.le_refl _) (by have hr := Option.some.inj hF; subst hr; exact ⟨rfl, rfl⟩)
def B_MText_spawns_154 (N : Nat) (p0 : Nat)  (H : Hp) : Option (Unit × Hp) :=
    ck (H.sh[p0]? = some (14, 0)) <|
    bC (F_MText_closes N p0 H) fun v28 H29 =>
    B_MText_spawns_158 N p0  H29
set_option maxRecDepth 20000 in
set_option maxHeartbeats 2000000 in
theorem mB_MText_spawns_154 {N : Nat} {p0 : Nat}  {H : Hp} {r : Unit × Hp} (hF : B_MText_spawns_154 N p0  H = some r) : Sa H r.2 := by
  unfold B_MText_spawns_154 at hF
  have hm := Sa.rf H
  obtain ⟨q30, hG⟩ := ck_s hF; clear hF
  obtain ⟨v32, H33, z31, hF⟩ := bC_s hG; clear hG
  replace hm : Sa H H33 := hm.tr (m_MText_closes z31)
  exact hm.tr (mB_MText_spawns_158 hF)
set_option maxRecDepth 20000 in
set_option maxHeartbeats 2000000 in
theorem kB_MText_spawns_154 {N : Nat} {p0 : Nat}  {H : Hp} {r : Unit × Hp} (hF : B_MText_spawns_154 N p0  H = some r) : ab_V y_MText_spawns { frames := 257, cells := 0, slots := 0, locals := 5853 } (po (.returned none) r.2) 0 0 0 0 154 [some (.ref p0), none, none, none, none, none, none] [] (hpw H) := by
  unfold B_MText_spawns_154 at hF
  refine ab_aload_n d_MText_spawns_154 rfl rfl rfl ?_
  obtain ⟨q26, hG⟩ := ck_s hF; clear hF
  obtain ⟨v28, H29, z27, hF⟩ := bC_s hG; clear hG
  refine hp_callV_v (H1 := H29) (As := []) (rest := []) d_MText_spawns_155 (k_MText_closes z27) (ab_mkC s_MText_closes (Nat.le_of_ble_eq_true rfl) (Nat.le_of_ble_eq_true rfl) (Nat.le_refl 0) (Nat.le_refl 0)) (k11 86 rfl rfl) i_MText_closes v_MText_closes q26 (by decide) rfl rfl (Nat.le_of_ble_eq_true rfl) ?_
  have s_7 : Sa H H29 := (m_MText_closes z27)
  exact kB_MText_spawns_158 hF
def B_MText_spawns_141 (N : Nat) (p0 : Nat) (kq27 : Int32 → Int32 → Int32 → Hp → Option (Unit × Hp)) (l1 : Int32) (l2 : Int32) (H : Hp) : Option (Unit × Hp) :=
    ck (H.sh[p0]? = some (14, 0)) <|
    bC (F_MText_accepts N p0 (44 : Int32) H) fun v60 H61 =>
    kq27 l1 (l2 + 1) v60 H61
set_option maxRecDepth 20000 in
set_option maxHeartbeats 2000000 in
theorem mB_MText_spawns_141 {N : Nat} {p0 : Nat} {kq27 : Int32 → Int32 → Int32 → Hp → Option (Unit × Hp)} (hm27 : ∀ (l1 : Int32) (l2 : Int32) (l3 : Int32) (H : Hp) (r : Unit × Hp), kq27 l1 l2 l3 H = some r → Sa H r.2) {l1 : Int32} {l2 : Int32} {H : Hp} {r : Unit × Hp} (hF : B_MText_spawns_141 N p0 kq27 l1 l2 H = some r) : Sa H r.2 := by
  unfold B_MText_spawns_141 at hF
  have hm := Sa.rf H
  obtain ⟨q62, hG⟩ := ck_s hF; clear hF
  obtain ⟨v64, H65, z63, hF⟩ := bC_s hG; clear hG
  replace hm : Sa H H65 := hm.tr (m_MText_accepts z63)
  exact hm.tr (hm27 l1 (l2 + 1) v64 H65 r hF)
set_option maxRecDepth 20000 in
set_option maxHeartbeats 2000000 in
theorem kB_MText_spawns_141 {N : Nat} {p0 : Nat} {kq27 : Int32 → Int32 → Int32 → Hp → Option (Unit × Hp)} (hm27 : ∀ (l1 : Int32) (l2 : Int32) (l3 : Int32) (H : Hp) (r : Unit × Hp), kq27 l1 l2 l3 H = some r → Sa H r.2) (hk27 : ∀ (l1 : Int32) (l2 : Int32) (l3 : Int32) (H : Hp) (r : Unit × Hp), kq27 l1 l2 l3 H = some r → ab_V y_MText_spawns { frames := 257, cells := 0, slots := 0, locals := 5853 } (po (.returned none) r.2) 0 0 0 0 27 [some (.ref p0), some (.int l1), some (.int l2), some (.int l3), none, none, none] [] (hpw H)) {l1 : Int32} {l2 : Int32} {H : Hp} {r : Unit × Hp} (hF : B_MText_spawns_141 N p0 kq27 l1 l2 H = some r) : ab_V y_MText_spawns { frames := 257, cells := 0, slots := 0, locals := 5853 } (po (.returned none) r.2) 0 0 0 0 141 [some (.ref p0), some (.int l1), some (.int l2), none, none, none, none] [] (hpw H) := by
  unfold B_MText_spawns_141 at hF
  refine ab_iinc (v := l2 + 1) (lv' := [some (.ref p0), some (.int l1), some (.int (l2 + 1)), none, none, none, none]) d_MText_spawns_141 rfl rfl (by decide) rfl ?_
  refine ab_aload_n d_MText_spawns_144 rfl rfl rfl ?_
  refine ab_bipush (v := 44) d_MText_spawns_145 (by decide) ?_
  obtain ⟨q58, hG⟩ := ck_s hF; clear hF
  obtain ⟨v60, H61, z59, hF⟩ := bC_s hG; clear hG
  refine hp_callV_a (v := .int v60) (H1 := H61) (As := [.int 44]) (rest := []) d_MText_spawns_147 (k_MText_accepts z59) (ab_mkC s_MText_accepts (Nat.le_of_ble_eq_true rfl) (Nat.le_of_ble_eq_true rfl) (Nat.le_refl 0) (Nat.le_refl 0)) (k10 176 rfl rfl) i_MText_accepts v_MText_accepts q58 (by decide) rfl rfl (Nat.le_of_ble_eq_true rfl) ?_
  have s_14 : Sa H H61 := (m_MText_accepts z59)
  refine ab_istore_n (lv' := [some (.ref p0), some (.int l1), some (.int (l2 + 1)), some (.int v60), none, none, none]) d_MText_spawns_150 rfl (by decide) rfl ?_
  refine ab_goto (tgt := 27) d_MText_spawns_151 (by decide) ?_
  exact hk27 l1 (l2 + 1) v60 H61 r hF
def B_MText_spawns_100 (N : Nat) (p0 : Nat) (kq27 : Int32 → Int32 → Int32 → Hp → Option (Unit × Hp)) (l1 : Int32) (l2 : Int32) (l5 : Int32) (H : Hp) : Option (Unit × Hp) :=
    ck (H.sh[p0]? = some (14, 0)) <|
    bC (F_MText_takes N p0 (46 : Int32) H) fun v48 H49 =>
    bC (F_MText_memberName N p0 l5 H49) fun v51 H52 =>
    bC (F_MText_takes N p0 (61 : Int32) H52) fun v54 H55 =>
    bnd ((H55.D p0 9)) fun x56 =>
    if x56 = (0 : Int32) then
    rf (H55.P p0 19) fun a66 =>
    ar H55 100 a66 fun n68 =>
    ck (inb v51 n68) <|
    bnd ((H55.D a66 (v51).toNatClampNeg)) fun x71 =>
    bC (F_MText_plain N x71 H55) fun v73 H74 =>
    bC (F_MText_wants N (X_TextE N 50) p0 v73 H74) fun v76 H77 =>
    B_MText_spawns_141 N p0 kq27 l1 l2 H77
    else
    B_MText_spawns_141 N p0 kq27 l1 l2 H55
set_option maxRecDepth 20000 in
set_option maxHeartbeats 2000000 in
theorem mB_MText_spawns_100 {N : Nat} {p0 : Nat} {kq27 : Int32 → Int32 → Int32 → Hp → Option (Unit × Hp)} (hm27 : ∀ (l1 : Int32) (l2 : Int32) (l3 : Int32) (H : Hp) (r : Unit × Hp), kq27 l1 l2 l3 H = some r → Sa H r.2) {l1 : Int32} {l2 : Int32} {l5 : Int32} {H : Hp} {r : Unit × Hp} (hF : B_MText_spawns_100 N p0 kq27 l1 l2 l5 H = some r) : Sa H r.2 := by
  unfold B_MText_spawns_100 at hF
  have hm := Sa.rf H
  obtain ⟨q78, hG⟩ := ck_s hF; clear hF
  obtain ⟨v80, H81, z79, hF⟩ := bC_s hG; clear hG
  replace hm : Sa H H81 := hm.tr (m_MText_takes z79)
  obtain ⟨v83, H84, z82, hG⟩ := bC_s hF; clear hF
  replace hm : Sa H H84 := hm.tr (m_MText_memberName z82)
  obtain ⟨v86, H87, z85, hF⟩ := bC_s hG; clear hG
  replace hm : Sa H H87 := hm.tr (m_MText_takes z85)
  obtain ⟨x88, -, hG⟩ := bnd_g hF; clear hF
  rcases ite_s hG with ⟨q_21, hF⟩ | ⟨q_21, hF⟩
  · clear hG
    obtain ⟨a90, e91, hG⟩ := rf_s hF; clear hF
    obtain ⟨n92, q93, hF⟩ := ar_s hG; clear hG
    obtain ⟨q94, hG⟩ := ck_s hF; clear hF
    obtain ⟨x95, -, hF⟩ := bnd_g hG; clear hG
    obtain ⟨v97, H98, z96, hG⟩ := bC_s hF; clear hF
    replace hm : Sa H H98 := hm.tr (m_MText_plain z96)
    obtain ⟨v100, H101, z99, hF⟩ := bC_s hG; clear hG
    replace hm : Sa H H101 := hm.tr (m_MText_wants (moX_TextE 50) z99)
    exact hm.tr (mB_MText_spawns_141 hm27 hF)
  · clear hG
    exact hm.tr (mB_MText_spawns_141 hm27 hF)
set_option maxRecDepth 20000 in
set_option maxHeartbeats 2000000 in
theorem kB_MText_spawns_100 {N : Nat} {p0 : Nat} {kq27 : Int32 → Int32 → Int32 → Hp → Option (Unit × Hp)} (hm27 : ∀ (l1 : Int32) (l2 : Int32) (l3 : Int32) (H : Hp) (r : Unit × Hp), kq27 l1 l2 l3 H = some r → Sa H r.2) (hk27 : ∀ (l1 : Int32) (l2 : Int32) (l3 : Int32) (H : Hp) (r : Unit × Hp), kq27 l1 l2 l3 H = some r → ab_V y_MText_spawns { frames := 257, cells := 0, slots := 0, locals := 5853 } (po (.returned none) r.2) 0 0 0 0 27 [some (.ref p0), some (.int l1), some (.int l2), some (.int l3), none, none, none] [] (hpw H)) {l1 : Int32} {l2 : Int32} {l5 : Int32} {H : Hp} {r : Unit × Hp} (hF : B_MText_spawns_100 N p0 kq27 l1 l2 l5 H = some r) : ab_V y_MText_spawns { frames := 257, cells := 0, slots := 0, locals := 5853 } (po (.returned none) r.2) 0 0 0 0 100 [some (.ref p0), some (.int l1), some (.int l2), none, none, some (.int l5), none] [] (hpw H) := by
  unfold B_MText_spawns_100 at hF
  refine ab_aload_n d_MText_spawns_100 rfl rfl rfl ?_
  refine ab_bipush (v := 46) d_MText_spawns_101 (by decide) ?_
  obtain ⟨q46, hG⟩ := ck_s hF; clear hF
  obtain ⟨v48, H49, z47, hF⟩ := bC_s hG; clear hG
  refine hp_callV_v (H1 := H49) (As := [.int 46]) (rest := []) d_MText_spawns_103 (k_MText_takes z47) (ab_mkC s_MText_takes (Nat.le_of_ble_eq_true rfl) (Nat.le_of_ble_eq_true rfl) (Nat.le_refl 0) (Nat.le_refl 0)) (k10 172 rfl rfl) i_MText_takes v_MText_takes q46 (by decide) rfl rfl (Nat.le_of_ble_eq_true rfl) ?_
  have s_11 : Sa H H49 := (m_MText_takes z47)
  refine ab_aload_n d_MText_spawns_106 rfl rfl rfl ?_
  refine ab_iload d_MText_spawns_107 rfl ?_
  obtain ⟨v51, H52, z50, hG⟩ := bC_s hF; clear hF
  refine hp_callV_a (v := .int v51) (H1 := H52) (As := [.int l5]) (rest := []) d_MText_spawns_109 (k_MText_memberName z50) (ab_mkC s_MText_memberName (Nat.le_of_ble_eq_true rfl) (Nat.le_of_ble_eq_true rfl) (Nat.le_refl 0) (Nat.le_refl 0)) (k11 74 rfl rfl) i_MText_memberName v_MText_memberName (by rw [(s_11).1]; exact q46) (by decide) rfl rfl (Nat.le_of_ble_eq_true rfl) ?_
  have s_12 : Sa H H52 := (s_11).tr (m_MText_memberName z50)
  refine ab_istore (lv' := [some (.ref p0), some (.int l1), some (.int l2), none, none, some (.int l5), some (.int v51)]) d_MText_spawns_112 (by decide) rfl ?_
  refine ab_aload_n d_MText_spawns_114 rfl rfl rfl ?_
  refine ab_bipush (v := 61) d_MText_spawns_115 (by decide) ?_
  obtain ⟨v54, H55, z53, hF⟩ := bC_s hG; clear hG
  refine hp_callV_v (H1 := H55) (As := [.int 61]) (rest := []) d_MText_spawns_117 (k_MText_takes z53) (ab_mkC s_MText_takes (Nat.le_of_ble_eq_true rfl) (Nat.le_of_ble_eq_true rfl) (Nat.le_refl 0) (Nat.le_refl 0)) (k10 172 rfl rfl) i_MText_takes v_MText_takes (by rw [(s_12).1]; exact q46) (by decide) rfl rfl (Nat.le_of_ble_eq_true rfl) ?_
  have s_13 : Sa H H55 := (s_12).tr (m_MText_takes z53)
  refine ab_aload_n d_MText_spawns_120 rfl rfl rfl ?_
  refine hp_getI (f := 9) d_MText_spawns_121 (by rw [(s_13).1]; exact q46) (by decide) rfl (by decide) (k8 172 rfl rfl) rfl ?_
  refine ab_topi (fun x56 ex56 => ?_)
  replace hF := bnd_s ex56 hF
  refine ab_if_ne (tgt := 141) d_MText_spawns_124 (by decide) (fun q57 => ?_) (fun q57 => ?_)
  · rw [if_neg q57] at hF
    refine ab_le (lv' := [some (.ref p0), some (.int l1), some (.int l2), none, none, none, none]) ⟨rfl, ⟨rfl, ⟨rfl, trivial⟩⟩⟩ ?_
    exact kB_MText_spawns_141 hm27 hk27 hF
  · rw [if_pos q57] at hF
    refine ab_aload_n d_MText_spawns_127 rfl rfl rfl ?_
    refine ab_aload_n d_MText_spawns_128 rfl rfl rfl ?_
    obtain ⟨a66, e67, hG⟩ := rf_s hF; clear hF
    refine hp_getR (f := 19) d_MText_spawns_129 (by rw [(s_13).1]; exact q46) (by decide) rfl (by decide) (k8 188 rfl rfl) rfl e67 ?_
    refine ab_iload d_MText_spawns_132 rfl ?_
    obtain ⟨n68, q69, hF⟩ := ar_s hG; clear hG
    rw [(s_13).1] at q69
    obtain ⟨q70, hG⟩ := ck_s hF; clear hF
    refine hp_iald d_MText_spawns_134 tI (by rw [(s_13).1]; exact q69) q70 ?_
    refine ab_topi (fun x71 ex71 => ?_)
    replace hG := bnd_s ex71 hG
    obtain ⟨v73, H74, z72, hF⟩ := bC_s hG; clear hG
    refine hp_callS_a (v := .int v73) (H1 := H74) (As := [.int x71]) (rest := [.ref p0]) d_MText_spawns_135 (k_MText_plain z72) (ab_mkC s_MText_plain (Nat.le_of_ble_eq_true rfl) (Nat.le_of_ble_eq_true rfl) (Nat.le_refl 0) (Nat.le_refl 0)) (k11 71 rfl rfl) t_MText_plain rfl (Nat.le_of_ble_eq_true rfl) ?_
    have s_16 : Sa H H74 := (s_13).tr (m_MText_plain z72)
    obtain ⟨v76, H77, z75, hG⟩ := bC_s hF; clear hF
    refine hp_callV_v (H1 := H77) (As := [.int v73]) (rest := []) d_MText_spawns_138 (k_MText_wants (okX_TextE 50) (moX_TextE 50) z75) (ab_mkC s_MText_wants (Nat.le_of_ble_eq_true rfl) (Nat.le_of_ble_eq_true rfl) (Nat.le_refl 0) (Nat.le_refl 0)) (k11 35 rfl rfl) i_MText_wants v_MText_wants (by rw [(s_16).1]; exact q46) (by decide) rfl rfl (Nat.le_of_ble_eq_true rfl) ?_
    have s_17 : Sa H H77 := (s_16).tr (m_MText_wants (moX_TextE 50) z75)
    refine ab_le (lv' := [some (.ref p0), some (.int l1), some (.int l2), none, none, none, none]) ⟨rfl, ⟨rfl, ⟨rfl, trivial⟩⟩⟩ ?_
    exact kB_MText_spawns_141 hm27 hk27 hG
def B_MText_spawns_63 (N : Nat) (p0 : Nat) (kq27 : Int32 → Int32 → Int32 → Hp → Option (Unit × Hp)) (l1 : Int32) (l2 : Int32) (l4 : Int32) (H : Hp) : Option (Unit × Hp) :=
    ck (H.sh[p0]? = some (14, 0)) <|
    bC (F_MText_numberOf N p0 l4 (2 : Int32) H) fun v42 H43 =>
    bnd ((H43.D p0 9)) fun x44 =>
    if x44 = (0 : Int32) then
    rf (H43.P p0 27) fun a102 =>
    ar H43 100 a102 fun n104 =>
    ck (inb l1 n104) <|
    bnd ((H43.D a102 (l1).toNatClampNeg)) fun x107 =>
    if ((x107 >>> (v42 &&& 31)) &&& (1 : Int32)) = (0 : Int32) then
    bC (F_MText_fails N p0 (5 : Int32) l4 H43) fun v110 H111 =>
    B_MText_spawns_100 N p0 kq27 l1 l2 v42 H111
    else
    B_MText_spawns_100 N p0 kq27 l1 l2 v42 H43
    else
    B_MText_spawns_100 N p0 kq27 l1 l2 v42 H43
set_option maxRecDepth 20000 in
set_option maxHeartbeats 2000000 in
theorem mB_MText_spawns_63 {N : Nat} {p0 : Nat} {kq27 : Int32 → Int32 → Int32 → Hp → Option (Unit × Hp)} (hm27 : ∀ (l1 : Int32) (l2 : Int32) (l3 : Int32) (H : Hp) (r : Unit × Hp), kq27 l1 l2 l3 H = some r → Sa H r.2) {l1 : Int32} {l2 : Int32} {l4 : Int32} {H : Hp} {r : Unit × Hp} (hF : B_MText_spawns_63 N p0 kq27 l1 l2 l4 H = some r) : Sa H r.2 := by
  unfold B_MText_spawns_63 at hF
  have hm := Sa.rf H
  obtain ⟨q112, hG⟩ := ck_s hF; clear hF
  obtain ⟨v114, H115, z113, hF⟩ := bC_s hG; clear hG
  replace hm : Sa H H115 := hm.tr (m_MText_numberOf z113)
  obtain ⟨x116, -, hG⟩ := bnd_g hF; clear hF
  rcases ite_s hG with ⟨q_26, hF⟩ | ⟨q_26, hF⟩
  · clear hG
    obtain ⟨a118, e119, hG⟩ := rf_s hF; clear hF
    obtain ⟨n120, q121, hF⟩ := ar_s hG; clear hG
    obtain ⟨q122, hG⟩ := ck_s hF; clear hF
    obtain ⟨x123, -, hF⟩ := bnd_g hG; clear hG
    rcases ite_s hF with ⟨q_27, hG⟩ | ⟨q_27, hG⟩
    · clear hF
      obtain ⟨v126, H127, z125, hF⟩ := bC_s hG; clear hG
      replace hm : Sa H H127 := hm.tr (m_MText_fails z125)
      exact hm.tr (mB_MText_spawns_100 hm27 hF)
    · clear hF
      exact hm.tr (mB_MText_spawns_100 hm27 hG)
  · clear hG
    exact hm.tr (mB_MText_spawns_100 hm27 hF)
set_option maxRecDepth 20000 in
set_option maxHeartbeats 2000000 in
theorem kB_MText_spawns_63 {N : Nat} {p0 : Nat} {kq27 : Int32 → Int32 → Int32 → Hp → Option (Unit × Hp)} (hm27 : ∀ (l1 : Int32) (l2 : Int32) (l3 : Int32) (H : Hp) (r : Unit × Hp), kq27 l1 l2 l3 H = some r → Sa H r.2) (hk27 : ∀ (l1 : Int32) (l2 : Int32) (l3 : Int32) (H : Hp) (r : Unit × Hp), kq27 l1 l2 l3 H = some r → ab_V y_MText_spawns { frames := 257, cells := 0, slots := 0, locals := 5853 } (po (.returned none) r.2) 0 0 0 0 27 [some (.ref p0), some (.int l1), some (.int l2), some (.int l3), none, none, none] [] (hpw H)) {l1 : Int32} {l2 : Int32} {l4 : Int32} {H : Hp} {r : Unit × Hp} (hF : B_MText_spawns_63 N p0 kq27 l1 l2 l4 H = some r) : ab_V y_MText_spawns { frames := 257, cells := 0, slots := 0, locals := 5853 } (po (.returned none) r.2) 0 0 0 0 63 [some (.ref p0), some (.int l1), some (.int l2), none, some (.int l4), none, none] [] (hpw H) := by
  unfold B_MText_spawns_63 at hF
  refine ab_aload_n d_MText_spawns_63 rfl rfl rfl ?_
  refine ab_iload d_MText_spawns_64 rfl ?_
  refine ab_iconst (v := 2) d_MText_spawns_66 (by decide) ?_
  obtain ⟨q40, hG⟩ := ck_s hF; clear hF
  obtain ⟨v42, H43, z41, hF⟩ := bC_s hG; clear hG
  refine hp_callV_a (v := .int v42) (H1 := H43) (As := [.int l4, .int 2]) (rest := []) d_MText_spawns_67 (k_MText_numberOf z41) (ab_mkC s_MText_numberOf (Nat.le_of_ble_eq_true rfl) (Nat.le_of_ble_eq_true rfl) (Nat.le_refl 0) (Nat.le_refl 0)) (k10 225 rfl rfl) i_MText_numberOf v_MText_numberOf q40 (by decide) rfl rfl (Nat.le_of_ble_eq_true rfl) ?_
  have s_10 : Sa H H43 := (m_MText_numberOf z41)
  refine ab_istore (lv' := [some (.ref p0), some (.int l1), some (.int l2), none, some (.int l4), some (.int v42), none]) d_MText_spawns_70 (by decide) rfl ?_
  refine ab_aload_n d_MText_spawns_72 rfl rfl rfl ?_
  refine hp_getI (f := 9) d_MText_spawns_73 (by rw [(s_10).1]; exact q40) (by decide) rfl (by decide) (k8 172 rfl rfl) rfl ?_
  refine ab_topi (fun x44 ex44 => ?_)
  replace hF := bnd_s ex44 hF
  refine ab_if_ne (tgt := 100) d_MText_spawns_76 (by decide) (fun q45 => ?_) (fun q45 => ?_)
  · rw [if_neg q45] at hF
    refine ab_le (lv' := [some (.ref p0), some (.int l1), some (.int l2), none, none, some (.int v42), none]) ⟨rfl, ⟨rfl, ⟨rfl, ⟨rfl, trivial⟩⟩⟩⟩ ?_
    exact kB_MText_spawns_100 hm27 hk27 hF
  · rw [if_pos q45] at hF
    refine ab_aload_n d_MText_spawns_79 rfl rfl rfl ?_
    obtain ⟨a102, e103, hG⟩ := rf_s hF; clear hF
    refine hp_getR (f := 27) d_MText_spawns_80 (by rw [(s_10).1]; exact q40) (by decide) rfl (by decide) (k8 207 rfl rfl) rfl e103 ?_
    refine ab_iload_n d_MText_spawns_83 rfl rfl ?_
    obtain ⟨n104, q105, hF⟩ := ar_s hG; clear hG
    rw [(s_10).1] at q105
    obtain ⟨q106, hG⟩ := ck_s hF; clear hF
    refine hp_iald d_MText_spawns_84 tI (by rw [(s_10).1]; exact q105) q106 ?_
    refine ab_topi (fun x107 ex107 => ?_)
    replace hG := bnd_s ex107 hG
    refine ab_iload d_MText_spawns_85 rfl ?_
    refine ab_ishr d_MText_spawns_87 ?_
    refine ab_iconst (v := 1) d_MText_spawns_88 (by decide) ?_
    refine ab_iand d_MText_spawns_89 ?_
    refine ab_if_ne (tgt := 100) d_MText_spawns_90 (by decide) (fun q108 => ?_) (fun q108 => ?_)
    · rw [if_neg q108] at hG
      refine ab_le (lv' := [some (.ref p0), some (.int l1), some (.int l2), none, none, some (.int v42), none]) ⟨rfl, ⟨rfl, ⟨rfl, ⟨rfl, trivial⟩⟩⟩⟩ ?_
      exact kB_MText_spawns_100 hm27 hk27 hG
    · rw [if_pos q108] at hG
      refine ab_aload_n d_MText_spawns_93 rfl rfl rfl ?_
      refine ab_iconst (v := 5) d_MText_spawns_94 (by decide) ?_
      refine ab_iload d_MText_spawns_95 rfl ?_
      obtain ⟨v110, H111, z109, hF⟩ := bC_s hG; clear hG
      refine hp_callV_v (H1 := H111) (As := [.int 5, .int l4]) (rest := []) d_MText_spawns_97 (k_MText_fails z109) (ab_mkC s_MText_fails (Nat.le_of_ble_eq_true rfl) (Nat.le_of_ble_eq_true rfl) (Nat.le_refl 0) (Nat.le_refl 0)) (k10 160 rfl rfl) i_MText_fails v_MText_fails (by rw [(s_10).1]; exact q40) (by decide) rfl rfl (Nat.le_of_ble_eq_true rfl) ?_
      have s_24 : Sa H H111 := (s_10).tr (m_MText_fails z109)
      refine ab_le (lv' := [some (.ref p0), some (.int l1), some (.int l2), none, none, some (.int v42), none]) ⟨rfl, ⟨rfl, ⟨rfl, ⟨rfl, trivial⟩⟩⟩⟩ ?_
      exact kB_MText_spawns_100 hm27 hk27 hF
def B_MText_spawns_27 (N : Nat) (p0 : Nat) : Nat → Int32 → Int32 → Int32 → Hp → Option (Unit × Hp)
  | 0, _, _, _, _ => none
  | n + 1, l1, l2, l3, H =>
    ck (H.sh[p0]? = some (14, 0)) <|
    bnd ((H.D p0 9)) fun x24 =>
    if x24 = (0 : Int32) then
    if l3 = (0 : Int32) then
    B_MText_spawns_154 N p0  H
    else
    bC (F_MText_name N p0 H) fun v36 H37 =>
    bnd ((H37.D p0 9)) fun x38 =>
    if x38 = (0 : Int32) then
    if l2 = (4 : Int32) then
    bC (F_MText_fails N p0 (2 : Int32) v36 H37) fun v130 H131 =>
    B_MText_spawns_63 N p0 (fun l1 l2 l3 H => B_MText_spawns_27 N p0 n l1 l2 l3 H) l1 l2 v36 H131
    else
    B_MText_spawns_63 N p0 (fun l1 l2 l3 H => B_MText_spawns_27 N p0 n l1 l2 l3 H) l1 l2 v36 H37
    else
    B_MText_spawns_63 N p0 (fun l1 l2 l3 H => B_MText_spawns_27 N p0 n l1 l2 l3 H) l1 l2 v36 H37
    else
    B_MText_spawns_154 N p0  H
termination_by structural n => n
set_option maxRecDepth 20000 in
set_option maxHeartbeats 2000000 in
theorem mB_MText_spawns_27 {N : Nat} {p0 : Nat} : ∀ (n : Nat) (l1 : Int32) (l2 : Int32) (l3 : Int32) (H : Hp) (r : Unit × Hp), B_MText_spawns_27 N p0 n l1 l2 l3 H = some r → Sa H r.2 := by
  intro n
  induction n with
  | zero => intro l1 l2 l3 H r hF; rw [B_MText_spawns_27] at hF; cases hF
  | succ n ih =>
    intro l1 l2 l3 H r hF
    rw [B_MText_spawns_27] at hF
    have hm := Sa.rf H
    obtain ⟨q132, hG⟩ := ck_s hF; clear hF
    obtain ⟨x133, -, hF⟩ := bnd_g hG; clear hG
    rcases ite_s hF with ⟨q_30, hG⟩ | ⟨q_30, hG⟩
    · clear hF
      rcases ite_s hG with ⟨q_31, hF⟩ | ⟨q_31, hF⟩
      · clear hG
        exact hm.tr (mB_MText_spawns_154 hF)
      · clear hG
        obtain ⟨v137, H138, z136, hG⟩ := bC_s hF; clear hF
        replace hm : Sa H H138 := hm.tr (m_MText_name z136)
        obtain ⟨x139, -, hF⟩ := bnd_g hG; clear hG
        rcases ite_s hF with ⟨q_33, hG⟩ | ⟨q_33, hG⟩
        · clear hF
          rcases ite_s hG with ⟨q_34, hF⟩ | ⟨q_34, hF⟩
          · clear hG
            obtain ⟨v143, H144, z142, hG⟩ := bC_s hF; clear hF
            replace hm : Sa H H144 := hm.tr (m_MText_fails z142)
            exact hm.tr (mB_MText_spawns_63 ih hG)
          · clear hG
            exact hm.tr (mB_MText_spawns_63 ih hF)
        · clear hF
          exact hm.tr (mB_MText_spawns_63 ih hG)
    · clear hF
      exact hm.tr (mB_MText_spawns_154 hG)
set_option maxRecDepth 20000 in
set_option maxHeartbeats 2000000 in
theorem kB_MText_spawns_27 {N : Nat} {p0 : Nat} : ∀ (n : Nat) (l1 : Int32) (l2 : Int32) (l3 : Int32) (H : Hp) (r : Unit × Hp), B_MText_spawns_27 N p0 n l1 l2 l3 H = some r → ab_V y_MText_spawns { frames := 257, cells := 0, slots := 0, locals := 5853 } (po (.returned none) r.2) 0 0 0 0 27 [some (.ref p0), some (.int l1), some (.int l2), some (.int l3), none, none, none] [] (hpw H) := by
  intro n
  induction n with
  | zero => intro l1 l2 l3 H r hF; rw [B_MText_spawns_27] at hF; cases hF
  | succ n ih =>
    intro l1 l2 l3 H r hF
    rw [B_MText_spawns_27] at hF
    refine ab_aload_n d_MText_spawns_27 rfl rfl rfl ?_
    obtain ⟨q23, hG⟩ := ck_s hF; clear hF
    refine hp_getI (f := 9) d_MText_spawns_28 q23 (by decide) rfl (by decide) (k8 172 rfl rfl) rfl ?_
    refine ab_topi (fun x24 ex24 => ?_)
    replace hG := bnd_s ex24 hG
    refine ab_if_ne (tgt := 154) d_MText_spawns_31 (by decide) (fun q25 => ?_) (fun q25 => ?_)
    · rw [if_neg q25] at hG
      refine ab_le (lv' := [some (.ref p0), none, none, none, none, none, none]) ⟨rfl, trivial⟩ ?_
      exact kB_MText_spawns_154 hG
    · rw [if_pos q25] at hG
      refine ab_iload_n d_MText_spawns_34 rfl rfl ?_
      refine ab_if_eq (tgt := 154) d_MText_spawns_35 (by decide) (fun q34 => ?_) (fun q34 => ?_)
      · rw [if_pos q34] at hG
        refine ab_le (lv' := [some (.ref p0), none, none, none, none, none, none]) ⟨rfl, trivial⟩ ?_
        exact kB_MText_spawns_154 hG
      · rw [if_neg q34] at hG
        refine ab_aload_n d_MText_spawns_38 rfl rfl rfl ?_
        obtain ⟨v36, H37, z35, hF⟩ := bC_s hG; clear hG
        refine hp_callV_a (v := .int v36) (H1 := H37) (As := []) (rest := []) d_MText_spawns_39 (k_MText_name z35) (ab_mkC s_MText_name (Nat.le_of_ble_eq_true rfl) (Nat.le_of_ble_eq_true rfl) (Nat.le_refl 0) (Nat.le_refl 0)) (k10 168 rfl rfl) i_MText_name v_MText_name q23 (by decide) rfl rfl (Nat.le_of_ble_eq_true rfl) ?_
        have s_9 : Sa H H37 := (m_MText_name z35)
        refine ab_istore (lv' := [some (.ref p0), some (.int l1), some (.int l2), some (.int l3), some (.int v36), none, none]) d_MText_spawns_42 (by decide) rfl ?_
        refine ab_aload_n d_MText_spawns_44 rfl rfl rfl ?_
        refine hp_getI (f := 9) d_MText_spawns_45 (by rw [(s_9).1]; exact q23) (by decide) rfl (by decide) (k8 172 rfl rfl) rfl ?_
        refine ab_topi (fun x38 ex38 => ?_)
        replace hF := bnd_s ex38 hF
        refine ab_if_ne (tgt := 63) d_MText_spawns_48 (by decide) (fun q39 => ?_) (fun q39 => ?_)
        · rw [if_neg q39] at hF
          refine ab_le (lv' := [some (.ref p0), some (.int l1), some (.int l2), none, some (.int v36), none, none]) ⟨rfl, ⟨rfl, ⟨rfl, ⟨rfl, trivial⟩⟩⟩⟩ ?_
          exact kB_MText_spawns_63 (mB_MText_spawns_27 n) ih hF
        · rw [if_pos q39] at hF
          refine ab_iload_n d_MText_spawns_51 rfl rfl ?_
          refine ab_iconst (v := 4) d_MText_spawns_52 (by decide) ?_
          refine ab_icmp_ne (tgt := 63) d_MText_spawns_53 (by decide) (fun q128 => ?_) (fun q128 => ?_)
          · rw [if_neg q128] at hF
            refine ab_le (lv' := [some (.ref p0), some (.int l1), some (.int l2), none, some (.int v36), none, none]) ⟨rfl, ⟨rfl, ⟨rfl, ⟨rfl, trivial⟩⟩⟩⟩ ?_
            exact kB_MText_spawns_63 (mB_MText_spawns_27 n) ih hF
          · rw [if_pos q128] at hF
            refine ab_aload_n d_MText_spawns_56 rfl rfl rfl ?_
            refine ab_iconst (v := 2) d_MText_spawns_57 (by decide) ?_
            refine ab_iload d_MText_spawns_58 rfl ?_
            obtain ⟨v130, H131, z129, hG⟩ := bC_s hF; clear hF
            refine hp_callV_v (H1 := H131) (As := [.int 2, .int v36]) (rest := []) d_MText_spawns_60 (k_MText_fails z129) (ab_mkC s_MText_fails (Nat.le_of_ble_eq_true rfl) (Nat.le_of_ble_eq_true rfl) (Nat.le_refl 0) (Nat.le_refl 0)) (k10 160 rfl rfl) i_MText_fails v_MText_fails (by rw [(s_9).1]; exact q23) (by decide) rfl rfl (Nat.le_of_ble_eq_true rfl) ?_
            have s_29 : Sa H H131 := (s_9).tr (m_MText_fails z129)
            refine ab_le (lv' := [some (.ref p0), some (.int l1), some (.int l2), none, some (.int v36), none, none]) ⟨rfl, ⟨rfl, ⟨rfl, ⟨rfl, trivial⟩⟩⟩⟩ ?_
            exact kB_MText_spawns_63 (mB_MText_spawns_27 n) ih hG
def F_MText_spawns (N : Nat) (p0 : Nat) (H : Hp) : Option (Unit × Hp) :=
    ck (H.sh[p0]? = some (14, 0)) <|
    bC (F_MText_name N p0 H) fun v3 H4 =>
    bC (F_MText_numberOf N p0 v3 (4 : Int32) H4) fun v6 H7 =>
    bC (F_MText_is N p0 (40 : Int32) H7) fun v9 H10 =>
    if v9 = (0 : Int32) then
    B_MText_spawns_158 N p0  H10
    else
    bC (F_MText_opens N p0 H10) fun v21 H22 =>
    B_MText_spawns_27 N p0 N v6 0 1 H22
set_option maxRecDepth 20000 in
set_option maxHeartbeats 2000000 in
theorem m_MText_spawns {N : Nat} {p0 : Nat} {H : Hp} {r : Unit × Hp} (hF : F_MText_spawns N p0 H = some r) : Sa H r.2 := by
  unfold F_MText_spawns at hF
  have hm := Sa.rf H
  obtain ⟨q145, hG⟩ := ck_s hF; clear hF
  obtain ⟨v147, H148, z146, hF⟩ := bC_s hG; clear hG
  replace hm : Sa H H148 := hm.tr (m_MText_name z146)
  obtain ⟨v150, H151, z149, hG⟩ := bC_s hF; clear hF
  replace hm : Sa H H151 := hm.tr (m_MText_numberOf z149)
  obtain ⟨v153, H154, z152, hF⟩ := bC_s hG; clear hG
  replace hm : Sa H H154 := hm.tr (m_MText_is z152)
  rcases ite_s hF with ⟨q_39, hG⟩ | ⟨q_39, hG⟩
  · clear hF
    exact hm.tr (mB_MText_spawns_158 hG)
  · clear hF
    obtain ⟨v157, H158, z156, hF⟩ := bC_s hG; clear hG
    replace hm : Sa H H158 := hm.tr (m_MText_opens z156)
    exact hm.tr (mB_MText_spawns_27 N v150 0 1 H158 r hF)
set_option maxRecDepth 20000 in
set_option maxHeartbeats 2000000 in
theorem k_MText_spawns {N : Nat} {p0 : Nat} {H : Hp} {r : Unit × Hp} (hF : F_MText_spawns N p0 H = some r) : ab_M y_MText_spawns { frames := 257, cells := 0, slots := 0, locals := 5853 } [.ref p0] (hpw H) (po (.returned none) r.2) := by
  unfold F_MText_spawns at hF
  refine ab_of2 (lv := [some (.ref p0), none, none, none, none, none, none]) 6 rfl rfl (Nat.le_of_ble_eq_true rfl) ?_
  refine ab_aload_n d_MText_spawns_0 rfl rfl rfl ?_
  refine ab_aload_n d_MText_spawns_1 rfl rfl rfl ?_
  obtain ⟨q1, hG⟩ := ck_s hF; clear hF
  obtain ⟨v3, H4, z2, hF⟩ := bC_s hG; clear hG
  refine hp_callV_a (v := .int v3) (H1 := H4) (As := []) (rest := [.ref p0]) d_MText_spawns_2 (k_MText_name z2) (ab_mkC s_MText_name (Nat.le_of_ble_eq_true rfl) (Nat.le_of_ble_eq_true rfl) (Nat.le_refl 0) (Nat.le_refl 0)) (k10 168 rfl rfl) i_MText_name v_MText_name q1 (by decide) rfl rfl (Nat.le_of_ble_eq_true rfl) ?_
  have s_1 : Sa H H4 := (m_MText_name z2)
  refine ab_iconst (v := 4) d_MText_spawns_5 (by decide) ?_
  obtain ⟨v6, H7, z5, hG⟩ := bC_s hF; clear hF
  refine hp_callV_a (v := .int v6) (H1 := H7) (As := [.int v3, .int 4]) (rest := []) d_MText_spawns_6 (k_MText_numberOf z5) (ab_mkC s_MText_numberOf (Nat.le_of_ble_eq_true rfl) (Nat.le_of_ble_eq_true rfl) (Nat.le_refl 0) (Nat.le_refl 0)) (k10 225 rfl rfl) i_MText_numberOf v_MText_numberOf (by rw [(s_1).1]; exact q1) (by decide) rfl rfl (Nat.le_of_ble_eq_true rfl) ?_
  have s_2 : Sa H H7 := (s_1).tr (m_MText_numberOf z5)
  refine ab_istore_n (lv' := [some (.ref p0), some (.int v6), none, none, none, none, none]) d_MText_spawns_9 rfl (by decide) rfl ?_
  refine ab_aload_n d_MText_spawns_10 rfl rfl rfl ?_
  refine ab_bipush (v := 40) d_MText_spawns_11 (by decide) ?_
  obtain ⟨v9, H10, z8, hF⟩ := bC_s hG; clear hG
  refine hp_callV_a (v := .int v9) (H1 := H10) (As := [.int 40]) (rest := []) d_MText_spawns_13 (k_MText_is z8) (ab_mkC s_MText_is (Nat.le_of_ble_eq_true rfl) (Nat.le_of_ble_eq_true rfl) (Nat.le_refl 0) (Nat.le_refl 0)) (k10 180 rfl rfl) i_MText_is v_MText_is (by rw [(s_2).1]; exact q1) (by decide) rfl rfl (Nat.le_of_ble_eq_true rfl) ?_
  have s_3 : Sa H H10 := (s_2).tr (m_MText_is z8)
  refine ab_if_eq (tgt := 158) d_MText_spawns_16 (by decide) (fun q11 => ?_) (fun q11 => ?_)
  · rw [if_pos q11] at hF
    refine ab_le (lv' := [some (.ref p0), none, none, none, none, none, none]) ⟨rfl, trivial⟩ ?_
    exact kB_MText_spawns_158 hF
  · rw [if_neg q11] at hF
    refine ab_aload_n d_MText_spawns_19 rfl rfl rfl ?_
    obtain ⟨v21, H22, z20, hG⟩ := bC_s hF; clear hF
    refine hp_callV_v (H1 := H22) (As := []) (rest := []) d_MText_spawns_20 (k_MText_opens z20) (ab_mkC s_MText_opens (Nat.le_of_ble_eq_true rfl) (Nat.le_of_ble_eq_true rfl) (Nat.le_refl 0) (Nat.le_refl 0)) (k11 78 rfl rfl) i_MText_opens v_MText_opens (by rw [(s_3).1]; exact q1) (by decide) rfl rfl (Nat.le_of_ble_eq_true rfl) ?_
    have s_6 : Sa H H22 := (s_3).tr (m_MText_opens z20)
    refine ab_iconst (v := 0) d_MText_spawns_23 (by decide) ?_
    refine ab_istore_n (lv' := [some (.ref p0), some (.int v6), some (.int 0), none, none, none, none]) d_MText_spawns_24 rfl (by decide) rfl ?_
    refine ab_iconst (v := 1) d_MText_spawns_25 (by decide) ?_
    refine ab_istore_n (lv' := [some (.ref p0), some (.int v6), some (.int 0), some (.int 1), none, none, none]) d_MText_spawns_26 rfl (by decide) rfl ?_
    exact kB_MText_spawns_27 N v6 0 1 H22 r hG
def y_MText_emits : ab_Y := (⟨"WorldEngineModel$Text", "emits", "()V"⟩, prog_16_method_56_code, 4, none, [])
theorem d_MText_emits_0 : decode y_MText_emits.2.1 0 = .ok (.aload_n 0, 1) := by decide +kernel
theorem d_MText_emits_1 : decode y_MText_emits.2.1 1 = .ok (.aload_n 0, 1) := by decide +kernel
theorem d_MText_emits_2 : decode y_MText_emits.2.1 2 = .ok (.invokevirtual 240, 3) := by decide +kernel
theorem d_MText_emits_5 : decode y_MText_emits.2.1 5 = .ok (.iconst 3, 1) := by decide +kernel
theorem d_MText_emits_6 : decode y_MText_emits.2.1 6 = .ok (.invokevirtual 290, 3) := by decide +kernel
theorem d_MText_emits_9 : decode y_MText_emits.2.1 9 = .ok (.istore_n 1, 1) := by decide +kernel
theorem d_MText_emits_10 : decode y_MText_emits.2.1 10 = .ok (.aload_n 0, 1) := by decide +kernel
theorem d_MText_emits_11 : decode y_MText_emits.2.1 11 = .ok (.invokevirtual 354, 3) := by decide +kernel
theorem d_MText_emits_14 : decode y_MText_emits.2.1 14 = .ok (.iconst 0, 1) := by decide +kernel
theorem d_MText_emits_15 : decode y_MText_emits.2.1 15 = .ok (.istore_n 2, 1) := by decide +kernel
theorem d_MText_emits_16 : decode y_MText_emits.2.1 16 = .ok (.aload_n 0, 1) := by decide +kernel
theorem d_MText_emits_17 : decode y_MText_emits.2.1 17 = .ok (.bipush 41, 2) := by decide +kernel
theorem d_MText_emits_19 : decode y_MText_emits.2.1 19 = .ok (.invokevirtual 194, 3) := by decide +kernel
theorem d_MText_emits_22 : decode y_MText_emits.2.1 22 = .ok (.ifCond .ne 7, 3) := by decide +kernel
theorem d_MText_emits_25 : decode y_MText_emits.2.1 25 = .ok (.iconst 1, 1) := by decide +kernel
theorem d_MText_emits_26 : decode y_MText_emits.2.1 26 = .ok (.goto 4, 3) := by decide +kernel
theorem d_MText_emits_29 : decode y_MText_emits.2.1 29 = .ok (.iconst 0, 1) := by decide +kernel
theorem d_MText_emits_30 : decode y_MText_emits.2.1 30 = .ok (.istore_n 3, 1) := by decide +kernel
theorem d_MText_emits_31 : decode y_MText_emits.2.1 31 = .ok (.aload_n 0, 1) := by decide +kernel
theorem d_MText_emits_32 : decode y_MText_emits.2.1 32 = .ok (.getfield 185, 3) := by decide +kernel
theorem d_MText_emits_35 : decode y_MText_emits.2.1 35 = .ok (.ifCond .ne 55, 3) := by decide +kernel
theorem d_MText_emits_38 : decode y_MText_emits.2.1 38 = .ok (.iload_n 3, 1) := by decide +kernel
theorem d_MText_emits_39 : decode y_MText_emits.2.1 39 = .ok (.ifCond .eq 51, 3) := by decide +kernel
theorem d_MText_emits_42 : decode y_MText_emits.2.1 42 = .ok (.iload_n 2, 1) := by decide +kernel
theorem d_MText_emits_43 : decode y_MText_emits.2.1 43 = .ok (.aload_n 0, 1) := by decide +kernel
theorem d_MText_emits_44 : decode y_MText_emits.2.1 44 = .ok (.getfield 59, 3) := by decide +kernel
theorem d_MText_emits_47 : decode y_MText_emits.2.1 47 = .ok (.iload_n 1, 1) := by decide +kernel
theorem d_MText_emits_48 : decode y_MText_emits.2.1 48 = .ok (.iaload, 1) := by decide +kernel
theorem d_MText_emits_49 : decode y_MText_emits.2.1 49 = .ok (.if_icmp .ge 23, 3) := by decide +kernel
theorem d_MText_emits_52 : decode y_MText_emits.2.1 52 = .ok (.aload_n 0, 1) := by decide +kernel
theorem d_MText_emits_53 : decode y_MText_emits.2.1 53 = .ok (.aload_n 0, 1) := by decide +kernel
theorem d_MText_emits_54 : decode y_MText_emits.2.1 54 = .ok (.getfield 62, 3) := by decide +kernel
theorem d_MText_emits_57 : decode y_MText_emits.2.1 57 = .ok (.iconst 4, 1) := by decide +kernel
theorem d_MText_emits_58 : decode y_MText_emits.2.1 58 = .ok (.iload_n 1, 1) := by decide +kernel
theorem d_MText_emits_59 : decode y_MText_emits.2.1 59 = .ok (.imul, 1) := by decide +kernel
theorem d_MText_emits_60 : decode y_MText_emits.2.1 60 = .ok (.iload_n 2, 1) := by decide +kernel
theorem d_MText_emits_61 : decode y_MText_emits.2.1 61 = .ok (.iadd, 1) := by decide +kernel
theorem d_MText_emits_62 : decode y_MText_emits.2.1 62 = .ok (.iaload, 1) := by decide +kernel
theorem d_MText_emits_63 : decode y_MText_emits.2.1 63 = .ok (.invokestatic 351, 3) := by decide +kernel
theorem d_MText_emits_66 : decode y_MText_emits.2.1 66 = .ok (.invokevirtual 327, 3) := by decide +kernel
theorem d_MText_emits_69 : decode y_MText_emits.2.1 69 = .ok (.goto 8, 3) := by decide +kernel
theorem d_MText_emits_72 : decode y_MText_emits.2.1 72 = .ok (.aload_n 0, 1) := by decide +kernel
theorem d_MText_emits_73 : decode y_MText_emits.2.1 73 = .ok (.invokevirtual 320, 3) := by decide +kernel
theorem d_MText_emits_76 : decode y_MText_emits.2.1 76 = .ok (.pop, 1) := by decide +kernel
theorem d_MText_emits_77 : decode y_MText_emits.2.1 77 = .ok (.iinc 2 1, 3) := by decide +kernel
theorem d_MText_emits_80 : decode y_MText_emits.2.1 80 = .ok (.aload_n 0, 1) := by decide +kernel
theorem d_MText_emits_81 : decode y_MText_emits.2.1 81 = .ok (.bipush 44, 2) := by decide +kernel
theorem d_MText_emits_83 : decode y_MText_emits.2.1 83 = .ok (.invokevirtual 197, 3) := by decide +kernel
theorem d_MText_emits_86 : decode y_MText_emits.2.1 86 = .ok (.istore_n 3, 1) := by decide +kernel
theorem d_MText_emits_87 : decode y_MText_emits.2.1 87 = .ok (.goto (-56), 3) := by decide +kernel
theorem d_MText_emits_90 : decode y_MText_emits.2.1 90 = .ok (.aload_n 0, 1) := by decide +kernel
theorem d_MText_emits_91 : decode y_MText_emits.2.1 91 = .ok (.bipush 41, 2) := by decide +kernel
theorem d_MText_emits_93 : decode y_MText_emits.2.1 93 = .ok (.invokevirtual 194, 3) := by decide +kernel
theorem d_MText_emits_96 : decode y_MText_emits.2.1 96 = .ok (.ifCond .eq 22, 3) := by decide +kernel
theorem d_MText_emits_99 : decode y_MText_emits.2.1 99 = .ok (.iload_n 2, 1) := by decide +kernel
theorem d_MText_emits_100 : decode y_MText_emits.2.1 100 = .ok (.aload_n 0, 1) := by decide +kernel
theorem d_MText_emits_101 : decode y_MText_emits.2.1 101 = .ok (.getfield 59, 3) := by decide +kernel
theorem d_MText_emits_104 : decode y_MText_emits.2.1 104 = .ok (.iload_n 1, 1) := by decide +kernel
theorem d_MText_emits_105 : decode y_MText_emits.2.1 105 = .ok (.iaload, 1) := by decide +kernel
theorem d_MText_emits_106 : decode y_MText_emits.2.1 106 = .ok (.if_icmp .eq 12, 3) := by decide +kernel
theorem d_MText_emits_109 : decode y_MText_emits.2.1 109 = .ok (.aload_n 0, 1) := by decide +kernel
theorem d_MText_emits_110 : decode y_MText_emits.2.1 110 = .ok (.iconst 5, 1) := by decide +kernel
theorem d_MText_emits_111 : decode y_MText_emits.2.1 111 = .ok (.aload_n 0, 1) := by decide +kernel
theorem d_MText_emits_112 : decode y_MText_emits.2.1 112 = .ok (.getfield 191, 3) := by decide +kernel
theorem d_MText_emits_115 : decode y_MText_emits.2.1 115 = .ok (.invokevirtual 200, 3) := by decide +kernel
theorem d_MText_emits_118 : decode y_MText_emits.2.1 118 = .ok (.aload_n 0, 1) := by decide +kernel
theorem d_MText_emits_119 : decode y_MText_emits.2.1 119 = .ok (.invokevirtual 357, 3) := by decide +kernel
theorem d_MText_emits_122 : decode y_MText_emits.2.1 122 = .ok (.aload_n 0, 1) := by decide +kernel
theorem d_MText_emits_123 : decode y_MText_emits.2.1 123 = .ok (.sipush 228, 3) := by decide +kernel
theorem d_MText_emits_126 : decode y_MText_emits.2.1 126 = .ok (.invokevirtual 204, 3) := by decide +kernel
theorem d_MText_emits_129 : decode y_MText_emits.2.1 129 = .ok (.aload_n 0, 1) := by decide +kernel
theorem d_MText_emits_130 : decode y_MText_emits.2.1 130 = .ok (.iconst 4, 1) := by decide +kernel
theorem d_MText_emits_131 : decode y_MText_emits.2.1 131 = .ok (.invokevirtual 360, 3) := by decide +kernel
theorem d_MText_emits_134 : decode y_MText_emits.2.1 134 = .ok (.aload_n 0, 1) := by decide +kernel
theorem d_MText_emits_135 : decode y_MText_emits.2.1 135 = .ok (.sipush 219, 3) := by decide +kernel
theorem d_MText_emits_138 : decode y_MText_emits.2.1 138 = .ok (.invokevirtual 204, 3) := by decide +kernel
theorem d_MText_emits_141 : decode y_MText_emits.2.1 141 = .ok (.aload_n 0, 1) := by decide +kernel
theorem d_MText_emits_142 : decode y_MText_emits.2.1 142 = .ok (.iconst 0, 1) := by decide +kernel
theorem d_MText_emits_143 : decode y_MText_emits.2.1 143 = .ok (.invokevirtual 360, 3) := by decide +kernel
theorem d_MText_emits_146 : decode y_MText_emits.2.1 146 = .ok (.aload_n 0, 1) := by decide +kernel
theorem d_MText_emits_147 : decode y_MText_emits.2.1 147 = .ok (.bipush 59, 2) := by decide +kernel
theorem d_MText_emits_149 : decode y_MText_emits.2.1 149 = .ok (.invokevirtual 204, 3) := by decide +kernel
theorem d_MText_emits_152 : decode y_MText_emits.2.1 152 = .ok (.return_, 1) := by decide +kernel
theorem s_MText_emits : ab_Stat y_MText_emits 0 := ⟨(k11 132 rfl rfl), (k1 20 rfl rfl), ⟨by decide, by decide⟩, by decide +kernel⟩
theorem i_MText_emits : Cond.instanceMethod y_MText_emits.1 ∈ ab_T := (k11 131 rfl rfl)
theorem v_MText_emits : Cond.selects "WorldEngineModel$Text" y_MText_emits.1 y_MText_emits.1 ∈ ab_T := ab_s (List.mem_of_getElem? (i := 163) rfl) rfl
def B_MText_emits_118 (N : Nat) (p0 : Nat)  (H : Hp) : Option (Unit × Hp) :=
    ck (H.sh[p0]? = some (14, 0)) <|
    bC (F_MText_closes N p0 H) fun v25 H26 =>
    bC (F_MText_takes N p0 (228 : Int32) H26) fun v28 H29 =>
    bC (F_MText_wantsIn N (X_TextE N 50) p0 (4 : Int32) H29) fun v31 H32 =>
    bC (F_MText_takes N p0 (219 : Int32) H32) fun v34 H35 =>
    bC (F_MText_wantsIn N (X_TextE N 50) p0 (0 : Int32) H35) fun v37 H38 =>
    bC (F_MText_takes N p0 (59 : Int32) H38) fun v40 H41 =>
    some ((), H41)
set_option maxRecDepth 20000 in
set_option maxHeartbeats 2000000 in
theorem mB_MText_emits_118 {N : Nat} {p0 : Nat}  {H : Hp} {r : Unit × Hp} (hF : B_MText_emits_118 N p0  H = some r) : Sa H r.2 := by
  unfold B_MText_emits_118 at hF
  have hm := Sa.rf H
  obtain ⟨q42, hG⟩ := ck_s hF; clear hF
  obtain ⟨v44, H45, z43, hF⟩ := bC_s hG; clear hG
  replace hm : Sa H H45 := hm.tr (m_MText_closes z43)
  obtain ⟨v47, H48, z46, hG⟩ := bC_s hF; clear hF
  replace hm : Sa H H48 := hm.tr (m_MText_takes z46)
  obtain ⟨v50, H51, z49, hF⟩ := bC_s hG; clear hG
  replace hm : Sa H H51 := hm.tr (m_MText_wantsIn (moX_TextE 50) z49)
  obtain ⟨v53, H54, z52, hG⟩ := bC_s hF; clear hF
  replace hm : Sa H H54 := hm.tr (m_MText_takes z52)
  obtain ⟨v56, H57, z55, hF⟩ := bC_s hG; clear hG
  replace hm : Sa H H57 := hm.tr (m_MText_wantsIn (moX_TextE 50) z55)
  obtain ⟨v59, H60, z58, hG⟩ := bC_s hF; clear hF
  replace hm : Sa H H60 := hm.tr (m_MText_takes z58)
  have hr := Option.some.inj hG; subst hr
  exact hm
set_option maxRecDepth 20000 in
set_option maxHeartbeats 2000000 in
theorem kB_MText_emits_118 {N : Nat} {p0 : Nat}  {H : Hp} {r : Unit × Hp} (hF : B_MText_emits_118 N p0  H = some r) : ab_V y_MText_emits { frames := 258, cells := 0, slots := 0, locals := 5874 } (po (.returned none) r.2) 0 0 0 0 118 [some (.ref p0), none, none, none] [] (hpw H) := by
  unfold B_MText_emits_118 at hF
  refine ab_aload_n d_MText_emits_118 rfl rfl rfl ?_
  obtain ⟨q23, hG⟩ := ck_s hF; clear hF
  obtain ⟨v25, H26, z24, hF⟩ := bC_s hG; clear hG
  refine hp_callV_v (H1 := H26) (As := []) (rest := []) d_MText_emits_119 (k_MText_closes z24) (ab_mkC s_MText_closes (Nat.le_of_ble_eq_true rfl) (Nat.le_of_ble_eq_true rfl) (Nat.le_refl 0) (Nat.le_refl 0)) (k11 86 rfl rfl) i_MText_closes v_MText_closes q23 (by decide) rfl rfl (Nat.le_of_ble_eq_true rfl) ?_
  have s_6 : Sa H H26 := (m_MText_closes z24)
  refine ab_aload_n d_MText_emits_122 rfl rfl rfl ?_
  refine ab_sipush (v := 228) d_MText_emits_123 (by decide) ?_
  obtain ⟨v28, H29, z27, hG⟩ := bC_s hF; clear hF
  refine hp_callV_v (H1 := H29) (As := [.int 228]) (rest := []) d_MText_emits_126 (k_MText_takes z27) (ab_mkC s_MText_takes (Nat.le_of_ble_eq_true rfl) (Nat.le_of_ble_eq_true rfl) (Nat.le_refl 0) (Nat.le_refl 0)) (k10 172 rfl rfl) i_MText_takes v_MText_takes (by rw [(s_6).1]; exact q23) (by decide) rfl rfl (Nat.le_of_ble_eq_true rfl) ?_
  have s_7 : Sa H H29 := (s_6).tr (m_MText_takes z27)
  refine ab_aload_n d_MText_emits_129 rfl rfl rfl ?_
  refine ab_iconst (v := 4) d_MText_emits_130 (by decide) ?_
  obtain ⟨v31, H32, z30, hF⟩ := bC_s hG; clear hG
  refine hp_callV_v (H1 := H32) (As := [.int 4]) (rest := []) d_MText_emits_131 (k_MText_wantsIn (okX_TextE 50) (moX_TextE 50) z30) (ab_mkC s_MText_wantsIn (Nat.le_of_ble_eq_true rfl) (Nat.le_of_ble_eq_true rfl) (Nat.le_refl 0) (Nat.le_refl 0)) (k11 90 rfl rfl) i_MText_wantsIn v_MText_wantsIn (by rw [(s_7).1]; exact q23) (by decide) rfl rfl (Nat.le_of_ble_eq_true rfl) ?_
  have s_8 : Sa H H32 := (s_7).tr (m_MText_wantsIn (moX_TextE 50) z30)
  refine ab_aload_n d_MText_emits_134 rfl rfl rfl ?_
  refine ab_sipush (v := 219) d_MText_emits_135 (by decide) ?_
  obtain ⟨v34, H35, z33, hG⟩ := bC_s hF; clear hF
  refine hp_callV_v (H1 := H35) (As := [.int 219]) (rest := []) d_MText_emits_138 (k_MText_takes z33) (ab_mkC s_MText_takes (Nat.le_of_ble_eq_true rfl) (Nat.le_of_ble_eq_true rfl) (Nat.le_refl 0) (Nat.le_refl 0)) (k10 172 rfl rfl) i_MText_takes v_MText_takes (by rw [(s_8).1]; exact q23) (by decide) rfl rfl (Nat.le_of_ble_eq_true rfl) ?_
  have s_9 : Sa H H35 := (s_8).tr (m_MText_takes z33)
  refine ab_aload_n d_MText_emits_141 rfl rfl rfl ?_
  refine ab_iconst (v := 0) d_MText_emits_142 (by decide) ?_
  obtain ⟨v37, H38, z36, hF⟩ := bC_s hG; clear hG
  refine hp_callV_v (H1 := H38) (As := [.int 0]) (rest := []) d_MText_emits_143 (k_MText_wantsIn (okX_TextE 50) (moX_TextE 50) z36) (ab_mkC s_MText_wantsIn (Nat.le_of_ble_eq_true rfl) (Nat.le_of_ble_eq_true rfl) (Nat.le_refl 0) (Nat.le_refl 0)) (k11 90 rfl rfl) i_MText_wantsIn v_MText_wantsIn (by rw [(s_9).1]; exact q23) (by decide) rfl rfl (Nat.le_of_ble_eq_true rfl) ?_
  have s_10 : Sa H H38 := (s_9).tr (m_MText_wantsIn (moX_TextE 50) z36)
  refine ab_aload_n d_MText_emits_146 rfl rfl rfl ?_
  refine ab_bipush (v := 59) d_MText_emits_147 (by decide) ?_
  obtain ⟨v40, H41, z39, hG⟩ := bC_s hF; clear hF
  refine hp_callV_v (H1 := H41) (As := [.int 59]) (rest := []) d_MText_emits_149 (k_MText_takes z39) (ab_mkC s_MText_takes (Nat.le_of_ble_eq_true rfl) (Nat.le_of_ble_eq_true rfl) (Nat.le_refl 0) (Nat.le_refl 0)) (k10 172 rfl rfl) i_MText_takes v_MText_takes (by rw [(s_10).1]; exact q23) (by decide) rfl rfl (Nat.le_of_ble_eq_true rfl) ?_
  have s_11 : Sa H H41 := (s_10).tr (m_MText_takes z39)
  exact ab_vret d_MText_emits_152 rfl (Nat.le_refl _) (Nat.le_refl _) (by have hr := Option.some.inj hG; subst hr; exact ⟨rfl, rfl⟩)
def B_MText_emits_90 (N : Nat) (p0 : Nat) (l1 : Int32) (l2 : Int32) (H : Hp) : Option (Unit × Hp) :=
    ck (H.sh[p0]? = some (14, 0)) <|
    bC (F_MText_is N p0 (41 : Int32) H) fun v20 H21 =>
    if v20 = (0 : Int32) then
    B_MText_emits_118 N p0  H21
    else
    rf (H21.P p0 23) fun a61 =>
    ar H21 100 a61 fun n63 =>
    ck (inb l1 n63) <|
    bnd ((H21.D a61 (l1).toNatClampNeg)) fun x66 =>
    if l2 = x66 then
    B_MText_emits_118 N p0  H21
    else
    bnd ((H21.D p0 11)) fun x68 =>
    bC (F_MText_fails N p0 (5 : Int32) x68 H21) fun v70 H71 =>
    B_MText_emits_118 N p0  H71
set_option maxRecDepth 20000 in
set_option maxHeartbeats 2000000 in
theorem mB_MText_emits_90 {N : Nat} {p0 : Nat} {l1 : Int32} {l2 : Int32} {H : Hp} {r : Unit × Hp} (hF : B_MText_emits_90 N p0 l1 l2 H = some r) : Sa H r.2 := by
  unfold B_MText_emits_90 at hF
  have hm := Sa.rf H
  obtain ⟨q72, hG⟩ := ck_s hF; clear hF
  obtain ⟨v74, H75, z73, hF⟩ := bC_s hG; clear hG
  replace hm : Sa H H75 := hm.tr (m_MText_is z73)
  rcases ite_s hF with ⟨q_20, hG⟩ | ⟨q_20, hG⟩
  · clear hF
    exact hm.tr (mB_MText_emits_118 hG)
  · clear hF
    obtain ⟨a77, e78, hF⟩ := rf_s hG; clear hG
    obtain ⟨n79, q80, hG⟩ := ar_s hF; clear hF
    obtain ⟨q81, hF⟩ := ck_s hG; clear hG
    obtain ⟨x82, -, hG⟩ := bnd_g hF; clear hF
    rcases ite_s hG with ⟨q_21, hF⟩ | ⟨q_21, hF⟩
    · clear hG
      exact hm.tr (mB_MText_emits_118 hF)
    · clear hG
      obtain ⟨x84, -, hG⟩ := bnd_g hF; clear hF
      obtain ⟨v86, H87, z85, hF⟩ := bC_s hG; clear hG
      replace hm : Sa H H87 := hm.tr (m_MText_fails z85)
      exact hm.tr (mB_MText_emits_118 hF)
set_option maxRecDepth 20000 in
set_option maxHeartbeats 2000000 in
theorem kB_MText_emits_90 {N : Nat} {p0 : Nat} {l1 : Int32} {l2 : Int32} {H : Hp} {r : Unit × Hp} (hF : B_MText_emits_90 N p0 l1 l2 H = some r) : ab_V y_MText_emits { frames := 258, cells := 0, slots := 0, locals := 5874 } (po (.returned none) r.2) 0 0 0 0 90 [some (.ref p0), some (.int l1), some (.int l2), none] [] (hpw H) := by
  unfold B_MText_emits_90 at hF
  refine ab_aload_n d_MText_emits_90 rfl rfl rfl ?_
  refine ab_bipush (v := 41) d_MText_emits_91 (by decide) ?_
  obtain ⟨q18, hG⟩ := ck_s hF; clear hF
  obtain ⟨v20, H21, z19, hF⟩ := bC_s hG; clear hG
  refine hp_callV_a (v := .int v20) (H1 := H21) (As := [.int 41]) (rest := []) d_MText_emits_93 (k_MText_is z19) (ab_mkC s_MText_is (Nat.le_of_ble_eq_true rfl) (Nat.le_of_ble_eq_true rfl) (Nat.le_refl 0) (Nat.le_refl 0)) (k10 180 rfl rfl) i_MText_is v_MText_is q18 (by decide) rfl rfl (Nat.le_of_ble_eq_true rfl) ?_
  have s_5 : Sa H H21 := (m_MText_is z19)
  refine ab_if_eq (tgt := 118) d_MText_emits_96 (by decide) (fun q22 => ?_) (fun q22 => ?_)
  · rw [if_pos q22] at hF
    refine ab_le (lv' := [some (.ref p0), none, none, none]) ⟨rfl, trivial⟩ ?_
    exact kB_MText_emits_118 hF
  · rw [if_neg q22] at hF
    refine ab_iload_n d_MText_emits_99 rfl rfl ?_
    refine ab_aload_n d_MText_emits_100 rfl rfl rfl ?_
    obtain ⟨a61, e62, hG⟩ := rf_s hF; clear hF
    refine hp_getR (f := 23) d_MText_emits_101 (by rw [(s_5).1]; exact q18) (by decide) rfl (by decide) (k8 198 rfl rfl) rfl e62 ?_
    refine ab_iload_n d_MText_emits_104 rfl rfl ?_
    obtain ⟨n63, q64, hF⟩ := ar_s hG; clear hG
    rw [(s_5).1] at q64
    obtain ⟨q65, hG⟩ := ck_s hF; clear hF
    refine hp_iald d_MText_emits_105 tI (by rw [(s_5).1]; exact q64) q65 ?_
    refine ab_topi (fun x66 ex66 => ?_)
    replace hG := bnd_s ex66 hG
    refine ab_icmp_eq (tgt := 118) d_MText_emits_106 (by decide) (fun q67 => ?_) (fun q67 => ?_)
    · rw [if_pos q67] at hG
      refine ab_le (lv' := [some (.ref p0), none, none, none]) ⟨rfl, trivial⟩ ?_
      exact kB_MText_emits_118 hG
    · rw [if_neg q67] at hG
      refine ab_aload_n d_MText_emits_109 rfl rfl rfl ?_
      refine ab_iconst (v := 5) d_MText_emits_110 (by decide) ?_
      refine ab_aload_n d_MText_emits_111 rfl rfl rfl ?_
      refine hp_getI (f := 11) d_MText_emits_112 (by rw [(s_5).1]; exact q18) (by decide) rfl (by decide) (k8 175 rfl rfl) rfl ?_
      refine ab_topi (fun x68 ex68 => ?_)
      replace hG := bnd_s ex68 hG
      obtain ⟨v70, H71, z69, hF⟩ := bC_s hG; clear hG
      refine hp_callV_v (H1 := H71) (As := [.int 5, .int x68]) (rest := []) d_MText_emits_115 (k_MText_fails z69) (ab_mkC s_MText_fails (Nat.le_of_ble_eq_true rfl) (Nat.le_of_ble_eq_true rfl) (Nat.le_refl 0) (Nat.le_refl 0)) (k10 160 rfl rfl) i_MText_fails v_MText_fails (by rw [(s_5).1]; exact q18) (by decide) rfl rfl (Nat.le_of_ble_eq_true rfl) ?_
      have s_18 : Sa H H71 := (s_5).tr (m_MText_fails z69)
      refine ab_le (lv' := [some (.ref p0), none, none, none]) ⟨rfl, trivial⟩ ?_
      exact kB_MText_emits_118 hF
def B_MText_emits_77 (N : Nat) (p0 : Nat) (kq31 : Int32 → Int32 → Int32 → Hp → Option (Unit × Hp)) (l1 : Int32) (l2 : Int32) (H : Hp) : Option (Unit × Hp) :=
    ck (H.sh[p0]? = some (14, 0)) <|
    bC (F_MText_accepts N p0 (44 : Int32) H) fun v101 H102 =>
    kq31 l1 (l2 + 1) v101 H102
set_option maxRecDepth 20000 in
set_option maxHeartbeats 2000000 in
theorem mB_MText_emits_77 {N : Nat} {p0 : Nat} {kq31 : Int32 → Int32 → Int32 → Hp → Option (Unit × Hp)} (hm31 : ∀ (l1 : Int32) (l2 : Int32) (l3 : Int32) (H : Hp) (r : Unit × Hp), kq31 l1 l2 l3 H = some r → Sa H r.2) {l1 : Int32} {l2 : Int32} {H : Hp} {r : Unit × Hp} (hF : B_MText_emits_77 N p0 kq31 l1 l2 H = some r) : Sa H r.2 := by
  unfold B_MText_emits_77 at hF
  have hm := Sa.rf H
  obtain ⟨q103, hG⟩ := ck_s hF; clear hF
  obtain ⟨v105, H106, z104, hF⟩ := bC_s hG; clear hG
  replace hm : Sa H H106 := hm.tr (m_MText_accepts z104)
  exact hm.tr (hm31 l1 (l2 + 1) v105 H106 r hF)
set_option maxRecDepth 20000 in
set_option maxHeartbeats 2000000 in
theorem kB_MText_emits_77 {N : Nat} {p0 : Nat} {kq31 : Int32 → Int32 → Int32 → Hp → Option (Unit × Hp)} (hm31 : ∀ (l1 : Int32) (l2 : Int32) (l3 : Int32) (H : Hp) (r : Unit × Hp), kq31 l1 l2 l3 H = some r → Sa H r.2) (hk31 : ∀ (l1 : Int32) (l2 : Int32) (l3 : Int32) (H : Hp) (r : Unit × Hp), kq31 l1 l2 l3 H = some r → ab_V y_MText_emits { frames := 258, cells := 0, slots := 0, locals := 5874 } (po (.returned none) r.2) 0 0 0 0 31 [some (.ref p0), some (.int l1), some (.int l2), some (.int l3)] [] (hpw H)) {l1 : Int32} {l2 : Int32} {H : Hp} {r : Unit × Hp} (hF : B_MText_emits_77 N p0 kq31 l1 l2 H = some r) : ab_V y_MText_emits { frames := 258, cells := 0, slots := 0, locals := 5874 } (po (.returned none) r.2) 0 0 0 0 77 [some (.ref p0), some (.int l1), some (.int l2), none] [] (hpw H) := by
  unfold B_MText_emits_77 at hF
  refine ab_iinc (v := l2 + 1) (lv' := [some (.ref p0), some (.int l1), some (.int (l2 + 1)), none]) d_MText_emits_77 rfl rfl (by decide) rfl ?_
  refine ab_aload_n d_MText_emits_80 rfl rfl rfl ?_
  refine ab_bipush (v := 44) d_MText_emits_81 (by decide) ?_
  obtain ⟨q99, hG⟩ := ck_s hF; clear hF
  obtain ⟨v101, H102, z100, hF⟩ := bC_s hG; clear hG
  refine hp_callV_a (v := .int v101) (H1 := H102) (As := [.int 44]) (rest := []) d_MText_emits_83 (k_MText_accepts z100) (ab_mkC s_MText_accepts (Nat.le_of_ble_eq_true rfl) (Nat.le_of_ble_eq_true rfl) (Nat.le_refl 0) (Nat.le_refl 0)) (k10 176 rfl rfl) i_MText_accepts v_MText_accepts q99 (by decide) rfl rfl (Nat.le_of_ble_eq_true rfl) ?_
  have s_24 : Sa H H102 := (m_MText_accepts z100)
  refine ab_istore_n (lv' := [some (.ref p0), some (.int l1), some (.int (l2 + 1)), some (.int v101)]) d_MText_emits_86 rfl (by decide) rfl ?_
  refine ab_goto (tgt := 31) d_MText_emits_87 (by decide) ?_
  exact hk31 l1 (l2 + 1) v101 H102 r hF
def B_MText_emits_31 (N : Nat) (p0 : Nat) : Nat → Int32 → Int32 → Int32 → Hp → Option (Unit × Hp)
  | 0, _, _, _, _ => none
  | n + 1, l1, l2, l3, H =>
    ck (H.sh[p0]? = some (14, 0)) <|
    bnd ((H.D p0 9)) fun x16 =>
    if x16 = (0 : Int32) then
    if l3 = (0 : Int32) then
    B_MText_emits_90 N p0 l1 l2 H
    else
    rf (H.P p0 23) fun a89 =>
    ar H 100 a89 fun n91 =>
    ck (inb l1 n91) <|
    bnd ((H.D a89 (l1).toNatClampNeg)) fun x94 =>
    if x94 ≤ l2 then
    bC ((X_TextE N 50).1 p0 H) fun v97 H98 =>
    B_MText_emits_77 N p0 (fun l1 l2 l3 H => B_MText_emits_31 N p0 n l1 l2 l3 H) l1 l2 H98
    else
    rf (H.P p0 24) fun a107 =>
    ar H 100 a107 fun n109 =>
    ck (inb (((4 : Int32) * l1) + l2) n109) <|
    bnd ((H.D a107 ((((4 : Int32) * l1) + l2)).toNatClampNeg)) fun x112 =>
    bC (F_MText_plain N x112 H) fun v114 H115 =>
    bC (F_MText_wants N (X_TextE N 50) p0 v114 H115) fun v117 H118 =>
    B_MText_emits_77 N p0 (fun l1 l2 l3 H => B_MText_emits_31 N p0 n l1 l2 l3 H) l1 l2 H118
    else
    B_MText_emits_90 N p0 l1 l2 H
termination_by structural n => n
set_option maxRecDepth 20000 in
set_option maxHeartbeats 2000000 in
theorem mB_MText_emits_31 {N : Nat} {p0 : Nat} : ∀ (n : Nat) (l1 : Int32) (l2 : Int32) (l3 : Int32) (H : Hp) (r : Unit × Hp), B_MText_emits_31 N p0 n l1 l2 l3 H = some r → Sa H r.2 := by
  intro n
  induction n with
  | zero => intro l1 l2 l3 H r hF; rw [B_MText_emits_31] at hF; cases hF
  | succ n ih =>
    intro l1 l2 l3 H r hF
    rw [B_MText_emits_31] at hF
    have hm := Sa.rf H
    obtain ⟨q119, hG⟩ := ck_s hF; clear hF
    obtain ⟨x120, -, hF⟩ := bnd_g hG; clear hG
    rcases ite_s hF with ⟨q_28, hG⟩ | ⟨q_28, hG⟩
    · clear hF
      rcases ite_s hG with ⟨q_29, hF⟩ | ⟨q_29, hF⟩
      · clear hG
        exact hm.tr (mB_MText_emits_90 hF)
      · clear hG
        obtain ⟨a123, e124, hG⟩ := rf_s hF; clear hF
        obtain ⟨n125, q126, hF⟩ := ar_s hG; clear hG
        obtain ⟨q127, hG⟩ := ck_s hF; clear hF
        obtain ⟨x128, -, hF⟩ := bnd_g hG; clear hG
        rcases ite_s hF with ⟨q_30, hG⟩ | ⟨q_30, hG⟩
        · clear hF
          obtain ⟨v131, H132, z130, hF⟩ := bC_s hG; clear hG
          replace hm : Sa H H132 := hm.tr ((moX_TextE 50).1 _ _ _ z130)
          exact hm.tr (mB_MText_emits_77 ih hF)
        · clear hF
          obtain ⟨a133, e134, hF⟩ := rf_s hG; clear hG
          obtain ⟨n135, q136, hG⟩ := ar_s hF; clear hF
          obtain ⟨q137, hF⟩ := ck_s hG; clear hG
          obtain ⟨x138, -, hG⟩ := bnd_g hF; clear hF
          obtain ⟨v140, H141, z139, hF⟩ := bC_s hG; clear hG
          replace hm : Sa H H141 := hm.tr (m_MText_plain z139)
          obtain ⟨v143, H144, z142, hG⟩ := bC_s hF; clear hF
          replace hm : Sa H H144 := hm.tr (m_MText_wants (moX_TextE 50) z142)
          exact hm.tr (mB_MText_emits_77 ih hG)
    · clear hF
      exact hm.tr (mB_MText_emits_90 hG)
set_option maxRecDepth 20000 in
set_option maxHeartbeats 2000000 in
theorem kB_MText_emits_31 {N : Nat} {p0 : Nat} : ∀ (n : Nat) (l1 : Int32) (l2 : Int32) (l3 : Int32) (H : Hp) (r : Unit × Hp), B_MText_emits_31 N p0 n l1 l2 l3 H = some r → ab_V y_MText_emits { frames := 258, cells := 0, slots := 0, locals := 5874 } (po (.returned none) r.2) 0 0 0 0 31 [some (.ref p0), some (.int l1), some (.int l2), some (.int l3)] [] (hpw H) := by
  intro n
  induction n with
  | zero => intro l1 l2 l3 H r hF; rw [B_MText_emits_31] at hF; cases hF
  | succ n ih =>
    intro l1 l2 l3 H r hF
    rw [B_MText_emits_31] at hF
    refine ab_aload_n d_MText_emits_31 rfl rfl rfl ?_
    obtain ⟨q15, hG⟩ := ck_s hF; clear hF
    refine hp_getI (f := 9) d_MText_emits_32 q15 (by decide) rfl (by decide) (k8 172 rfl rfl) rfl ?_
    refine ab_topi (fun x16 ex16 => ?_)
    replace hG := bnd_s ex16 hG
    refine ab_if_ne (tgt := 90) d_MText_emits_35 (by decide) (fun q17 => ?_) (fun q17 => ?_)
    · rw [if_neg q17] at hG
      refine ab_le (lv' := [some (.ref p0), some (.int l1), some (.int l2), none]) ⟨rfl, ⟨rfl, ⟨rfl, trivial⟩⟩⟩ ?_
      exact kB_MText_emits_90 hG
    · rw [if_pos q17] at hG
      refine ab_iload_n d_MText_emits_38 rfl rfl ?_
      refine ab_if_eq (tgt := 90) d_MText_emits_39 (by decide) (fun q88 => ?_) (fun q88 => ?_)
      · rw [if_pos q88] at hG
        refine ab_le (lv' := [some (.ref p0), some (.int l1), some (.int l2), none]) ⟨rfl, ⟨rfl, ⟨rfl, trivial⟩⟩⟩ ?_
        exact kB_MText_emits_90 hG
      · rw [if_neg q88] at hG
        refine ab_iload_n d_MText_emits_42 rfl rfl ?_
        refine ab_aload_n d_MText_emits_43 rfl rfl rfl ?_
        obtain ⟨a89, e90, hF⟩ := rf_s hG; clear hG
        refine hp_getR (f := 23) d_MText_emits_44 q15 (by decide) rfl (by decide) (k8 198 rfl rfl) rfl e90 ?_
        refine ab_iload_n d_MText_emits_47 rfl rfl ?_
        obtain ⟨n91, q92, hG⟩ := ar_s hF; clear hF
        obtain ⟨q93, hF⟩ := ck_s hG; clear hG
        refine hp_iald d_MText_emits_48 tI q92 q93 ?_
        refine ab_topi (fun x94 ex94 => ?_)
        replace hF := bnd_s ex94 hF
        refine ab_icmp_ge (tgt := 72) d_MText_emits_49 (by decide) (fun q95 => ?_) (fun q95 => ?_)
        · rw [if_pos q95] at hF
          refine ab_aload_n d_MText_emits_72 rfl rfl rfl ?_
          obtain ⟨v97, H98, z96, hG⟩ := bC_s hF; clear hF
          refine hp_callV_a (v := .int v97) (H1 := H98) (As := []) (rest := []) d_MText_emits_73 ((okX_TextE 50).2.2.1 _ _ _ z96) (ab_mkC s_MText_value (Nat.le_of_ble_eq_true rfl) (Nat.le_of_ble_eq_true rfl) (Nat.le_refl 0) (Nat.le_refl 0)) (k11 39 rfl rfl) i_MText_value v_MText_value q15 (by decide) rfl rfl (Nat.le_of_ble_eq_true rfl) ?_
          have s_23 : Sa H H98 := ((moX_TextE 50).1 _ _ _ z96)
          refine ab_pop d_MText_emits_76 rfl ?_
          refine ab_le (lv' := [some (.ref p0), some (.int l1), some (.int l2), none]) ⟨rfl, ⟨rfl, ⟨rfl, trivial⟩⟩⟩ ?_
          exact kB_MText_emits_77 (mB_MText_emits_31 n) ih hG
        · rw [if_neg q95] at hF
          refine ab_aload_n d_MText_emits_52 rfl rfl rfl ?_
          refine ab_aload_n d_MText_emits_53 rfl rfl rfl ?_
          obtain ⟨a107, e108, hG⟩ := rf_s hF; clear hF
          refine hp_getR (f := 24) d_MText_emits_54 q15 (by decide) rfl (by decide) (k8 201 rfl rfl) rfl e108 ?_
          refine ab_iconst (v := 4) d_MText_emits_57 (by decide) ?_
          refine ab_iload_n d_MText_emits_58 rfl rfl ?_
          refine ab_imul d_MText_emits_59 ?_
          refine ab_iload_n d_MText_emits_60 rfl rfl ?_
          refine ab_iadd d_MText_emits_61 ?_
          obtain ⟨n109, q110, hF⟩ := ar_s hG; clear hG
          obtain ⟨q111, hG⟩ := ck_s hF; clear hF
          refine hp_iald d_MText_emits_62 tI q110 q111 ?_
          refine ab_topi (fun x112 ex112 => ?_)
          replace hG := bnd_s ex112 hG
          obtain ⟨v114, H115, z113, hF⟩ := bC_s hG; clear hG
          refine hp_callS_a (v := .int v114) (H1 := H115) (As := [.int x112]) (rest := [.ref p0]) d_MText_emits_63 (k_MText_plain z113) (ab_mkC s_MText_plain (Nat.le_of_ble_eq_true rfl) (Nat.le_of_ble_eq_true rfl) (Nat.le_refl 0) (Nat.le_refl 0)) (k11 71 rfl rfl) t_MText_plain rfl (Nat.le_of_ble_eq_true rfl) ?_
          have s_26 : Sa H H115 := (m_MText_plain z113)
          obtain ⟨v117, H118, z116, hG⟩ := bC_s hF; clear hF
          refine hp_callV_v (H1 := H118) (As := [.int v114]) (rest := []) d_MText_emits_66 (k_MText_wants (okX_TextE 50) (moX_TextE 50) z116) (ab_mkC s_MText_wants (Nat.le_of_ble_eq_true rfl) (Nat.le_of_ble_eq_true rfl) (Nat.le_refl 0) (Nat.le_refl 0)) (k11 35 rfl rfl) i_MText_wants v_MText_wants (by rw [(s_26).1]; exact q15) (by decide) rfl rfl (Nat.le_of_ble_eq_true rfl) ?_
          have s_27 : Sa H H118 := (s_26).tr (m_MText_wants (moX_TextE 50) z116)
          refine ab_goto (tgt := 77) d_MText_emits_69 (by decide) ?_
          refine ab_le (lv' := [some (.ref p0), some (.int l1), some (.int l2), none]) ⟨rfl, ⟨rfl, ⟨rfl, trivial⟩⟩⟩ ?_
          exact kB_MText_emits_77 (mB_MText_emits_31 n) ih hG
def B_MText_emits_30 (N : Nat) (p0 : Nat) (l1 : Int32) (l2 : Int32) (w0 : Int32) (H : Hp) : Option (Unit × Hp) :=
    B_MText_emits_31 N p0 N l1 l2 w0 H
set_option maxRecDepth 20000 in
set_option maxHeartbeats 2000000 in
theorem mB_MText_emits_30 {N : Nat} {p0 : Nat} {l1 : Int32} {l2 : Int32} {w0 : Int32} {H : Hp} {r : Unit × Hp} (hF : B_MText_emits_30 N p0 l1 l2 w0 H = some r) : Sa H r.2 := by
  unfold B_MText_emits_30 at hF
  have hm := Sa.rf H
  exact hm.tr (mB_MText_emits_31 N l1 l2 w0 H r hF)
set_option maxRecDepth 20000 in
set_option maxHeartbeats 2000000 in
theorem kB_MText_emits_30 {N : Nat} {p0 : Nat} {l1 : Int32} {l2 : Int32} {w0 : Int32} {H : Hp} {r : Unit × Hp} (hF : B_MText_emits_30 N p0 l1 l2 w0 H = some r) : ab_V y_MText_emits { frames := 258, cells := 0, slots := 0, locals := 5874 } (po (.returned none) r.2) 0 0 0 0 30 [some (.ref p0), some (.int l1), some (.int l2), none] [.int w0] (hpw H) := by
  unfold B_MText_emits_30 at hF
  refine ab_istore_n (lv' := [some (.ref p0), some (.int l1), some (.int l2), some (.int w0)]) d_MText_emits_30 rfl (by decide) rfl ?_
  exact kB_MText_emits_31 N l1 l2 w0 H r hF
def F_MText_emits (N : Nat) (p0 : Nat) (H : Hp) : Option (Unit × Hp) :=
    ck (H.sh[p0]? = some (14, 0)) <|
    bC (F_MText_name N p0 H) fun v3 H4 =>
    bC (F_MText_numberOf N p0 v3 (3 : Int32) H4) fun v6 H7 =>
    bC (F_MText_opens N p0 H7) fun v9 H10 =>
    bC (F_MText_is N p0 (41 : Int32) H10) fun v12 H13 =>
    if v12 = (0 : Int32) then
    B_MText_emits_30 N p0 v6 0 1 H13
    else
    B_MText_emits_30 N p0 v6 0 0 H13
set_option maxRecDepth 20000 in
set_option maxHeartbeats 2000000 in
theorem m_MText_emits {N : Nat} {p0 : Nat} {H : Hp} {r : Unit × Hp} (hF : F_MText_emits N p0 H = some r) : Sa H r.2 := by
  unfold F_MText_emits at hF
  have hm := Sa.rf H
  obtain ⟨q145, hG⟩ := ck_s hF; clear hF
  obtain ⟨v147, H148, z146, hF⟩ := bC_s hG; clear hG
  replace hm : Sa H H148 := hm.tr (m_MText_name z146)
  obtain ⟨v150, H151, z149, hG⟩ := bC_s hF; clear hF
  replace hm : Sa H H151 := hm.tr (m_MText_numberOf z149)
  obtain ⟨v153, H154, z152, hF⟩ := bC_s hG; clear hG
  replace hm : Sa H H154 := hm.tr (m_MText_opens z152)
  obtain ⟨v156, H157, z155, hG⟩ := bC_s hF; clear hF
  replace hm : Sa H H157 := hm.tr (m_MText_is z155)
  rcases ite_s hG with ⟨q_38, hF⟩ | ⟨q_38, hF⟩
  · clear hG
    exact hm.tr (mB_MText_emits_30 hF)
  · clear hG
    exact hm.tr (mB_MText_emits_30 hF)
set_option maxRecDepth 20000 in
set_option maxHeartbeats 2000000 in
theorem k_MText_emits {N : Nat} {p0 : Nat} {H : Hp} {r : Unit × Hp} (hF : F_MText_emits N p0 H = some r) : ab_M y_MText_emits { frames := 258, cells := 0, slots := 0, locals := 5874 } [.ref p0] (hpw H) (po (.returned none) r.2) := by
  unfold F_MText_emits at hF
  refine ab_of2 (lv := [some (.ref p0), none, none, none]) 3 rfl rfl (Nat.le_of_ble_eq_true rfl) ?_
  refine ab_aload_n d_MText_emits_0 rfl rfl rfl ?_
  refine ab_aload_n d_MText_emits_1 rfl rfl rfl ?_
  obtain ⟨q1, hG⟩ := ck_s hF; clear hF
  obtain ⟨v3, H4, z2, hF⟩ := bC_s hG; clear hG
  refine hp_callV_a (v := .int v3) (H1 := H4) (As := []) (rest := [.ref p0]) d_MText_emits_2 (k_MText_name z2) (ab_mkC s_MText_name (Nat.le_of_ble_eq_true rfl) (Nat.le_of_ble_eq_true rfl) (Nat.le_refl 0) (Nat.le_refl 0)) (k10 168 rfl rfl) i_MText_name v_MText_name q1 (by decide) rfl rfl (Nat.le_of_ble_eq_true rfl) ?_
  have s_1 : Sa H H4 := (m_MText_name z2)
  refine ab_iconst (v := 3) d_MText_emits_5 (by decide) ?_
  obtain ⟨v6, H7, z5, hG⟩ := bC_s hF; clear hF
  refine hp_callV_a (v := .int v6) (H1 := H7) (As := [.int v3, .int 3]) (rest := []) d_MText_emits_6 (k_MText_numberOf z5) (ab_mkC s_MText_numberOf (Nat.le_of_ble_eq_true rfl) (Nat.le_of_ble_eq_true rfl) (Nat.le_refl 0) (Nat.le_refl 0)) (k10 225 rfl rfl) i_MText_numberOf v_MText_numberOf (by rw [(s_1).1]; exact q1) (by decide) rfl rfl (Nat.le_of_ble_eq_true rfl) ?_
  have s_2 : Sa H H7 := (s_1).tr (m_MText_numberOf z5)
  refine ab_istore_n (lv' := [some (.ref p0), some (.int v6), none, none]) d_MText_emits_9 rfl (by decide) rfl ?_
  refine ab_aload_n d_MText_emits_10 rfl rfl rfl ?_
  obtain ⟨v9, H10, z8, hF⟩ := bC_s hG; clear hG
  refine hp_callV_v (H1 := H10) (As := []) (rest := []) d_MText_emits_11 (k_MText_opens z8) (ab_mkC s_MText_opens (Nat.le_of_ble_eq_true rfl) (Nat.le_of_ble_eq_true rfl) (Nat.le_refl 0) (Nat.le_refl 0)) (k11 78 rfl rfl) i_MText_opens v_MText_opens (by rw [(s_2).1]; exact q1) (by decide) rfl rfl (Nat.le_of_ble_eq_true rfl) ?_
  have s_3 : Sa H H10 := (s_2).tr (m_MText_opens z8)
  refine ab_iconst (v := 0) d_MText_emits_14 (by decide) ?_
  refine ab_istore_n (lv' := [some (.ref p0), some (.int v6), some (.int 0), none]) d_MText_emits_15 rfl (by decide) rfl ?_
  refine ab_aload_n d_MText_emits_16 rfl rfl rfl ?_
  refine ab_bipush (v := 41) d_MText_emits_17 (by decide) ?_
  obtain ⟨v12, H13, z11, hG⟩ := bC_s hF; clear hF
  refine hp_callV_a (v := .int v12) (H1 := H13) (As := [.int 41]) (rest := []) d_MText_emits_19 (k_MText_is z11) (ab_mkC s_MText_is (Nat.le_of_ble_eq_true rfl) (Nat.le_of_ble_eq_true rfl) (Nat.le_refl 0) (Nat.le_refl 0)) (k10 180 rfl rfl) i_MText_is v_MText_is (by rw [(s_3).1]; exact q1) (by decide) rfl rfl (Nat.le_of_ble_eq_true rfl) ?_
  have s_4 : Sa H H13 := (s_3).tr (m_MText_is z11)
  refine ab_if_ne (tgt := 29) d_MText_emits_22 (by decide) (fun q14 => ?_) (fun q14 => ?_)
  · rw [if_neg q14] at hG
    refine ab_iconst (v := 0) d_MText_emits_29 (by decide) ?_
    exact kB_MText_emits_30 hG
  · rw [if_pos q14] at hG
    refine ab_iconst (v := 1) d_MText_emits_25 (by decide) ?_
    refine ab_goto (tgt := 30) d_MText_emits_26 (by decide) ?_
    exact kB_MText_emits_30 hG
def y_MText_commands : ab_Y := (⟨"WorldEngineModel$Text", "commands", "(I)V"⟩, prog_16_method_58_code, 4, none, [])
theorem d_MText_commands_0 : decode y_MText_commands.2.1 0 = .ok (.iload_n 1, 1) := by decide +kernel
theorem d_MText_commands_1 : decode y_MText_commands.2.1 1 = .ok (.sipush 229, 3) := by decide +kernel
theorem d_MText_commands_4 : decode y_MText_commands.2.1 4 = .ok (.if_icmp .ne 19, 3) := by decide +kernel
theorem d_MText_commands_7 : decode y_MText_commands.2.1 7 = .ok (.aload_n 0, 1) := by decide +kernel
theorem d_MText_commands_8 : decode y_MText_commands.2.1 8 = .ok (.invokevirtual 354, 3) := by decide +kernel
theorem d_MText_commands_11 : decode y_MText_commands.2.1 11 = .ok (.aload_n 0, 1) := by decide +kernel
theorem d_MText_commands_12 : decode y_MText_commands.2.1 12 = .ok (.invokevirtual 320, 3) := by decide +kernel
theorem d_MText_commands_15 : decode y_MText_commands.2.1 15 = .ok (.pop, 1) := by decide +kernel
theorem d_MText_commands_16 : decode y_MText_commands.2.1 16 = .ok (.aload_n 0, 1) := by decide +kernel
theorem d_MText_commands_17 : decode y_MText_commands.2.1 17 = .ok (.invokevirtual 357, 3) := by decide +kernel
theorem d_MText_commands_20 : decode y_MText_commands.2.1 20 = .ok (.goto 8, 3) := by decide +kernel
theorem d_MText_commands_23 : decode y_MText_commands.2.1 23 = .ok (.aload_n 0, 1) := by decide +kernel
theorem d_MText_commands_24 : decode y_MText_commands.2.1 24 = .ok (.iconst 4, 1) := by decide +kernel
theorem d_MText_commands_25 : decode y_MText_commands.2.1 25 = .ok (.invokevirtual 360, 3) := by decide +kernel
theorem d_MText_commands_28 : decode y_MText_commands.2.1 28 = .ok (.iload_n 1, 1) := by decide +kernel
theorem d_MText_commands_29 : decode y_MText_commands.2.1 29 = .ok (.sipush 224, 3) := by decide +kernel
theorem d_MText_commands_32 : decode y_MText_commands.2.1 32 = .ok (.if_icmp .eq 17, 3) := by decide +kernel
theorem d_MText_commands_35 : decode y_MText_commands.2.1 35 = .ok (.iload_n 1, 1) := by decide +kernel
theorem d_MText_commands_36 : decode y_MText_commands.2.1 36 = .ok (.sipush 225, 3) := by decide +kernel
theorem d_MText_commands_39 : decode y_MText_commands.2.1 39 = .ok (.if_icmp .eq 10, 3) := by decide +kernel
theorem d_MText_commands_42 : decode y_MText_commands.2.1 42 = .ok (.iload_n 1, 1) := by decide +kernel
theorem d_MText_commands_43 : decode y_MText_commands.2.1 43 = .ok (.sipush 226, 3) := by decide +kernel
theorem d_MText_commands_46 : decode y_MText_commands.2.1 46 = .ok (.if_icmp .ne 58, 3) := by decide +kernel
theorem d_MText_commands_49 : decode y_MText_commands.2.1 49 = .ok (.aload_n 0, 1) := by decide +kernel
theorem d_MText_commands_50 : decode y_MText_commands.2.1 50 = .ok (.aload_n 0, 1) := by decide +kernel
theorem d_MText_commands_51 : decode y_MText_commands.2.1 51 = .ok (.invokevirtual 240, 3) := by decide +kernel
theorem d_MText_commands_54 : decode y_MText_commands.2.1 54 = .ok (.iconst 2, 1) := by decide +kernel
theorem d_MText_commands_55 : decode y_MText_commands.2.1 55 = .ok (.invokevirtual 290, 3) := by decide +kernel
theorem d_MText_commands_58 : decode y_MText_commands.2.1 58 = .ok (.istore_n 2, 1) := by decide +kernel
theorem d_MText_commands_59 : decode y_MText_commands.2.1 59 = .ok (.iload_n 1, 1) := by decide +kernel
theorem d_MText_commands_60 : decode y_MText_commands.2.1 60 = .ok (.sipush 226, 3) := by decide +kernel
theorem d_MText_commands_63 : decode y_MText_commands.2.1 63 = .ok (.if_icmp .ne 41, 3) := by decide +kernel
theorem d_MText_commands_66 : decode y_MText_commands.2.1 66 = .ok (.aload_n 0, 1) := by decide +kernel
theorem d_MText_commands_67 : decode y_MText_commands.2.1 67 = .ok (.bipush 46, 2) := by decide +kernel
theorem d_MText_commands_69 : decode y_MText_commands.2.1 69 = .ok (.invokevirtual 204, 3) := by decide +kernel
theorem d_MText_commands_72 : decode y_MText_commands.2.1 72 = .ok (.aload_n 0, 1) := by decide +kernel
theorem d_MText_commands_73 : decode y_MText_commands.2.1 73 = .ok (.iload_n 2, 1) := by decide +kernel
theorem d_MText_commands_74 : decode y_MText_commands.2.1 74 = .ok (.invokevirtual 348, 3) := by decide +kernel
theorem d_MText_commands_77 : decode y_MText_commands.2.1 77 = .ok (.istore_n 3, 1) := by decide +kernel
theorem d_MText_commands_78 : decode y_MText_commands.2.1 78 = .ok (.aload_n 0, 1) := by decide +kernel
theorem d_MText_commands_79 : decode y_MText_commands.2.1 79 = .ok (.bipush 61, 2) := by decide +kernel
theorem d_MText_commands_81 : decode y_MText_commands.2.1 81 = .ok (.invokevirtual 204, 3) := by decide +kernel
theorem d_MText_commands_84 : decode y_MText_commands.2.1 84 = .ok (.aload_n 0, 1) := by decide +kernel
theorem d_MText_commands_85 : decode y_MText_commands.2.1 85 = .ok (.getfield 185, 3) := by decide +kernel
theorem d_MText_commands_88 : decode y_MText_commands.2.1 88 = .ok (.ifCond .ne 16, 3) := by decide +kernel
theorem d_MText_commands_91 : decode y_MText_commands.2.1 91 = .ok (.aload_n 0, 1) := by decide +kernel
theorem d_MText_commands_92 : decode y_MText_commands.2.1 92 = .ok (.aload_n 0, 1) := by decide +kernel
theorem d_MText_commands_93 : decode y_MText_commands.2.1 93 = .ok (.getfield 50, 3) := by decide +kernel
theorem d_MText_commands_96 : decode y_MText_commands.2.1 96 = .ok (.iload_n 3, 1) := by decide +kernel
theorem d_MText_commands_97 : decode y_MText_commands.2.1 97 = .ok (.iaload, 1) := by decide +kernel
theorem d_MText_commands_98 : decode y_MText_commands.2.1 98 = .ok (.invokestatic 351, 3) := by decide +kernel
theorem d_MText_commands_101 : decode y_MText_commands.2.1 101 = .ok (.invokevirtual 327, 3) := by decide +kernel
theorem d_MText_commands_104 : decode y_MText_commands.2.1 104 = .ok (.aload_n 0, 1) := by decide +kernel
theorem d_MText_commands_105 : decode y_MText_commands.2.1 105 = .ok (.bipush 59, 2) := by decide +kernel
theorem d_MText_commands_107 : decode y_MText_commands.2.1 107 = .ok (.invokevirtual 204, 3) := by decide +kernel
theorem d_MText_commands_110 : decode y_MText_commands.2.1 110 = .ok (.return_, 1) := by decide +kernel
theorem s_MText_commands : ab_Stat y_MText_commands 1 := ⟨(k11 136 rfl rfl), (k1 20 rfl rfl), ⟨by decide, by decide⟩, by decide +kernel⟩
theorem i_MText_commands : Cond.instanceMethod y_MText_commands.1 ∈ ab_T := (k11 135 rfl rfl)
theorem v_MText_commands : Cond.selects "WorldEngineModel$Text" y_MText_commands.1 y_MText_commands.1 ∈ ab_T := ab_s (List.mem_of_getElem? (i := 164) rfl) rfl
def B_MText_commands_104 (N : Nat) (p0 : Nat) (p1 : Int32)  (H : Hp) : Option (Unit × Hp) :=
    ck (H.sh[p0]? = some (14, 0)) <|
    bC (F_MText_takes N p0 (59 : Int32) H) fun v17 H18 =>
    some ((), H18)
set_option maxRecDepth 20000 in
set_option maxHeartbeats 2000000 in
theorem mB_MText_commands_104 {N : Nat} {p0 : Nat} {p1 : Int32}  {H : Hp} {r : Unit × Hp} (hF : B_MText_commands_104 N p0 p1  H = some r) : Sa H r.2 := by
  unfold B_MText_commands_104 at hF
  have hm := Sa.rf H
  obtain ⟨q19, hG⟩ := ck_s hF; clear hF
  obtain ⟨v21, H22, z20, hF⟩ := bC_s hG; clear hG
  replace hm : Sa H H22 := hm.tr (m_MText_takes z20)
  have hr := Option.some.inj hF; subst hr
  exact hm
set_option maxRecDepth 20000 in
set_option maxHeartbeats 2000000 in
theorem kB_MText_commands_104 {N : Nat} {p0 : Nat} {p1 : Int32}  {H : Hp} {r : Unit × Hp} (hF : B_MText_commands_104 N p0 p1  H = some r) : ab_V y_MText_commands { frames := 258, cells := 0, slots := 0, locals := 5874 } (po (.returned none) r.2) 0 0 0 0 104 [some (.ref p0), some (.int p1), none, none] [] (hpw H) := by
  unfold B_MText_commands_104 at hF
  refine ab_aload_n d_MText_commands_104 rfl rfl rfl ?_
  refine ab_bipush (v := 59) d_MText_commands_105 (by decide) ?_
  obtain ⟨q15, hG⟩ := ck_s hF; clear hF
  obtain ⟨v17, H18, z16, hF⟩ := bC_s hG; clear hG
  refine hp_callV_v (H1 := H18) (As := [.int 59]) (rest := []) d_MText_commands_107 (k_MText_takes z16) (ab_mkC s_MText_takes (Nat.le_of_ble_eq_true rfl) (Nat.le_of_ble_eq_true rfl) (Nat.le_refl 0) (Nat.le_refl 0)) (k10 172 rfl rfl) i_MText_takes v_MText_takes q15 (by decide) rfl rfl (Nat.le_of_ble_eq_true rfl) ?_
  have s_4 : Sa H H18 := (m_MText_takes z16)
  exact ab_vret d_MText_commands_110 rfl (Nat.le_refl _) (Nat.le_refl _) (by have hr := Option.some.inj hF; subst hr; exact ⟨rfl, rfl⟩)
def B_MText_commands_49 (N : Nat) (p0 : Nat) (p1 : Int32)  (H : Hp) : Option (Unit × Hp) :=
    ck (H.sh[p0]? = some (14, 0)) <|
    bC (F_MText_name N p0 H) fun v9 H10 =>
    bC (F_MText_numberOf N p0 v9 (2 : Int32) H10) fun v12 H13 =>
    if p1 = (226 : Int32) then
    bC (F_MText_takes N p0 (46 : Int32) H13) fun v24 H25 =>
    bC (F_MText_memberName N p0 v12 H25) fun v27 H28 =>
    bC (F_MText_takes N p0 (61 : Int32) H28) fun v30 H31 =>
    bnd ((H31.D p0 9)) fun x32 =>
    if x32 = (0 : Int32) then
    rf (H31.P p0 19) fun a34 =>
    ar H31 100 a34 fun n36 =>
    ck (inb v27 n36) <|
    bnd ((H31.D a34 (v27).toNatClampNeg)) fun x39 =>
    bC (F_MText_plain N x39 H31) fun v41 H42 =>
    bC (F_MText_wants N (X_TextE N 50) p0 v41 H42) fun v44 H45 =>
    B_MText_commands_104 N p0 p1  H45
    else
    B_MText_commands_104 N p0 p1  H31
    else
    B_MText_commands_104 N p0 p1  H13
set_option maxRecDepth 20000 in
set_option maxHeartbeats 2000000 in
theorem mB_MText_commands_49 {N : Nat} {p0 : Nat} {p1 : Int32}  {H : Hp} {r : Unit × Hp} (hF : B_MText_commands_49 N p0 p1  H = some r) : Sa H r.2 := by
  unfold B_MText_commands_49 at hF
  have hm := Sa.rf H
  obtain ⟨q46, hG⟩ := ck_s hF; clear hF
  obtain ⟨v48, H49, z47, hF⟩ := bC_s hG; clear hG
  replace hm : Sa H H49 := hm.tr (m_MText_name z47)
  obtain ⟨v51, H52, z50, hG⟩ := bC_s hF; clear hF
  replace hm : Sa H H52 := hm.tr (m_MText_numberOf z50)
  rcases ite_s hG with ⟨q_13, hF⟩ | ⟨q_13, hF⟩
  · clear hG
    obtain ⟨v55, H56, z54, hG⟩ := bC_s hF; clear hF
    replace hm : Sa H H56 := hm.tr (m_MText_takes z54)
    obtain ⟨v58, H59, z57, hF⟩ := bC_s hG; clear hG
    replace hm : Sa H H59 := hm.tr (m_MText_memberName z57)
    obtain ⟨v61, H62, z60, hG⟩ := bC_s hF; clear hF
    replace hm : Sa H H62 := hm.tr (m_MText_takes z60)
    obtain ⟨x63, -, hF⟩ := bnd_g hG; clear hG
    rcases ite_s hF with ⟨q_17, hG⟩ | ⟨q_17, hG⟩
    · clear hF
      obtain ⟨a65, e66, hF⟩ := rf_s hG; clear hG
      obtain ⟨n67, q68, hG⟩ := ar_s hF; clear hF
      obtain ⟨q69, hF⟩ := ck_s hG; clear hG
      obtain ⟨x70, -, hG⟩ := bnd_g hF; clear hF
      obtain ⟨v72, H73, z71, hF⟩ := bC_s hG; clear hG
      replace hm : Sa H H73 := hm.tr (m_MText_plain z71)
      obtain ⟨v75, H76, z74, hG⟩ := bC_s hF; clear hF
      replace hm : Sa H H76 := hm.tr (m_MText_wants (moX_TextE 50) z74)
      exact hm.tr (mB_MText_commands_104 hG)
    · clear hF
      exact hm.tr (mB_MText_commands_104 hG)
  · clear hG
    exact hm.tr (mB_MText_commands_104 hF)
set_option maxRecDepth 20000 in
set_option maxHeartbeats 2000000 in
theorem kB_MText_commands_49 {N : Nat} {p0 : Nat} {p1 : Int32}  {H : Hp} {r : Unit × Hp} (hF : B_MText_commands_49 N p0 p1  H = some r) : ab_V y_MText_commands { frames := 258, cells := 0, slots := 0, locals := 5874 } (po (.returned none) r.2) 0 0 0 0 49 [some (.ref p0), some (.int p1), none, none] [] (hpw H) := by
  unfold B_MText_commands_49 at hF
  refine ab_aload_n d_MText_commands_49 rfl rfl rfl ?_
  refine ab_aload_n d_MText_commands_50 rfl rfl rfl ?_
  obtain ⟨q7, hG⟩ := ck_s hF; clear hF
  obtain ⟨v9, H10, z8, hF⟩ := bC_s hG; clear hG
  refine hp_callV_a (v := .int v9) (H1 := H10) (As := []) (rest := [.ref p0]) d_MText_commands_51 (k_MText_name z8) (ab_mkC s_MText_name (Nat.le_of_ble_eq_true rfl) (Nat.le_of_ble_eq_true rfl) (Nat.le_refl 0) (Nat.le_refl 0)) (k10 168 rfl rfl) i_MText_name v_MText_name q7 (by decide) rfl rfl (Nat.le_of_ble_eq_true rfl) ?_
  have s_2 : Sa H H10 := (m_MText_name z8)
  refine ab_iconst (v := 2) d_MText_commands_54 (by decide) ?_
  obtain ⟨v12, H13, z11, hG⟩ := bC_s hF; clear hF
  refine hp_callV_a (v := .int v12) (H1 := H13) (As := [.int v9, .int 2]) (rest := []) d_MText_commands_55 (k_MText_numberOf z11) (ab_mkC s_MText_numberOf (Nat.le_of_ble_eq_true rfl) (Nat.le_of_ble_eq_true rfl) (Nat.le_refl 0) (Nat.le_refl 0)) (k10 225 rfl rfl) i_MText_numberOf v_MText_numberOf (by rw [(s_2).1]; exact q7) (by decide) rfl rfl (Nat.le_of_ble_eq_true rfl) ?_
  have s_3 : Sa H H13 := (s_2).tr (m_MText_numberOf z11)
  refine ab_istore_n (lv' := [some (.ref p0), some (.int p1), some (.int v12), none]) d_MText_commands_58 rfl (by decide) rfl ?_
  refine ab_iload_n d_MText_commands_59 rfl rfl ?_
  refine ab_sipush (v := 226) d_MText_commands_60 (by decide) ?_
  refine ab_icmp_ne (tgt := 104) d_MText_commands_63 (by decide) (fun q14 => ?_) (fun q14 => ?_)
  · rw [if_neg q14] at hG
    refine ab_le (lv' := [some (.ref p0), some (.int p1), none, none]) ⟨rfl, ⟨rfl, trivial⟩⟩ ?_
    exact kB_MText_commands_104 hG
  · rw [if_pos q14] at hG
    refine ab_aload_n d_MText_commands_66 rfl rfl rfl ?_
    refine ab_bipush (v := 46) d_MText_commands_67 (by decide) ?_
    obtain ⟨v24, H25, z23, hF⟩ := bC_s hG; clear hG
    refine hp_callV_v (H1 := H25) (As := [.int 46]) (rest := []) d_MText_commands_69 (k_MText_takes z23) (ab_mkC s_MText_takes (Nat.le_of_ble_eq_true rfl) (Nat.le_of_ble_eq_true rfl) (Nat.le_refl 0) (Nat.le_refl 0)) (k10 172 rfl rfl) i_MText_takes v_MText_takes (by rw [(s_3).1]; exact q7) (by decide) rfl rfl (Nat.le_of_ble_eq_true rfl) ?_
    have s_6 : Sa H H25 := (s_3).tr (m_MText_takes z23)
    refine ab_aload_n d_MText_commands_72 rfl rfl rfl ?_
    refine ab_iload_n d_MText_commands_73 rfl rfl ?_
    obtain ⟨v27, H28, z26, hG⟩ := bC_s hF; clear hF
    refine hp_callV_a (v := .int v27) (H1 := H28) (As := [.int v12]) (rest := []) d_MText_commands_74 (k_MText_memberName z26) (ab_mkC s_MText_memberName (Nat.le_of_ble_eq_true rfl) (Nat.le_of_ble_eq_true rfl) (Nat.le_refl 0) (Nat.le_refl 0)) (k11 74 rfl rfl) i_MText_memberName v_MText_memberName (by rw [(s_6).1]; exact q7) (by decide) rfl rfl (Nat.le_of_ble_eq_true rfl) ?_
    have s_7 : Sa H H28 := (s_6).tr (m_MText_memberName z26)
    refine ab_istore_n (lv' := [some (.ref p0), some (.int p1), some (.int v12), some (.int v27)]) d_MText_commands_77 rfl (by decide) rfl ?_
    refine ab_aload_n d_MText_commands_78 rfl rfl rfl ?_
    refine ab_bipush (v := 61) d_MText_commands_79 (by decide) ?_
    obtain ⟨v30, H31, z29, hF⟩ := bC_s hG; clear hG
    refine hp_callV_v (H1 := H31) (As := [.int 61]) (rest := []) d_MText_commands_81 (k_MText_takes z29) (ab_mkC s_MText_takes (Nat.le_of_ble_eq_true rfl) (Nat.le_of_ble_eq_true rfl) (Nat.le_refl 0) (Nat.le_refl 0)) (k10 172 rfl rfl) i_MText_takes v_MText_takes (by rw [(s_7).1]; exact q7) (by decide) rfl rfl (Nat.le_of_ble_eq_true rfl) ?_
    have s_8 : Sa H H31 := (s_7).tr (m_MText_takes z29)
    refine ab_aload_n d_MText_commands_84 rfl rfl rfl ?_
    refine hp_getI (f := 9) d_MText_commands_85 (by rw [(s_8).1]; exact q7) (by decide) rfl (by decide) (k8 172 rfl rfl) rfl ?_
    refine ab_topi (fun x32 ex32 => ?_)
    replace hF := bnd_s ex32 hF
    refine ab_if_ne (tgt := 104) d_MText_commands_88 (by decide) (fun q33 => ?_) (fun q33 => ?_)
    · rw [if_neg q33] at hF
      refine ab_le (lv' := [some (.ref p0), some (.int p1), none, none]) ⟨rfl, ⟨rfl, trivial⟩⟩ ?_
      exact kB_MText_commands_104 hF
    · rw [if_pos q33] at hF
      refine ab_aload_n d_MText_commands_91 rfl rfl rfl ?_
      refine ab_aload_n d_MText_commands_92 rfl rfl rfl ?_
      obtain ⟨a34, e35, hG⟩ := rf_s hF; clear hF
      refine hp_getR (f := 19) d_MText_commands_93 (by rw [(s_8).1]; exact q7) (by decide) rfl (by decide) (k8 188 rfl rfl) rfl e35 ?_
      refine ab_iload_n d_MText_commands_96 rfl rfl ?_
      obtain ⟨n36, q37, hF⟩ := ar_s hG; clear hG
      rw [(s_8).1] at q37
      obtain ⟨q38, hG⟩ := ck_s hF; clear hF
      refine hp_iald d_MText_commands_97 tI (by rw [(s_8).1]; exact q37) q38 ?_
      refine ab_topi (fun x39 ex39 => ?_)
      replace hG := bnd_s ex39 hG
      obtain ⟨v41, H42, z40, hF⟩ := bC_s hG; clear hG
      refine hp_callS_a (v := .int v41) (H1 := H42) (As := [.int x39]) (rest := [.ref p0]) d_MText_commands_98 (k_MText_plain z40) (ab_mkC s_MText_plain (Nat.le_of_ble_eq_true rfl) (Nat.le_of_ble_eq_true rfl) (Nat.le_refl 0) (Nat.le_refl 0)) (k11 71 rfl rfl) t_MText_plain rfl (Nat.le_of_ble_eq_true rfl) ?_
      have s_9 : Sa H H42 := (s_8).tr (m_MText_plain z40)
      obtain ⟨v44, H45, z43, hG⟩ := bC_s hF; clear hF
      refine hp_callV_v (H1 := H45) (As := [.int v41]) (rest := []) d_MText_commands_101 (k_MText_wants (okX_TextE 50) (moX_TextE 50) z43) (ab_mkC s_MText_wants (Nat.le_of_ble_eq_true rfl) (Nat.le_of_ble_eq_true rfl) (Nat.le_refl 0) (Nat.le_refl 0)) (k11 35 rfl rfl) i_MText_wants v_MText_wants (by rw [(s_9).1]; exact q7) (by decide) rfl rfl (Nat.le_of_ble_eq_true rfl) ?_
      have s_10 : Sa H H45 := (s_9).tr (m_MText_wants (moX_TextE 50) z43)
      refine ab_le (lv' := [some (.ref p0), some (.int p1), none, none]) ⟨rfl, ⟨rfl, trivial⟩⟩ ?_
      exact kB_MText_commands_104 hG
def B_MText_commands_28 (N : Nat) (p0 : Nat) (p1 : Int32)  (H : Hp) : Option (Unit × Hp) :=
    if p1 = (224 : Int32) then
    B_MText_commands_49 N p0 p1  H
    else
    if p1 = (225 : Int32) then
    B_MText_commands_49 N p0 p1  H
    else
    if p1 = (226 : Int32) then
    B_MText_commands_49 N p0 p1  H
    else
    B_MText_commands_104 N p0 p1  H
set_option maxRecDepth 20000 in
set_option maxHeartbeats 2000000 in
theorem mB_MText_commands_28 {N : Nat} {p0 : Nat} {p1 : Int32}  {H : Hp} {r : Unit × Hp} (hF : B_MText_commands_28 N p0 p1  H = some r) : Sa H r.2 := by
  unfold B_MText_commands_28 at hF
  have hm := Sa.rf H
  rcases ite_s hF with ⟨q_20, hG⟩ | ⟨q_20, hG⟩
  · clear hF
    exact hm.tr (mB_MText_commands_49 hG)
  · clear hF
    rcases ite_s hG with ⟨q_21, hF⟩ | ⟨q_21, hF⟩
    · clear hG
      exact hm.tr (mB_MText_commands_49 hF)
    · clear hG
      rcases ite_s hF with ⟨q_22, hG⟩ | ⟨q_22, hG⟩
      · clear hF
        exact hm.tr (mB_MText_commands_49 hG)
      · clear hF
        exact hm.tr (mB_MText_commands_104 hG)
set_option maxRecDepth 20000 in
set_option maxHeartbeats 2000000 in
theorem kB_MText_commands_28 {N : Nat} {p0 : Nat} {p1 : Int32}  {H : Hp} {r : Unit × Hp} (hF : B_MText_commands_28 N p0 p1  H = some r) : ab_V y_MText_commands { frames := 258, cells := 0, slots := 0, locals := 5874 } (po (.returned none) r.2) 0 0 0 0 28 [some (.ref p0), some (.int p1), none, none] [] (hpw H) := by
  unfold B_MText_commands_28 at hF
  refine ab_iload_n d_MText_commands_28 rfl rfl ?_
  refine ab_sipush (v := 224) d_MText_commands_29 (by decide) ?_
  refine ab_icmp_eq (tgt := 49) d_MText_commands_32 (by decide) (fun q6 => ?_) (fun q6 => ?_)
  · rw [if_pos q6] at hF
    exact kB_MText_commands_49 hF
  · rw [if_neg q6] at hF
    refine ab_iload_n d_MText_commands_35 rfl rfl ?_
    refine ab_sipush (v := 225) d_MText_commands_36 (by decide) ?_
    refine ab_icmp_eq (tgt := 49) d_MText_commands_39 (by decide) (fun q77 => ?_) (fun q77 => ?_)
    · rw [if_pos q77] at hF
      exact kB_MText_commands_49 hF
    · rw [if_neg q77] at hF
      refine ab_iload_n d_MText_commands_42 rfl rfl ?_
      refine ab_sipush (v := 226) d_MText_commands_43 (by decide) ?_
      refine ab_icmp_ne (tgt := 104) d_MText_commands_46 (by decide) (fun q78 => ?_) (fun q78 => ?_)
      · rw [if_neg q78] at hF
        exact kB_MText_commands_104 hF
      · rw [if_pos q78] at hF
        exact kB_MText_commands_49 hF
def F_MText_commands (N : Nat) (p0 : Nat) (p1 : Int32) (H : Hp) : Option (Unit × Hp) :=
    if p1 = (229 : Int32) then
    ck (H.sh[p0]? = some (14, 0)) <|
    bC (F_MText_opens N p0 H) fun v84 H85 =>
    bC ((X_TextE N 50).1 p0 H85) fun v87 H88 =>
    bC (F_MText_closes N p0 H88) fun v90 H91 =>
    B_MText_commands_28 N p0 p1  H91
    else
    ck (H.sh[p0]? = some (14, 0)) <|
    bC (F_MText_wantsIn N (X_TextE N 50) p0 (4 : Int32) H) fun v4 H5 =>
    B_MText_commands_28 N p0 p1  H5
set_option maxRecDepth 20000 in
set_option maxHeartbeats 2000000 in
theorem m_MText_commands {N : Nat} {p0 : Nat} {p1 : Int32} {H : Hp} {r : Unit × Hp} (hF : F_MText_commands N p0 p1 H = some r) : Sa H r.2 := by
  unfold F_MText_commands at hF
  have hm := Sa.rf H
  rcases ite_s hF with ⟨q_26, hG⟩ | ⟨q_26, hG⟩
  · clear hF
    obtain ⟨q93, hF⟩ := ck_s hG; clear hG
    obtain ⟨v95, H96, z94, hG⟩ := bC_s hF; clear hF
    replace hm : Sa H H96 := hm.tr (m_MText_opens z94)
    obtain ⟨v98, H99, z97, hF⟩ := bC_s hG; clear hG
    replace hm : Sa H H99 := hm.tr ((moX_TextE 50).1 _ _ _ z97)
    obtain ⟨v101, H102, z100, hG⟩ := bC_s hF; clear hF
    replace hm : Sa H H102 := hm.tr (m_MText_closes z100)
    exact hm.tr (mB_MText_commands_28 hG)
  · clear hF
    obtain ⟨q103, hF⟩ := ck_s hG; clear hG
    obtain ⟨v105, H106, z104, hG⟩ := bC_s hF; clear hF
    replace hm : Sa H H106 := hm.tr (m_MText_wantsIn (moX_TextE 50) z104)
    exact hm.tr (mB_MText_commands_28 hG)
set_option maxRecDepth 20000 in
set_option maxHeartbeats 2000000 in
theorem k_MText_commands {N : Nat} {p0 : Nat} {p1 : Int32} {H : Hp} {r : Unit × Hp} (hF : F_MText_commands N p0 p1 H = some r) : ab_M y_MText_commands { frames := 258, cells := 0, slots := 0, locals := 5874 } [.ref p0, .int p1] (hpw H) (po (.returned none) r.2) := by
  unfold F_MText_commands at hF
  refine ab_of2 (lv := [some (.ref p0), some (.int p1), none, none]) 2 rfl rfl (Nat.le_of_ble_eq_true rfl) ?_
  refine ab_iload_n d_MText_commands_0 rfl rfl ?_
  refine ab_sipush (v := 229) d_MText_commands_1 (by decide) ?_
  refine ab_icmp_ne (tgt := 23) d_MText_commands_4 (by decide) (fun q1 => ?_) (fun q1 => ?_)
  · rw [if_neg q1] at hF
    refine ab_aload_n d_MText_commands_23 rfl rfl rfl ?_
    refine ab_iconst (v := 4) d_MText_commands_24 (by decide) ?_
    obtain ⟨q2, hG⟩ := ck_s hF; clear hF
    obtain ⟨v4, H5, z3, hF⟩ := bC_s hG; clear hG
    refine hp_callV_v (H1 := H5) (As := [.int 4]) (rest := []) d_MText_commands_25 (k_MText_wantsIn (okX_TextE 50) (moX_TextE 50) z3) (ab_mkC s_MText_wantsIn (Nat.le_of_ble_eq_true rfl) (Nat.le_of_ble_eq_true rfl) (Nat.le_refl 0) (Nat.le_refl 0)) (k11 90 rfl rfl) i_MText_wantsIn v_MText_wantsIn q2 (by decide) rfl rfl (Nat.le_of_ble_eq_true rfl) ?_
    have s_1 : Sa H H5 := (m_MText_wantsIn (moX_TextE 50) z3)
    exact kB_MText_commands_28 hF
  · rw [if_pos q1] at hF
    refine ab_aload_n d_MText_commands_7 rfl rfl rfl ?_
    obtain ⟨q82, hG⟩ := ck_s hF; clear hF
    obtain ⟨v84, H85, z83, hF⟩ := bC_s hG; clear hG
    refine hp_callV_v (H1 := H85) (As := []) (rest := []) d_MText_commands_8 (k_MText_opens z83) (ab_mkC s_MText_opens (Nat.le_of_ble_eq_true rfl) (Nat.le_of_ble_eq_true rfl) (Nat.le_refl 0) (Nat.le_refl 0)) (k11 78 rfl rfl) i_MText_opens v_MText_opens q82 (by decide) rfl rfl (Nat.le_of_ble_eq_true rfl) ?_
    have s_23 : Sa H H85 := (m_MText_opens z83)
    refine ab_aload_n d_MText_commands_11 rfl rfl rfl ?_
    obtain ⟨v87, H88, z86, hG⟩ := bC_s hF; clear hF
    refine hp_callV_a (v := .int v87) (H1 := H88) (As := []) (rest := []) d_MText_commands_12 ((okX_TextE 50).2.2.1 _ _ _ z86) (ab_mkC s_MText_value (Nat.le_of_ble_eq_true rfl) (Nat.le_of_ble_eq_true rfl) (Nat.le_refl 0) (Nat.le_refl 0)) (k11 39 rfl rfl) i_MText_value v_MText_value (by rw [(s_23).1]; exact q82) (by decide) rfl rfl (Nat.le_of_ble_eq_true rfl) ?_
    have s_24 : Sa H H88 := (s_23).tr ((moX_TextE 50).1 _ _ _ z86)
    refine ab_pop d_MText_commands_15 rfl ?_
    refine ab_aload_n d_MText_commands_16 rfl rfl rfl ?_
    obtain ⟨v90, H91, z89, hF⟩ := bC_s hG; clear hG
    refine hp_callV_v (H1 := H91) (As := []) (rest := []) d_MText_commands_17 (k_MText_closes z89) (ab_mkC s_MText_closes (Nat.le_of_ble_eq_true rfl) (Nat.le_of_ble_eq_true rfl) (Nat.le_refl 0) (Nat.le_refl 0)) (k11 86 rfl rfl) i_MText_closes v_MText_closes (by rw [(s_24).1]; exact q82) (by decide) rfl rfl (Nat.le_of_ble_eq_true rfl) ?_
    have s_25 : Sa H H91 := (s_24).tr (m_MText_closes z89)
    refine ab_goto (tgt := 28) d_MText_commands_20 (by decide) ?_
    exact kB_MText_commands_28 hF
def y_MText_statements : ab_Y := (⟨"WorldEngineModel$Text", "statements", "()V"⟩, prog_16_method_46_code, 3, none, [])
theorem d_MText_statements_0 : decode y_MText_statements.2.1 0 = .ok (.aload_n 0, 1) := by decide +kernel
theorem d_MText_statements_1 : decode y_MText_statements.2.1 1 = .ok (.getfield 191, 3) := by decide +kernel
theorem d_MText_statements_4 : decode y_MText_statements.2.1 4 = .ok (.istore_n 1, 1) := by decide +kernel
theorem d_MText_statements_5 : decode y_MText_statements.2.1 5 = .ok (.aload_n 0, 1) := by decide +kernel
theorem d_MText_statements_6 : decode y_MText_statements.2.1 6 = .ok (.getfield 281, 3) := by decide +kernel
theorem d_MText_statements_9 : decode y_MText_statements.2.1 9 = .ok (.istore_n 2, 1) := by decide +kernel
theorem d_MText_statements_10 : decode y_MText_statements.2.1 10 = .ok (.aload_n 0, 1) := by decide +kernel
theorem d_MText_statements_11 : decode y_MText_statements.2.1 11 = .ok (.bipush 123, 2) := by decide +kernel
theorem d_MText_statements_13 : decode y_MText_statements.2.1 13 = .ok (.invokevirtual 204, 3) := by decide +kernel
theorem d_MText_statements_16 : decode y_MText_statements.2.1 16 = .ok (.aload_n 0, 1) := by decide +kernel
theorem d_MText_statements_17 : decode y_MText_statements.2.1 17 = .ok (.getfield 185, 3) := by decide +kernel
theorem d_MText_statements_20 : decode y_MText_statements.2.1 20 = .ok (.ifCond .ne 19, 3) := by decide +kernel
theorem d_MText_statements_23 : decode y_MText_statements.2.1 23 = .ok (.aload_n 0, 1) := by decide +kernel
theorem d_MText_statements_24 : decode y_MText_statements.2.1 24 = .ok (.bipush 125, 2) := by decide +kernel
theorem d_MText_statements_26 : decode y_MText_statements.2.1 26 = .ok (.invokevirtual 194, 3) := by decide +kernel
theorem d_MText_statements_29 : decode y_MText_statements.2.1 29 = .ok (.ifCond .ne 10, 3) := by decide +kernel
theorem d_MText_statements_32 : decode y_MText_statements.2.1 32 = .ok (.aload_n 0, 1) := by decide +kernel
theorem d_MText_statements_33 : decode y_MText_statements.2.1 33 = .ok (.invokevirtual 311, 3) := by decide +kernel
theorem d_MText_statements_36 : decode y_MText_statements.2.1 36 = .ok (.goto (-20), 3) := by decide +kernel
theorem d_MText_statements_39 : decode y_MText_statements.2.1 39 = .ok (.aload_n 0, 1) := by decide +kernel
theorem d_MText_statements_40 : decode y_MText_statements.2.1 40 = .ok (.getfield 32, 3) := by decide +kernel
theorem d_MText_statements_43 : decode y_MText_statements.2.1 43 = .ok (.iload_n 1, 1) := by decide +kernel
theorem d_MText_statements_44 : decode y_MText_statements.2.1 44 = .ok (.aload_n 0, 1) := by decide +kernel
theorem d_MText_statements_45 : decode y_MText_statements.2.1 45 = .ok (.getfield 191, 3) := by decide +kernel
theorem d_MText_statements_48 : decode y_MText_statements.2.1 48 = .ok (.iastore, 1) := by decide +kernel
theorem d_MText_statements_49 : decode y_MText_statements.2.1 49 = .ok (.aload_n 0, 1) := by decide +kernel
theorem d_MText_statements_50 : decode y_MText_statements.2.1 50 = .ok (.bipush 125, 2) := by decide +kernel
theorem d_MText_statements_52 : decode y_MText_statements.2.1 52 = .ok (.invokevirtual 204, 3) := by decide +kernel
theorem d_MText_statements_55 : decode y_MText_statements.2.1 55 = .ok (.aload_n 0, 1) := by decide +kernel
theorem d_MText_statements_56 : decode y_MText_statements.2.1 56 = .ok (.iload_n 2, 1) := by decide +kernel
theorem d_MText_statements_57 : decode y_MText_statements.2.1 57 = .ok (.putfield 281, 3) := by decide +kernel
theorem d_MText_statements_60 : decode y_MText_statements.2.1 60 = .ok (.return_, 1) := by decide +kernel
theorem s_MText_statements : ab_Stat y_MText_statements 0 := ⟨(k11 26 rfl rfl), (k1 20 rfl rfl), ⟨by decide, by decide⟩, by decide +kernel⟩
theorem i_MText_statements : Cond.instanceMethod y_MText_statements.1 ∈ ab_T := (k11 25 rfl rfl)
theorem v_MText_statements : Cond.selects "WorldEngineModel$Text" y_MText_statements.1 y_MText_statements.1 ∈ ab_T := ab_s (List.mem_of_getElem? (i := 138) rfl) rfl
def y_MText_block : ab_Y := (⟨"WorldEngineModel$Text", "block", "()V"⟩, prog_16_method_45_code, 1, none, [])
theorem d_MText_block_0 : decode y_MText_block.2.1 0 = .ok (.aload_n 0, 1) := by decide +kernel
theorem d_MText_block_1 : decode y_MText_block.2.1 1 = .ok (.bipush 123, 2) := by decide +kernel
theorem d_MText_block_3 : decode y_MText_block.2.1 3 = .ok (.invokevirtual 194, 3) := by decide +kernel
theorem d_MText_block_6 : decode y_MText_block.2.1 6 = .ok (.ifCond .eq 7, 3) := by decide +kernel
theorem d_MText_block_9 : decode y_MText_block.2.1 9 = .ok (.aload_n 0, 1) := by decide +kernel
theorem d_MText_block_10 : decode y_MText_block.2.1 10 = .ok (.invokevirtual 308, 3) := by decide +kernel
theorem d_MText_block_13 : decode y_MText_block.2.1 13 = .ok (.aload_n 0, 1) := by decide +kernel
theorem d_MText_block_14 : decode y_MText_block.2.1 14 = .ok (.invokevirtual 305, 3) := by decide +kernel
theorem d_MText_block_17 : decode y_MText_block.2.1 17 = .ok (.aload_n 0, 1) := by decide +kernel
theorem d_MText_block_18 : decode y_MText_block.2.1 18 = .ok (.dup, 1) := by decide +kernel
theorem d_MText_block_19 : decode y_MText_block.2.1 19 = .ok (.getfield 293, 3) := by decide +kernel
theorem d_MText_block_22 : decode y_MText_block.2.1 22 = .ok (.iconst 1, 1) := by decide +kernel
theorem d_MText_block_23 : decode y_MText_block.2.1 23 = .ok (.isub, 1) := by decide +kernel
theorem d_MText_block_24 : decode y_MText_block.2.1 24 = .ok (.putfield 293, 3) := by decide +kernel
theorem d_MText_block_27 : decode y_MText_block.2.1 27 = .ok (.return_, 1) := by decide +kernel
theorem s_MText_block : ab_Stat y_MText_block 0 := ⟨(k11 116 rfl rfl), (k1 20 rfl rfl), ⟨by decide, by decide⟩, by decide +kernel⟩
theorem i_MText_block : Cond.instanceMethod y_MText_block.1 ∈ ab_T := (k11 115 rfl rfl)
theorem v_MText_block : Cond.selects "WorldEngineModel$Text" y_MText_block.1 y_MText_block.1 ∈ ab_T := ab_s (List.mem_of_getElem? (i := 159) rfl) rfl
abbrev Orc_TextS : Type := (Nat → Hp → Option (Unit × Hp))
def ok_TextS (o : Orc_TextS) (fr lo : Nat) : Prop :=
  258 ≤ fr ∧ 5874 ≤ lo ∧
  (∀ (a0 : Nat) (H : Hp) (r : Unit × Hp), o a0 H = some r → ab_M y_MText_statements { frames := fr, cells := 0, slots := 0, locals := lo } [.ref a0] (hpw H) (po (.returned none) r.2))
def mo_TextS (o : Orc_TextS) : Prop :=
  (∀ (a0 : Nat) (H : Hp) (r : Unit × Hp), o a0 H = some r → Sa H r.2)
def B_MText_block_13 (N : Nat) (o : Orc_TextS) (p0 : Nat)  (H : Hp) : Option (Unit × Hp) :=
    ck (H.sh[p0]? = some (14, 0)) <|
    bC (o p0 H) fun v8 H9 =>
    bnd ((H9.D p0 41)) fun x10 =>
    bnd (H9.sD p0 41 (x10 - (1 : Int32))) fun H11 =>
    some ((), H11)
set_option maxRecDepth 20000 in
set_option maxHeartbeats 2000000 in
theorem mB_MText_block_13 {N : Nat} {o : Orc_TextS} (hmo : mo_TextS o) {p0 : Nat}  {H : Hp} {r : Unit × Hp} (hF : B_MText_block_13 N o p0  H = some r) : Sa H r.2 := by
  unfold B_MText_block_13 at hF
  have hm := Sa.rf H
  obtain ⟨q12, hG⟩ := ck_s hF; clear hF
  obtain ⟨v14, H15, z13, hF⟩ := bC_s hG; clear hG
  replace hm : Sa H H15 := hm.tr (hmo _ _ _ z13)
  obtain ⟨x16, -, hG⟩ := bnd_g hF; clear hF
  obtain ⟨H17, eH17, hF⟩ := bnd_g hG; clear hG
  replace hm : Sa H H17 := by rw [eH17]; exact hm
  have hr := Option.some.inj hF; subst hr
  exact hm
set_option maxRecDepth 20000 in
set_option maxHeartbeats 2000000 in
theorem kB_MText_block_13 {N : Nat} {o : Orc_TextS} {fr lo : Nat} (ho : ok_TextS o fr lo) (hmo : mo_TextS o) {p0 : Nat}  {H : Hp} {r : Unit × Hp} (hF : B_MText_block_13 N o p0  H = some r) : ab_V y_MText_block { frames := fr + 1, cells := 0, slots := 0, locals := lo + 22 } (po (.returned none) r.2) 0 0 0 0 13 [some (.ref p0)] [] (hpw H) := by
  unfold B_MText_block_13 at hF
  refine ab_aload_n d_MText_block_13 rfl rfl rfl ?_
  obtain ⟨q6, hG⟩ := ck_s hF; clear hF
  obtain ⟨v8, H9, z7, hF⟩ := bC_s hG; clear hG
  refine hp_callV_v (H1 := H9) (As := []) (rest := []) d_MText_block_14 (ho.2.2 _ _ _ z7) (ab_mkC s_MText_statements (show fr + 1 ≤ fr + 1 from by have := ho.1; omega) (show 8 + (3 + 11) + lo ≤ lo + 22 from by have := ho.2.1; omega) (Nat.le_refl 0) (Nat.le_refl 0)) (k11 23 rfl rfl) i_MText_statements v_MText_statements q6 (by decide) rfl rfl (Nat.le_of_ble_eq_true rfl) ?_
  have s_2 : Sa H H9 := (hmo _ _ _ z7)
  refine ab_aload_n d_MText_block_17 rfl rfl rfl ?_
  refine ab_dup d_MText_block_18 rfl ?_
  refine hp_getI (f := 41) d_MText_block_19 (by rw [(s_2).1]; exact q6) (by decide) rfl (by decide) (k8 228 rfl rfl) rfl ?_
  refine ab_topi (fun x10 ex10 => ?_)
  replace hF := bnd_s ex10 hF
  refine ab_iconst (v := 1) d_MText_block_22 (by decide) ?_
  refine ab_isub d_MText_block_23 ?_
  refine hp_putI (v := x10 - (1 : Int32)) (f := 41) d_MText_block_24 (by rw [(s_2).1]; exact q6) (by decide) rfl (by decide) (k8 228 rfl rfl) rfl rfl (fun _ => rfl) (fun _ => rfl) rfl ?_
  refine hp_gen (fun H11 eH11 => ?_)
  replace hF := bnd_s eH11 hF
  have s_3 : Sa H H11 := by rw [eH11]; exact s_2
  exact ab_vret d_MText_block_27 rfl (Nat.le_refl _) (Nat.le_refl _) (by have hr := Option.some.inj hF; subst hr; exact ⟨rfl, rfl⟩)
def F_MText_block (N : Nat) (o : Orc_TextS) (p0 : Nat) (H : Hp) : Option (Unit × Hp) :=
    ck (H.sh[p0]? = some (14, 0)) <|
    bC (F_MText_is N p0 (123 : Int32) H) fun v3 H4 =>
    if v3 = (0 : Int32) then
    B_MText_block_13 N o p0  H4
    else
    bC (F_MText_deeper N p0 H4) fun v19 H20 =>
    B_MText_block_13 N o p0  H20
set_option maxRecDepth 20000 in
set_option maxHeartbeats 2000000 in
theorem m_MText_block {N : Nat} {o : Orc_TextS} (hmo : mo_TextS o) {p0 : Nat} {H : Hp} {r : Unit × Hp} (hF : F_MText_block N o p0 H = some r) : Sa H r.2 := by
  unfold F_MText_block at hF
  have hm := Sa.rf H
  obtain ⟨q21, hG⟩ := ck_s hF; clear hF
  obtain ⟨v23, H24, z22, hF⟩ := bC_s hG; clear hG
  replace hm : Sa H H24 := hm.tr (m_MText_is z22)
  rcases ite_s hF with ⟨q_8, hG⟩ | ⟨q_8, hG⟩
  · clear hF
    exact hm.tr (mB_MText_block_13 hmo hG)
  · clear hF
    obtain ⟨v27, H28, z26, hF⟩ := bC_s hG; clear hG
    replace hm : Sa H H28 := hm.tr (m_MText_deeper z26)
    exact hm.tr (mB_MText_block_13 hmo hF)
set_option maxRecDepth 20000 in
set_option maxHeartbeats 2000000 in
theorem k_MText_block {N : Nat} {o : Orc_TextS} {fr lo : Nat} (ho : ok_TextS o fr lo) (hmo : mo_TextS o) {p0 : Nat} {H : Hp} {r : Unit × Hp} (hF : F_MText_block N o p0 H = some r) : ab_M y_MText_block { frames := fr + 1, cells := 0, slots := 0, locals := lo + 22 } [.ref p0] (hpw H) (po (.returned none) r.2) := by
  unfold F_MText_block at hF
  refine ab_of2 (lv := [some (.ref p0)]) 0 rfl rfl (Nat.le_of_ble_eq_true rfl) ?_
  refine ab_aload_n d_MText_block_0 rfl rfl rfl ?_
  refine ab_bipush (v := 123) d_MText_block_1 (by decide) ?_
  obtain ⟨q1, hG⟩ := ck_s hF; clear hF
  obtain ⟨v3, H4, z2, hF⟩ := bC_s hG; clear hG
  refine hp_callV_a (v := .int v3) (H1 := H4) (As := [.int 123]) (rest := []) d_MText_block_3 (k_MText_is z2) (ab_mkC s_MText_is (show 0 + 1 ≤ fr + 1 from by have := ho.1; omega) (show 8 + (2 + 11) + 0 ≤ lo + 22 from by have := ho.2.1; omega) (Nat.le_refl 0) (Nat.le_refl 0)) (k10 180 rfl rfl) i_MText_is v_MText_is q1 (by decide) rfl rfl (Nat.le_of_ble_eq_true rfl) ?_
  have s_1 : Sa H H4 := (m_MText_is z2)
  refine ab_if_eq (tgt := 13) d_MText_block_6 (by decide) (fun q5 => ?_) (fun q5 => ?_)
  · rw [if_pos q5] at hF
    exact kB_MText_block_13 ho hmo hF
  · rw [if_neg q5] at hF
    refine ab_aload_n d_MText_block_9 rfl rfl rfl ?_
    obtain ⟨v19, H20, z18, hG⟩ := bC_s hF; clear hF
    refine hp_callV_v (H1 := H20) (As := []) (rest := []) d_MText_block_10 (k_MText_deeper z18) (ab_mkC s_MText_deeper (show 1 + 1 ≤ fr + 1 from by have := ho.1; omega) (show 8 + (1 + 11) + 22 ≤ lo + 22 from by have := ho.2.1; omega) (Nat.le_refl 0) (Nat.le_refl 0)) (k11 82 rfl rfl) i_MText_deeper v_MText_deeper (by rw [(s_1).1]; exact q1) (by decide) rfl rfl (Nat.le_of_ble_eq_true rfl) ?_
    have s_6 : Sa H H20 := (s_1).tr (m_MText_deeper z18)
    exact kB_MText_block_13 ho hmo hG
