def y_Row_listCommand : ab_Y := (⟨"WorldEngine$Row", "listCommand", "()V"⟩, prog_8_method_13_code, 2, none, [])
theorem d_Row_listCommand_0 : decode y_Row_listCommand.2.1 0 = .ok (.aload_n 0, 1) := by decide +kernel
theorem d_Row_listCommand_1 : decode y_Row_listCommand.2.1 1 = .ok (.getfield 68, 3) := by decide +kernel
theorem d_Row_listCommand_4 : decode y_Row_listCommand.2.1 4 = .ok (.bipush 8, 2) := by decide +kernel
theorem d_Row_listCommand_6 : decode y_Row_listCommand.2.1 6 = .ok (.if_icmp .lt 10, 3) := by decide +kernel
theorem d_Row_listCommand_9 : decode y_Row_listCommand.2.1 9 = .ok (.aload_n 0, 1) := by decide +kernel
theorem d_Row_listCommand_10 : decode y_Row_listCommand.2.1 10 = .ok (.bipush 6, 2) := by decide +kernel
theorem d_Row_listCommand_12 : decode y_Row_listCommand.2.1 12 = .ok (.putfield 71, 3) := by decide +kernel
theorem d_Row_listCommand_15 : decode y_Row_listCommand.2.1 15 = .ok (.return_, 1) := by decide +kernel
theorem d_Row_listCommand_16 : decode y_Row_listCommand.2.1 16 = .ok (.aload_n 0, 1) := by decide +kernel
theorem d_Row_listCommand_17 : decode y_Row_listCommand.2.1 17 = .ok (.getfield 109, 3) := by decide +kernel
theorem d_Row_listCommand_20 : decode y_Row_listCommand.2.1 20 = .ok (.bipush 11, 2) := by decide +kernel
theorem d_Row_listCommand_22 : decode y_Row_listCommand.2.1 22 = .ok (.imul, 1) := by decide +kernel
theorem d_Row_listCommand_23 : decode y_Row_listCommand.2.1 23 = .ok (.istore_n 1, 1) := by decide +kernel
theorem d_Row_listCommand_24 : decode y_Row_listCommand.2.1 24 = .ok (.iload_n 1, 1) := by decide +kernel
theorem d_Row_listCommand_25 : decode y_Row_listCommand.2.1 25 = .ok (.bipush 11, 2) := by decide +kernel
theorem d_Row_listCommand_27 : decode y_Row_listCommand.2.1 27 = .ok (.iadd, 1) := by decide +kernel
theorem d_Row_listCommand_28 : decode y_Row_listCommand.2.1 28 = .ok (.aload_n 0, 1) := by decide +kernel
theorem d_Row_listCommand_29 : decode y_Row_listCommand.2.1 29 = .ok (.getfield 11, 3) := by decide +kernel
theorem d_Row_listCommand_32 : decode y_Row_listCommand.2.1 32 = .ok (.arraylength, 1) := by decide +kernel
theorem d_Row_listCommand_33 : decode y_Row_listCommand.2.1 33 = .ok (.if_icmp .le 21, 3) := by decide +kernel
theorem d_Row_listCommand_36 : decode y_Row_listCommand.2.1 36 = .ok (.aload_n 0, 1) := by decide +kernel
theorem d_Row_listCommand_37 : decode y_Row_listCommand.2.1 37 = .ok (.aload_n 0, 1) := by decide +kernel
theorem d_Row_listCommand_38 : decode y_Row_listCommand.2.1 38 = .ok (.getfield 11, 3) := by decide +kernel
theorem d_Row_listCommand_41 : decode y_Row_listCommand.2.1 41 = .ok (.iconst 2, 1) := by decide +kernel
theorem d_Row_listCommand_42 : decode y_Row_listCommand.2.1 42 = .ok (.aload_n 0, 1) := by decide +kernel
theorem d_Row_listCommand_43 : decode y_Row_listCommand.2.1 43 = .ok (.getfield 11, 3) := by decide +kernel
theorem d_Row_listCommand_46 : decode y_Row_listCommand.2.1 46 = .ok (.arraylength, 1) := by decide +kernel
theorem d_Row_listCommand_47 : decode y_Row_listCommand.2.1 47 = .ok (.imul, 1) := by decide +kernel
theorem d_Row_listCommand_48 : decode y_Row_listCommand.2.1 48 = .ok (.invokestatic 193, 3) := by decide +kernel
theorem d_Row_listCommand_51 : decode y_Row_listCommand.2.1 51 = .ok (.putfield 11, 3) := by decide +kernel
theorem d_Row_listCommand_54 : decode y_Row_listCommand.2.1 54 = .ok (.aload_n 0, 1) := by decide +kernel
theorem d_Row_listCommand_55 : decode y_Row_listCommand.2.1 55 = .ok (.getfield 27, 3) := by decide +kernel
theorem d_Row_listCommand_58 : decode y_Row_listCommand.2.1 58 = .ok (.iconst 0, 1) := by decide +kernel
theorem d_Row_listCommand_59 : decode y_Row_listCommand.2.1 59 = .ok (.aload_n 0, 1) := by decide +kernel
theorem d_Row_listCommand_60 : decode y_Row_listCommand.2.1 60 = .ok (.getfield 11, 3) := by decide +kernel
theorem d_Row_listCommand_63 : decode y_Row_listCommand.2.1 63 = .ok (.iload_n 1, 1) := by decide +kernel
theorem d_Row_listCommand_64 : decode y_Row_listCommand.2.1 64 = .ok (.bipush 11, 2) := by decide +kernel
theorem d_Row_listCommand_66 : decode y_Row_listCommand.2.1 66 = .ok (.invokestatic 82, 3) := by decide +kernel
theorem d_Row_listCommand_69 : decode y_Row_listCommand.2.1 69 = .ok (.aload_n 0, 1) := by decide +kernel
theorem d_Row_listCommand_70 : decode y_Row_listCommand.2.1 70 = .ok (.dup, 1) := by decide +kernel
theorem d_Row_listCommand_71 : decode y_Row_listCommand.2.1 71 = .ok (.getfield 109, 3) := by decide +kernel
theorem d_Row_listCommand_74 : decode y_Row_listCommand.2.1 74 = .ok (.iconst 1, 1) := by decide +kernel
theorem d_Row_listCommand_75 : decode y_Row_listCommand.2.1 75 = .ok (.iadd, 1) := by decide +kernel
theorem d_Row_listCommand_76 : decode y_Row_listCommand.2.1 76 = .ok (.putfield 109, 3) := by decide +kernel
theorem d_Row_listCommand_79 : decode y_Row_listCommand.2.1 79 = .ok (.aload_n 0, 1) := by decide +kernel
theorem d_Row_listCommand_80 : decode y_Row_listCommand.2.1 80 = .ok (.dup, 1) := by decide +kernel
theorem d_Row_listCommand_81 : decode y_Row_listCommand.2.1 81 = .ok (.getfield 68, 3) := by decide +kernel
theorem d_Row_listCommand_84 : decode y_Row_listCommand.2.1 84 = .ok (.iconst 1, 1) := by decide +kernel
theorem d_Row_listCommand_85 : decode y_Row_listCommand.2.1 85 = .ok (.iadd, 1) := by decide +kernel
theorem d_Row_listCommand_86 : decode y_Row_listCommand.2.1 86 = .ok (.putfield 68, 3) := by decide +kernel
theorem d_Row_listCommand_89 : decode y_Row_listCommand.2.1 89 = .ok (.return_, 1) := by decide +kernel
theorem s_Row_listCommand : ab_Stat y_Row_listCommand 0 := ⟨(k7 16 rfl rfl), (k1 13 rfl rfl), ⟨by decide, by decide⟩, by decide +kernel⟩
theorem i_Row_listCommand : Cond.instanceMethod y_Row_listCommand.1 ∈ ab_T := (k7 15 rfl rfl)
theorem v_Row_listCommand : Cond.selects "WorldEngine$Row" y_Row_listCommand.1 y_Row_listCommand.1 ∈ ab_T := ab_s (List.mem_of_getElem? (i := 77) rfl) rfl
def B_Row_listCommand_54 (N : Nat) (p0 : Nat) (l1 : Int32) (H : Hp) : Option (Unit × Hp) :=
    ck (H.sh[p0]? = some (8, 0)) <|
    rf (H.P p0 10) fun a12 =>
    rf (H.P p0 0) fun a14 =>
    ar H 100 a12 fun n16 =>
    ar H 100 a14 fun n18 =>
    ck (¬ (0 : Int32) < 0) <|
    ck (¬ l1 < 0) <|
    ck (¬ (11 : Int32) < 0) <|
    ck (((0 : Int32)).toNatClampNeg + ((11 : Int32)).toNatClampNeg ≤ n16) <|
    ck ((l1).toNatClampNeg + ((11 : Int32)).toNatClampNeg ≤ n18) <|
    bnd (H.cpy a12 a14 ((0 : Int32)).toNatClampNeg (l1).toNatClampNeg ((11 : Int32)).toNatClampNeg) fun H25 =>
    bnd ((H25.D p0 1)) fun x26 =>
    bnd (H25.sD p0 1 (x26 + (1 : Int32))) fun H27 =>
    bnd ((H27.D p0 15)) fun x28 =>
    bnd (H27.sD p0 15 (x28 + (1 : Int32))) fun H29 =>
    some ((), H29)
set_option maxRecDepth 20000 in
set_option maxHeartbeats 2000000 in
theorem mB_Row_listCommand_54 {N : Nat} {p0 : Nat} {l1 : Int32} {H : Hp} {r : Unit × Hp} (hF : B_Row_listCommand_54 N p0 l1 H = some r) : Mo H r.2 := by
  unfold B_Row_listCommand_54 at hF
  have hm := Mo.rf H
  obtain ⟨q30, hG⟩ := ck_s hF; clear hF
  obtain ⟨a31, e32, hF⟩ := rf_s hG; clear hG
  obtain ⟨a33, e34, hG⟩ := rf_s hF; clear hF
  obtain ⟨n35, q36, hF⟩ := ar_s hG; clear hG
  obtain ⟨n37, q38, hG⟩ := ar_s hF; clear hF
  obtain ⟨q39, hF⟩ := ck_s hG; clear hG
  obtain ⟨q40, hG⟩ := ck_s hF; clear hF
  obtain ⟨q41, hF⟩ := ck_s hG; clear hG
  obtain ⟨q42, hG⟩ := ck_s hF; clear hF
  obtain ⟨q43, hF⟩ := ck_s hG; clear hG
  obtain ⟨H44, eH44, hG⟩ := bnd_g hF; clear hF
  replace hm : Mo H H44 := by rw [eH44]; exact hm
  obtain ⟨x45, -, hF⟩ := bnd_g hG; clear hG
  obtain ⟨H46, eH46, hG⟩ := bnd_g hF; clear hF
  replace hm : Mo H H46 := by rw [eH46]; exact hm
  obtain ⟨x47, -, hF⟩ := bnd_g hG; clear hG
  obtain ⟨H48, eH48, hG⟩ := bnd_g hF; clear hF
  replace hm : Mo H H48 := by rw [eH48]; exact hm
  have hr := Option.some.inj hG; subst hr
  exact hm
set_option maxRecDepth 20000 in
set_option maxHeartbeats 2000000 in
theorem kB_Row_listCommand_54 {N : Nat} {p0 : Nat} {c0 s0 C Sl : Nat} {l1 : Int32} {H : Hp} {r : Unit × Hp} (hF : B_Row_listCommand_54 N p0 l1 H = some r) (hc0 : c0 ≤ H.sh.length) (hs0 : s0 ≤ H.sl) (hcc : H.sh.length ≤ c0 + C) (hss : H.sl ≤ s0 + Sl) (hC : r.2.sh.length ≤ c0 + C) (hS : r.2.sl ≤ s0 + Sl) : ab_V y_Row_listCommand { frames := 2, cells := C, slots := Sl, locals := 82 } (po (.returned none) r.2) C Sl (H.sh.length - c0) (H.sl - s0) 54 [some (.ref p0), some (.int l1)] [] (hpw H) := by
  unfold B_Row_listCommand_54 at hF
  refine ab_aload_n d_Row_listCommand_54 rfl rfl rfl ?_
  obtain ⟨q11, hG⟩ := ck_s hF; clear hF
  obtain ⟨a12, e13, hF⟩ := rf_s hG; clear hG
  refine hp_getR (f := 10) d_Row_listCommand_55 q11 (by decide) rfl (by decide) (k2 72 rfl rfl) rfl e13 ?_
  refine ab_iconst (v := 0) d_Row_listCommand_58 (by decide) ?_
  refine ab_aload_n d_Row_listCommand_59 rfl rfl rfl ?_
  obtain ⟨a14, e15, hG⟩ := rf_s hF; clear hF
  refine hp_getR (f := 0) d_Row_listCommand_60 q11 (by decide) rfl (by decide) (k2 60 rfl rfl) rfl e15 ?_
  refine ab_iload_n d_Row_listCommand_63 rfl rfl ?_
  refine ab_bipush (v := 11) d_Row_listCommand_64 (by decide) ?_
  obtain ⟨n16, q17, hF⟩ := ar_s hG; clear hG
  obtain ⟨n18, q19, hG⟩ := ar_s hF; clear hF
  obtain ⟨q20, hF⟩ := ck_s hG; clear hG
  obtain ⟨q21, hG⟩ := ck_s hF; clear hF
  obtain ⟨q22, hF⟩ := ck_s hG; clear hG
  obtain ⟨q23, hG⟩ := ck_s hF; clear hF
  obtain ⟨q24, hF⟩ := ck_s hG; clear hG
  refine hp_acopy d_Row_listCommand_66 (k6 204 rfl rfl) (k6 113 rfl rfl) (k6 112 rfl rfl) (k1 29 rfl rfl) q17 q19 q20 q21 q22 q23 q24 (Nat.le_of_ble_eq_true rfl) (Nat.le_of_ble_eq_true rfl) ?_
  refine hp_gen (fun H25 eH25 => ?_)
  replace hF := bnd_s eH25 hF
  have s_1 : Sa H H25 := by rw [eH25]; exact Sa.rf _
  refine ab_aload_n d_Row_listCommand_69 rfl rfl rfl ?_
  refine ab_dup d_Row_listCommand_70 rfl ?_
  refine hp_getI (f := 1) d_Row_listCommand_71 (by rw [(s_1).1]; exact q11) (by decide) rfl (by decide) (k2 63 rfl rfl) rfl ?_
  refine ab_topi (fun x26 ex26 => ?_)
  replace hF := bnd_s ex26 hF
  refine ab_iconst (v := 1) d_Row_listCommand_74 (by decide) ?_
  refine ab_iadd d_Row_listCommand_75 ?_
  refine hp_putI (v := x26 + (1 : Int32)) (f := 1) d_Row_listCommand_76 (by rw [(s_1).1]; exact q11) (by decide) rfl (by decide) (k2 63 rfl rfl) rfl rfl (fun _ => rfl) (fun _ => rfl) rfl ?_
  refine hp_gen (fun H27 eH27 => ?_)
  replace hF := bnd_s eH27 hF
  have s_2 : Sa H H27 := by rw [eH27]; exact s_1
  refine ab_aload_n d_Row_listCommand_79 rfl rfl rfl ?_
  refine ab_dup d_Row_listCommand_80 rfl ?_
  refine hp_getI (f := 15) d_Row_listCommand_81 (by rw [(s_2).1]; exact q11) (by decide) rfl (by decide) (k2 77 rfl rfl) rfl ?_
  refine ab_topi (fun x28 ex28 => ?_)
  replace hF := bnd_s ex28 hF
  refine ab_iconst (v := 1) d_Row_listCommand_84 (by decide) ?_
  refine ab_iadd d_Row_listCommand_85 ?_
  refine hp_putI (v := x28 + (1 : Int32)) (f := 15) d_Row_listCommand_86 (by rw [(s_2).1]; exact q11) (by decide) rfl (by decide) (k2 77 rfl rfl) rfl rfl (fun _ => rfl) (fun _ => rfl) rfl ?_
  refine hp_gen (fun H29 eH29 => ?_)
  replace hF := bnd_s eH29 hF
  have s_3 : Sa H H29 := by rw [eH29]; exact s_2
  exact ab_vret d_Row_listCommand_89 rfl (by show _ ≤ C; omega) (by show _ ≤ Sl; omega) (by have hr := Option.some.inj hF; subst hr; exact ⟨rfl, rfl⟩)
def F_Row_listCommand (N : Nat) (p0 : Nat) (H : Hp) : Option (Unit × Hp) :=
    ck (H.sh[p0]? = some (8, 0)) <|
    bnd ((H.D p0 15)) fun x2 =>
    if x2 < (8 : Int32) then
    bnd ((H.D p0 1)) fun x4 =>
    bnd ((x4 * (11 : Int32))) fun x5 =>
    rf (H.P p0 0) fun a6 =>
    ar H 100 a6 fun n8 =>
    if (x5 + (11 : Int32)) ≤ (Int32.ofNat n8) then
    B_Row_listCommand_54 N p0 x5 H
    else
    rf (H.P p0 0) fun a49 =>
    rf (H.P p0 0) fun a51 =>
    ar H 100 a51 fun n53 =>
    bC (F_Arr_copyOf N a49 ((2 : Int32) * (Int32.ofNat n53)) H) fun v56 H57 =>
    on v56 fun a58 =>
    bnd (H57.sP p0 0 (.ref a58)) fun H59 =>
    B_Row_listCommand_54 N p0 x5 H59
    else
    bnd (H.sD p0 16 (6 : Int32)) fun H60 =>
    some ((), H60)
set_option maxRecDepth 20000 in
set_option maxHeartbeats 2000000 in
theorem m_Row_listCommand {N : Nat} {p0 : Nat} {H : Hp} {r : Unit × Hp} (hF : F_Row_listCommand N p0 H = some r) : Mo H r.2 := by
  unfold F_Row_listCommand at hF
  have hm := Mo.rf H
  obtain ⟨q61, hG⟩ := ck_s hF; clear hF
  obtain ⟨x62, -, hF⟩ := bnd_g hG; clear hG
  rcases ite_s hF with ⟨q_16, hG⟩ | ⟨q_16, hG⟩
  · clear hF
    obtain ⟨x64, -, hF⟩ := bnd_g hG; clear hG
    obtain ⟨x65, -, hG⟩ := bnd_g hF; clear hF
    obtain ⟨a66, e67, hF⟩ := rf_s hG; clear hG
    obtain ⟨n68, q69, hG⟩ := ar_s hF; clear hF
    rcases ite_s hG with ⟨q_17, hF⟩ | ⟨q_17, hF⟩
    · clear hG
      exact hm.tr (mB_Row_listCommand_54 hF)
    · clear hG
      obtain ⟨a71, e72, hG⟩ := rf_s hF; clear hF
      obtain ⟨a73, e74, hF⟩ := rf_s hG; clear hG
      obtain ⟨n75, q76, hG⟩ := ar_s hF; clear hF
      obtain ⟨v78, H79, z77, hF⟩ := bC_s hG; clear hG
      replace hm : Mo H H79 := hm.tr (m_Arr_copyOf z77)
      obtain ⟨a80, ea80, hG⟩ := on_s hF; clear hF
      subst ea80
      obtain ⟨H81, eH81, hF⟩ := bnd_g hG; clear hG
      replace hm : Mo H H81 := by rw [eH81]; exact hm
      exact hm.tr (mB_Row_listCommand_54 hF)
  · clear hF
    obtain ⟨H82, eH82, hF⟩ := bnd_g hG; clear hG
    replace hm : Mo H H82 := by rw [eH82]; exact hm
    have hr := Option.some.inj hF; subst hr
    exact hm
set_option maxRecDepth 20000 in
set_option maxHeartbeats 2000000 in
theorem k_Row_listCommand {N : Nat} {p0 : Nat} {H : Hp} {r : Unit × Hp} {C Sl : Nat} (hF : F_Row_listCommand N p0 H = some r) (hC : r.2.sh.length ≤ H.sh.length + C) (hS : r.2.sl ≤ H.sl + Sl) : ab_M y_Row_listCommand { frames := 2, cells := C, slots := Sl, locals := 82 } [.ref p0] (hpw H) (po (.returned none) r.2) := by
  unfold F_Row_listCommand at hF
  obtain ⟨c0, e0⟩ : ∃ q, q = H.sh.length := ⟨_, rfl⟩
  obtain ⟨s0, e1⟩ : ∃ q, q = H.sl := ⟨_, rfl⟩
  rw [← e0] at hC
  rw [← e1] at hS
  have hc0 : c0 ≤ H.sh.length := Nat.le_of_eq e0
  have hs0 : s0 ≤ H.sl := Nat.le_of_eq e1
  have hcc : H.sh.length ≤ c0 + C := by omega
  have hss : H.sl ≤ s0 + Sl := by omega
  refine ab_of2 (lv := [some (.ref p0), none]) 1 rfl rfl (Nat.le_of_ble_eq_true rfl) ?_
  refine ab_widen (cells' := H.sh.length - c0) (slots' := H.sl - s0) (Nat.zero_le _) (Nat.zero_le _) ?_
  refine ab_aload_n d_Row_listCommand_0 rfl rfl rfl ?_
  obtain ⟨q1, hG⟩ := ck_s hF; clear hF
  refine hp_getI (f := 15) d_Row_listCommand_1 q1 (by decide) rfl (by decide) (k2 77 rfl rfl) rfl ?_
  refine ab_topi (fun x2 ex2 => ?_)
  replace hG := bnd_s ex2 hG
  refine ab_bipush (v := 8) d_Row_listCommand_4 (by decide) ?_
  refine ab_icmp_lt (tgt := 16) d_Row_listCommand_6 (by decide) (fun q3 => ?_) (fun q3 => ?_)
  · rw [if_pos q3] at hG
    refine ab_aload_n d_Row_listCommand_16 rfl rfl rfl ?_
    refine hp_getI (f := 1) d_Row_listCommand_17 q1 (by decide) rfl (by decide) (k2 63 rfl rfl) rfl ?_
    refine ab_topi (fun x4 ex4 => ?_)
    replace hG := bnd_s ex4 hG
    refine ab_bipush (v := 11) d_Row_listCommand_20 (by decide) ?_
    refine ab_imul d_Row_listCommand_22 ?_
    refine ab_topi (fun x5 ex5 => ?_)
    replace hG := bnd_s ex5 hG
    refine ab_istore_n (lv' := [some (.ref p0), some (.int x5)]) d_Row_listCommand_23 rfl (by decide) rfl ?_
    refine ab_iload_n d_Row_listCommand_24 rfl rfl ?_
    refine ab_bipush (v := 11) d_Row_listCommand_25 (by decide) ?_
    refine ab_iadd d_Row_listCommand_27 ?_
    refine ab_aload_n d_Row_listCommand_28 rfl rfl rfl ?_
    obtain ⟨a6, e7, hF⟩ := rf_s hG; clear hG
    refine hp_getR (f := 0) d_Row_listCommand_29 q1 (by decide) rfl (by decide) (k2 60 rfl rfl) rfl e7 ?_
    obtain ⟨n8, q9, hG⟩ := ar_s hF; clear hF
    refine hp_alen (q := 100) d_Row_listCommand_32 q9 (Or.inl ⟨by decide, by decide, rfl⟩) tI ?_
    refine ab_icmp_le (tgt := 54) d_Row_listCommand_33 (by decide) (fun q10 => ?_) (fun q10 => ?_)
    · rw [if_pos q10] at hG
      exact kB_Row_listCommand_54 hG hc0 hs0 hcc hss hC hS
    · rw [if_neg q10] at hG
      refine ab_aload_n d_Row_listCommand_36 rfl rfl rfl ?_
      refine ab_aload_n d_Row_listCommand_37 rfl rfl rfl ?_
      obtain ⟨a49, e50, hF⟩ := rf_s hG; clear hG
      refine hp_getR (f := 0) d_Row_listCommand_38 q1 (by decide) rfl (by decide) (k2 60 rfl rfl) rfl e50 ?_
      refine ab_iconst (v := 2) d_Row_listCommand_41 (by decide) ?_
      refine ab_aload_n d_Row_listCommand_42 rfl rfl rfl ?_
      obtain ⟨a51, e52, hG⟩ := rf_s hF; clear hF
      refine hp_getR (f := 0) d_Row_listCommand_43 q1 (by decide) rfl (by decide) (k2 60 rfl rfl) rfl e52 ?_
      obtain ⟨n53, q54, hF⟩ := ar_s hG; clear hG
      refine hp_alen (q := 100) d_Row_listCommand_46 q54 (Or.inl ⟨by decide, by decide, rfl⟩) tI ?_
      refine ab_imul d_Row_listCommand_47 ?_
      obtain ⟨v56, H57, z55, hG⟩ := bC_s hF; clear hF
      have mz_7 : Mo H H57 := (m_Arr_copyOf z55)
      have b_8l := (mz_7).len
      have b_8s := (mz_7).2
      have b_8c : c0 ≤ H57.sh.length := by omega
      have b_8d : s0 ≤ H57.sl := by omega
      have q_9 := (mz_7).get q1
      have q_10 := (mz_7).get q9
      have q_11 := (mz_7).get q54
      have mf_12 : Mo H57 r.2 := by
        have hm := Mo.rf H57
        obtain ⟨a58, ea58, hF⟩ := on_s hG; clear hG
        subst ea58
        obtain ⟨H59, eH59, hG⟩ := bnd_g hF; clear hF
        replace hm : Mo H57 H59 := by rw [eH59]; exact hm
        exact hm.tr (mB_Row_listCommand_54 hG)
      have b_8m := (mf_12).len
      have b_8n := (mf_12).2
      have b_8p : H57.sh.length ≤ c0 + C := by omega
      have b_8q : H57.sl ≤ s0 + Sl := by omega
      refine hp_callS_a (v := ab_rf v56) (H1 := H57) (As := [.ref a49, .int ((2 : Int32) * (Int32.ofNat n53))]) (rest := [.ref p0]) d_Row_listCommand_48 (k_Arr_copyOf z55 (C := H57.sh.length - H.sh.length) (Sl := H57.sl - H.sl) (by show H57.sh.length ≤ _; omega) (by show H57.sl ≤ _; omega)) (ab_mkC s_Arr_copyOf (Nat.le_of_ble_eq_true rfl) (Nat.le_of_ble_eq_true rfl) (show (H.sh.length - c0) + (H57.sh.length - H.sh.length) ≤ C from by omega) (show (H.sl - s0) + (H57.sl - H.sl) ≤ Sl from by omega)) (k7 17 rfl rfl) t_Arr_copyOf rfl (Nat.le_of_ble_eq_true rfl) ?_
      refine ab_widen (cells' := H57.sh.length - c0) (slots' := H57.sl - s0) (by show _ + (H57.sh.length - H.sh.length) ≤ _; omega) (by show _ + (H57.sl - H.sl) ≤ _; omega) ?_
      clear b_8l b_8s b_8m b_8n
      obtain ⟨a58, ea58, hF⟩ := on_s hG; clear hG
      subst ea58
      refine hp_putP (v := .ref a58) (f := 0) d_Row_listCommand_51 q_9 (by decide) rfl (by decide) (k2 60 rfl rfl) rfl rfl (fun _ => rfl) (fun _ => rfl) rfl ?_
      refine hp_gen (fun H59 eH59 => ?_)
      replace hF := bnd_s eH59 hF
      have s_14 : Sa H57 H59 := by rw [eH59]; exact Sa.rf _
      refine ab_widen (cells' := H59.sh.length - c0) (slots' := H59.sl - s0) (by rw [(s_14).1]; exact Nat.le_refl _) (by rw [(s_14).2]; exact Nat.le_refl _) ?_
      exact kB_Row_listCommand_54 hF (by rw [(s_14).1]; exact b_8c) (by rw [(s_14).2]; exact b_8d) (by rw [(s_14).1]; exact b_8p) (by rw [(s_14).2]; exact b_8q) hC hS
  · rw [if_neg q3] at hG
    refine ab_aload_n d_Row_listCommand_9 rfl rfl rfl ?_
    refine ab_bipush (v := 6) d_Row_listCommand_10 (by decide) ?_
    refine hp_putI (v := 6) (f := 16) d_Row_listCommand_12 q1 (by decide) rfl (by decide) (k2 78 rfl rfl) rfl rfl (fun _ => rfl) (fun _ => rfl) rfl ?_
    refine hp_gen (fun H60 eH60 => ?_)
    replace hG := bnd_s eH60 hG
    have s_15 : Sa H H60 := by rw [eH60]; exact Sa.rf _
    exact ab_vret d_Row_listCommand_15 rfl (by show _ ≤ C; omega) (by show _ ≤ Sl; omega) (by have hr := Option.some.inj hG; subst hr; exact ⟨rfl, rfl⟩)
def y_Row_command : ab_Y := (⟨"WorldEngine$Row", "command", "(I)V"⟩, prog_8_method_10_code, 2, none, [])
theorem d_Row_command_0 : decode y_Row_command.2.1 0 = .ok (.aload_n 0, 1) := by decide +kernel
theorem d_Row_command_1 : decode y_Row_command.2.1 1 = .ok (.getfield 27, 3) := by decide +kernel
theorem d_Row_command_4 : decode y_Row_command.2.1 4 = .ok (.iconst 0, 1) := by decide +kernel
theorem d_Row_command_5 : decode y_Row_command.2.1 5 = .ok (.iload_n 1, 1) := by decide +kernel
theorem d_Row_command_6 : decode y_Row_command.2.1 6 = .ok (.iastore, 1) := by decide +kernel
theorem d_Row_command_7 : decode y_Row_command.2.1 7 = .ok (.iload_n 1, 1) := by decide +kernel
theorem d_Row_command_8 : decode y_Row_command.2.1 8 = .ok (.tableswitch 120 20 25 #[40, 120, 97, 97, 54, 47], 40) := by decide +kernel
theorem d_Row_command_48 : decode y_Row_command.2.1 48 = .ok (.aload_n 0, 1) := by decide +kernel
theorem d_Row_command_49 : decode y_Row_command.2.1 49 = .ok (.invokevirtual 174, 3) := by decide +kernel
theorem d_Row_command_52 : decode y_Row_command.2.1 52 = .ok (.goto 86, 3) := by decide +kernel
theorem d_Row_command_55 : decode y_Row_command.2.1 55 = .ok (.aload_n 0, 1) := by decide +kernel
theorem d_Row_command_56 : decode y_Row_command.2.1 56 = .ok (.invokevirtual 177, 3) := by decide +kernel
theorem d_Row_command_59 : decode y_Row_command.2.1 59 = .ok (.goto 79, 3) := by decide +kernel
theorem d_Row_command_62 : decode y_Row_command.2.1 62 = .ok (.aload_n 0, 1) := by decide +kernel
theorem d_Row_command_63 : decode y_Row_command.2.1 63 = .ok (.getfield 27, 3) := by decide +kernel
theorem d_Row_command_66 : decode y_Row_command.2.1 66 = .ok (.iconst 2, 1) := by decide +kernel
theorem d_Row_command_67 : decode y_Row_command.2.1 67 = .ok (.aload_n 0, 1) := by decide +kernel
theorem d_Row_command_68 : decode y_Row_command.2.1 68 = .ok (.invokevirtual 88, 3) := by decide +kernel
theorem d_Row_command_71 : decode y_Row_command.2.1 71 = .ok (.iastore, 1) := by decide +kernel
theorem d_Row_command_72 : decode y_Row_command.2.1 72 = .ok (.aload_n 0, 1) := by decide +kernel
theorem d_Row_command_73 : decode y_Row_command.2.1 73 = .ok (.getfield 27, 3) := by decide +kernel
theorem d_Row_command_76 : decode y_Row_command.2.1 76 = .ok (.iconst 3, 1) := by decide +kernel
theorem d_Row_command_77 : decode y_Row_command.2.1 77 = .ok (.aload_n 0, 1) := by decide +kernel
theorem d_Row_command_78 : decode y_Row_command.2.1 78 = .ok (.invokevirtual 88, 3) := by decide +kernel
theorem d_Row_command_81 : decode y_Row_command.2.1 81 = .ok (.iastore, 1) := by decide +kernel
theorem d_Row_command_82 : decode y_Row_command.2.1 82 = .ok (.aload_n 0, 1) := by decide +kernel
theorem d_Row_command_83 : decode y_Row_command.2.1 83 = .ok (.getfield 27, 3) := by decide +kernel
theorem d_Row_command_86 : decode y_Row_command.2.1 86 = .ok (.iconst 4, 1) := by decide +kernel
theorem d_Row_command_87 : decode y_Row_command.2.1 87 = .ok (.aload_n 0, 1) := by decide +kernel
theorem d_Row_command_88 : decode y_Row_command.2.1 88 = .ok (.invokevirtual 126, 3) := by decide +kernel
theorem d_Row_command_91 : decode y_Row_command.2.1 91 = .ok (.iastore, 1) := by decide +kernel
theorem d_Row_command_92 : decode y_Row_command.2.1 92 = .ok (.aload_n 0, 1) := by decide +kernel
theorem d_Row_command_93 : decode y_Row_command.2.1 93 = .ok (.getfield 27, 3) := by decide +kernel
theorem d_Row_command_96 : decode y_Row_command.2.1 96 = .ok (.iconst 1, 1) := by decide +kernel
theorem d_Row_command_97 : decode y_Row_command.2.1 97 = .ok (.aload_n 0, 1) := by decide +kernel
theorem d_Row_command_98 : decode y_Row_command.2.1 98 = .ok (.invokevirtual 126, 3) := by decide +kernel
theorem d_Row_command_101 : decode y_Row_command.2.1 101 = .ok (.iastore, 1) := by decide +kernel
theorem d_Row_command_102 : decode y_Row_command.2.1 102 = .ok (.goto 36, 3) := by decide +kernel
theorem d_Row_command_105 : decode y_Row_command.2.1 105 = .ok (.aload_n 0, 1) := by decide +kernel
theorem d_Row_command_106 : decode y_Row_command.2.1 106 = .ok (.getfield 27, 3) := by decide +kernel
theorem d_Row_command_109 : decode y_Row_command.2.1 109 = .ok (.iconst 2, 1) := by decide +kernel
theorem d_Row_command_110 : decode y_Row_command.2.1 110 = .ok (.aload_n 0, 1) := by decide +kernel
theorem d_Row_command_111 : decode y_Row_command.2.1 111 = .ok (.invokevirtual 88, 3) := by decide +kernel
theorem d_Row_command_114 : decode y_Row_command.2.1 114 = .ok (.iastore, 1) := by decide +kernel
theorem d_Row_command_115 : decode y_Row_command.2.1 115 = .ok (.aload_n 0, 1) := by decide +kernel
theorem d_Row_command_116 : decode y_Row_command.2.1 116 = .ok (.getfield 27, 3) := by decide +kernel
theorem d_Row_command_119 : decode y_Row_command.2.1 119 = .ok (.iconst 1, 1) := by decide +kernel
theorem d_Row_command_120 : decode y_Row_command.2.1 120 = .ok (.aload_n 0, 1) := by decide +kernel
theorem d_Row_command_121 : decode y_Row_command.2.1 121 = .ok (.invokevirtual 126, 3) := by decide +kernel
theorem d_Row_command_124 : decode y_Row_command.2.1 124 = .ok (.iastore, 1) := by decide +kernel
theorem d_Row_command_125 : decode y_Row_command.2.1 125 = .ok (.goto 13, 3) := by decide +kernel
theorem d_Row_command_128 : decode y_Row_command.2.1 128 = .ok (.aload_n 0, 1) := by decide +kernel
theorem d_Row_command_129 : decode y_Row_command.2.1 129 = .ok (.getfield 27, 3) := by decide +kernel
theorem d_Row_command_132 : decode y_Row_command.2.1 132 = .ok (.iconst 1, 1) := by decide +kernel
theorem d_Row_command_133 : decode y_Row_command.2.1 133 = .ok (.aload_n 0, 1) := by decide +kernel
theorem d_Row_command_134 : decode y_Row_command.2.1 134 = .ok (.invokevirtual 126, 3) := by decide +kernel
theorem d_Row_command_137 : decode y_Row_command.2.1 137 = .ok (.iastore, 1) := by decide +kernel
theorem d_Row_command_138 : decode y_Row_command.2.1 138 = .ok (.aload_n 0, 1) := by decide +kernel
theorem d_Row_command_139 : decode y_Row_command.2.1 139 = .ok (.getfield 71, 3) := by decide +kernel
theorem d_Row_command_142 : decode y_Row_command.2.1 142 = .ok (.ifCond .ne 7, 3) := by decide +kernel
theorem d_Row_command_145 : decode y_Row_command.2.1 145 = .ok (.aload_n 0, 1) := by decide +kernel
theorem d_Row_command_146 : decode y_Row_command.2.1 146 = .ok (.invokevirtual 180, 3) := by decide +kernel
theorem d_Row_command_149 : decode y_Row_command.2.1 149 = .ok (.return_, 1) := by decide +kernel
theorem s_Row_command : ab_Stat y_Row_command 1 := ⟨(k7 2 rfl rfl), (k1 13 rfl rfl), ⟨by decide, by decide⟩, by decide +kernel⟩
theorem i_Row_command : Cond.instanceMethod y_Row_command.1 ∈ ab_T := (k7 1 rfl rfl)
theorem v_Row_command : Cond.selects "WorldEngine$Row" y_Row_command.1 y_Row_command.1 ∈ ab_T := ab_s (List.mem_of_getElem? (i := 74) rfl) rfl
def B_Row_command_138 (N : Nat) (p0 : Nat) (p1 : Int32)  (H : Hp) : Option (Unit × Hp) :=
    ck (H.sh[p0]? = some (8, 0)) <|
    bnd ((H.D p0 16)) fun x13 =>
    if x13 = (0 : Int32) then
    bC (F_Row_listCommand N p0 H) fun v16 H17 =>
    some ((), H17)
    else
    some ((), H)
set_option maxRecDepth 20000 in
set_option maxHeartbeats 2000000 in
theorem mB_Row_command_138 {N : Nat} {p0 : Nat} {p1 : Int32}  {H : Hp} {r : Unit × Hp} (hF : B_Row_command_138 N p0 p1  H = some r) : Mo H r.2 := by
  unfold B_Row_command_138 at hF
  have hm := Mo.rf H
  obtain ⟨q18, hG⟩ := ck_s hF; clear hF
  obtain ⟨x19, -, hF⟩ := bnd_g hG; clear hG
  rcases ite_s hF with ⟨q_7, hG⟩ | ⟨q_7, hG⟩
  · clear hF
    obtain ⟨v22, H23, z21, hF⟩ := bC_s hG; clear hG
    replace hm : Mo H H23 := hm.tr (m_Row_listCommand z21)
    have hr := Option.some.inj hF; subst hr
    exact hm
  · clear hF
    have hr := Option.some.inj hG; subst hr
    exact hm
set_option maxRecDepth 20000 in
set_option maxHeartbeats 2000000 in
theorem kB_Row_command_138 {N : Nat} {p0 : Nat} {p1 : Int32} {c0 s0 C Sl : Nat}  {H : Hp} {r : Unit × Hp} (hF : B_Row_command_138 N p0 p1  H = some r) (hc0 : c0 ≤ H.sh.length) (hs0 : s0 ≤ H.sl) (hcc : H.sh.length ≤ c0 + C) (hss : H.sl ≤ s0 + Sl) (hC : r.2.sh.length ≤ c0 + C) (hS : r.2.sl ≤ s0 + Sl) : ab_V y_Row_command { frames := 3, cells := C, slots := Sl, locals := 103 } (po (.returned none) r.2) C Sl (H.sh.length - c0) (H.sl - s0) 138 [some (.ref p0), some (.int p1)] [] (hpw H) := by
  unfold B_Row_command_138 at hF
  refine ab_aload_n d_Row_command_138 rfl rfl rfl ?_
  obtain ⟨q12, hG⟩ := ck_s hF; clear hF
  refine hp_getI (f := 16) d_Row_command_139 q12 (by decide) rfl (by decide) (k2 78 rfl rfl) rfl ?_
  refine ab_topi (fun x13 ex13 => ?_)
  replace hG := bnd_s ex13 hG
  refine ab_if_ne (tgt := 149) d_Row_command_142 (by decide) (fun q14 => ?_) (fun q14 => ?_)
  · rw [if_neg q14] at hG
    exact ab_vret d_Row_command_149 rfl (by show _ ≤ C; omega) (by show _ ≤ Sl; omega) (by have hr := Option.some.inj hG; subst hr; exact ⟨rfl, rfl⟩)
  · rw [if_pos q14] at hG
    refine ab_aload_n d_Row_command_145 rfl rfl rfl ?_
    obtain ⟨v16, H17, z15, hF⟩ := bC_s hG; clear hG
    have mz_4 : Mo H H17 := (m_Row_listCommand z15)
    have b_5l := (mz_4).len
    have b_5s := (mz_4).2
    have b_5c : c0 ≤ H17.sh.length := by omega
    have b_5d : s0 ≤ H17.sl := by omega
    have q_6 := (mz_4).get q12
    have fH17 : Mo H17 r.2 := by
      have hm := Mo.rf H17
      have hr := Option.some.inj hF; subst hr
      exact hm
    have b_5m := (fH17).len
    have b_5n := (fH17).2
    have b_5p : H17.sh.length ≤ c0 + C := by omega
    have b_5q : H17.sl ≤ s0 + Sl := by omega
    refine hp_callV_v (H1 := H17) (As := []) (rest := []) d_Row_command_146 (k_Row_listCommand z15 (C := H17.sh.length - H.sh.length) (Sl := H17.sl - H.sl) (by show H17.sh.length ≤ _; omega) (by show H17.sl ≤ _; omega)) (ab_mkC s_Row_listCommand (Nat.le_of_ble_eq_true rfl) (Nat.le_of_ble_eq_true rfl) (show (H.sh.length - c0) + (H17.sh.length - H.sh.length) ≤ C from by omega) (show (H.sl - s0) + (H17.sl - H.sl) ≤ Sl from by omega)) (k7 13 rfl rfl) i_Row_listCommand v_Row_listCommand q12 (by decide) rfl rfl (Nat.le_of_ble_eq_true rfl) ?_
    refine ab_widen (cells' := H17.sh.length - c0) (slots' := H17.sl - s0) (by show _ + (H17.sh.length - H.sh.length) ≤ _; omega) (by show _ + (H17.sl - H.sl) ≤ _; omega) ?_
    clear b_5l b_5s b_5m b_5n
    exact ab_vret d_Row_command_149 rfl (by show _ ≤ C; omega) (by show _ ≤ Sl; omega) (by have hr := Option.some.inj hF; subst hr; exact ⟨rfl, rfl⟩)
def F_Row_command (N : Nat) (p0 : Nat) (p1 : Int32) (H : Hp) : Option (Unit × Hp) :=
    ck (H.sh[p0]? = some (8, 0)) <|
    rf (H.P p0 10) fun a2 =>
    ar H 100 a2 fun n4 =>
    ck (inb (0 : Int32) n4) <|
    bnd (H.sD a2 ((0 : Int32)).toNatClampNeg p1) fun H7 =>
    if p1 = 20 then
    bC (F_Row_commandSpawn N p0 H7) fun v10 H11 =>
    B_Row_command_138 N p0 p1  H11
    else if p1 = 22 then
    rf (H7.P p0 10) fun a25 =>
    bC (F_Row_nextCode N p0 H7) fun v28 H29 =>
    ar H29 100 a25 fun n30 =>
    ck (inb (2 : Int32) n30) <|
    bnd (H29.sD a25 ((2 : Int32)).toNatClampNeg v28) fun H33 =>
    rf (H33.P p0 10) fun a34 =>
    bC (F_Row_pop N p0 H33) fun v37 H38 =>
    ar H38 100 a34 fun n39 =>
    ck (inb (1 : Int32) n39) <|
    bnd (H38.sD a34 ((1 : Int32)).toNatClampNeg v37) fun H42 =>
    B_Row_command_138 N p0 p1  H42
    else if p1 = 23 then
    rf (H7.P p0 10) fun a44 =>
    bC (F_Row_nextCode N p0 H7) fun v47 H48 =>
    ar H48 100 a44 fun n49 =>
    ck (inb (2 : Int32) n49) <|
    bnd (H48.sD a44 ((2 : Int32)).toNatClampNeg v47) fun H52 =>
    rf (H52.P p0 10) fun a53 =>
    bC (F_Row_pop N p0 H52) fun v56 H57 =>
    ar H57 100 a53 fun n58 =>
    ck (inb (1 : Int32) n58) <|
    bnd (H57.sD a53 ((1 : Int32)).toNatClampNeg v56) fun H61 =>
    B_Row_command_138 N p0 p1  H61
    else if p1 = 24 then
    rf (H7.P p0 10) fun a63 =>
    bC (F_Row_nextCode N p0 H7) fun v66 H67 =>
    ar H67 100 a63 fun n68 =>
    ck (inb (2 : Int32) n68) <|
    bnd (H67.sD a63 ((2 : Int32)).toNatClampNeg v66) fun H71 =>
    rf (H71.P p0 10) fun a72 =>
    bC (F_Row_nextCode N p0 H71) fun v75 H76 =>
    ar H76 100 a72 fun n77 =>
    ck (inb (3 : Int32) n77) <|
    bnd (H76.sD a72 ((3 : Int32)).toNatClampNeg v75) fun H80 =>
    rf (H80.P p0 10) fun a81 =>
    bC (F_Row_pop N p0 H80) fun v84 H85 =>
    ar H85 100 a81 fun n86 =>
    ck (inb (4 : Int32) n86) <|
    bnd (H85.sD a81 ((4 : Int32)).toNatClampNeg v84) fun H89 =>
    rf (H89.P p0 10) fun a90 =>
    bC (F_Row_pop N p0 H89) fun v93 H94 =>
    ar H94 100 a90 fun n95 =>
    ck (inb (1 : Int32) n95) <|
    bnd (H94.sD a90 ((1 : Int32)).toNatClampNeg v93) fun H98 =>
    B_Row_command_138 N p0 p1  H98
    else if p1 = 25 then
    bC (F_Row_commandEmit N p0 H7) fun v101 H102 =>
    B_Row_command_138 N p0 p1  H102
    else rf (H7.P p0 10) fun a104 =>
    bC (F_Row_pop N p0 H7) fun v107 H108 =>
    ar H108 100 a104 fun n109 =>
    ck (inb (1 : Int32) n109) <|
    bnd (H108.sD a104 ((1 : Int32)).toNatClampNeg v107) fun H112 =>
    B_Row_command_138 N p0 p1  H112
set_option maxRecDepth 20000 in
set_option maxHeartbeats 2000000 in
theorem m_Row_command {N : Nat} {p0 : Nat} {p1 : Int32} {H : Hp} {r : Unit × Hp} (hF : F_Row_command N p0 p1 H = some r) : Mo H r.2 := by
  unfold F_Row_command at hF
  have hm := Mo.rf H
  obtain ⟨q113, hG⟩ := ck_s hF; clear hF
  obtain ⟨a114, e115, hF⟩ := rf_s hG; clear hG
  obtain ⟨n116, q117, hG⟩ := ar_s hF; clear hF
  obtain ⟨q118, hF⟩ := ck_s hG; clear hG
  obtain ⟨H119, eH119, hG⟩ := bnd_g hF; clear hF
  replace hm : Mo H H119 := by rw [eH119]; exact hm
  rcases ite_s hG with ⟨q_43, hF⟩ | ⟨q_43, hF⟩
  · clear hG
    obtain ⟨v122, H123, z121, hG⟩ := bC_s hF; clear hF
    replace hm : Mo H H123 := hm.tr ((m_Row_commandSpawn z121)).mo
    exact hm.tr (mB_Row_command_138 hG)
  clear hG
  rcases ite_s hF with ⟨q_44, hG⟩ | ⟨q_44, hG⟩
  · clear hF
    obtain ⟨a125, e126, hF⟩ := rf_s hG; clear hG
    obtain ⟨v128, H129, z127, hG⟩ := bC_s hF; clear hF
    replace hm : Mo H H129 := hm.tr ((m_Row_nextCode z127)).mo
    obtain ⟨n130, q131, hF⟩ := ar_s hG; clear hG
    obtain ⟨q132, hG⟩ := ck_s hF; clear hF
    obtain ⟨H133, eH133, hF⟩ := bnd_g hG; clear hG
    replace hm : Mo H H133 := by rw [eH133]; exact hm
    obtain ⟨a134, e135, hG⟩ := rf_s hF; clear hF
    obtain ⟨v137, H138, z136, hF⟩ := bC_s hG; clear hG
    replace hm : Mo H H138 := hm.tr ((m_Row_pop z136)).mo
    obtain ⟨n139, q140, hG⟩ := ar_s hF; clear hF
    obtain ⟨q141, hF⟩ := ck_s hG; clear hG
    obtain ⟨H142, eH142, hG⟩ := bnd_g hF; clear hF
    replace hm : Mo H H142 := by rw [eH142]; exact hm
    exact hm.tr (mB_Row_command_138 hG)
  clear hF
  rcases ite_s hG with ⟨q_47, hF⟩ | ⟨q_47, hF⟩
  · clear hG
    obtain ⟨a144, e145, hG⟩ := rf_s hF; clear hF
    obtain ⟨v147, H148, z146, hF⟩ := bC_s hG; clear hG
    replace hm : Mo H H148 := hm.tr ((m_Row_nextCode z146)).mo
    obtain ⟨n149, q150, hG⟩ := ar_s hF; clear hF
    obtain ⟨q151, hF⟩ := ck_s hG; clear hG
    obtain ⟨H152, eH152, hG⟩ := bnd_g hF; clear hF
    replace hm : Mo H H152 := by rw [eH152]; exact hm
    obtain ⟨a153, e154, hF⟩ := rf_s hG; clear hG
    obtain ⟨v156, H157, z155, hG⟩ := bC_s hF; clear hF
    replace hm : Mo H H157 := hm.tr ((m_Row_pop z155)).mo
    obtain ⟨n158, q159, hF⟩ := ar_s hG; clear hG
    obtain ⟨q160, hG⟩ := ck_s hF; clear hF
    obtain ⟨H161, eH161, hF⟩ := bnd_g hG; clear hG
    replace hm : Mo H H161 := by rw [eH161]; exact hm
    exact hm.tr (mB_Row_command_138 hF)
  clear hG
  rcases ite_s hF with ⟨q_50, hG⟩ | ⟨q_50, hG⟩
  · clear hF
    obtain ⟨a163, e164, hF⟩ := rf_s hG; clear hG
    obtain ⟨v166, H167, z165, hG⟩ := bC_s hF; clear hF
    replace hm : Mo H H167 := hm.tr ((m_Row_nextCode z165)).mo
    obtain ⟨n168, q169, hF⟩ := ar_s hG; clear hG
    obtain ⟨q170, hG⟩ := ck_s hF; clear hF
    obtain ⟨H171, eH171, hF⟩ := bnd_g hG; clear hG
    replace hm : Mo H H171 := by rw [eH171]; exact hm
    obtain ⟨a172, e173, hG⟩ := rf_s hF; clear hF
    obtain ⟨v175, H176, z174, hF⟩ := bC_s hG; clear hG
    replace hm : Mo H H176 := hm.tr ((m_Row_nextCode z174)).mo
    obtain ⟨n177, q178, hG⟩ := ar_s hF; clear hF
    obtain ⟨q179, hF⟩ := ck_s hG; clear hG
    obtain ⟨H180, eH180, hG⟩ := bnd_g hF; clear hF
    replace hm : Mo H H180 := by rw [eH180]; exact hm
    obtain ⟨a181, e182, hF⟩ := rf_s hG; clear hG
    obtain ⟨v184, H185, z183, hG⟩ := bC_s hF; clear hF
    replace hm : Mo H H185 := hm.tr ((m_Row_pop z183)).mo
    obtain ⟨n186, q187, hF⟩ := ar_s hG; clear hG
    obtain ⟨q188, hG⟩ := ck_s hF; clear hF
    obtain ⟨H189, eH189, hF⟩ := bnd_g hG; clear hG
    replace hm : Mo H H189 := by rw [eH189]; exact hm
    obtain ⟨a190, e191, hG⟩ := rf_s hF; clear hF
    obtain ⟨v193, H194, z192, hF⟩ := bC_s hG; clear hG
    replace hm : Mo H H194 := hm.tr ((m_Row_pop z192)).mo
    obtain ⟨n195, q196, hG⟩ := ar_s hF; clear hF
    obtain ⟨q197, hF⟩ := ck_s hG; clear hG
    obtain ⟨H198, eH198, hG⟩ := bnd_g hF; clear hF
    replace hm : Mo H H198 := by rw [eH198]; exact hm
    exact hm.tr (mB_Row_command_138 hG)
  clear hF
  rcases ite_s hG with ⟨q_55, hF⟩ | ⟨q_55, hF⟩
  · clear hG
    obtain ⟨v201, H202, z200, hG⟩ := bC_s hF; clear hF
    replace hm : Mo H H202 := hm.tr ((m_Row_commandEmit z200)).mo
    exact hm.tr (mB_Row_command_138 hG)
  clear hG
  obtain ⟨a203, e204, hG⟩ := rf_s hF; clear hF
  obtain ⟨v206, H207, z205, hF⟩ := bC_s hG; clear hG
  replace hm : Mo H H207 := hm.tr ((m_Row_pop z205)).mo
  obtain ⟨n208, q209, hG⟩ := ar_s hF; clear hF
  obtain ⟨q210, hF⟩ := ck_s hG; clear hG
  obtain ⟨H211, eH211, hG⟩ := bnd_g hF; clear hF
  replace hm : Mo H H211 := by rw [eH211]; exact hm
  exact hm.tr (mB_Row_command_138 hG)
set_option maxRecDepth 20000 in
set_option maxHeartbeats 2000000 in
theorem k_Row_command {N : Nat} {p0 : Nat} {p1 : Int32} {H : Hp} {r : Unit × Hp} {C Sl : Nat} (hF : F_Row_command N p0 p1 H = some r) (hC : r.2.sh.length ≤ H.sh.length + C) (hS : r.2.sl ≤ H.sl + Sl) : ab_M y_Row_command { frames := 3, cells := C, slots := Sl, locals := 103 } [.ref p0, .int p1] (hpw H) (po (.returned none) r.2) := by
  unfold F_Row_command at hF
  obtain ⟨c0, e0⟩ : ∃ q, q = H.sh.length := ⟨_, rfl⟩
  obtain ⟨s0, e1⟩ : ∃ q, q = H.sl := ⟨_, rfl⟩
  rw [← e0] at hC
  rw [← e1] at hS
  have hc0 : c0 ≤ H.sh.length := Nat.le_of_eq e0
  have hs0 : s0 ≤ H.sl := Nat.le_of_eq e1
  have hcc : H.sh.length ≤ c0 + C := by omega
  have hss : H.sl ≤ s0 + Sl := by omega
  refine ab_of2 (lv := [some (.ref p0), some (.int p1)]) 0 rfl rfl (Nat.le_of_ble_eq_true rfl) ?_
  refine ab_widen (cells' := H.sh.length - c0) (slots' := H.sl - s0) (Nat.zero_le _) (Nat.zero_le _) ?_
  refine ab_aload_n d_Row_command_0 rfl rfl rfl ?_
  obtain ⟨q1, hG⟩ := ck_s hF; clear hF
  obtain ⟨a2, e3, hF⟩ := rf_s hG; clear hG
  refine hp_getR (f := 10) d_Row_command_1 q1 (by decide) rfl (by decide) (k2 72 rfl rfl) rfl e3 ?_
  refine ab_iconst (v := 0) d_Row_command_4 (by decide) ?_
  refine ab_iload_n d_Row_command_5 rfl rfl ?_
  obtain ⟨n4, q5, hG⟩ := ar_s hF; clear hF
  obtain ⟨q6, hF⟩ := ck_s hG; clear hG
  refine hp_iast d_Row_command_6 tI q5 q6 ?_
  refine hp_gen (fun H7 eH7 => ?_)
  replace hF := bnd_s eH7 hF
  have s_1 : Sa H H7 := by rw [eH7]; exact Sa.rf _
  refine ab_iload_n d_Row_command_7 rfl rfl ?_
  by_cases t8 : p1 = 20
  · rw [if_pos t8] at hF
    refine ab_tableIn (off := 40) (tgt := 48) d_Row_command_8 (by rw [t8]; decide) (by rw [t8]; decide) (by rw [t8]; decide) (by decide) ?_
    refine ab_aload_n d_Row_command_48 rfl rfl rfl ?_
    obtain ⟨v10, H11, z9, hG⟩ := bC_s hF; clear hF
    refine ab_widen (cells' := H7.sh.length - c0) (slots' := H7.sl - s0) (by rw [(s_1).1]; exact Nat.le_refl _) (by rw [(s_1).2]; exact Nat.le_refl _) ?_
    have b_2e := congrArg List.length (s_1).1
    have b_2f := (s_1).2
    refine hp_callV_v (H1 := H11) (As := []) (rest := []) d_Row_command_49 (k_Row_commandSpawn z9) (ab_mkC s_Row_commandSpawn (Nat.le_of_ble_eq_true rfl) (Nat.le_of_ble_eq_true rfl) (show (H7.sh.length - c0) + 0 ≤ C from by omega) (show (H7.sl - s0) + 0 ≤ Sl from by omega)) (k7 3 rfl rfl) i_Row_commandSpawn v_Row_commandSpawn (by rw [(s_1).1]; exact q1) (by decide) rfl rfl (Nat.le_of_ble_eq_true rfl) ?_
    have s_3 : Sa H H11 := (s_1).tr (m_Row_commandSpawn z9)
    refine ab_widen (cells' := H.sh.length - c0) (slots' := H.sl - s0) (by show (H7.sh.length - c0) + 0 ≤ _; omega) (by show (H7.sl - s0) + 0 ≤ _; omega) ?_
    clear b_2e b_2f
    refine ab_goto (tgt := 138) d_Row_command_52 (by decide) ?_
    refine ab_widen (cells' := H11.sh.length - c0) (slots' := H11.sl - s0) (by rw [(s_3).1]; exact Nat.le_refl _) (by rw [(s_3).2]; exact Nat.le_refl _) ?_
    exact kB_Row_command_138 hG (by rw [(s_3).1]; exact hc0) (by rw [(s_3).2]; exact hs0) (by rw [(s_3).1]; exact hcc) (by rw [(s_3).2]; exact hss) hC hS
  rw [if_neg t8] at hF
  have ut8 : ¬ (20 : Int) = (p1).toInt := fun z => t8 (Int32.toInt_inj.mp (z.symm.trans (by decide)))
  by_cases t24 : p1 = 22
  · rw [if_pos t24] at hF
    refine ab_tableIn (off := 97) (tgt := 105) d_Row_command_8 (by rw [t24]; decide) (by rw [t24]; decide) (by rw [t24]; decide) (by decide) ?_
    refine ab_aload_n d_Row_command_105 rfl rfl rfl ?_
    obtain ⟨a25, e26, hG⟩ := rf_s hF; clear hF
    refine hp_getR (f := 10) d_Row_command_106 (by rw [(s_1).1]; exact q1) (by decide) rfl (by decide) (k2 72 rfl rfl) rfl e26 ?_
    refine ab_iconst (v := 2) d_Row_command_109 (by decide) ?_
    refine ab_aload_n d_Row_command_110 rfl rfl rfl ?_
    obtain ⟨v28, H29, z27, hF⟩ := bC_s hG; clear hG
    refine ab_widen (cells' := H7.sh.length - c0) (slots' := H7.sl - s0) (by rw [(s_1).1]; exact Nat.le_refl _) (by rw [(s_1).2]; exact Nat.le_refl _) ?_
    have b_10e := congrArg List.length (s_1).1
    have b_10f := (s_1).2
    refine hp_callV_a (v := .int v28) (H1 := H29) (As := []) (rest := [.int 2, .ref a25]) d_Row_command_111 (k_Row_nextCode z27) (ab_mkC s_Row_nextCode (Nat.le_of_ble_eq_true rfl) (Nat.le_of_ble_eq_true rfl) (show (H7.sh.length - c0) + 0 ≤ C from by omega) (show (H7.sl - s0) + 0 ≤ Sl from by omega)) (k6 205 rfl rfl) i_Row_nextCode v_Row_nextCode (by rw [(s_1).1]; exact q1) (by decide) rfl rfl (Nat.le_of_ble_eq_true rfl) ?_
    have s_11 : Sa H H29 := (s_1).tr (m_Row_nextCode z27)
    refine ab_widen (cells' := H.sh.length - c0) (slots' := H.sl - s0) (by show (H7.sh.length - c0) + 0 ≤ _; omega) (by show (H7.sl - s0) + 0 ≤ _; omega) ?_
    clear b_10e b_10f
    obtain ⟨n30, q31, hG⟩ := ar_s hF; clear hF
    rw [(s_11).1] at q31
    obtain ⟨q32, hF⟩ := ck_s hG; clear hG
    refine hp_iast d_Row_command_114 tI (by rw [(s_11).1]; exact q31) q32 ?_
    refine hp_gen (fun H33 eH33 => ?_)
    replace hF := bnd_s eH33 hF
    have s_12 : Sa H H33 := by rw [eH33]; exact s_11
    refine ab_aload_n d_Row_command_115 rfl rfl rfl ?_
    obtain ⟨a34, e35, hG⟩ := rf_s hF; clear hF
    refine hp_getR (f := 10) d_Row_command_116 (by rw [(s_12).1]; exact q1) (by decide) rfl (by decide) (k2 72 rfl rfl) rfl e35 ?_
    refine ab_iconst (v := 1) d_Row_command_119 (by decide) ?_
    refine ab_aload_n d_Row_command_120 rfl rfl rfl ?_
    obtain ⟨v37, H38, z36, hF⟩ := bC_s hG; clear hG
    refine ab_widen (cells' := H33.sh.length - c0) (slots' := H33.sl - s0) (by rw [(s_12).1]; exact Nat.le_refl _) (by rw [(s_12).2]; exact Nat.le_refl _) ?_
    have b_13e := congrArg List.length (s_12).1
    have b_13f := (s_12).2
    refine hp_callV_a (v := .int v37) (H1 := H38) (As := []) (rest := [.int 1, .ref a34]) d_Row_command_121 (k_Row_pop z36) (ab_mkC s_Row_pop (Nat.le_of_ble_eq_true rfl) (Nat.le_of_ble_eq_true rfl) (show (H33.sh.length - c0) + 0 ≤ C from by omega) (show (H33.sl - s0) + 0 ≤ Sl from by omega)) (k6 214 rfl rfl) i_Row_pop v_Row_pop (by rw [(s_12).1]; exact q1) (by decide) rfl rfl (Nat.le_of_ble_eq_true rfl) ?_
    have s_14 : Sa H H38 := (s_12).tr (m_Row_pop z36)
    refine ab_widen (cells' := H.sh.length - c0) (slots' := H.sl - s0) (by show (H33.sh.length - c0) + 0 ≤ _; omega) (by show (H33.sl - s0) + 0 ≤ _; omega) ?_
    clear b_13e b_13f
    obtain ⟨n39, q40, hG⟩ := ar_s hF; clear hF
    rw [(s_14).1] at q40
    obtain ⟨q41, hF⟩ := ck_s hG; clear hG
    refine hp_iast d_Row_command_124 tI (by rw [(s_14).1]; exact q40) q41 ?_
    refine hp_gen (fun H42 eH42 => ?_)
    replace hF := bnd_s eH42 hF
    have s_15 : Sa H H42 := by rw [eH42]; exact s_14
    refine ab_goto (tgt := 138) d_Row_command_125 (by decide) ?_
    refine ab_widen (cells' := H42.sh.length - c0) (slots' := H42.sl - s0) (by rw [(s_15).1]; exact Nat.le_refl _) (by rw [(s_15).2]; exact Nat.le_refl _) ?_
    exact kB_Row_command_138 hF (by rw [(s_15).1]; exact hc0) (by rw [(s_15).2]; exact hs0) (by rw [(s_15).1]; exact hcc) (by rw [(s_15).2]; exact hss) hC hS
  rw [if_neg t24] at hF
  have ut24 : ¬ (22 : Int) = (p1).toInt := fun z => t24 (Int32.toInt_inj.mp (z.symm.trans (by decide)))
  by_cases t43 : p1 = 23
  · rw [if_pos t43] at hF
    refine ab_tableIn (off := 97) (tgt := 105) d_Row_command_8 (by rw [t43]; decide) (by rw [t43]; decide) (by rw [t43]; decide) (by decide) ?_
    refine ab_aload_n d_Row_command_105 rfl rfl rfl ?_
    obtain ⟨a44, e45, hG⟩ := rf_s hF; clear hF
    refine hp_getR (f := 10) d_Row_command_106 (by rw [(s_1).1]; exact q1) (by decide) rfl (by decide) (k2 72 rfl rfl) rfl e45 ?_
    refine ab_iconst (v := 2) d_Row_command_109 (by decide) ?_
    refine ab_aload_n d_Row_command_110 rfl rfl rfl ?_
    obtain ⟨v47, H48, z46, hF⟩ := bC_s hG; clear hG
    refine ab_widen (cells' := H7.sh.length - c0) (slots' := H7.sl - s0) (by rw [(s_1).1]; exact Nat.le_refl _) (by rw [(s_1).2]; exact Nat.le_refl _) ?_
    have b_16e := congrArg List.length (s_1).1
    have b_16f := (s_1).2
    refine hp_callV_a (v := .int v47) (H1 := H48) (As := []) (rest := [.int 2, .ref a44]) d_Row_command_111 (k_Row_nextCode z46) (ab_mkC s_Row_nextCode (Nat.le_of_ble_eq_true rfl) (Nat.le_of_ble_eq_true rfl) (show (H7.sh.length - c0) + 0 ≤ C from by omega) (show (H7.sl - s0) + 0 ≤ Sl from by omega)) (k6 205 rfl rfl) i_Row_nextCode v_Row_nextCode (by rw [(s_1).1]; exact q1) (by decide) rfl rfl (Nat.le_of_ble_eq_true rfl) ?_
    have s_17 : Sa H H48 := (s_1).tr (m_Row_nextCode z46)
    refine ab_widen (cells' := H.sh.length - c0) (slots' := H.sl - s0) (by show (H7.sh.length - c0) + 0 ≤ _; omega) (by show (H7.sl - s0) + 0 ≤ _; omega) ?_
    clear b_16e b_16f
    obtain ⟨n49, q50, hG⟩ := ar_s hF; clear hF
    rw [(s_17).1] at q50
    obtain ⟨q51, hF⟩ := ck_s hG; clear hG
    refine hp_iast d_Row_command_114 tI (by rw [(s_17).1]; exact q50) q51 ?_
    refine hp_gen (fun H52 eH52 => ?_)
    replace hF := bnd_s eH52 hF
    have s_18 : Sa H H52 := by rw [eH52]; exact s_17
    refine ab_aload_n d_Row_command_115 rfl rfl rfl ?_
    obtain ⟨a53, e54, hG⟩ := rf_s hF; clear hF
    refine hp_getR (f := 10) d_Row_command_116 (by rw [(s_18).1]; exact q1) (by decide) rfl (by decide) (k2 72 rfl rfl) rfl e54 ?_
    refine ab_iconst (v := 1) d_Row_command_119 (by decide) ?_
    refine ab_aload_n d_Row_command_120 rfl rfl rfl ?_
    obtain ⟨v56, H57, z55, hF⟩ := bC_s hG; clear hG
    refine ab_widen (cells' := H52.sh.length - c0) (slots' := H52.sl - s0) (by rw [(s_18).1]; exact Nat.le_refl _) (by rw [(s_18).2]; exact Nat.le_refl _) ?_
    have b_19e := congrArg List.length (s_18).1
    have b_19f := (s_18).2
    refine hp_callV_a (v := .int v56) (H1 := H57) (As := []) (rest := [.int 1, .ref a53]) d_Row_command_121 (k_Row_pop z55) (ab_mkC s_Row_pop (Nat.le_of_ble_eq_true rfl) (Nat.le_of_ble_eq_true rfl) (show (H52.sh.length - c0) + 0 ≤ C from by omega) (show (H52.sl - s0) + 0 ≤ Sl from by omega)) (k6 214 rfl rfl) i_Row_pop v_Row_pop (by rw [(s_18).1]; exact q1) (by decide) rfl rfl (Nat.le_of_ble_eq_true rfl) ?_
    have s_20 : Sa H H57 := (s_18).tr (m_Row_pop z55)
    refine ab_widen (cells' := H.sh.length - c0) (slots' := H.sl - s0) (by show (H52.sh.length - c0) + 0 ≤ _; omega) (by show (H52.sl - s0) + 0 ≤ _; omega) ?_
    clear b_19e b_19f
    obtain ⟨n58, q59, hG⟩ := ar_s hF; clear hF
    rw [(s_20).1] at q59
    obtain ⟨q60, hF⟩ := ck_s hG; clear hG
    refine hp_iast d_Row_command_124 tI (by rw [(s_20).1]; exact q59) q60 ?_
    refine hp_gen (fun H61 eH61 => ?_)
    replace hF := bnd_s eH61 hF
    have s_21 : Sa H H61 := by rw [eH61]; exact s_20
    refine ab_goto (tgt := 138) d_Row_command_125 (by decide) ?_
    refine ab_widen (cells' := H61.sh.length - c0) (slots' := H61.sl - s0) (by rw [(s_21).1]; exact Nat.le_refl _) (by rw [(s_21).2]; exact Nat.le_refl _) ?_
    exact kB_Row_command_138 hF (by rw [(s_21).1]; exact hc0) (by rw [(s_21).2]; exact hs0) (by rw [(s_21).1]; exact hcc) (by rw [(s_21).2]; exact hss) hC hS
  rw [if_neg t43] at hF
  have ut43 : ¬ (23 : Int) = (p1).toInt := fun z => t43 (Int32.toInt_inj.mp (z.symm.trans (by decide)))
  by_cases t62 : p1 = 24
  · rw [if_pos t62] at hF
    refine ab_tableIn (off := 54) (tgt := 62) d_Row_command_8 (by rw [t62]; decide) (by rw [t62]; decide) (by rw [t62]; decide) (by decide) ?_
    refine ab_aload_n d_Row_command_62 rfl rfl rfl ?_
    obtain ⟨a63, e64, hG⟩ := rf_s hF; clear hF
    refine hp_getR (f := 10) d_Row_command_63 (by rw [(s_1).1]; exact q1) (by decide) rfl (by decide) (k2 72 rfl rfl) rfl e64 ?_
    refine ab_iconst (v := 2) d_Row_command_66 (by decide) ?_
    refine ab_aload_n d_Row_command_67 rfl rfl rfl ?_
    obtain ⟨v66, H67, z65, hF⟩ := bC_s hG; clear hG
    refine ab_widen (cells' := H7.sh.length - c0) (slots' := H7.sl - s0) (by rw [(s_1).1]; exact Nat.le_refl _) (by rw [(s_1).2]; exact Nat.le_refl _) ?_
    have b_22e := congrArg List.length (s_1).1
    have b_22f := (s_1).2
    refine hp_callV_a (v := .int v66) (H1 := H67) (As := []) (rest := [.int 2, .ref a63]) d_Row_command_68 (k_Row_nextCode z65) (ab_mkC s_Row_nextCode (Nat.le_of_ble_eq_true rfl) (Nat.le_of_ble_eq_true rfl) (show (H7.sh.length - c0) + 0 ≤ C from by omega) (show (H7.sl - s0) + 0 ≤ Sl from by omega)) (k6 205 rfl rfl) i_Row_nextCode v_Row_nextCode (by rw [(s_1).1]; exact q1) (by decide) rfl rfl (Nat.le_of_ble_eq_true rfl) ?_
    have s_23 : Sa H H67 := (s_1).tr (m_Row_nextCode z65)
    refine ab_widen (cells' := H.sh.length - c0) (slots' := H.sl - s0) (by show (H7.sh.length - c0) + 0 ≤ _; omega) (by show (H7.sl - s0) + 0 ≤ _; omega) ?_
    clear b_22e b_22f
    obtain ⟨n68, q69, hG⟩ := ar_s hF; clear hF
    rw [(s_23).1] at q69
    obtain ⟨q70, hF⟩ := ck_s hG; clear hG
    refine hp_iast d_Row_command_71 tI (by rw [(s_23).1]; exact q69) q70 ?_
    refine hp_gen (fun H71 eH71 => ?_)
    replace hF := bnd_s eH71 hF
    have s_24 : Sa H H71 := by rw [eH71]; exact s_23
    refine ab_aload_n d_Row_command_72 rfl rfl rfl ?_
    obtain ⟨a72, e73, hG⟩ := rf_s hF; clear hF
    refine hp_getR (f := 10) d_Row_command_73 (by rw [(s_24).1]; exact q1) (by decide) rfl (by decide) (k2 72 rfl rfl) rfl e73 ?_
    refine ab_iconst (v := 3) d_Row_command_76 (by decide) ?_
    refine ab_aload_n d_Row_command_77 rfl rfl rfl ?_
    obtain ⟨v75, H76, z74, hF⟩ := bC_s hG; clear hG
    refine ab_widen (cells' := H71.sh.length - c0) (slots' := H71.sl - s0) (by rw [(s_24).1]; exact Nat.le_refl _) (by rw [(s_24).2]; exact Nat.le_refl _) ?_
    have b_25e := congrArg List.length (s_24).1
    have b_25f := (s_24).2
    refine hp_callV_a (v := .int v75) (H1 := H76) (As := []) (rest := [.int 3, .ref a72]) d_Row_command_78 (k_Row_nextCode z74) (ab_mkC s_Row_nextCode (Nat.le_of_ble_eq_true rfl) (Nat.le_of_ble_eq_true rfl) (show (H71.sh.length - c0) + 0 ≤ C from by omega) (show (H71.sl - s0) + 0 ≤ Sl from by omega)) (k6 205 rfl rfl) i_Row_nextCode v_Row_nextCode (by rw [(s_24).1]; exact q1) (by decide) rfl rfl (Nat.le_of_ble_eq_true rfl) ?_
    have s_26 : Sa H H76 := (s_24).tr (m_Row_nextCode z74)
    refine ab_widen (cells' := H.sh.length - c0) (slots' := H.sl - s0) (by show (H71.sh.length - c0) + 0 ≤ _; omega) (by show (H71.sl - s0) + 0 ≤ _; omega) ?_
    clear b_25e b_25f
    obtain ⟨n77, q78, hG⟩ := ar_s hF; clear hF
    rw [(s_26).1] at q78
    obtain ⟨q79, hF⟩ := ck_s hG; clear hG
    refine hp_iast d_Row_command_81 tI (by rw [(s_26).1]; exact q78) q79 ?_
    refine hp_gen (fun H80 eH80 => ?_)
    replace hF := bnd_s eH80 hF
    have s_27 : Sa H H80 := by rw [eH80]; exact s_26
    refine ab_aload_n d_Row_command_82 rfl rfl rfl ?_
    obtain ⟨a81, e82, hG⟩ := rf_s hF; clear hF
    refine hp_getR (f := 10) d_Row_command_83 (by rw [(s_27).1]; exact q1) (by decide) rfl (by decide) (k2 72 rfl rfl) rfl e82 ?_
    refine ab_iconst (v := 4) d_Row_command_86 (by decide) ?_
    refine ab_aload_n d_Row_command_87 rfl rfl rfl ?_
    obtain ⟨v84, H85, z83, hF⟩ := bC_s hG; clear hG
    refine ab_widen (cells' := H80.sh.length - c0) (slots' := H80.sl - s0) (by rw [(s_27).1]; exact Nat.le_refl _) (by rw [(s_27).2]; exact Nat.le_refl _) ?_
    have b_28e := congrArg List.length (s_27).1
    have b_28f := (s_27).2
    refine hp_callV_a (v := .int v84) (H1 := H85) (As := []) (rest := [.int 4, .ref a81]) d_Row_command_88 (k_Row_pop z83) (ab_mkC s_Row_pop (Nat.le_of_ble_eq_true rfl) (Nat.le_of_ble_eq_true rfl) (show (H80.sh.length - c0) + 0 ≤ C from by omega) (show (H80.sl - s0) + 0 ≤ Sl from by omega)) (k6 214 rfl rfl) i_Row_pop v_Row_pop (by rw [(s_27).1]; exact q1) (by decide) rfl rfl (Nat.le_of_ble_eq_true rfl) ?_
    have s_29 : Sa H H85 := (s_27).tr (m_Row_pop z83)
    refine ab_widen (cells' := H.sh.length - c0) (slots' := H.sl - s0) (by show (H80.sh.length - c0) + 0 ≤ _; omega) (by show (H80.sl - s0) + 0 ≤ _; omega) ?_
    clear b_28e b_28f
    obtain ⟨n86, q87, hG⟩ := ar_s hF; clear hF
    rw [(s_29).1] at q87
    obtain ⟨q88, hF⟩ := ck_s hG; clear hG
    refine hp_iast d_Row_command_91 tI (by rw [(s_29).1]; exact q87) q88 ?_
    refine hp_gen (fun H89 eH89 => ?_)
    replace hF := bnd_s eH89 hF
    have s_30 : Sa H H89 := by rw [eH89]; exact s_29
    refine ab_aload_n d_Row_command_92 rfl rfl rfl ?_
    obtain ⟨a90, e91, hG⟩ := rf_s hF; clear hF
    refine hp_getR (f := 10) d_Row_command_93 (by rw [(s_30).1]; exact q1) (by decide) rfl (by decide) (k2 72 rfl rfl) rfl e91 ?_
    refine ab_iconst (v := 1) d_Row_command_96 (by decide) ?_
    refine ab_aload_n d_Row_command_97 rfl rfl rfl ?_
    obtain ⟨v93, H94, z92, hF⟩ := bC_s hG; clear hG
    refine ab_widen (cells' := H89.sh.length - c0) (slots' := H89.sl - s0) (by rw [(s_30).1]; exact Nat.le_refl _) (by rw [(s_30).2]; exact Nat.le_refl _) ?_
    have b_31e := congrArg List.length (s_30).1
    have b_31f := (s_30).2
    refine hp_callV_a (v := .int v93) (H1 := H94) (As := []) (rest := [.int 1, .ref a90]) d_Row_command_98 (k_Row_pop z92) (ab_mkC s_Row_pop (Nat.le_of_ble_eq_true rfl) (Nat.le_of_ble_eq_true rfl) (show (H89.sh.length - c0) + 0 ≤ C from by omega) (show (H89.sl - s0) + 0 ≤ Sl from by omega)) (k6 214 rfl rfl) i_Row_pop v_Row_pop (by rw [(s_30).1]; exact q1) (by decide) rfl rfl (Nat.le_of_ble_eq_true rfl) ?_
    have s_32 : Sa H H94 := (s_30).tr (m_Row_pop z92)
    refine ab_widen (cells' := H.sh.length - c0) (slots' := H.sl - s0) (by show (H89.sh.length - c0) + 0 ≤ _; omega) (by show (H89.sl - s0) + 0 ≤ _; omega) ?_
    clear b_31e b_31f
    obtain ⟨n95, q96, hG⟩ := ar_s hF; clear hF
    rw [(s_32).1] at q96
    obtain ⟨q97, hF⟩ := ck_s hG; clear hG
    refine hp_iast d_Row_command_101 tI (by rw [(s_32).1]; exact q96) q97 ?_
    refine hp_gen (fun H98 eH98 => ?_)
    replace hF := bnd_s eH98 hF
    have s_33 : Sa H H98 := by rw [eH98]; exact s_32
    refine ab_goto (tgt := 138) d_Row_command_102 (by decide) ?_
    refine ab_widen (cells' := H98.sh.length - c0) (slots' := H98.sl - s0) (by rw [(s_33).1]; exact Nat.le_refl _) (by rw [(s_33).2]; exact Nat.le_refl _) ?_
    exact kB_Row_command_138 hF (by rw [(s_33).1]; exact hc0) (by rw [(s_33).2]; exact hs0) (by rw [(s_33).1]; exact hcc) (by rw [(s_33).2]; exact hss) hC hS
  rw [if_neg t62] at hF
  have ut62 : ¬ (24 : Int) = (p1).toInt := fun z => t62 (Int32.toInt_inj.mp (z.symm.trans (by decide)))
  by_cases t99 : p1 = 25
  · rw [if_pos t99] at hF
    refine ab_tableIn (off := 47) (tgt := 55) d_Row_command_8 (by rw [t99]; decide) (by rw [t99]; decide) (by rw [t99]; decide) (by decide) ?_
    refine ab_aload_n d_Row_command_55 rfl rfl rfl ?_
    obtain ⟨v101, H102, z100, hG⟩ := bC_s hF; clear hF
    refine ab_widen (cells' := H7.sh.length - c0) (slots' := H7.sl - s0) (by rw [(s_1).1]; exact Nat.le_refl _) (by rw [(s_1).2]; exact Nat.le_refl _) ?_
    have b_34e := congrArg List.length (s_1).1
    have b_34f := (s_1).2
    refine hp_callV_v (H1 := H102) (As := []) (rest := []) d_Row_command_56 (k_Row_commandEmit z100) (ab_mkC s_Row_commandEmit (Nat.le_of_ble_eq_true rfl) (Nat.le_of_ble_eq_true rfl) (show (H7.sh.length - c0) + 0 ≤ C from by omega) (show (H7.sl - s0) + 0 ≤ Sl from by omega)) (k7 8 rfl rfl) i_Row_commandEmit v_Row_commandEmit (by rw [(s_1).1]; exact q1) (by decide) rfl rfl (Nat.le_of_ble_eq_true rfl) ?_
    have s_35 : Sa H H102 := (s_1).tr (m_Row_commandEmit z100)
    refine ab_widen (cells' := H.sh.length - c0) (slots' := H.sl - s0) (by show (H7.sh.length - c0) + 0 ≤ _; omega) (by show (H7.sl - s0) + 0 ≤ _; omega) ?_
    clear b_34e b_34f
    refine ab_goto (tgt := 138) d_Row_command_59 (by decide) ?_
    refine ab_widen (cells' := H102.sh.length - c0) (slots' := H102.sl - s0) (by rw [(s_35).1]; exact Nat.le_refl _) (by rw [(s_35).2]; exact Nat.le_refl _) ?_
    exact kB_Row_command_138 hG (by rw [(s_35).1]; exact hc0) (by rw [(s_35).2]; exact hs0) (by rw [(s_35).1]; exact hcc) (by rw [(s_35).2]; exact hss) hC hS
  rw [if_neg t99] at hF
  have ut99 : ¬ (25 : Int) = (p1).toInt := fun z => t99 (Int32.toInt_inj.mp (z.symm.trans (by decide)))
  by_cases t103 : p1 = 21
  · skip
    refine ab_tableIn (off := 120) (tgt := 128) d_Row_command_8 (by rw [t103]; decide) (by rw [t103]; decide) (by rw [t103]; decide) (by decide) ?_
    refine ab_aload_n d_Row_command_128 rfl rfl rfl ?_
    obtain ⟨a104, e105, hG⟩ := rf_s hF; clear hF
    refine hp_getR (f := 10) d_Row_command_129 (by rw [(s_1).1]; exact q1) (by decide) rfl (by decide) (k2 72 rfl rfl) rfl e105 ?_
    refine ab_iconst (v := 1) d_Row_command_132 (by decide) ?_
    refine ab_aload_n d_Row_command_133 rfl rfl rfl ?_
    obtain ⟨v107, H108, z106, hF⟩ := bC_s hG; clear hG
    refine ab_widen (cells' := H7.sh.length - c0) (slots' := H7.sl - s0) (by rw [(s_1).1]; exact Nat.le_refl _) (by rw [(s_1).2]; exact Nat.le_refl _) ?_
    have b_36e := congrArg List.length (s_1).1
    have b_36f := (s_1).2
    refine hp_callV_a (v := .int v107) (H1 := H108) (As := []) (rest := [.int 1, .ref a104]) d_Row_command_134 (k_Row_pop z106) (ab_mkC s_Row_pop (Nat.le_of_ble_eq_true rfl) (Nat.le_of_ble_eq_true rfl) (show (H7.sh.length - c0) + 0 ≤ C from by omega) (show (H7.sl - s0) + 0 ≤ Sl from by omega)) (k6 214 rfl rfl) i_Row_pop v_Row_pop (by rw [(s_1).1]; exact q1) (by decide) rfl rfl (Nat.le_of_ble_eq_true rfl) ?_
    have s_37 : Sa H H108 := (s_1).tr (m_Row_pop z106)
    refine ab_widen (cells' := H.sh.length - c0) (slots' := H.sl - s0) (by show (H7.sh.length - c0) + 0 ≤ _; omega) (by show (H7.sl - s0) + 0 ≤ _; omega) ?_
    clear b_36e b_36f
    obtain ⟨n109, q110, hG⟩ := ar_s hF; clear hF
    rw [(s_37).1] at q110
    obtain ⟨q111, hF⟩ := ck_s hG; clear hG
    refine hp_iast d_Row_command_137 tI (by rw [(s_37).1]; exact q110) q111 ?_
    refine hp_gen (fun H112 eH112 => ?_)
    replace hF := bnd_s eH112 hF
    have s_38 : Sa H H112 := by rw [eH112]; exact s_37
    refine ab_widen (cells' := H112.sh.length - c0) (slots' := H112.sl - s0) (by rw [(s_38).1]; exact Nat.le_refl _) (by rw [(s_38).2]; exact Nat.le_refl _) ?_
    exact kB_Row_command_138 hF (by rw [(s_38).1]; exact hc0) (by rw [(s_38).2]; exact hs0) (by rw [(s_38).1]; exact hcc) (by rw [(s_38).2]; exact hss) hC hS
  have ut103 : ¬ (21 : Int) = (p1).toInt := fun z => t103 (Int32.toInt_inj.mp (z.symm.trans (by decide)))
  refine ab_tableOut (tgt := 128) d_Row_command_8 (by omega) (by decide) ?_
  refine ab_aload_n d_Row_command_128 rfl rfl rfl ?_
  obtain ⟨a104, e105, hG⟩ := rf_s hF; clear hF
  refine hp_getR (f := 10) d_Row_command_129 (by rw [(s_1).1]; exact q1) (by decide) rfl (by decide) (k2 72 rfl rfl) rfl e105 ?_
  refine ab_iconst (v := 1) d_Row_command_132 (by decide) ?_
  refine ab_aload_n d_Row_command_133 rfl rfl rfl ?_
  obtain ⟨v107, H108, z106, hF⟩ := bC_s hG; clear hG
  refine ab_widen (cells' := H7.sh.length - c0) (slots' := H7.sl - s0) (by rw [(s_1).1]; exact Nat.le_refl _) (by rw [(s_1).2]; exact Nat.le_refl _) ?_
  have b_39e := congrArg List.length (s_1).1
  have b_39f := (s_1).2
  refine hp_callV_a (v := .int v107) (H1 := H108) (As := []) (rest := [.int 1, .ref a104]) d_Row_command_134 (k_Row_pop z106) (ab_mkC s_Row_pop (Nat.le_of_ble_eq_true rfl) (Nat.le_of_ble_eq_true rfl) (show (H7.sh.length - c0) + 0 ≤ C from by omega) (show (H7.sl - s0) + 0 ≤ Sl from by omega)) (k6 214 rfl rfl) i_Row_pop v_Row_pop (by rw [(s_1).1]; exact q1) (by decide) rfl rfl (Nat.le_of_ble_eq_true rfl) ?_
  have s_40 : Sa H H108 := (s_1).tr (m_Row_pop z106)
  refine ab_widen (cells' := H.sh.length - c0) (slots' := H.sl - s0) (by show (H7.sh.length - c0) + 0 ≤ _; omega) (by show (H7.sl - s0) + 0 ≤ _; omega) ?_
  clear b_39e b_39f
  obtain ⟨n109, q110, hG⟩ := ar_s hF; clear hF
  rw [(s_40).1] at q110
  obtain ⟨q111, hF⟩ := ck_s hG; clear hG
  refine hp_iast d_Row_command_137 tI (by rw [(s_40).1]; exact q110) q111 ?_
  refine hp_gen (fun H112 eH112 => ?_)
  replace hF := bnd_s eH112 hF
  have s_41 : Sa H H112 := by rw [eH112]; exact s_40
  refine ab_widen (cells' := H112.sh.length - c0) (slots' := H112.sl - s0) (by rw [(s_41).1]; exact Nat.le_refl _) (by rw [(s_41).2]; exact Nat.le_refl _) ?_
  exact kB_Row_command_138 hF (by rw [(s_41).1]; exact hc0) (by rw [(s_41).2]; exact hs0) (by rw [(s_41).1]; exact hcc) (by rw [(s_41).2]; exact hss) hC hS
def y_World_placeOf : ab_Y := (⟨"WorldEngine$World", "placeOf", "(I)I"⟩, prog_12_method_5_code, 3, (some FieldType.int), [])
theorem d_World_placeOf_0 : decode y_World_placeOf.2.1 0 = .ok (.iload_n 1, 1) := by decide +kernel
theorem d_World_placeOf_1 : decode y_World_placeOf.2.1 1 = .ok (.sipush 255, 3) := by decide +kernel
theorem d_World_placeOf_4 : decode y_World_placeOf.2.1 4 = .ok (.iand, 1) := by decide +kernel
theorem d_World_placeOf_5 : decode y_World_placeOf.2.1 5 = .ok (.istore_n 2, 1) := by decide +kernel
theorem d_World_placeOf_6 : decode y_World_placeOf.2.1 6 = .ok (.aload_n 0, 1) := by decide +kernel
theorem d_World_placeOf_7 : decode y_World_placeOf.2.1 7 = .ok (.getfield 13, 3) := by decide +kernel
theorem d_World_placeOf_10 : decode y_World_placeOf.2.1 10 = .ok (.iload_n 2, 1) := by decide +kernel
theorem d_World_placeOf_11 : decode y_World_placeOf.2.1 11 = .ok (.iaload, 1) := by decide +kernel
theorem d_World_placeOf_12 : decode y_World_placeOf.2.1 12 = .ok (.ifCond .lt 24, 3) := by decide +kernel
theorem d_World_placeOf_15 : decode y_World_placeOf.2.1 15 = .ok (.iload_n 1, 1) := by decide +kernel
theorem d_World_placeOf_16 : decode y_World_placeOf.2.1 16 = .ok (.ifCond .lt 20, 3) := by decide +kernel
theorem d_World_placeOf_19 : decode y_World_placeOf.2.1 19 = .ok (.iload_n 1, 1) := by decide +kernel
theorem d_World_placeOf_20 : decode y_World_placeOf.2.1 20 = .ok (.bipush 8, 2) := by decide +kernel
theorem d_World_placeOf_22 : decode y_World_placeOf.2.1 22 = .ok (.iushr, 1) := by decide +kernel
theorem d_World_placeOf_23 : decode y_World_placeOf.2.1 23 = .ok (.aload_n 0, 1) := by decide +kernel
theorem d_World_placeOf_24 : decode y_World_placeOf.2.1 24 = .ok (.getfield 9, 3) := by decide +kernel
theorem d_World_placeOf_27 : decode y_World_placeOf.2.1 27 = .ok (.iload_n 2, 1) := by decide +kernel
theorem d_World_placeOf_28 : decode y_World_placeOf.2.1 28 = .ok (.iaload, 1) := by decide +kernel
theorem d_World_placeOf_29 : decode y_World_placeOf.2.1 29 = .ok (.if_icmp .ne 7, 3) := by decide +kernel
theorem d_World_placeOf_32 : decode y_World_placeOf.2.1 32 = .ok (.iload_n 2, 1) := by decide +kernel
theorem d_World_placeOf_33 : decode y_World_placeOf.2.1 33 = .ok (.goto 4, 3) := by decide +kernel
theorem d_World_placeOf_36 : decode y_World_placeOf.2.1 36 = .ok (.iconst (-1), 1) := by decide +kernel
theorem d_World_placeOf_37 : decode y_World_placeOf.2.1 37 = .ok (.ireturn, 1) := by decide +kernel
theorem s_World_placeOf : ab_Stat y_World_placeOf 1 := ⟨(k7 38 rfl rfl), (k1 10 rfl rfl), ⟨by decide, by decide⟩, by decide +kernel⟩
theorem i_World_placeOf : Cond.instanceMethod y_World_placeOf.1 ∈ ab_T := (k7 36 rfl rfl)
theorem v_World_placeOf : Cond.selects "WorldEngine$World" y_World_placeOf.1 y_World_placeOf.1 ∈ ab_T := (k7 37 rfl rfl)
def F_World_placeOf (N : Nat) (p0 : Nat) (p1 : Int32) (H : Hp) : Option (Int32 × Hp) :=
    bnd ((p1 &&& (255 : Int32))) fun x1 =>
    ck (H.sh[p0]? = some (7, 0)) <|
    rf (H.P p0 8) fun a3 =>
    ar H 100 a3 fun n5 =>
    ck (inb x1 n5) <|
    bnd ((H.D a3 (x1).toNatClampNeg)) fun x8 =>
    if x8 < (0 : Int32) then
    some ((-1), H)
    else
    if p1 < (0 : Int32) then
    some ((-1), H)
    else
    bnd (((p1.toUInt32 >>> (((8 : Int32) : Int32).toUInt32 &&& Int32.toUInt32 31)).toInt32)) fun x11 =>
    rf (H.P p0 7) fun a12 =>
    ar H 100 a12 fun n14 =>
    ck (inb x1 n14) <|
    bnd ((H.D a12 (x1).toNatClampNeg)) fun x17 =>
    if x11 = x17 then
    some (x1, H)
    else
    some ((-1), H)
set_option maxRecDepth 20000 in
set_option maxHeartbeats 2000000 in
theorem m_World_placeOf {N : Nat} {p0 : Nat} {p1 : Int32} {H : Hp} {r : Int32 × Hp} (hF : F_World_placeOf N p0 p1 H = some r) : Sa H r.2 := by
  unfold F_World_placeOf at hF
  have hm := Sa.rf H
  obtain ⟨x19, -, hG⟩ := bnd_g hF; clear hF
  obtain ⟨q20, hF⟩ := ck_s hG; clear hG
  obtain ⟨a21, e22, hG⟩ := rf_s hF; clear hF
  obtain ⟨n23, q24, hF⟩ := ar_s hG; clear hG
  obtain ⟨q25, hG⟩ := ck_s hF; clear hF
  obtain ⟨x26, -, hF⟩ := bnd_g hG; clear hG
  rcases ite_s hF with ⟨q_1, hG⟩ | ⟨q_1, hG⟩
  · clear hF
    have hr := Option.some.inj hG; subst hr
    exact hm
  · clear hF
    rcases ite_s hG with ⟨q_2, hF⟩ | ⟨q_2, hF⟩
    · clear hG
      have hr := Option.some.inj hF; subst hr
      exact hm
    · clear hG
      obtain ⟨x29, -, hG⟩ := bnd_g hF; clear hF
      obtain ⟨a30, e31, hF⟩ := rf_s hG; clear hG
      obtain ⟨n32, q33, hG⟩ := ar_s hF; clear hF
      obtain ⟨q34, hF⟩ := ck_s hG; clear hG
      obtain ⟨x35, -, hG⟩ := bnd_g hF; clear hF
      rcases ite_s hG with ⟨q_3, hF⟩ | ⟨q_3, hF⟩
      · clear hG
        have hr := Option.some.inj hF; subst hr
        exact hm
      · clear hG
        have hr := Option.some.inj hF; subst hr
        exact hm
set_option maxRecDepth 20000 in
set_option maxHeartbeats 2000000 in
theorem k_World_placeOf {N : Nat} {p0 : Nat} {p1 : Int32} {H : Hp} {r : Int32 × Hp} (hF : F_World_placeOf N p0 p1 H = some r) : ab_M y_World_placeOf { frames := 0, cells := 0, slots := 0, locals := 0 } [.ref p0, .int p1] (hpw H) (po (.returned (some (.int r.1))) r.2) := by
  unfold F_World_placeOf at hF
  refine ab_of2 (lv := [some (.ref p0), some (.int p1), none]) 1 rfl rfl (Nat.le_of_ble_eq_true rfl) ?_
  refine ab_iload_n d_World_placeOf_0 rfl rfl ?_
  refine ab_sipush (v := 255) d_World_placeOf_1 (by decide) ?_
  refine ab_iand d_World_placeOf_4 ?_
  refine ab_topi (fun x1 ex1 => ?_)
  replace hF := bnd_s ex1 hF
  refine ab_istore_n (lv' := [some (.ref p0), some (.int p1), some (.int x1)]) d_World_placeOf_5 rfl (by decide) rfl ?_
  refine ab_aload_n d_World_placeOf_6 rfl rfl rfl ?_
  obtain ⟨q2, hG⟩ := ck_s hF; clear hF
  obtain ⟨a3, e4, hF⟩ := rf_s hG; clear hG
  refine hp_getR (f := 8) d_World_placeOf_7 q2 (by decide) rfl (by decide) (k1 229 rfl rfl) rfl e4 ?_
  refine ab_iload_n d_World_placeOf_10 rfl rfl ?_
  obtain ⟨n5, q6, hG⟩ := ar_s hF; clear hF
  obtain ⟨q7, hF⟩ := ck_s hG; clear hG
  refine hp_iald d_World_placeOf_11 tI q6 q7 ?_
  refine ab_topi (fun x8 ex8 => ?_)
  replace hF := bnd_s ex8 hF
  refine ab_if_lt (tgt := 36) d_World_placeOf_12 (by decide) (fun q9 => ?_) (fun q9 => ?_)
  · rw [if_pos q9] at hF
    refine ab_iconst (v := (-1)) d_World_placeOf_36 (by decide) ?_
    exact ab_iret d_World_placeOf_37 rfl (Nat.le_refl _) (Nat.le_refl _) (by have hr := Option.some.inj hF; subst hr; exact ⟨rfl, rfl⟩)
  · rw [if_neg q9] at hF
    refine ab_iload_n d_World_placeOf_15 rfl rfl ?_
    refine ab_if_lt (tgt := 36) d_World_placeOf_16 (by decide) (fun q10 => ?_) (fun q10 => ?_)
    · rw [if_pos q10] at hF
      refine ab_iconst (v := (-1)) d_World_placeOf_36 (by decide) ?_
      exact ab_iret d_World_placeOf_37 rfl (Nat.le_refl _) (Nat.le_refl _) (by have hr := Option.some.inj hF; subst hr; exact ⟨rfl, rfl⟩)
    · rw [if_neg q10] at hF
      refine ab_iload_n d_World_placeOf_19 rfl rfl ?_
      refine ab_bipush (v := 8) d_World_placeOf_20 (by decide) ?_
      refine ab_iushr d_World_placeOf_22 ?_
      refine ab_topi (fun x11 ex11 => ?_)
      replace hF := bnd_s ex11 hF
      refine ab_aload_n d_World_placeOf_23 rfl rfl rfl ?_
      obtain ⟨a12, e13, hG⟩ := rf_s hF; clear hF
      refine hp_getR (f := 7) d_World_placeOf_24 q2 (by decide) rfl (by decide) (k1 227 rfl rfl) rfl e13 ?_
      refine ab_iload_n d_World_placeOf_27 rfl rfl ?_
      obtain ⟨n14, q15, hF⟩ := ar_s hG; clear hG
      obtain ⟨q16, hG⟩ := ck_s hF; clear hF
      refine hp_iald d_World_placeOf_28 tI q15 q16 ?_
      refine ab_topi (fun x17 ex17 => ?_)
      replace hG := bnd_s ex17 hG
      refine ab_icmp_ne (tgt := 36) d_World_placeOf_29 (by decide) (fun q18 => ?_) (fun q18 => ?_)
      · rw [if_neg q18] at hG
        refine ab_iconst (v := (-1)) d_World_placeOf_36 (by decide) ?_
        exact ab_iret d_World_placeOf_37 rfl (Nat.le_refl _) (Nat.le_refl _) (by have hr := Option.some.inj hG; subst hr; exact ⟨rfl, rfl⟩)
      · rw [if_pos q18] at hG
        refine ab_iload_n d_World_placeOf_32 rfl rfl ?_
        refine ab_goto (tgt := 37) d_World_placeOf_33 (by decide) ?_
        exact ab_iret d_World_placeOf_37 rfl (Nat.le_refl _) (Nat.le_refl _) (by have hr := Option.some.inj hG; subst hr; exact ⟨rfl, rfl⟩)
def y_Row_far : ab_Y := (⟨"WorldEngine$Row", "far", "(I)V"⟩, prog_8_method_15_code, 4, none, [])
theorem d_Row_far_0 : decode y_Row_far.2.1 0 = .ok (.aload_n 0, 1) := by decide +kernel
theorem d_Row_far_1 : decode y_Row_far.2.1 1 = .ok (.invokevirtual 88, 3) := by decide +kernel
theorem d_Row_far_4 : decode y_Row_far.2.1 4 = .ok (.istore_n 2, 1) := by decide +kernel
theorem d_Row_far_5 : decode y_Row_far.2.1 5 = .ok (.aload_n 0, 1) := by decide +kernel
theorem d_Row_far_6 : decode y_Row_far.2.1 6 = .ok (.invokevirtual 88, 3) := by decide +kernel
theorem d_Row_far_9 : decode y_Row_far.2.1 9 = .ok (.istore_n 3, 1) := by decide +kernel
theorem d_Row_far_10 : decode y_Row_far.2.1 10 = .ok (.aload_n 0, 1) := by decide +kernel
theorem d_Row_far_11 : decode y_Row_far.2.1 11 = .ok (.getfield 39, 3) := by decide +kernel
theorem d_Row_far_14 : decode y_Row_far.2.1 14 = .ok (.iload_n 1, 1) := by decide +kernel
theorem d_Row_far_15 : decode y_Row_far.2.1 15 = .ok (.iload_n 2, 1) := by decide +kernel
theorem d_Row_far_16 : decode y_Row_far.2.1 16 = .ok (.invokevirtual 151, 3) := by decide +kernel
theorem d_Row_far_19 : decode y_Row_far.2.1 19 = .ok (.ifCond .ne 9, 3) := by decide +kernel
theorem d_Row_far_22 : decode y_Row_far.2.1 22 = .ok (.aload_n 0, 1) := by decide +kernel
theorem d_Row_far_23 : decode y_Row_far.2.1 23 = .ok (.iconst 3, 1) := by decide +kernel
theorem d_Row_far_24 : decode y_Row_far.2.1 24 = .ok (.putfield 71, 3) := by decide +kernel
theorem d_Row_far_27 : decode y_Row_far.2.1 27 = .ok (.return_, 1) := by decide +kernel
theorem d_Row_far_28 : decode y_Row_far.2.1 28 = .ok (.aload_n 0, 1) := by decide +kernel
theorem d_Row_far_29 : decode y_Row_far.2.1 29 = .ok (.aload_n 0, 1) := by decide +kernel
theorem d_Row_far_30 : decode y_Row_far.2.1 30 = .ok (.getfield 39, 3) := by decide +kernel
theorem d_Row_far_33 : decode y_Row_far.2.1 33 = .ok (.iload_n 1, 1) := by decide +kernel
theorem d_Row_far_34 : decode y_Row_far.2.1 34 = .ok (.iload_n 3, 1) := by decide +kernel
theorem d_Row_far_35 : decode y_Row_far.2.1 35 = .ok (.invokevirtual 199, 3) := by decide +kernel
theorem d_Row_far_38 : decode y_Row_far.2.1 38 = .ok (.invokevirtual 129, 3) := by decide +kernel
theorem d_Row_far_41 : decode y_Row_far.2.1 41 = .ok (.return_, 1) := by decide +kernel
theorem s_Row_far : ab_Stat y_Row_far 1 := ⟨(k7 42 rfl rfl), (k1 13 rfl rfl), ⟨by decide, by decide⟩, by decide +kernel⟩
theorem i_Row_far : Cond.instanceMethod y_Row_far.1 ∈ ab_T := (k7 41 rfl rfl)
theorem v_Row_far : Cond.selects "WorldEngine$Row" y_Row_far.1 y_Row_far.1 ∈ ab_T := ab_s (List.mem_of_getElem? (i := 79) rfl) rfl
def F_Row_far (N : Nat) (p0 : Nat) (p1 : Int32) (H : Hp) : Option (Unit × Hp) :=
    ck (H.sh[p0]? = some (8, 0)) <|
    bC (F_Row_nextCode N p0 H) fun v3 H4 =>
    bC (F_Row_nextCode N p0 H4) fun v6 H7 =>
    rf (H7.P p0 3) fun a8 =>
    ck (H7.sh[a8]? = some (7, 0)) <|
    bC (F_World_owns N a8 p1 v3 H7) fun v12 H13 =>
    if v12 = (0 : Int32) then
    bnd (H13.sD p0 16 (3 : Int32)) fun H24 =>
    some ((), H24)
    else
    rf (H13.P p0 3) fun a15 =>
    ck (H13.sh[a15]? = some (7, 0)) <|
    bC (F_World_read N a15 p1 v6 H13) fun v19 H20 =>
    bC (F_Row_push N p0 v19 H20) fun v22 H23 =>
    some ((), H23)
set_option maxRecDepth 20000 in
set_option maxHeartbeats 2000000 in
theorem m_Row_far {N : Nat} {p0 : Nat} {p1 : Int32} {H : Hp} {r : Unit × Hp} (hF : F_Row_far N p0 p1 H = some r) : Sa H r.2 := by
  unfold F_Row_far at hF
  have hm := Sa.rf H
  obtain ⟨q25, hG⟩ := ck_s hF; clear hF
  obtain ⟨v27, H28, z26, hF⟩ := bC_s hG; clear hG
  replace hm : Sa H H28 := hm.tr (m_Row_nextCode z26)
  obtain ⟨v30, H31, z29, hG⟩ := bC_s hF; clear hF
  replace hm : Sa H H31 := hm.tr (m_Row_nextCode z29)
  obtain ⟨a32, e33, hF⟩ := rf_s hG; clear hG
  obtain ⟨q34, hG⟩ := ck_s hF; clear hF
  obtain ⟨v36, H37, z35, hF⟩ := bC_s hG; clear hG
  replace hm : Sa H H37 := hm.tr (m_World_owns z35)
  rcases ite_s hF with ⟨q_10, hG⟩ | ⟨q_10, hG⟩
  · clear hF
    obtain ⟨H39, eH39, hF⟩ := bnd_g hG; clear hG
    replace hm : Sa H H39 := by rw [eH39]; exact hm
    have hr := Option.some.inj hF; subst hr
    exact hm
  · clear hF
    obtain ⟨a40, e41, hF⟩ := rf_s hG; clear hG
    obtain ⟨q42, hG⟩ := ck_s hF; clear hF
    obtain ⟨v44, H45, z43, hF⟩ := bC_s hG; clear hG
    replace hm : Sa H H45 := hm.tr (m_World_read z43)
    obtain ⟨v47, H48, z46, hG⟩ := bC_s hF; clear hF
    replace hm : Sa H H48 := hm.tr (m_Row_push z46)
    have hr := Option.some.inj hG; subst hr
    exact hm
set_option maxRecDepth 20000 in
set_option maxHeartbeats 2000000 in
theorem k_Row_far {N : Nat} {p0 : Nat} {p1 : Int32} {H : Hp} {r : Unit × Hp} (hF : F_Row_far N p0 p1 H = some r) : ab_M y_Row_far { frames := 1, cells := 0, slots := 0, locals := 23 } [.ref p0, .int p1] (hpw H) (po (.returned none) r.2) := by
  unfold F_Row_far at hF
  refine ab_of2 (lv := [some (.ref p0), some (.int p1), none, none]) 2 rfl rfl (Nat.le_of_ble_eq_true rfl) ?_
  refine ab_aload_n d_Row_far_0 rfl rfl rfl ?_
  obtain ⟨q1, hG⟩ := ck_s hF; clear hF
  obtain ⟨v3, H4, z2, hF⟩ := bC_s hG; clear hG
  refine hp_callV_a (v := .int v3) (H1 := H4) (As := []) (rest := []) d_Row_far_1 (k_Row_nextCode z2) (ab_mkC s_Row_nextCode (Nat.le_of_ble_eq_true rfl) (Nat.le_of_ble_eq_true rfl) (Nat.le_refl 0) (Nat.le_refl 0)) (k6 205 rfl rfl) i_Row_nextCode v_Row_nextCode q1 (by decide) rfl rfl (Nat.le_of_ble_eq_true rfl) ?_
  have s_1 : Sa H H4 := (m_Row_nextCode z2)
  refine ab_istore_n (lv' := [some (.ref p0), some (.int p1), some (.int v3), none]) d_Row_far_4 rfl (by decide) rfl ?_
  refine ab_aload_n d_Row_far_5 rfl rfl rfl ?_
  obtain ⟨v6, H7, z5, hG⟩ := bC_s hF; clear hF
  refine hp_callV_a (v := .int v6) (H1 := H7) (As := []) (rest := []) d_Row_far_6 (k_Row_nextCode z5) (ab_mkC s_Row_nextCode (Nat.le_of_ble_eq_true rfl) (Nat.le_of_ble_eq_true rfl) (Nat.le_refl 0) (Nat.le_refl 0)) (k6 205 rfl rfl) i_Row_nextCode v_Row_nextCode (by rw [(s_1).1]; exact q1) (by decide) rfl rfl (Nat.le_of_ble_eq_true rfl) ?_
  have s_2 : Sa H H7 := (s_1).tr (m_Row_nextCode z5)
  refine ab_istore_n (lv' := [some (.ref p0), some (.int p1), some (.int v3), some (.int v6)]) d_Row_far_9 rfl (by decide) rfl ?_
  refine ab_aload_n d_Row_far_10 rfl rfl rfl ?_
  obtain ⟨a8, e9, hF⟩ := rf_s hG; clear hG
  refine hp_getR (f := 3) d_Row_far_11 (by rw [(s_2).1]; exact q1) (by decide) rfl (by decide) (k2 65 rfl rfl) rfl e9 ?_
  refine ab_iload_n d_Row_far_14 rfl rfl ?_
  refine ab_iload_n d_Row_far_15 rfl rfl ?_
  obtain ⟨q10, hG⟩ := ck_s hF; clear hF
  rw [(s_2).1] at q10
  obtain ⟨v12, H13, z11, hF⟩ := bC_s hG; clear hG
  refine hp_callV_a (v := .int v12) (H1 := H13) (As := [.int p1, .int v3]) (rest := []) d_Row_far_16 (k_World_owns z11) (ab_mkC s_World_owns (Nat.le_of_ble_eq_true rfl) (Nat.le_of_ble_eq_true rfl) (Nat.le_refl 0) (Nat.le_refl 0)) (k6 226 rfl rfl) i_World_owns v_World_owns (by rw [(s_2).1]; exact q10) (by decide) rfl rfl (Nat.le_of_ble_eq_true rfl) ?_
  have s_3 : Sa H H13 := (s_2).tr (m_World_owns z11)
  refine ab_if_ne (tgt := 28) d_Row_far_19 (by decide) (fun q14 => ?_) (fun q14 => ?_)
  · rw [if_neg q14] at hF
    refine ab_aload_n d_Row_far_28 rfl rfl rfl ?_
    refine ab_aload_n d_Row_far_29 rfl rfl rfl ?_
    obtain ⟨a15, e16, hG⟩ := rf_s hF; clear hF
    refine hp_getR (f := 3) d_Row_far_30 (by rw [(s_3).1]; exact q1) (by decide) rfl (by decide) (k2 65 rfl rfl) rfl e16 ?_
    refine ab_iload_n d_Row_far_33 rfl rfl ?_
    refine ab_iload_n d_Row_far_34 rfl rfl ?_
    obtain ⟨q17, hF⟩ := ck_s hG; clear hG
    rw [(s_3).1] at q17
    obtain ⟨v19, H20, z18, hG⟩ := bC_s hF; clear hF
    refine hp_callV_a (v := .int v19) (H1 := H20) (As := [.int p1, .int v6]) (rest := [.ref p0]) d_Row_far_35 (k_World_read z18) (ab_mkC s_World_read (Nat.le_of_ble_eq_true rfl) (Nat.le_of_ble_eq_true rfl) (Nat.le_refl 0) (Nat.le_refl 0)) (k7 33 rfl rfl) i_World_read v_World_read (by rw [(s_3).1]; exact q17) (by decide) rfl rfl (Nat.le_of_ble_eq_true rfl) ?_
    have s_4 : Sa H H20 := (s_3).tr (m_World_read z18)
    obtain ⟨v22, H23, z21, hF⟩ := bC_s hG; clear hG
    refine hp_callV_v (H1 := H23) (As := [.int v19]) (rest := []) d_Row_far_38 (k_Row_push z21) (ab_mkC s_Row_push (Nat.le_of_ble_eq_true rfl) (Nat.le_of_ble_eq_true rfl) (Nat.le_refl 0) (Nat.le_refl 0)) (k6 218 rfl rfl) i_Row_push v_Row_push (by rw [(s_4).1]; exact q1) (by decide) rfl rfl (Nat.le_of_ble_eq_true rfl) ?_
    have s_5 : Sa H H23 := (s_4).tr (m_Row_push z21)
    exact ab_vret d_Row_far_41 rfl (Nat.le_refl _) (Nat.le_refl _) (by have hr := Option.some.inj hF; subst hr; exact ⟨rfl, rfl⟩)
  · rw [if_pos q14] at hF
    refine ab_aload_n d_Row_far_22 rfl rfl rfl ?_
    refine ab_iconst (v := 3) d_Row_far_23 (by decide) ?_
    refine hp_putI (v := 3) (f := 16) d_Row_far_24 (by rw [(s_3).1]; exact q1) (by decide) rfl (by decide) (k2 78 rfl rfl) rfl rfl (fun _ => rfl) (fun _ => rfl) rfl ?_
    refine hp_gen (fun H24 eH24 => ?_)
    replace hF := bnd_s eH24 hF
    have s_6 : Sa H H24 := by rw [eH24]; exact s_3
    exact ab_vret d_Row_far_27 rfl (Nat.le_refl _) (Nat.le_refl _) (by have hr := Option.some.inj hF; subst hr; exact ⟨rfl, rfl⟩)
def y_Row_stirred : ab_Y := (⟨"WorldEngine$Row", "stirred", "(II)I"⟩, prog_8_method_17_code, 3, (some FieldType.int), [])
theorem d_Row_stirred_0 : decode y_Row_stirred.2.1 0 = .ok (.iload_n 0, 1) := by decide +kernel
theorem d_Row_stirred_1 : decode y_Row_stirred.2.1 1 = .ok (.iload_n 1, 1) := by decide +kernel
theorem d_Row_stirred_2 : decode y_Row_stirred.2.1 2 = .ok (.ixor, 1) := by decide +kernel
theorem d_Row_stirred_3 : decode y_Row_stirred.2.1 3 = .ok (.ldc 225, 2) := by decide +kernel
theorem d_Row_stirred_5 : decode y_Row_stirred.2.1 5 = .ok (.imul, 1) := by decide +kernel
theorem d_Row_stirred_6 : decode y_Row_stirred.2.1 6 = .ok (.istore_n 2, 1) := by decide +kernel
theorem d_Row_stirred_7 : decode y_Row_stirred.2.1 7 = .ok (.iload_n 2, 1) := by decide +kernel
theorem d_Row_stirred_8 : decode y_Row_stirred.2.1 8 = .ok (.iload_n 2, 1) := by decide +kernel
theorem d_Row_stirred_9 : decode y_Row_stirred.2.1 9 = .ok (.bipush 15, 2) := by decide +kernel
theorem d_Row_stirred_11 : decode y_Row_stirred.2.1 11 = .ok (.iushr, 1) := by decide +kernel
theorem d_Row_stirred_12 : decode y_Row_stirred.2.1 12 = .ok (.ixor, 1) := by decide +kernel
theorem d_Row_stirred_13 : decode y_Row_stirred.2.1 13 = .ok (.ireturn, 1) := by decide +kernel
theorem s_Row_stirred : ab_Stat y_Row_stirred 2 := ⟨(k7 49 rfl rfl), (k1 13 rfl rfl), ⟨by decide, by decide⟩, by decide +kernel⟩
theorem t_Row_stirred : Cond.static y_Row_stirred.1 ∈ ab_T := (k7 48 rfl rfl)
def F_Row_stirred (N : Nat) (p0 : Int32) (p1 : Int32) (H : Hp) : Option (Int32 × Hp) :=
    bnd (((p0 ^^^ p1) * ((-1640531535) : Int32))) fun x1 =>
    bnd (((x1.toUInt32 >>> (((15 : Int32) : Int32).toUInt32 &&& Int32.toUInt32 31)).toInt32)) fun x2 =>
    some (x1 ^^^ x2, H)
set_option maxRecDepth 20000 in
set_option maxHeartbeats 2000000 in
theorem m_Row_stirred {N : Nat} {p0 : Int32} {p1 : Int32} {H : Hp} {r : Int32 × Hp} (hF : F_Row_stirred N p0 p1 H = some r) : Sa H r.2 := by
  unfold F_Row_stirred at hF
  have hm := Sa.rf H
  obtain ⟨x3, -, hG⟩ := bnd_g hF; clear hF
  obtain ⟨x4, -, hF⟩ := bnd_g hG; clear hG
  have hr := Option.some.inj hF; subst hr
  exact hm
set_option maxRecDepth 20000 in
set_option maxHeartbeats 2000000 in
theorem k_Row_stirred {N : Nat} {p0 : Int32} {p1 : Int32} {H : Hp} {r : Int32 × Hp} (hF : F_Row_stirred N p0 p1 H = some r) : ab_M y_Row_stirred { frames := 0, cells := 0, slots := 0, locals := 0 } [.int p0, .int p1] (hpw H) (po (.returned (some (.int r.1))) r.2) := by
  unfold F_Row_stirred at hF
  refine ab_of2 (lv := [some (.int p0), some (.int p1), none]) 1 rfl rfl (Nat.le_of_ble_eq_true rfl) ?_
  refine ab_iload_n d_Row_stirred_0 rfl rfl ?_
  refine ab_iload_n d_Row_stirred_1 rfl rfl ?_
  refine ab_ixor d_Row_stirred_2 ?_
  refine ab_ldc d_Row_stirred_3 (k7 50 rfl rfl) ?_
  refine ab_imul d_Row_stirred_5 ?_
  refine ab_topi (fun x1 ex1 => ?_)
  replace hF := bnd_s ex1 hF
  refine ab_istore_n (lv' := [some (.int p0), some (.int p1), some (.int x1)]) d_Row_stirred_6 rfl (by decide) rfl ?_
  refine ab_iload_n d_Row_stirred_7 rfl rfl ?_
  refine ab_iload_n d_Row_stirred_8 rfl rfl ?_
  refine ab_bipush (v := 15) d_Row_stirred_9 (by decide) ?_
  refine ab_iushr d_Row_stirred_11 ?_
  refine ab_topi (fun x2 ex2 => ?_)
  replace hF := bnd_s ex2 hF
  refine ab_ixor d_Row_stirred_12 ?_
  exact ab_iret d_Row_stirred_13 rfl (Nat.le_refl _) (Nat.le_refl _) (by have hr := Option.some.inj hF; subst hr; exact ⟨rfl, rfl⟩)
def y_Row_draw : ab_Y := (⟨"WorldEngine$Row", "draw", "(I)V"⟩, prog_8_method_16_code, 3, none, [])
theorem d_Row_draw_0 : decode y_Row_draw.2.1 0 = .ok (.iload_n 1, 1) := by decide +kernel
theorem d_Row_draw_1 : decode y_Row_draw.2.1 1 = .ok (.iconst 1, 1) := by decide +kernel
theorem d_Row_draw_2 : decode y_Row_draw.2.1 2 = .ok (.if_icmp .ge 10, 3) := by decide +kernel
theorem d_Row_draw_5 : decode y_Row_draw.2.1 5 = .ok (.aload_n 0, 1) := by decide +kernel
theorem d_Row_draw_6 : decode y_Row_draw.2.1 6 = .ok (.bipush 7, 2) := by decide +kernel
theorem d_Row_draw_8 : decode y_Row_draw.2.1 8 = .ok (.putfield 71, 3) := by decide +kernel
theorem d_Row_draw_11 : decode y_Row_draw.2.1 11 = .ok (.return_, 1) := by decide +kernel
theorem d_Row_draw_12 : decode y_Row_draw.2.1 12 = .ok (.aload_n 0, 1) := by decide +kernel
theorem d_Row_draw_13 : decode y_Row_draw.2.1 13 = .ok (.getfield 39, 3) := by decide +kernel
theorem d_Row_draw_16 : decode y_Row_draw.2.1 16 = .ok (.getfield 216, 3) := by decide +kernel
theorem d_Row_draw_19 : decode y_Row_draw.2.1 19 = .ok (.aload_n 0, 1) := by decide +kernel
theorem d_Row_draw_20 : decode y_Row_draw.2.1 20 = .ok (.getfield 39, 3) := by decide +kernel
theorem d_Row_draw_23 : decode y_Row_draw.2.1 23 = .ok (.getfield 171, 3) := by decide +kernel
theorem d_Row_draw_26 : decode y_Row_draw.2.1 26 = .ok (.invokestatic 219, 3) := by decide +kernel
theorem d_Row_draw_29 : decode y_Row_draw.2.1 29 = .ok (.istore_n 2, 1) := by decide +kernel
theorem d_Row_draw_30 : decode y_Row_draw.2.1 30 = .ok (.iload_n 2, 1) := by decide +kernel
theorem d_Row_draw_31 : decode y_Row_draw.2.1 31 = .ok (.aload_n 0, 1) := by decide +kernel
theorem d_Row_draw_32 : decode y_Row_draw.2.1 32 = .ok (.getfield 39, 3) := by decide +kernel
theorem d_Row_draw_35 : decode y_Row_draw.2.1 35 = .ok (.aload_n 0, 1) := by decide +kernel
theorem d_Row_draw_36 : decode y_Row_draw.2.1 36 = .ok (.getfield 50, 3) := by decide +kernel
theorem d_Row_draw_39 : decode y_Row_draw.2.1 39 = .ok (.invokevirtual 112, 3) := by decide +kernel
theorem d_Row_draw_42 : decode y_Row_draw.2.1 42 = .ok (.invokestatic 219, 3) := by decide +kernel
theorem d_Row_draw_45 : decode y_Row_draw.2.1 45 = .ok (.istore_n 2, 1) := by decide +kernel
theorem d_Row_draw_46 : decode y_Row_draw.2.1 46 = .ok (.iload_n 2, 1) := by decide +kernel
theorem d_Row_draw_47 : decode y_Row_draw.2.1 47 = .ok (.aload_n 0, 1) := by decide +kernel
theorem d_Row_draw_48 : decode y_Row_draw.2.1 48 = .ok (.getfield 46, 3) := by decide +kernel
theorem d_Row_draw_51 : decode y_Row_draw.2.1 51 = .ok (.invokestatic 219, 3) := by decide +kernel
theorem d_Row_draw_54 : decode y_Row_draw.2.1 54 = .ok (.istore_n 2, 1) := by decide +kernel
theorem d_Row_draw_55 : decode y_Row_draw.2.1 55 = .ok (.iload_n 2, 1) := by decide +kernel
theorem d_Row_draw_56 : decode y_Row_draw.2.1 56 = .ok (.aload_n 0, 1) := by decide +kernel
theorem d_Row_draw_57 : decode y_Row_draw.2.1 57 = .ok (.getfield 65, 3) := by decide +kernel
theorem d_Row_draw_60 : decode y_Row_draw.2.1 60 = .ok (.invokestatic 219, 3) := by decide +kernel
theorem d_Row_draw_63 : decode y_Row_draw.2.1 63 = .ok (.istore_n 2, 1) := by decide +kernel
theorem d_Row_draw_64 : decode y_Row_draw.2.1 64 = .ok (.aload_n 0, 1) := by decide +kernel
theorem d_Row_draw_65 : decode y_Row_draw.2.1 65 = .ok (.dup, 1) := by decide +kernel
theorem d_Row_draw_66 : decode y_Row_draw.2.1 66 = .ok (.getfield 65, 3) := by decide +kernel
theorem d_Row_draw_69 : decode y_Row_draw.2.1 69 = .ok (.iconst 1, 1) := by decide +kernel
theorem d_Row_draw_70 : decode y_Row_draw.2.1 70 = .ok (.iadd, 1) := by decide +kernel
theorem d_Row_draw_71 : decode y_Row_draw.2.1 71 = .ok (.putfield 65, 3) := by decide +kernel
theorem d_Row_draw_74 : decode y_Row_draw.2.1 74 = .ok (.aload_n 0, 1) := by decide +kernel
theorem d_Row_draw_75 : decode y_Row_draw.2.1 75 = .ok (.iload_n 2, 1) := by decide +kernel
theorem d_Row_draw_76 : decode y_Row_draw.2.1 76 = .ok (.ldc 224, 2) := by decide +kernel
theorem d_Row_draw_78 : decode y_Row_draw.2.1 78 = .ok (.iand, 1) := by decide +kernel
theorem d_Row_draw_79 : decode y_Row_draw.2.1 79 = .ok (.iload_n 1, 1) := by decide +kernel
theorem d_Row_draw_80 : decode y_Row_draw.2.1 80 = .ok (.irem, 1) := by decide +kernel
theorem d_Row_draw_81 : decode y_Row_draw.2.1 81 = .ok (.invokevirtual 129, 3) := by decide +kernel
theorem d_Row_draw_84 : decode y_Row_draw.2.1 84 = .ok (.return_, 1) := by decide +kernel
theorem s_Row_draw : ab_Stat y_Row_draw 1 := ⟨(k7 46 rfl rfl), (k1 13 rfl rfl), ⟨by decide, by decide⟩, by decide +kernel⟩
theorem i_Row_draw : Cond.instanceMethod y_Row_draw.1 ∈ ab_T := (k7 45 rfl rfl)
theorem v_Row_draw : Cond.selects "WorldEngine$Row" y_Row_draw.1 y_Row_draw.1 ∈ ab_T := ab_s (List.mem_of_getElem? (i := 80) rfl) rfl
def F_Row_draw (N : Nat) (p0 : Nat) (p1 : Int32) (H : Hp) : Option (Unit × Hp) :=
    if (1 : Int32) ≤ p1 then
    ck (H.sh[p0]? = some (8, 0)) <|
    rf (H.P p0 3) fun a3 =>
    ck (H.sh[a3]? = some (7, 0)) <|
    bnd ((H.D a3 1)) fun x6 =>
    rf (H.P p0 3) fun a7 =>
    ck (H.sh[a7]? = some (7, 0)) <|
    bnd ((H.D a7 0)) fun x10 =>
    bC (F_Row_stirred N x6 x10 H) fun v12 H13 =>
    rf (H13.P p0 3) fun a14 =>
    bnd ((H13.D p0 18)) fun x16 =>
    ck (H13.sh[a14]? = some (7, 0)) <|
    bC (F_World_numberAt N a14 x16 H13) fun v19 H20 =>
    bC (F_Row_stirred N v12 v19 H20) fun v22 H23 =>
    bnd ((H23.D p0 17)) fun x24 =>
    bC (F_Row_stirred N v22 x24 H23) fun v26 H27 =>
    bnd ((H27.D p0 14)) fun x28 =>
    bC (F_Row_stirred N v26 x28 H27) fun v30 H31 =>
    bnd ((H31.D p0 14)) fun x32 =>
    bnd (H31.sD p0 14 (x32 + (1 : Int32))) fun H33 =>
    ck (¬ p1 = 0) <|
    bnd (((v30 &&& (2147483647 : Int32)) - (v30 &&& (2147483647 : Int32)) / p1 * p1)) fun x35 =>
    bC (F_Row_push N p0 x35 H33) fun v37 H38 =>
    some ((), H38)
    else
    ck (H.sh[p0]? = some (8, 0)) <|
    bnd (H.sD p0 16 (7 : Int32)) fun H40 =>
    some ((), H40)
set_option maxRecDepth 20000 in
set_option maxHeartbeats 2000000 in
theorem m_Row_draw {N : Nat} {p0 : Nat} {p1 : Int32} {H : Hp} {r : Unit × Hp} (hF : F_Row_draw N p0 p1 H = some r) : Sa H r.2 := by
  unfold F_Row_draw at hF
  have hm := Sa.rf H
  rcases ite_s hF with ⟨q_9, hG⟩ | ⟨q_9, hG⟩
  · clear hF
    obtain ⟨q42, hF⟩ := ck_s hG; clear hG
    obtain ⟨a43, e44, hG⟩ := rf_s hF; clear hF
    obtain ⟨q45, hF⟩ := ck_s hG; clear hG
    obtain ⟨x46, -, hG⟩ := bnd_g hF; clear hF
    obtain ⟨a47, e48, hF⟩ := rf_s hG; clear hG
    obtain ⟨q49, hG⟩ := ck_s hF; clear hF
    obtain ⟨x50, -, hF⟩ := bnd_g hG; clear hG
    obtain ⟨v52, H53, z51, hG⟩ := bC_s hF; clear hF
    replace hm : Sa H H53 := hm.tr (m_Row_stirred z51)
    obtain ⟨a54, e55, hF⟩ := rf_s hG; clear hG
    obtain ⟨x56, -, hG⟩ := bnd_g hF; clear hF
    obtain ⟨q57, hF⟩ := ck_s hG; clear hG
    obtain ⟨v59, H60, z58, hG⟩ := bC_s hF; clear hF
    replace hm : Sa H H60 := hm.tr (m_World_numberAt z58)
    obtain ⟨v62, H63, z61, hF⟩ := bC_s hG; clear hG
    replace hm : Sa H H63 := hm.tr (m_Row_stirred z61)
    obtain ⟨x64, -, hG⟩ := bnd_g hF; clear hF
    obtain ⟨v66, H67, z65, hF⟩ := bC_s hG; clear hG
    replace hm : Sa H H67 := hm.tr (m_Row_stirred z65)
    obtain ⟨x68, -, hG⟩ := bnd_g hF; clear hF
    obtain ⟨v70, H71, z69, hF⟩ := bC_s hG; clear hG
    replace hm : Sa H H71 := hm.tr (m_Row_stirred z69)
    obtain ⟨x72, -, hG⟩ := bnd_g hF; clear hF
    obtain ⟨H73, eH73, hF⟩ := bnd_g hG; clear hG
    replace hm : Sa H H73 := by rw [eH73]; exact hm
    obtain ⟨q74, hG⟩ := ck_s hF; clear hF
    obtain ⟨x75, -, hF⟩ := bnd_g hG; clear hG
    obtain ⟨v77, H78, z76, hG⟩ := bC_s hF; clear hF
    replace hm : Sa H H78 := hm.tr (m_Row_push z76)
    have hr := Option.some.inj hG; subst hr
    exact hm
  · clear hF
    obtain ⟨q79, hF⟩ := ck_s hG; clear hG
    obtain ⟨H80, eH80, hG⟩ := bnd_g hF; clear hF
    replace hm : Sa H H80 := by rw [eH80]; exact hm
    have hr := Option.some.inj hG; subst hr
    exact hm
set_option maxRecDepth 20000 in
set_option maxHeartbeats 2000000 in
theorem k_Row_draw {N : Nat} {p0 : Nat} {p1 : Int32} {H : Hp} {r : Unit × Hp} (hF : F_Row_draw N p0 p1 H = some r) : ab_M y_Row_draw { frames := 1, cells := 0, slots := 0, locals := 22 } [.ref p0, .int p1] (hpw H) (po (.returned none) r.2) := by
  unfold F_Row_draw at hF
  refine ab_of2 (lv := [some (.ref p0), some (.int p1), none]) 1 rfl rfl (Nat.le_of_ble_eq_true rfl) ?_
  refine ab_iload_n d_Row_draw_0 rfl rfl ?_
  refine ab_iconst (v := 1) d_Row_draw_1 (by decide) ?_
  refine ab_icmp_ge (tgt := 12) d_Row_draw_2 (by decide) (fun q1 => ?_) (fun q1 => ?_)
  · rw [if_pos q1] at hF
    refine ab_aload_n d_Row_draw_12 rfl rfl rfl ?_
    obtain ⟨q2, hG⟩ := ck_s hF; clear hF
    obtain ⟨a3, e4, hF⟩ := rf_s hG; clear hG
    refine hp_getR (f := 3) d_Row_draw_13 q2 (by decide) rfl (by decide) (k2 65 rfl rfl) rfl e4 ?_
    obtain ⟨q5, hG⟩ := ck_s hF; clear hF
    refine hp_getI (f := 1) d_Row_draw_16 q5 (by decide) rfl (by decide) (k1 212 rfl rfl) rfl ?_
    refine ab_topi (fun x6 ex6 => ?_)
    replace hG := bnd_s ex6 hG
    refine ab_aload_n d_Row_draw_19 rfl rfl rfl ?_
    obtain ⟨a7, e8, hF⟩ := rf_s hG; clear hG
    refine hp_getR (f := 3) d_Row_draw_20 q2 (by decide) rfl (by decide) (k2 65 rfl rfl) rfl e8 ?_
    obtain ⟨q9, hG⟩ := ck_s hF; clear hF
    refine hp_getI (f := 0) d_Row_draw_23 q9 (by decide) rfl (by decide) (k1 209 rfl rfl) rfl ?_
    refine ab_topi (fun x10 ex10 => ?_)
    replace hG := bnd_s ex10 hG
    obtain ⟨v12, H13, z11, hF⟩ := bC_s hG; clear hG
    refine hp_callS_a (v := .int v12) (H1 := H13) (As := [.int x6, .int x10]) (rest := []) d_Row_draw_26 (k_Row_stirred z11) (ab_mkC s_Row_stirred (Nat.le_of_ble_eq_true rfl) (Nat.le_of_ble_eq_true rfl) (Nat.le_refl 0) (Nat.le_refl 0)) (k7 47 rfl rfl) t_Row_stirred rfl (Nat.le_of_ble_eq_true rfl) ?_
    have s_1 : Sa H H13 := (m_Row_stirred z11)
    refine ab_istore_n (lv' := [some (.ref p0), some (.int p1), some (.int v12)]) d_Row_draw_29 rfl (by decide) rfl ?_
    refine ab_iload_n d_Row_draw_30 rfl rfl ?_
    refine ab_aload_n d_Row_draw_31 rfl rfl rfl ?_
    obtain ⟨a14, e15, hG⟩ := rf_s hF; clear hF
    refine hp_getR (f := 3) d_Row_draw_32 (by rw [(s_1).1]; exact q2) (by decide) rfl (by decide) (k2 65 rfl rfl) rfl e15 ?_
    refine ab_aload_n d_Row_draw_35 rfl rfl rfl ?_
    refine hp_getI (f := 18) d_Row_draw_36 (by rw [(s_1).1]; exact q2) (by decide) rfl (by decide) (k2 80 rfl rfl) rfl ?_
    refine ab_topi (fun x16 ex16 => ?_)
    replace hG := bnd_s ex16 hG
    obtain ⟨q17, hF⟩ := ck_s hG; clear hG
    rw [(s_1).1] at q17
    obtain ⟨v19, H20, z18, hG⟩ := bC_s hF; clear hF
    refine hp_callV_a (v := .int v19) (H1 := H20) (As := [.int x16]) (rest := [.int v12]) d_Row_draw_39 (k_World_numberAt z18) (ab_mkC s_World_numberAt (Nat.le_of_ble_eq_true rfl) (Nat.le_of_ble_eq_true rfl) (Nat.le_refl 0) (Nat.le_refl 0)) (k6 231 rfl rfl) i_World_numberAt v_World_numberAt (by rw [(s_1).1]; exact q17) (by decide) rfl rfl (Nat.le_of_ble_eq_true rfl) ?_
    have s_2 : Sa H H20 := (s_1).tr (m_World_numberAt z18)
    obtain ⟨v22, H23, z21, hF⟩ := bC_s hG; clear hG
    refine hp_callS_a (v := .int v22) (H1 := H23) (As := [.int v12, .int v19]) (rest := []) d_Row_draw_42 (k_Row_stirred z21) (ab_mkC s_Row_stirred (Nat.le_of_ble_eq_true rfl) (Nat.le_of_ble_eq_true rfl) (Nat.le_refl 0) (Nat.le_refl 0)) (k7 47 rfl rfl) t_Row_stirred rfl (Nat.le_of_ble_eq_true rfl) ?_
    have s_3 : Sa H H23 := (s_2).tr (m_Row_stirred z21)
    refine ab_istore_n (lv' := [some (.ref p0), some (.int p1), some (.int v22)]) d_Row_draw_45 rfl (by decide) rfl ?_
    refine ab_iload_n d_Row_draw_46 rfl rfl ?_
    refine ab_aload_n d_Row_draw_47 rfl rfl rfl ?_
    refine hp_getI (f := 17) d_Row_draw_48 (by rw [(s_3).1]; exact q2) (by decide) rfl (by decide) (k2 79 rfl rfl) rfl ?_
    refine ab_topi (fun x24 ex24 => ?_)
    replace hF := bnd_s ex24 hF
    obtain ⟨v26, H27, z25, hG⟩ := bC_s hF; clear hF
    refine hp_callS_a (v := .int v26) (H1 := H27) (As := [.int v22, .int x24]) (rest := []) d_Row_draw_51 (k_Row_stirred z25) (ab_mkC s_Row_stirred (Nat.le_of_ble_eq_true rfl) (Nat.le_of_ble_eq_true rfl) (Nat.le_refl 0) (Nat.le_refl 0)) (k7 47 rfl rfl) t_Row_stirred rfl (Nat.le_of_ble_eq_true rfl) ?_
    have s_4 : Sa H H27 := (s_3).tr (m_Row_stirred z25)
    refine ab_istore_n (lv' := [some (.ref p0), some (.int p1), some (.int v26)]) d_Row_draw_54 rfl (by decide) rfl ?_
    refine ab_iload_n d_Row_draw_55 rfl rfl ?_
    refine ab_aload_n d_Row_draw_56 rfl rfl rfl ?_
    refine hp_getI (f := 14) d_Row_draw_57 (by rw [(s_4).1]; exact q2) (by decide) rfl (by decide) (k2 76 rfl rfl) rfl ?_
    refine ab_topi (fun x28 ex28 => ?_)
    replace hG := bnd_s ex28 hG
    obtain ⟨v30, H31, z29, hF⟩ := bC_s hG; clear hG
    refine hp_callS_a (v := .int v30) (H1 := H31) (As := [.int v26, .int x28]) (rest := []) d_Row_draw_60 (k_Row_stirred z29) (ab_mkC s_Row_stirred (Nat.le_of_ble_eq_true rfl) (Nat.le_of_ble_eq_true rfl) (Nat.le_refl 0) (Nat.le_refl 0)) (k7 47 rfl rfl) t_Row_stirred rfl (Nat.le_of_ble_eq_true rfl) ?_
    have s_5 : Sa H H31 := (s_4).tr (m_Row_stirred z29)
    refine ab_istore_n (lv' := [some (.ref p0), some (.int p1), some (.int v30)]) d_Row_draw_63 rfl (by decide) rfl ?_
    refine ab_aload_n d_Row_draw_64 rfl rfl rfl ?_
    refine ab_dup d_Row_draw_65 rfl ?_
    refine hp_getI (f := 14) d_Row_draw_66 (by rw [(s_5).1]; exact q2) (by decide) rfl (by decide) (k2 76 rfl rfl) rfl ?_
    refine ab_topi (fun x32 ex32 => ?_)
    replace hF := bnd_s ex32 hF
    refine ab_iconst (v := 1) d_Row_draw_69 (by decide) ?_
    refine ab_iadd d_Row_draw_70 ?_
    refine hp_putI (v := x32 + (1 : Int32)) (f := 14) d_Row_draw_71 (by rw [(s_5).1]; exact q2) (by decide) rfl (by decide) (k2 76 rfl rfl) rfl rfl (fun _ => rfl) (fun _ => rfl) rfl ?_
    refine hp_gen (fun H33 eH33 => ?_)
    replace hF := bnd_s eH33 hF
    have s_6 : Sa H H33 := by rw [eH33]; exact s_5
    refine ab_aload_n d_Row_draw_74 rfl rfl rfl ?_
    refine ab_iload_n d_Row_draw_75 rfl rfl ?_
    refine ab_ldc d_Row_draw_76 (k7 51 rfl rfl) ?_
    refine ab_iand d_Row_draw_78 ?_
    refine ab_iload_n d_Row_draw_79 rfl rfl ?_
    obtain ⟨q34, hG⟩ := ck_s hF; clear hF
    refine ab_irem d_Row_draw_80 q34 ?_
    refine ab_topi (fun x35 ex35 => ?_)
    replace hG := bnd_s ex35 hG
    obtain ⟨v37, H38, z36, hF⟩ := bC_s hG; clear hG
    refine hp_callV_v (H1 := H38) (As := [.int x35]) (rest := []) d_Row_draw_81 (k_Row_push z36) (ab_mkC s_Row_push (Nat.le_of_ble_eq_true rfl) (Nat.le_of_ble_eq_true rfl) (Nat.le_refl 0) (Nat.le_refl 0)) (k6 218 rfl rfl) i_Row_push v_Row_push (by rw [(s_6).1]; exact q2) (by decide) rfl rfl (Nat.le_of_ble_eq_true rfl) ?_
    have s_7 : Sa H H38 := (s_6).tr (m_Row_push z36)
    exact ab_vret d_Row_draw_84 rfl (Nat.le_refl _) (Nat.le_refl _) (by have hr := Option.some.inj hF; subst hr; exact ⟨rfl, rfl⟩)
  · rw [if_neg q1] at hF
    refine ab_aload_n d_Row_draw_5 rfl rfl rfl ?_
    refine ab_bipush (v := 7) d_Row_draw_6 (by decide) ?_
    obtain ⟨q39, hG⟩ := ck_s hF; clear hF
    refine hp_putI (v := 7) (f := 16) d_Row_draw_8 q39 (by decide) rfl (by decide) (k2 78 rfl rfl) rfl rfl (fun _ => rfl) (fun _ => rfl) rfl ?_
    refine hp_gen (fun H40 eH40 => ?_)
    replace hG := bnd_s eH40 hG
    have s_8 : Sa H H40 := by rw [eH40]; exact Sa.rf _
    exact ab_vret d_Row_draw_11 rfl (Nat.le_refl _) (Nat.le_refl _) (by have hr := Option.some.inj hG; subst hr; exact ⟨rfl, rfl⟩)
