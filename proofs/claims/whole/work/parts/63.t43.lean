def y_MWorld_init : ab_Y := (⟨"WorldEngineModel$World", "<init>", "()V"⟩, prog_17_method_1_code, 1, none, [])
theorem d_MWorld_init_0 : decode y_MWorld_init.2.1 0 = .ok (.aload_n 0, 1) := by decide +kernel
theorem d_MWorld_init_1 : decode y_MWorld_init.2.1 1 = .ok (.invokespecial 3, 3) := by decide +kernel
theorem d_MWorld_init_4 : decode y_MWorld_init.2.1 4 = .ok (.aload_n 0, 1) := by decide +kernel
theorem d_MWorld_init_5 : decode y_MWorld_init.2.1 5 = .ok (.sipush 256, 3) := by decide +kernel
theorem d_MWorld_init_8 : decode y_MWorld_init.2.1 8 = .ok (.newarray .int, 2) := by decide +kernel
theorem d_MWorld_init_10 : decode y_MWorld_init.2.1 10 = .ok (.putfield 9, 3) := by decide +kernel
theorem d_MWorld_init_13 : decode y_MWorld_init.2.1 13 = .ok (.aload_n 0, 1) := by decide +kernel
theorem d_MWorld_init_14 : decode y_MWorld_init.2.1 14 = .ok (.sipush 256, 3) := by decide +kernel
theorem d_MWorld_init_17 : decode y_MWorld_init.2.1 17 = .ok (.newarray .boolean, 2) := by decide +kernel
theorem d_MWorld_init_19 : decode y_MWorld_init.2.1 19 = .ok (.putfield 15, 3) := by decide +kernel
theorem d_MWorld_init_22 : decode y_MWorld_init.2.1 22 = .ok (.aload_n 0, 1) := by decide +kernel
theorem d_MWorld_init_23 : decode y_MWorld_init.2.1 23 = .ok (.sipush 256, 3) := by decide +kernel
theorem d_MWorld_init_26 : decode y_MWorld_init.2.1 26 = .ok (.newarray .int, 2) := by decide +kernel
theorem d_MWorld_init_28 : decode y_MWorld_init.2.1 28 = .ok (.putfield 19, 3) := by decide +kernel
theorem d_MWorld_init_31 : decode y_MWorld_init.2.1 31 = .ok (.aload_n 0, 1) := by decide +kernel
theorem d_MWorld_init_32 : decode y_MWorld_init.2.1 32 = .ok (.sipush 12288, 3) := by decide +kernel
theorem d_MWorld_init_35 : decode y_MWorld_init.2.1 35 = .ok (.newarray .int, 2) := by decide +kernel
theorem d_MWorld_init_37 : decode y_MWorld_init.2.1 37 = .ok (.putfield 22, 3) := by decide +kernel
theorem d_MWorld_init_40 : decode y_MWorld_init.2.1 40 = .ok (.aload_n 0, 1) := by decide +kernel
theorem d_MWorld_init_41 : decode y_MWorld_init.2.1 41 = .ok (.sipush 256, 3) := by decide +kernel
theorem d_MWorld_init_44 : decode y_MWorld_init.2.1 44 = .ok (.newarray .int, 2) := by decide +kernel
theorem d_MWorld_init_46 : decode y_MWorld_init.2.1 46 = .ok (.putfield 25, 3) := by decide +kernel
theorem d_MWorld_init_49 : decode y_MWorld_init.2.1 49 = .ok (.aload_n 0, 1) := by decide +kernel
theorem d_MWorld_init_50 : decode y_MWorld_init.2.1 50 = .ok (.sipush 256, 3) := by decide +kernel
theorem d_MWorld_init_53 : decode y_MWorld_init.2.1 53 = .ok (.newarray .int, 2) := by decide +kernel
theorem d_MWorld_init_55 : decode y_MWorld_init.2.1 55 = .ok (.putfield 28, 3) := by decide +kernel
theorem d_MWorld_init_58 : decode y_MWorld_init.2.1 58 = .ok (.aload_n 0, 1) := by decide +kernel
theorem d_MWorld_init_59 : decode y_MWorld_init.2.1 59 = .ok (.sipush 256, 3) := by decide +kernel
theorem d_MWorld_init_62 : decode y_MWorld_init.2.1 62 = .ok (.newarray .int, 2) := by decide +kernel
theorem d_MWorld_init_64 : decode y_MWorld_init.2.1 64 = .ok (.putfield 31, 3) := by decide +kernel
theorem d_MWorld_init_67 : decode y_MWorld_init.2.1 67 = .ok (.aload_n 0, 1) := by decide +kernel
theorem d_MWorld_init_68 : decode y_MWorld_init.2.1 68 = .ok (.sipush 1024, 3) := by decide +kernel
theorem d_MWorld_init_71 : decode y_MWorld_init.2.1 71 = .ok (.newarray .int, 2) := by decide +kernel
theorem d_MWorld_init_73 : decode y_MWorld_init.2.1 73 = .ok (.putfield 34, 3) := by decide +kernel
theorem d_MWorld_init_76 : decode y_MWorld_init.2.1 76 = .ok (.aload_n 0, 1) := by decide +kernel
theorem d_MWorld_init_77 : decode y_MWorld_init.2.1 77 = .ok (.bipush 32, 2) := by decide +kernel
theorem d_MWorld_init_79 : decode y_MWorld_init.2.1 79 = .ok (.newarray .int, 2) := by decide +kernel
theorem d_MWorld_init_81 : decode y_MWorld_init.2.1 81 = .ok (.putfield 37, 3) := by decide +kernel
theorem d_MWorld_init_84 : decode y_MWorld_init.2.1 84 = .ok (.aload_n 0, 1) := by decide +kernel
theorem d_MWorld_init_85 : decode y_MWorld_init.2.1 85 = .ok (.invokevirtual 40, 3) := by decide +kernel
theorem d_MWorld_init_88 : decode y_MWorld_init.2.1 88 = .ok (.return_, 1) := by decide +kernel
theorem s_MWorld_init : ab_Stat y_MWorld_init 0 := ⟨(k9 81 rfl rfl), (k1 21 rfl rfl), ⟨by decide, by decide⟩, by decide +kernel⟩
theorem i_MWorld_init : Cond.instanceMethod y_MWorld_init.1 ∈ ab_T := (k9 80 rfl rfl)
def F_MWorld_init (N : Nat) (p0 : Nat) (H : Hp) : Option (Unit × Hp) :=
    ck (¬ (256 : Int32) < 0) <|
    ck (((256 : Int32)).toNatClampNeg * 4 ≤ 536870912) <|
    bnd (H.nw (100, ((256 : Int32)).toNatClampNeg) ((256 : Int32)).toNatClampNeg) fun H3 =>
    bnd H.sh.length fun a4 =>
    ck (H3.sh[p0]? = some (13, 0)) <|
    bnd (H3.sP p0 4 (.ref a4)) fun H6 =>
    ck (¬ (256 : Int32) < 0) <|
    ck (((256 : Int32)).toNatClampNeg * 1 ≤ 536870912) <|
    bnd (H6.nw (102, ((256 : Int32)).toNatClampNeg) ((256 : Int32)).toNatClampNeg) fun H9 =>
    bnd H6.sh.length fun a10 =>
    bnd (H9.sP p0 5 (.ref a10)) fun H11 =>
    ck (¬ (256 : Int32) < 0) <|
    ck (((256 : Int32)).toNatClampNeg * 4 ≤ 536870912) <|
    bnd (H11.nw (100, ((256 : Int32)).toNatClampNeg) ((256 : Int32)).toNatClampNeg) fun H14 =>
    bnd H11.sh.length fun a15 =>
    bnd (H14.sP p0 6 (.ref a15)) fun H16 =>
    ck (¬ (12288 : Int32) < 0) <|
    ck (((12288 : Int32)).toNatClampNeg * 4 ≤ 536870912) <|
    bnd (H16.nw (100, ((12288 : Int32)).toNatClampNeg) ((12288 : Int32)).toNatClampNeg) fun H19 =>
    bnd H16.sh.length fun a20 =>
    bnd (H19.sP p0 7 (.ref a20)) fun H21 =>
    ck (¬ (256 : Int32) < 0) <|
    ck (((256 : Int32)).toNatClampNeg * 4 ≤ 536870912) <|
    bnd (H21.nw (100, ((256 : Int32)).toNatClampNeg) ((256 : Int32)).toNatClampNeg) fun H24 =>
    bnd H21.sh.length fun a25 =>
    bnd (H24.sP p0 9 (.ref a25)) fun H26 =>
    ck (¬ (256 : Int32) < 0) <|
    ck (((256 : Int32)).toNatClampNeg * 4 ≤ 536870912) <|
    bnd (H26.nw (100, ((256 : Int32)).toNatClampNeg) ((256 : Int32)).toNatClampNeg) fun H29 =>
    bnd H26.sh.length fun a30 =>
    bnd (H29.sP p0 10 (.ref a30)) fun H31 =>
    ck (¬ (256 : Int32) < 0) <|
    ck (((256 : Int32)).toNatClampNeg * 4 ≤ 536870912) <|
    bnd (H31.nw (100, ((256 : Int32)).toNatClampNeg) ((256 : Int32)).toNatClampNeg) fun H34 =>
    bnd H31.sh.length fun a35 =>
    bnd (H34.sP p0 11 (.ref a35)) fun H36 =>
    ck (¬ (1024 : Int32) < 0) <|
    ck (((1024 : Int32)).toNatClampNeg * 4 ≤ 536870912) <|
    bnd (H36.nw (100, ((1024 : Int32)).toNatClampNeg) ((1024 : Int32)).toNatClampNeg) fun H39 =>
    bnd H36.sh.length fun a40 =>
    bnd (H39.sP p0 12 (.ref a40)) fun H41 =>
    ck (¬ (32 : Int32) < 0) <|
    ck (((32 : Int32)).toNatClampNeg * 4 ≤ 536870912) <|
    bnd (H41.nw (100, ((32 : Int32)).toNatClampNeg) ((32 : Int32)).toNatClampNeg) fun H44 =>
    bnd H41.sh.length fun a45 =>
    bnd (H44.sP p0 17 (.ref a45)) fun H46 =>
    bC (F_MWorld_begin N p0 H46) fun v48 H49 =>
    some ((), H49)
set_option maxRecDepth 20000 in
set_option maxHeartbeats 2000000 in
theorem m_MWorld_init {N : Nat} {p0 : Nat} {H : Hp} {r : Unit × Hp} (hF : F_MWorld_init N p0 H = some r) : Mo H r.2 := by
  unfold F_MWorld_init at hF
  have hm := Mo.rf H
  obtain ⟨q50, hG⟩ := ck_s hF; clear hF
  obtain ⟨q51, hF⟩ := ck_s hG; clear hG
  obtain ⟨H52, eH52, hG⟩ := bnd_g hF; clear hF
  replace hm : Mo H H52 := hm.tr (by rw [eH52]; exact Mo.nw _ _ _)
  obtain ⟨a53, -, hF⟩ := bnd_g hG; clear hG
  obtain ⟨q54, hG⟩ := ck_s hF; clear hF
  obtain ⟨H55, eH55, hF⟩ := bnd_g hG; clear hG
  replace hm : Mo H H55 := by rw [eH55]; exact hm
  obtain ⟨q56, hG⟩ := ck_s hF; clear hF
  obtain ⟨q57, hF⟩ := ck_s hG; clear hG
  obtain ⟨H58, eH58, hG⟩ := bnd_g hF; clear hF
  replace hm : Mo H H58 := hm.tr (by rw [eH58]; exact Mo.nw _ _ _)
  obtain ⟨a59, -, hF⟩ := bnd_g hG; clear hG
  obtain ⟨H60, eH60, hG⟩ := bnd_g hF; clear hF
  replace hm : Mo H H60 := by rw [eH60]; exact hm
  obtain ⟨q61, hF⟩ := ck_s hG; clear hG
  obtain ⟨q62, hG⟩ := ck_s hF; clear hF
  obtain ⟨H63, eH63, hF⟩ := bnd_g hG; clear hG
  replace hm : Mo H H63 := hm.tr (by rw [eH63]; exact Mo.nw _ _ _)
  obtain ⟨a64, -, hG⟩ := bnd_g hF; clear hF
  obtain ⟨H65, eH65, hF⟩ := bnd_g hG; clear hG
  replace hm : Mo H H65 := by rw [eH65]; exact hm
  obtain ⟨q66, hG⟩ := ck_s hF; clear hF
  obtain ⟨q67, hF⟩ := ck_s hG; clear hG
  obtain ⟨H68, eH68, hG⟩ := bnd_g hF; clear hF
  replace hm : Mo H H68 := hm.tr (by rw [eH68]; exact Mo.nw _ _ _)
  obtain ⟨a69, -, hF⟩ := bnd_g hG; clear hG
  obtain ⟨H70, eH70, hG⟩ := bnd_g hF; clear hF
  replace hm : Mo H H70 := by rw [eH70]; exact hm
  obtain ⟨q71, hF⟩ := ck_s hG; clear hG
  obtain ⟨q72, hG⟩ := ck_s hF; clear hF
  obtain ⟨H73, eH73, hF⟩ := bnd_g hG; clear hG
  replace hm : Mo H H73 := hm.tr (by rw [eH73]; exact Mo.nw _ _ _)
  obtain ⟨a74, -, hG⟩ := bnd_g hF; clear hF
  obtain ⟨H75, eH75, hF⟩ := bnd_g hG; clear hG
  replace hm : Mo H H75 := by rw [eH75]; exact hm
  obtain ⟨q76, hG⟩ := ck_s hF; clear hF
  obtain ⟨q77, hF⟩ := ck_s hG; clear hG
  obtain ⟨H78, eH78, hG⟩ := bnd_g hF; clear hF
  replace hm : Mo H H78 := hm.tr (by rw [eH78]; exact Mo.nw _ _ _)
  obtain ⟨a79, -, hF⟩ := bnd_g hG; clear hG
  obtain ⟨H80, eH80, hG⟩ := bnd_g hF; clear hF
  replace hm : Mo H H80 := by rw [eH80]; exact hm
  obtain ⟨q81, hF⟩ := ck_s hG; clear hG
  obtain ⟨q82, hG⟩ := ck_s hF; clear hF
  obtain ⟨H83, eH83, hF⟩ := bnd_g hG; clear hG
  replace hm : Mo H H83 := hm.tr (by rw [eH83]; exact Mo.nw _ _ _)
  obtain ⟨a84, -, hG⟩ := bnd_g hF; clear hF
  obtain ⟨H85, eH85, hF⟩ := bnd_g hG; clear hG
  replace hm : Mo H H85 := by rw [eH85]; exact hm
  obtain ⟨q86, hG⟩ := ck_s hF; clear hF
  obtain ⟨q87, hF⟩ := ck_s hG; clear hG
  obtain ⟨H88, eH88, hG⟩ := bnd_g hF; clear hF
  replace hm : Mo H H88 := hm.tr (by rw [eH88]; exact Mo.nw _ _ _)
  obtain ⟨a89, -, hF⟩ := bnd_g hG; clear hG
  obtain ⟨H90, eH90, hG⟩ := bnd_g hF; clear hF
  replace hm : Mo H H90 := by rw [eH90]; exact hm
  obtain ⟨q91, hF⟩ := ck_s hG; clear hG
  obtain ⟨q92, hG⟩ := ck_s hF; clear hF
  obtain ⟨H93, eH93, hF⟩ := bnd_g hG; clear hG
  replace hm : Mo H H93 := hm.tr (by rw [eH93]; exact Mo.nw _ _ _)
  obtain ⟨a94, -, hG⟩ := bnd_g hF; clear hF
  obtain ⟨H95, eH95, hF⟩ := bnd_g hG; clear hG
  replace hm : Mo H H95 := by rw [eH95]; exact hm
  obtain ⟨v97, H98, z96, hG⟩ := bC_s hF; clear hF
  replace hm : Mo H H98 := hm.tr ((m_MWorld_begin z96)).mo
  have hr := Option.some.inj hG; subst hr
  exact hm
set_option maxRecDepth 20000 in
set_option maxHeartbeats 2000000 in
theorem k_MWorld_init {N : Nat} {p0 : Nat} {H : Hp} {r : Unit × Hp} {C Sl : Nat} (hF : F_MWorld_init N p0 H = some r) (hC : r.2.sh.length ≤ H.sh.length + C) (hS : r.2.sl ≤ H.sl + Sl) : ab_M y_MWorld_init { frames := 1, cells := C, slots := Sl, locals := 60 } [.ref p0] (hpw H) (po (.returned none) r.2) := by
  unfold F_MWorld_init at hF
  obtain ⟨c0, e0⟩ : ∃ q, q = H.sh.length := ⟨_, rfl⟩
  obtain ⟨s0, e1⟩ : ∃ q, q = H.sl := ⟨_, rfl⟩
  rw [← e0] at hC
  rw [← e1] at hS
  have hc0 : c0 ≤ H.sh.length := Nat.le_of_eq e0
  have hs0 : s0 ≤ H.sl := Nat.le_of_eq e1
  have hcc : H.sh.length ≤ c0 + C := by omega
  have hss : H.sl ≤ s0 + Sl := by omega
  refine ab_of2 (lv := [some (.ref p0)]) 0 rfl rfl (Nat.le_of_ble_eq_true rfl) ?_
  refine ab_widen (cells' := H.sh.length - c0) (slots' := H.sl - s0) (Nat.zero_le _) (Nat.zero_le _) ?_
  refine ab_aload_n d_MWorld_init_0 rfl rfl rfl ?_
  refine ab_objInit d_MWorld_init_1 (k9 82 rfl rfl) (k1 37 rfl rfl) (k1 38 rfl rfl) (Nat.le_of_ble_eq_true rfl) (Nat.le_of_ble_eq_true rfl) ?_
  refine ab_aload_n d_MWorld_init_4 rfl rfl rfl ?_
  refine ab_sipush (v := 256) d_MWorld_init_5 (by decide) ?_
  obtain ⟨q1, hG⟩ := ck_s hF; clear hF
  obtain ⟨q2, hF⟩ := ck_s hG; clear hG
  obtain ⟨H3, eH3, hG⟩ := bnd_g hF; clear hF
  obtain ⟨a4, ea4, hF⟩ := bnd_g hG; clear hG
  have m_1 : Mo H H3 := by rw [eH3]; exact Mo.nw _ _ _
  have b_2l := (m_1).len
  have b_2s := (m_1).2
  have b_2c : c0 ≤ H3.sh.length := by omega
  have b_2d : s0 ≤ H3.sl := by omega
  have b_2x : H3.sh.length = H.sh.length + 1 := by rw [eH3]; simp [Hp.nw, mkH_sh]
  have b_2y : H3.sl = H.sl + ((256 : Int32)).toNatClampNeg := by rw [eH3]; rfl
  obtain ⟨q5, hG⟩ := ck_s hF; clear hF
  obtain ⟨H6, eH6, hF⟩ := bnd_g hG; clear hG
  have jH6 : Mo H3 H6 := by rw [eH6]; exact Mo.rf _
  obtain ⟨q7, hG⟩ := ck_s hF; clear hF
  obtain ⟨q8, hF⟩ := ck_s hG; clear hG
  obtain ⟨H9, eH9, hG⟩ := bnd_g hF; clear hF
  obtain ⟨a10, ea10, hF⟩ := bnd_g hG; clear hG
  have jH9 : Mo H6 H9 := by rw [eH9]; exact Mo.nw _ _ _
  obtain ⟨H11, eH11, hG⟩ := bnd_g hF; clear hF
  have jH11 : Mo H9 H11 := by rw [eH11]; exact Mo.rf _
  obtain ⟨q12, hF⟩ := ck_s hG; clear hG
  obtain ⟨q13, hG⟩ := ck_s hF; clear hF
  obtain ⟨H14, eH14, hF⟩ := bnd_g hG; clear hG
  obtain ⟨a15, ea15, hG⟩ := bnd_g hF; clear hF
  have jH14 : Mo H11 H14 := by rw [eH14]; exact Mo.nw _ _ _
  obtain ⟨H16, eH16, hF⟩ := bnd_g hG; clear hG
  have jH16 : Mo H14 H16 := by rw [eH16]; exact Mo.rf _
  obtain ⟨q17, hG⟩ := ck_s hF; clear hF
  obtain ⟨q18, hF⟩ := ck_s hG; clear hG
  obtain ⟨H19, eH19, hG⟩ := bnd_g hF; clear hF
  obtain ⟨a20, ea20, hF⟩ := bnd_g hG; clear hG
  have jH19 : Mo H16 H19 := by rw [eH19]; exact Mo.nw _ _ _
  obtain ⟨H21, eH21, hG⟩ := bnd_g hF; clear hF
  have jH21 : Mo H19 H21 := by rw [eH21]; exact Mo.rf _
  obtain ⟨q22, hF⟩ := ck_s hG; clear hG
  obtain ⟨q23, hG⟩ := ck_s hF; clear hF
  obtain ⟨H24, eH24, hF⟩ := bnd_g hG; clear hG
  obtain ⟨a25, ea25, hG⟩ := bnd_g hF; clear hF
  have jH24 : Mo H21 H24 := by rw [eH24]; exact Mo.nw _ _ _
  obtain ⟨H26, eH26, hF⟩ := bnd_g hG; clear hG
  have jH26 : Mo H24 H26 := by rw [eH26]; exact Mo.rf _
  obtain ⟨q27, hG⟩ := ck_s hF; clear hF
  obtain ⟨q28, hF⟩ := ck_s hG; clear hG
  obtain ⟨H29, eH29, hG⟩ := bnd_g hF; clear hF
  obtain ⟨a30, ea30, hF⟩ := bnd_g hG; clear hG
  have jH29 : Mo H26 H29 := by rw [eH29]; exact Mo.nw _ _ _
  obtain ⟨H31, eH31, hG⟩ := bnd_g hF; clear hF
  have jH31 : Mo H29 H31 := by rw [eH31]; exact Mo.rf _
  obtain ⟨q32, hF⟩ := ck_s hG; clear hG
  obtain ⟨q33, hG⟩ := ck_s hF; clear hF
  obtain ⟨H34, eH34, hF⟩ := bnd_g hG; clear hG
  obtain ⟨a35, ea35, hG⟩ := bnd_g hF; clear hF
  have jH34 : Mo H31 H34 := by rw [eH34]; exact Mo.nw _ _ _
  obtain ⟨H36, eH36, hF⟩ := bnd_g hG; clear hG
  have jH36 : Mo H34 H36 := by rw [eH36]; exact Mo.rf _
  obtain ⟨q37, hG⟩ := ck_s hF; clear hF
  obtain ⟨q38, hF⟩ := ck_s hG; clear hG
  obtain ⟨H39, eH39, hG⟩ := bnd_g hF; clear hF
  obtain ⟨a40, ea40, hF⟩ := bnd_g hG; clear hG
  have jH39 : Mo H36 H39 := by rw [eH39]; exact Mo.nw _ _ _
  obtain ⟨H41, eH41, hG⟩ := bnd_g hF; clear hF
  have jH41 : Mo H39 H41 := by rw [eH41]; exact Mo.rf _
  obtain ⟨q42, hF⟩ := ck_s hG; clear hG
  obtain ⟨q43, hG⟩ := ck_s hF; clear hF
  obtain ⟨H44, eH44, hF⟩ := bnd_g hG; clear hG
  obtain ⟨a45, ea45, hG⟩ := bnd_g hF; clear hF
  have jH44 : Mo H41 H44 := by rw [eH44]; exact Mo.nw _ _ _
  obtain ⟨H46, eH46, hF⟩ := bnd_g hG; clear hG
  have jH46 : Mo H44 H46 := by rw [eH46]; exact Mo.rf _
  obtain ⟨v48, H49, z47, hG⟩ := bC_s hF; clear hF
  have jH49 : Mo H46 H49 := ((m_MWorld_begin z47)).mo
  have fH49 : Mo H49 r.2 := by
    have hm := Mo.rf H49
    have hr := Option.some.inj hG; subst hr
    exact hm
  have fH46 : Mo H46 r.2 := jH49.tr fH49
  have fH44 : Mo H44 r.2 := jH46.tr fH46
  have fH41 : Mo H41 r.2 := jH44.tr fH44
  have fH39 : Mo H39 r.2 := jH41.tr fH41
  have fH36 : Mo H36 r.2 := jH39.tr fH39
  have fH34 : Mo H34 r.2 := jH36.tr fH36
  have fH31 : Mo H31 r.2 := jH34.tr fH34
  have fH29 : Mo H29 r.2 := jH31.tr fH31
  have fH26 : Mo H26 r.2 := jH29.tr fH29
  have fH24 : Mo H24 r.2 := jH26.tr fH26
  have fH21 : Mo H21 r.2 := jH24.tr fH24
  have fH19 : Mo H19 r.2 := jH21.tr fH21
  have fH16 : Mo H16 r.2 := jH19.tr fH19
  have fH14 : Mo H14 r.2 := jH16.tr fH16
  have fH11 : Mo H11 r.2 := jH14.tr fH14
  have fH9 : Mo H9 r.2 := jH11.tr fH11
  have fH6 : Mo H6 r.2 := jH9.tr fH9
  have fH3 : Mo H3 r.2 := jH6.tr fH6
  have b_2m := (fH3).len
  have b_2n := (fH3).2
  have b_2p : H3.sh.length ≤ c0 + C := by omega
  have b_2q : H3.sl ≤ s0 + Sl := by omega
  refine hp_newa (q := 100) d_MWorld_init_8 rfl (k1 143 rfl rfl) tI (Or.inl rfl) ⟨by decide, by decide, rfl⟩ rfl q1 q2 (by show _ ≤ C; omega) (by show _ + ((256 : Int32)).toNatClampNeg ≤ Sl; omega) ?_
  refine ab_widen (cells' := H3.sh.length - c0) (slots' := H3.sl - s0) (by omega) (by show _ + ((256 : Int32)).toNatClampNeg ≤ _; omega) ?_
  rw [← eH3, ← ea4]
  clear b_2l b_2s b_2x b_2y b_2m b_2n
  refine hp_putFP (v := .ref a4) (f := 4) d_MWorld_init_10 q5 (by decide) rfl (by decide) (k9 98 rfl rfl) rfl rfl rfl rfl (fun _ => rfl) (fun _ => rfl) rfl ?_
  refine hp_genx eH6 ?_
  have s_21 : Sa H3 H6 := by rw [eH6]; exact Sa.rf _
  refine ab_aload_n d_MWorld_init_13 rfl rfl rfl ?_
  refine ab_sipush (v := 256) d_MWorld_init_14 (by decide) ?_
  have m_22 : Mo H6 H9 := by rw [eH9]; exact Mo.nw _ _ _
  have b_23l := (m_22).len
  have b_23s := (m_22).2
  have b_23e := congrArg List.length (s_21).1
  have b_23f := (s_21).2
  have b_23c : c0 ≤ H9.sh.length := by omega
  have b_23d : s0 ≤ H9.sl := by omega
  have b_23x : H9.sh.length = H6.sh.length + 1 := by rw [eH9]; simp [Hp.nw, mkH_sh]
  have b_23y : H9.sl = H6.sl + ((256 : Int32)).toNatClampNeg := by rw [eH9]; rfl
  have q_24 := (m_22).get (by rw [(s_21).1]; exact q5)
  have b_23m := (fH9).len
  have b_23n := (fH9).2
  have b_23p : H9.sh.length ≤ c0 + C := by omega
  have b_23q : H9.sl ≤ s0 + Sl := by omega
  refine ab_widen (cells' := H6.sh.length - c0) (slots' := H6.sl - s0) (by rw [(s_21).1]; exact Nat.le_refl _) (by rw [(s_21).2]; exact Nat.le_refl _) ?_
  refine hp_newa (q := 102) d_MWorld_init_17 rfl (k1 144 rfl rfl) tZ (Or.inr (Or.inr (Or.inl rfl))) ⟨by decide, by decide, rfl⟩ rfl q7 q8 (by show _ ≤ C; omega) (by show _ + ((256 : Int32)).toNatClampNeg ≤ Sl; omega) ?_
  refine ab_widen (cells' := H9.sh.length - c0) (slots' := H9.sl - s0) (by omega) (by show _ + ((256 : Int32)).toNatClampNeg ≤ _; omega) ?_
  rw [← eH9, ← ea10]
  clear b_23l b_23s b_23x b_23y b_23m b_23n b_23e b_23f b_2c b_2d b_2p b_2q
  refine hp_putFP (v := .ref a10) (f := 5) d_MWorld_init_19 q_24 (by decide) rfl (by decide) (k9 100 rfl rfl) rfl rfl rfl rfl (fun _ => rfl) (fun _ => rfl) rfl ?_
  refine hp_genx eH11 ?_
  have s_25 : Sa H9 H11 := by rw [eH11]; exact Sa.rf _
  refine ab_aload_n d_MWorld_init_22 rfl rfl rfl ?_
  refine ab_sipush (v := 256) d_MWorld_init_23 (by decide) ?_
  have m_26 : Mo H11 H14 := by rw [eH14]; exact Mo.nw _ _ _
  have b_27l := (m_26).len
  have b_27s := (m_26).2
  have b_27e := congrArg List.length (s_25).1
  have b_27f := (s_25).2
  have b_27c : c0 ≤ H14.sh.length := by omega
  have b_27d : s0 ≤ H14.sl := by omega
  have b_27x : H14.sh.length = H11.sh.length + 1 := by rw [eH14]; simp [Hp.nw, mkH_sh]
  have b_27y : H14.sl = H11.sl + ((256 : Int32)).toNatClampNeg := by rw [eH14]; rfl
  have q_28 := (m_26).get (by rw [(s_25).1]; exact q_24)
  have b_27m := (fH14).len
  have b_27n := (fH14).2
  have b_27p : H14.sh.length ≤ c0 + C := by omega
  have b_27q : H14.sl ≤ s0 + Sl := by omega
  refine ab_widen (cells' := H11.sh.length - c0) (slots' := H11.sl - s0) (by rw [(s_25).1]; exact Nat.le_refl _) (by rw [(s_25).2]; exact Nat.le_refl _) ?_
  refine hp_newa (q := 100) d_MWorld_init_26 rfl (k1 143 rfl rfl) tI (Or.inl rfl) ⟨by decide, by decide, rfl⟩ rfl q12 q13 (by show _ ≤ C; omega) (by show _ + ((256 : Int32)).toNatClampNeg ≤ Sl; omega) ?_
  refine ab_widen (cells' := H14.sh.length - c0) (slots' := H14.sl - s0) (by omega) (by show _ + ((256 : Int32)).toNatClampNeg ≤ _; omega) ?_
  rw [← eH14, ← ea15]
  clear b_27l b_27s b_27x b_27y b_27m b_27n b_27e b_27f b_23c b_23d b_23p b_23q
  refine hp_putFP (v := .ref a15) (f := 6) d_MWorld_init_28 q_28 (by decide) rfl (by decide) (k9 104 rfl rfl) rfl rfl rfl rfl (fun _ => rfl) (fun _ => rfl) rfl ?_
  refine hp_genx eH16 ?_
  have s_29 : Sa H14 H16 := by rw [eH16]; exact Sa.rf _
  refine ab_aload_n d_MWorld_init_31 rfl rfl rfl ?_
  refine ab_sipush (v := 12288) d_MWorld_init_32 (by decide) ?_
  have m_30 : Mo H16 H19 := by rw [eH19]; exact Mo.nw _ _ _
  have b_31l := (m_30).len
  have b_31s := (m_30).2
  have b_31e := congrArg List.length (s_29).1
  have b_31f := (s_29).2
  have b_31c : c0 ≤ H19.sh.length := by omega
  have b_31d : s0 ≤ H19.sl := by omega
  have b_31x : H19.sh.length = H16.sh.length + 1 := by rw [eH19]; simp [Hp.nw, mkH_sh]
  have b_31y : H19.sl = H16.sl + ((12288 : Int32)).toNatClampNeg := by rw [eH19]; rfl
  have q_32 := (m_30).get (by rw [(s_29).1]; exact q_28)
  have b_31m := (fH19).len
  have b_31n := (fH19).2
  have b_31p : H19.sh.length ≤ c0 + C := by omega
  have b_31q : H19.sl ≤ s0 + Sl := by omega
  refine ab_widen (cells' := H16.sh.length - c0) (slots' := H16.sl - s0) (by rw [(s_29).1]; exact Nat.le_refl _) (by rw [(s_29).2]; exact Nat.le_refl _) ?_
  refine hp_newa (q := 100) d_MWorld_init_35 rfl (k1 143 rfl rfl) tI (Or.inl rfl) ⟨by decide, by decide, rfl⟩ rfl q17 q18 (by show _ ≤ C; omega) (by show _ + ((12288 : Int32)).toNatClampNeg ≤ Sl; omega) ?_
  refine ab_widen (cells' := H19.sh.length - c0) (slots' := H19.sl - s0) (by omega) (by show _ + ((12288 : Int32)).toNatClampNeg ≤ _; omega) ?_
  rw [← eH19, ← ea20]
  clear b_31l b_31s b_31x b_31y b_31m b_31n b_31e b_31f b_27c b_27d b_27p b_27q
  refine hp_putFP (v := .ref a20) (f := 7) d_MWorld_init_37 q_32 (by decide) rfl (by decide) (k9 108 rfl rfl) rfl rfl rfl rfl (fun _ => rfl) (fun _ => rfl) rfl ?_
  refine hp_genx eH21 ?_
  have s_33 : Sa H19 H21 := by rw [eH21]; exact Sa.rf _
  refine ab_aload_n d_MWorld_init_40 rfl rfl rfl ?_
  refine ab_sipush (v := 256) d_MWorld_init_41 (by decide) ?_
  have m_34 : Mo H21 H24 := by rw [eH24]; exact Mo.nw _ _ _
  have b_35l := (m_34).len
  have b_35s := (m_34).2
  have b_35e := congrArg List.length (s_33).1
  have b_35f := (s_33).2
  have b_35c : c0 ≤ H24.sh.length := by omega
  have b_35d : s0 ≤ H24.sl := by omega
  have b_35x : H24.sh.length = H21.sh.length + 1 := by rw [eH24]; simp [Hp.nw, mkH_sh]
  have b_35y : H24.sl = H21.sl + ((256 : Int32)).toNatClampNeg := by rw [eH24]; rfl
  have q_36 := (m_34).get (by rw [(s_33).1]; exact q_32)
  have b_35m := (fH24).len
  have b_35n := (fH24).2
  have b_35p : H24.sh.length ≤ c0 + C := by omega
  have b_35q : H24.sl ≤ s0 + Sl := by omega
  refine ab_widen (cells' := H21.sh.length - c0) (slots' := H21.sl - s0) (by rw [(s_33).1]; exact Nat.le_refl _) (by rw [(s_33).2]; exact Nat.le_refl _) ?_
  refine hp_newa (q := 100) d_MWorld_init_44 rfl (k1 143 rfl rfl) tI (Or.inl rfl) ⟨by decide, by decide, rfl⟩ rfl q22 q23 (by show _ ≤ C; omega) (by show _ + ((256 : Int32)).toNatClampNeg ≤ Sl; omega) ?_
  refine ab_widen (cells' := H24.sh.length - c0) (slots' := H24.sl - s0) (by omega) (by show _ + ((256 : Int32)).toNatClampNeg ≤ _; omega) ?_
  rw [← eH24, ← ea25]
  clear b_35l b_35s b_35x b_35y b_35m b_35n b_35e b_35f b_31c b_31d b_31p b_31q
  refine hp_putFP (v := .ref a25) (f := 9) d_MWorld_init_46 q_36 (by decide) rfl (by decide) (k9 114 rfl rfl) rfl rfl rfl rfl (fun _ => rfl) (fun _ => rfl) rfl ?_
  refine hp_genx eH26 ?_
  have s_37 : Sa H24 H26 := by rw [eH26]; exact Sa.rf _
  refine ab_aload_n d_MWorld_init_49 rfl rfl rfl ?_
  refine ab_sipush (v := 256) d_MWorld_init_50 (by decide) ?_
  have m_38 : Mo H26 H29 := by rw [eH29]; exact Mo.nw _ _ _
  have b_39l := (m_38).len
  have b_39s := (m_38).2
  have b_39e := congrArg List.length (s_37).1
  have b_39f := (s_37).2
  have b_39c : c0 ≤ H29.sh.length := by omega
  have b_39d : s0 ≤ H29.sl := by omega
  have b_39x : H29.sh.length = H26.sh.length + 1 := by rw [eH29]; simp [Hp.nw, mkH_sh]
  have b_39y : H29.sl = H26.sl + ((256 : Int32)).toNatClampNeg := by rw [eH29]; rfl
  have q_40 := (m_38).get (by rw [(s_37).1]; exact q_36)
  have b_39m := (fH29).len
  have b_39n := (fH29).2
  have b_39p : H29.sh.length ≤ c0 + C := by omega
  have b_39q : H29.sl ≤ s0 + Sl := by omega
  refine ab_widen (cells' := H26.sh.length - c0) (slots' := H26.sl - s0) (by rw [(s_37).1]; exact Nat.le_refl _) (by rw [(s_37).2]; exact Nat.le_refl _) ?_
  refine hp_newa (q := 100) d_MWorld_init_53 rfl (k1 143 rfl rfl) tI (Or.inl rfl) ⟨by decide, by decide, rfl⟩ rfl q27 q28 (by show _ ≤ C; omega) (by show _ + ((256 : Int32)).toNatClampNeg ≤ Sl; omega) ?_
  refine ab_widen (cells' := H29.sh.length - c0) (slots' := H29.sl - s0) (by omega) (by show _ + ((256 : Int32)).toNatClampNeg ≤ _; omega) ?_
  rw [← eH29, ← ea30]
  clear b_39l b_39s b_39x b_39y b_39m b_39n b_39e b_39f b_35c b_35d b_35p b_35q
  refine hp_putFP (v := .ref a30) (f := 10) d_MWorld_init_55 q_40 (by decide) rfl (by decide) (k9 117 rfl rfl) rfl rfl rfl rfl (fun _ => rfl) (fun _ => rfl) rfl ?_
  refine hp_genx eH31 ?_
  have s_41 : Sa H29 H31 := by rw [eH31]; exact Sa.rf _
  refine ab_aload_n d_MWorld_init_58 rfl rfl rfl ?_
  refine ab_sipush (v := 256) d_MWorld_init_59 (by decide) ?_
  have m_42 : Mo H31 H34 := by rw [eH34]; exact Mo.nw _ _ _
  have b_43l := (m_42).len
  have b_43s := (m_42).2
  have b_43e := congrArg List.length (s_41).1
  have b_43f := (s_41).2
  have b_43c : c0 ≤ H34.sh.length := by omega
  have b_43d : s0 ≤ H34.sl := by omega
  have b_43x : H34.sh.length = H31.sh.length + 1 := by rw [eH34]; simp [Hp.nw, mkH_sh]
  have b_43y : H34.sl = H31.sl + ((256 : Int32)).toNatClampNeg := by rw [eH34]; rfl
  have q_44 := (m_42).get (by rw [(s_41).1]; exact q_40)
  have b_43m := (fH34).len
  have b_43n := (fH34).2
  have b_43p : H34.sh.length ≤ c0 + C := by omega
  have b_43q : H34.sl ≤ s0 + Sl := by omega
  refine ab_widen (cells' := H31.sh.length - c0) (slots' := H31.sl - s0) (by rw [(s_41).1]; exact Nat.le_refl _) (by rw [(s_41).2]; exact Nat.le_refl _) ?_
  refine hp_newa (q := 100) d_MWorld_init_62 rfl (k1 143 rfl rfl) tI (Or.inl rfl) ⟨by decide, by decide, rfl⟩ rfl q32 q33 (by show _ ≤ C; omega) (by show _ + ((256 : Int32)).toNatClampNeg ≤ Sl; omega) ?_
  refine ab_widen (cells' := H34.sh.length - c0) (slots' := H34.sl - s0) (by omega) (by show _ + ((256 : Int32)).toNatClampNeg ≤ _; omega) ?_
  rw [← eH34, ← ea35]
  clear b_43l b_43s b_43x b_43y b_43m b_43n b_43e b_43f b_39c b_39d b_39p b_39q
  refine hp_putFP (v := .ref a35) (f := 11) d_MWorld_init_64 q_44 (by decide) rfl (by decide) (k9 120 rfl rfl) rfl rfl rfl rfl (fun _ => rfl) (fun _ => rfl) rfl ?_
  refine hp_genx eH36 ?_
  have s_45 : Sa H34 H36 := by rw [eH36]; exact Sa.rf _
  refine ab_aload_n d_MWorld_init_67 rfl rfl rfl ?_
  refine ab_sipush (v := 1024) d_MWorld_init_68 (by decide) ?_
  have m_46 : Mo H36 H39 := by rw [eH39]; exact Mo.nw _ _ _
  have b_47l := (m_46).len
  have b_47s := (m_46).2
  have b_47e := congrArg List.length (s_45).1
  have b_47f := (s_45).2
  have b_47c : c0 ≤ H39.sh.length := by omega
  have b_47d : s0 ≤ H39.sl := by omega
  have b_47x : H39.sh.length = H36.sh.length + 1 := by rw [eH39]; simp [Hp.nw, mkH_sh]
  have b_47y : H39.sl = H36.sl + ((1024 : Int32)).toNatClampNeg := by rw [eH39]; rfl
  have q_48 := (m_46).get (by rw [(s_45).1]; exact q_44)
  have b_47m := (fH39).len
  have b_47n := (fH39).2
  have b_47p : H39.sh.length ≤ c0 + C := by omega
  have b_47q : H39.sl ≤ s0 + Sl := by omega
  refine ab_widen (cells' := H36.sh.length - c0) (slots' := H36.sl - s0) (by rw [(s_45).1]; exact Nat.le_refl _) (by rw [(s_45).2]; exact Nat.le_refl _) ?_
  refine hp_newa (q := 100) d_MWorld_init_71 rfl (k1 143 rfl rfl) tI (Or.inl rfl) ⟨by decide, by decide, rfl⟩ rfl q37 q38 (by show _ ≤ C; omega) (by show _ + ((1024 : Int32)).toNatClampNeg ≤ Sl; omega) ?_
  refine ab_widen (cells' := H39.sh.length - c0) (slots' := H39.sl - s0) (by omega) (by show _ + ((1024 : Int32)).toNatClampNeg ≤ _; omega) ?_
  rw [← eH39, ← ea40]
  clear b_47l b_47s b_47x b_47y b_47m b_47n b_47e b_47f b_43c b_43d b_43p b_43q
  refine hp_putFP (v := .ref a40) (f := 12) d_MWorld_init_73 q_48 (by decide) rfl (by decide) (k9 123 rfl rfl) rfl rfl rfl rfl (fun _ => rfl) (fun _ => rfl) rfl ?_
  refine hp_genx eH41 ?_
  have s_49 : Sa H39 H41 := by rw [eH41]; exact Sa.rf _
  refine ab_aload_n d_MWorld_init_76 rfl rfl rfl ?_
  refine ab_bipush (v := 32) d_MWorld_init_77 (by decide) ?_
  have m_50 : Mo H41 H44 := by rw [eH44]; exact Mo.nw _ _ _
  have b_51l := (m_50).len
  have b_51s := (m_50).2
  have b_51e := congrArg List.length (s_49).1
  have b_51f := (s_49).2
  have b_51c : c0 ≤ H44.sh.length := by omega
  have b_51d : s0 ≤ H44.sl := by omega
  have b_51x : H44.sh.length = H41.sh.length + 1 := by rw [eH44]; simp [Hp.nw, mkH_sh]
  have b_51y : H44.sl = H41.sl + ((32 : Int32)).toNatClampNeg := by rw [eH44]; rfl
  have q_52 := (m_50).get (by rw [(s_49).1]; exact q_48)
  have b_51m := (fH44).len
  have b_51n := (fH44).2
  have b_51p : H44.sh.length ≤ c0 + C := by omega
  have b_51q : H44.sl ≤ s0 + Sl := by omega
  refine ab_widen (cells' := H41.sh.length - c0) (slots' := H41.sl - s0) (by rw [(s_49).1]; exact Nat.le_refl _) (by rw [(s_49).2]; exact Nat.le_refl _) ?_
  refine hp_newa (q := 100) d_MWorld_init_79 rfl (k1 143 rfl rfl) tI (Or.inl rfl) ⟨by decide, by decide, rfl⟩ rfl q42 q43 (by show _ ≤ C; omega) (by show _ + ((32 : Int32)).toNatClampNeg ≤ Sl; omega) ?_
  refine ab_widen (cells' := H44.sh.length - c0) (slots' := H44.sl - s0) (by omega) (by show _ + ((32 : Int32)).toNatClampNeg ≤ _; omega) ?_
  rw [← eH44, ← ea45]
  clear b_51l b_51s b_51x b_51y b_51m b_51n b_51e b_51f b_47c b_47d b_47p b_47q
  refine hp_putFP (v := .ref a45) (f := 17) d_MWorld_init_81 q_52 (by decide) rfl (by decide) (k9 136 rfl rfl) rfl rfl rfl rfl (fun _ => rfl) (fun _ => rfl) rfl ?_
  refine hp_genx eH46 ?_
  have s_53 : Sa H44 H46 := by rw [eH46]; exact Sa.rf _
  refine ab_aload_n d_MWorld_init_84 rfl rfl rfl ?_
  refine ab_widen (cells' := H46.sh.length - c0) (slots' := H46.sl - s0) (by rw [(s_53).1]; exact Nat.le_refl _) (by rw [(s_53).2]; exact Nat.le_refl _) ?_
  have b_54e := congrArg List.length (s_53).1
  have b_54f := (s_53).2
  refine hp_callV_v (H1 := H49) (As := []) (rest := []) d_MWorld_init_85 (k_MWorld_begin z47) (ab_mkC s_MWorld_begin (Nat.le_of_ble_eq_true rfl) (Nat.le_of_ble_eq_true rfl) (show (H46.sh.length - c0) + 0 ≤ C from by omega) (show (H46.sl - s0) + 0 ≤ Sl from by omega)) (k9 83 rfl rfl) i_MWorld_begin v_MWorld_begin (by rw [(s_53).1]; exact q_52) (by decide) rfl rfl (Nat.le_of_ble_eq_true rfl) ?_
  have s_55 : Sa H44 H49 := (s_53).tr (m_MWorld_begin z47)
  refine ab_widen (cells' := H44.sh.length - c0) (slots' := H44.sl - s0) (by show (H46.sh.length - c0) + 0 ≤ _; omega) (by show (H46.sl - s0) + 0 ≤ _; omega) ?_
  clear b_54e b_54f
  exact ab_vret d_MWorld_init_88 rfl (by show _ ≤ C; omega) (by show _ ≤ Sl; omega) (by have hr := Option.some.inj hG; subst hr; exact ⟨rfl, rfl⟩)
def y_MRunner_init : ab_Y := (⟨"WorldEngineModel$Runner", "<init>", "()V"⟩, prog_15_method_1_code, 1, none, [])
theorem d_MRunner_init_0 : decode y_MRunner_init.2.1 0 = .ok (.aload_n 0, 1) := by decide +kernel
theorem d_MRunner_init_1 : decode y_MRunner_init.2.1 1 = .ok (.invokespecial 3, 3) := by decide +kernel
theorem d_MRunner_init_4 : decode y_MRunner_init.2.1 4 = .ok (.aload_n 0, 1) := by decide +kernel
theorem d_MRunner_init_5 : decode y_MRunner_init.2.1 5 = .ok (.ldc 11, 2) := by decide +kernel
theorem d_MRunner_init_7 : decode y_MRunner_init.2.1 7 = .ok (.newarray .int, 2) := by decide +kernel
theorem d_MRunner_init_9 : decode y_MRunner_init.2.1 9 = .ok (.putfield 12, 3) := by decide +kernel
theorem d_MRunner_init_12 : decode y_MRunner_init.2.1 12 = .ok (.aload_n 0, 1) := by decide +kernel
theorem d_MRunner_init_13 : decode y_MRunner_init.2.1 13 = .ok (.bipush 48, 2) := by decide +kernel
theorem d_MRunner_init_15 : decode y_MRunner_init.2.1 15 = .ok (.newarray .int, 2) := by decide +kernel
theorem d_MRunner_init_17 : decode y_MRunner_init.2.1 17 = .ok (.putfield 16, 3) := by decide +kernel
theorem d_MRunner_init_20 : decode y_MRunner_init.2.1 20 = .ok (.aload_n 0, 1) := by decide +kernel
theorem d_MRunner_init_21 : decode y_MRunner_init.2.1 21 = .ok (.bipush 12, 2) := by decide +kernel
theorem d_MRunner_init_23 : decode y_MRunner_init.2.1 23 = .ok (.newarray .int, 2) := by decide +kernel
theorem d_MRunner_init_25 : decode y_MRunner_init.2.1 25 = .ok (.putfield 19, 3) := by decide +kernel
theorem d_MRunner_init_28 : decode y_MRunner_init.2.1 28 = .ok (.aload_n 0, 1) := by decide +kernel
theorem d_MRunner_init_29 : decode y_MRunner_init.2.1 29 = .ok (.bipush 8, 2) := by decide +kernel
theorem d_MRunner_init_31 : decode y_MRunner_init.2.1 31 = .ok (.newarray .int, 2) := by decide +kernel
theorem d_MRunner_init_33 : decode y_MRunner_init.2.1 33 = .ok (.putfield 22, 3) := by decide +kernel
theorem d_MRunner_init_36 : decode y_MRunner_init.2.1 36 = .ok (.return_, 1) := by decide +kernel
theorem s_MRunner_init : ab_Stat y_MRunner_init 0 := ⟨(k9 180 rfl rfl), (k1 22 rfl rfl), ⟨by decide, by decide⟩, by decide +kernel⟩
theorem i_MRunner_init : Cond.instanceMethod y_MRunner_init.1 ∈ ab_T := (k9 179 rfl rfl)
def F_MRunner_init (N : Nat) (p0 : Nat) (H : Hp) : Option (Unit × Hp) :=
    ck (¬ (393216 : Int32) < 0) <|
    ck (((393216 : Int32)).toNatClampNeg * 4 ≤ 536870912) <|
    bnd (H.nw (100, ((393216 : Int32)).toNatClampNeg) ((393216 : Int32)).toNatClampNeg) fun H3 =>
    bnd H.sh.length fun a4 =>
    ck (H3.sh[p0]? = some (15, 0)) <|
    bnd (H3.sP p0 3 (.ref a4)) fun H6 =>
    ck (¬ (48 : Int32) < 0) <|
    ck (((48 : Int32)).toNatClampNeg * 4 ≤ 536870912) <|
    bnd (H6.nw (100, ((48 : Int32)).toNatClampNeg) ((48 : Int32)).toNatClampNeg) fun H9 =>
    bnd H6.sh.length fun a10 =>
    bnd (H9.sP p0 13 (.ref a10)) fun H11 =>
    ck (¬ (12 : Int32) < 0) <|
    ck (((12 : Int32)).toNatClampNeg * 4 ≤ 536870912) <|
    bnd (H11.nw (100, ((12 : Int32)).toNatClampNeg) ((12 : Int32)).toNatClampNeg) fun H14 =>
    bnd H11.sh.length fun a15 =>
    bnd (H14.sP p0 14 (.ref a15)) fun H16 =>
    ck (¬ (8 : Int32) < 0) <|
    ck (((8 : Int32)).toNatClampNeg * 4 ≤ 536870912) <|
    bnd (H16.nw (100, ((8 : Int32)).toNatClampNeg) ((8 : Int32)).toNatClampNeg) fun H19 =>
    bnd H16.sh.length fun a20 =>
    bnd (H19.sP p0 15 (.ref a20)) fun H21 =>
    some ((), H21)
set_option maxRecDepth 20000 in
set_option maxHeartbeats 2000000 in
theorem m_MRunner_init {N : Nat} {p0 : Nat} {H : Hp} {r : Unit × Hp} (hF : F_MRunner_init N p0 H = some r) : Mo H r.2 := by
  unfold F_MRunner_init at hF
  have hm := Mo.rf H
  obtain ⟨q22, hG⟩ := ck_s hF; clear hF
  obtain ⟨q23, hF⟩ := ck_s hG; clear hG
  obtain ⟨H24, eH24, hG⟩ := bnd_g hF; clear hF
  replace hm : Mo H H24 := hm.tr (by rw [eH24]; exact Mo.nw _ _ _)
  obtain ⟨a25, -, hF⟩ := bnd_g hG; clear hG
  obtain ⟨q26, hG⟩ := ck_s hF; clear hF
  obtain ⟨H27, eH27, hF⟩ := bnd_g hG; clear hG
  replace hm : Mo H H27 := by rw [eH27]; exact hm
  obtain ⟨q28, hG⟩ := ck_s hF; clear hF
  obtain ⟨q29, hF⟩ := ck_s hG; clear hG
  obtain ⟨H30, eH30, hG⟩ := bnd_g hF; clear hF
  replace hm : Mo H H30 := hm.tr (by rw [eH30]; exact Mo.nw _ _ _)
  obtain ⟨a31, -, hF⟩ := bnd_g hG; clear hG
  obtain ⟨H32, eH32, hG⟩ := bnd_g hF; clear hF
  replace hm : Mo H H32 := by rw [eH32]; exact hm
  obtain ⟨q33, hF⟩ := ck_s hG; clear hG
  obtain ⟨q34, hG⟩ := ck_s hF; clear hF
  obtain ⟨H35, eH35, hF⟩ := bnd_g hG; clear hG
  replace hm : Mo H H35 := hm.tr (by rw [eH35]; exact Mo.nw _ _ _)
  obtain ⟨a36, -, hG⟩ := bnd_g hF; clear hF
  obtain ⟨H37, eH37, hF⟩ := bnd_g hG; clear hG
  replace hm : Mo H H37 := by rw [eH37]; exact hm
  obtain ⟨q38, hG⟩ := ck_s hF; clear hF
  obtain ⟨q39, hF⟩ := ck_s hG; clear hG
  obtain ⟨H40, eH40, hG⟩ := bnd_g hF; clear hF
  replace hm : Mo H H40 := hm.tr (by rw [eH40]; exact Mo.nw _ _ _)
  obtain ⟨a41, -, hF⟩ := bnd_g hG; clear hG
  obtain ⟨H42, eH42, hG⟩ := bnd_g hF; clear hF
  replace hm : Mo H H42 := by rw [eH42]; exact hm
  have hr := Option.some.inj hG; subst hr
  exact hm
set_option maxRecDepth 20000 in
set_option maxHeartbeats 2000000 in
theorem k_MRunner_init {N : Nat} {p0 : Nat} {H : Hp} {r : Unit × Hp} {C Sl : Nat} (hF : F_MRunner_init N p0 H = some r) (hC : r.2.sh.length ≤ H.sh.length + C) (hS : r.2.sl ≤ H.sl + Sl) : ab_M y_MRunner_init { frames := 1, cells := C, slots := Sl, locals := 60 } [.ref p0] (hpw H) (po (.returned none) r.2) := by
  unfold F_MRunner_init at hF
  obtain ⟨c0, e0⟩ : ∃ q, q = H.sh.length := ⟨_, rfl⟩
  obtain ⟨s0, e1⟩ : ∃ q, q = H.sl := ⟨_, rfl⟩
  rw [← e0] at hC
  rw [← e1] at hS
  have hc0 : c0 ≤ H.sh.length := Nat.le_of_eq e0
  have hs0 : s0 ≤ H.sl := Nat.le_of_eq e1
  have hcc : H.sh.length ≤ c0 + C := by omega
  have hss : H.sl ≤ s0 + Sl := by omega
  refine ab_of2 (lv := [some (.ref p0)]) 0 rfl rfl (Nat.le_of_ble_eq_true rfl) ?_
  refine ab_widen (cells' := H.sh.length - c0) (slots' := H.sl - s0) (Nat.zero_le _) (Nat.zero_le _) ?_
  refine ab_aload_n d_MRunner_init_0 rfl rfl rfl ?_
  refine ab_objInit d_MRunner_init_1 (k9 181 rfl rfl) (k1 37 rfl rfl) (k1 38 rfl rfl) (Nat.le_of_ble_eq_true rfl) (Nat.le_of_ble_eq_true rfl) ?_
  refine ab_aload_n d_MRunner_init_4 rfl rfl rfl ?_
  refine ab_ldc d_MRunner_init_5 (k9 182 rfl rfl) ?_
  obtain ⟨q1, hG⟩ := ck_s hF; clear hF
  obtain ⟨q2, hF⟩ := ck_s hG; clear hG
  obtain ⟨H3, eH3, hG⟩ := bnd_g hF; clear hF
  obtain ⟨a4, ea4, hF⟩ := bnd_g hG; clear hG
  have m_1 : Mo H H3 := by rw [eH3]; exact Mo.nw _ _ _
  have b_2l := (m_1).len
  have b_2s := (m_1).2
  have b_2c : c0 ≤ H3.sh.length := by omega
  have b_2d : s0 ≤ H3.sl := by omega
  have b_2x : H3.sh.length = H.sh.length + 1 := by rw [eH3]; simp [Hp.nw, mkH_sh]
  have b_2y : H3.sl = H.sl + ((393216 : Int32)).toNatClampNeg := by rw [eH3]; rfl
  obtain ⟨q5, hG⟩ := ck_s hF; clear hF
  obtain ⟨H6, eH6, hF⟩ := bnd_g hG; clear hG
  have jH6 : Mo H3 H6 := by rw [eH6]; exact Mo.rf _
  obtain ⟨q7, hG⟩ := ck_s hF; clear hF
  obtain ⟨q8, hF⟩ := ck_s hG; clear hG
  obtain ⟨H9, eH9, hG⟩ := bnd_g hF; clear hF
  obtain ⟨a10, ea10, hF⟩ := bnd_g hG; clear hG
  have jH9 : Mo H6 H9 := by rw [eH9]; exact Mo.nw _ _ _
  obtain ⟨H11, eH11, hG⟩ := bnd_g hF; clear hF
  have jH11 : Mo H9 H11 := by rw [eH11]; exact Mo.rf _
  obtain ⟨q12, hF⟩ := ck_s hG; clear hG
  obtain ⟨q13, hG⟩ := ck_s hF; clear hF
  obtain ⟨H14, eH14, hF⟩ := bnd_g hG; clear hG
  obtain ⟨a15, ea15, hG⟩ := bnd_g hF; clear hF
  have jH14 : Mo H11 H14 := by rw [eH14]; exact Mo.nw _ _ _
  obtain ⟨H16, eH16, hF⟩ := bnd_g hG; clear hG
  have jH16 : Mo H14 H16 := by rw [eH16]; exact Mo.rf _
  obtain ⟨q17, hG⟩ := ck_s hF; clear hF
  obtain ⟨q18, hF⟩ := ck_s hG; clear hG
  obtain ⟨H19, eH19, hG⟩ := bnd_g hF; clear hF
  obtain ⟨a20, ea20, hF⟩ := bnd_g hG; clear hG
  have jH19 : Mo H16 H19 := by rw [eH19]; exact Mo.nw _ _ _
  obtain ⟨H21, eH21, hG⟩ := bnd_g hF; clear hF
  have jH21 : Mo H19 H21 := by rw [eH21]; exact Mo.rf _
  have fH21 : Mo H21 r.2 := by
    have hm := Mo.rf H21
    have hr := Option.some.inj hG; subst hr
    exact hm
  have fH19 : Mo H19 r.2 := jH21.tr fH21
  have fH16 : Mo H16 r.2 := jH19.tr fH19
  have fH14 : Mo H14 r.2 := jH16.tr fH16
  have fH11 : Mo H11 r.2 := jH14.tr fH14
  have fH9 : Mo H9 r.2 := jH11.tr fH11
  have fH6 : Mo H6 r.2 := jH9.tr fH9
  have fH3 : Mo H3 r.2 := jH6.tr fH6
  have b_2m := (fH3).len
  have b_2n := (fH3).2
  have b_2p : H3.sh.length ≤ c0 + C := by omega
  have b_2q : H3.sl ≤ s0 + Sl := by omega
  refine hp_newa (q := 100) d_MRunner_init_7 rfl (k1 143 rfl rfl) tI (Or.inl rfl) ⟨by decide, by decide, rfl⟩ rfl q1 q2 (by show _ ≤ C; omega) (by show _ + ((393216 : Int32)).toNatClampNeg ≤ Sl; omega) ?_
  refine ab_widen (cells' := H3.sh.length - c0) (slots' := H3.sl - s0) (by omega) (by show _ + ((393216 : Int32)).toNatClampNeg ≤ _; omega) ?_
  rw [← eH3, ← ea4]
  clear b_2l b_2s b_2x b_2y b_2m b_2n
  refine hp_putFP (v := .ref a4) (f := 3) d_MRunner_init_9 q5 (by decide) rfl (by decide) (k9 186 rfl rfl) rfl rfl rfl rfl (fun _ => rfl) (fun _ => rfl) rfl ?_
  refine hp_genx eH6 ?_
  have s_10 : Sa H3 H6 := by rw [eH6]; exact Sa.rf _
  refine ab_aload_n d_MRunner_init_12 rfl rfl rfl ?_
  refine ab_bipush (v := 48) d_MRunner_init_13 (by decide) ?_
  have m_11 : Mo H6 H9 := by rw [eH9]; exact Mo.nw _ _ _
  have b_12l := (m_11).len
  have b_12s := (m_11).2
  have b_12e := congrArg List.length (s_10).1
  have b_12f := (s_10).2
  have b_12c : c0 ≤ H9.sh.length := by omega
  have b_12d : s0 ≤ H9.sl := by omega
  have b_12x : H9.sh.length = H6.sh.length + 1 := by rw [eH9]; simp [Hp.nw, mkH_sh]
  have b_12y : H9.sl = H6.sl + ((48 : Int32)).toNatClampNeg := by rw [eH9]; rfl
  have q_13 := (m_11).get (by rw [(s_10).1]; exact q5)
  have b_12m := (fH9).len
  have b_12n := (fH9).2
  have b_12p : H9.sh.length ≤ c0 + C := by omega
  have b_12q : H9.sl ≤ s0 + Sl := by omega
  refine ab_widen (cells' := H6.sh.length - c0) (slots' := H6.sl - s0) (by rw [(s_10).1]; exact Nat.le_refl _) (by rw [(s_10).2]; exact Nat.le_refl _) ?_
  refine hp_newa (q := 100) d_MRunner_init_15 rfl (k1 143 rfl rfl) tI (Or.inl rfl) ⟨by decide, by decide, rfl⟩ rfl q7 q8 (by show _ ≤ C; omega) (by show _ + ((48 : Int32)).toNatClampNeg ≤ Sl; omega) ?_
  refine ab_widen (cells' := H9.sh.length - c0) (slots' := H9.sl - s0) (by omega) (by show _ + ((48 : Int32)).toNatClampNeg ≤ _; omega) ?_
  rw [← eH9, ← ea10]
  clear b_12l b_12s b_12x b_12y b_12m b_12n b_12e b_12f b_2c b_2d b_2p b_2q
  refine hp_putFP (v := .ref a10) (f := 13) d_MRunner_init_17 q_13 (by decide) rfl (by decide) (k9 196 rfl rfl) rfl rfl rfl rfl (fun _ => rfl) (fun _ => rfl) rfl ?_
  refine hp_genx eH11 ?_
  have s_14 : Sa H9 H11 := by rw [eH11]; exact Sa.rf _
  refine ab_aload_n d_MRunner_init_20 rfl rfl rfl ?_
  refine ab_bipush (v := 12) d_MRunner_init_21 (by decide) ?_
  have m_15 : Mo H11 H14 := by rw [eH14]; exact Mo.nw _ _ _
  have b_16l := (m_15).len
  have b_16s := (m_15).2
  have b_16e := congrArg List.length (s_14).1
  have b_16f := (s_14).2
  have b_16c : c0 ≤ H14.sh.length := by omega
  have b_16d : s0 ≤ H14.sl := by omega
  have b_16x : H14.sh.length = H11.sh.length + 1 := by rw [eH14]; simp [Hp.nw, mkH_sh]
  have b_16y : H14.sl = H11.sl + ((12 : Int32)).toNatClampNeg := by rw [eH14]; rfl
  have q_17 := (m_15).get (by rw [(s_14).1]; exact q_13)
  have b_16m := (fH14).len
  have b_16n := (fH14).2
  have b_16p : H14.sh.length ≤ c0 + C := by omega
  have b_16q : H14.sl ≤ s0 + Sl := by omega
  refine ab_widen (cells' := H11.sh.length - c0) (slots' := H11.sl - s0) (by rw [(s_14).1]; exact Nat.le_refl _) (by rw [(s_14).2]; exact Nat.le_refl _) ?_
  refine hp_newa (q := 100) d_MRunner_init_23 rfl (k1 143 rfl rfl) tI (Or.inl rfl) ⟨by decide, by decide, rfl⟩ rfl q12 q13 (by show _ ≤ C; omega) (by show _ + ((12 : Int32)).toNatClampNeg ≤ Sl; omega) ?_
  refine ab_widen (cells' := H14.sh.length - c0) (slots' := H14.sl - s0) (by omega) (by show _ + ((12 : Int32)).toNatClampNeg ≤ _; omega) ?_
  rw [← eH14, ← ea15]
  clear b_16l b_16s b_16x b_16y b_16m b_16n b_16e b_16f b_12c b_12d b_12p b_12q
  refine hp_putFP (v := .ref a15) (f := 14) d_MRunner_init_25 q_17 (by decide) rfl (by decide) (k9 197 rfl rfl) rfl rfl rfl rfl (fun _ => rfl) (fun _ => rfl) rfl ?_
  refine hp_genx eH16 ?_
  have s_18 : Sa H14 H16 := by rw [eH16]; exact Sa.rf _
  refine ab_aload_n d_MRunner_init_28 rfl rfl rfl ?_
  refine ab_bipush (v := 8) d_MRunner_init_29 (by decide) ?_
  have m_19 : Mo H16 H19 := by rw [eH19]; exact Mo.nw _ _ _
  have b_20l := (m_19).len
  have b_20s := (m_19).2
  have b_20e := congrArg List.length (s_18).1
  have b_20f := (s_18).2
  have b_20c : c0 ≤ H19.sh.length := by omega
  have b_20d : s0 ≤ H19.sl := by omega
  have b_20x : H19.sh.length = H16.sh.length + 1 := by rw [eH19]; simp [Hp.nw, mkH_sh]
  have b_20y : H19.sl = H16.sl + ((8 : Int32)).toNatClampNeg := by rw [eH19]; rfl
  have q_21 := (m_19).get (by rw [(s_18).1]; exact q_17)
  have b_20m := (fH19).len
  have b_20n := (fH19).2
  have b_20p : H19.sh.length ≤ c0 + C := by omega
  have b_20q : H19.sl ≤ s0 + Sl := by omega
  refine ab_widen (cells' := H16.sh.length - c0) (slots' := H16.sl - s0) (by rw [(s_18).1]; exact Nat.le_refl _) (by rw [(s_18).2]; exact Nat.le_refl _) ?_
  refine hp_newa (q := 100) d_MRunner_init_31 rfl (k1 143 rfl rfl) tI (Or.inl rfl) ⟨by decide, by decide, rfl⟩ rfl q17 q18 (by show _ ≤ C; omega) (by show _ + ((8 : Int32)).toNatClampNeg ≤ Sl; omega) ?_
  refine ab_widen (cells' := H19.sh.length - c0) (slots' := H19.sl - s0) (by omega) (by show _ + ((8 : Int32)).toNatClampNeg ≤ _; omega) ?_
  rw [← eH19, ← ea20]
  clear b_20l b_20s b_20x b_20y b_20m b_20n b_20e b_20f b_16c b_16d b_16p b_16q
  refine hp_putFP (v := .ref a20) (f := 15) d_MRunner_init_33 q_21 (by decide) rfl (by decide) (k9 198 rfl rfl) rfl rfl rfl rfl (fun _ => rfl) (fun _ => rfl) rfl ?_
  refine hp_genx eH21 ?_
  have s_22 : Sa H19 H21 := by rw [eH21]; exact Sa.rf _
  exact ab_vret d_MRunner_init_36 rfl (by show _ ≤ C; omega) (by show _ ≤ Sl; omega) (by have hr := Option.some.inj hG; subst hr; exact ⟨rfl, rfl⟩)
def y_M_init : ab_Y := (⟨"WorldEngineModel", "<init>", "(I)V"⟩, prog_14_method_1_code, 4, none, [])
theorem d_M_init_0 : decode y_M_init.2.1 0 = .ok (.aload_n 0, 1) := by decide +kernel
theorem d_M_init_1 : decode y_M_init.2.1 1 = .ok (.invokespecial 1, 3) := by decide +kernel
theorem d_M_init_4 : decode y_M_init.2.1 4 = .ok (.aload_n 0, 1) := by decide +kernel
theorem d_M_init_5 : decode y_M_init.2.1 5 = .ok (.sipush 6000, 3) := by decide +kernel
theorem d_M_init_8 : decode y_M_init.2.1 8 = .ok (.newarray .byte, 2) := by decide +kernel
theorem d_M_init_10 : decode y_M_init.2.1 10 = .ok (.putfield 9, 3) := by decide +kernel
theorem d_M_init_13 : decode y_M_init.2.1 13 = .ok (.aload_n 0, 1) := by decide +kernel
theorem d_M_init_14 : decode y_M_init.2.1 14 = .ok (.new 13, 3) := by decide +kernel
theorem d_M_init_17 : decode y_M_init.2.1 17 = .ok (.dup, 1) := by decide +kernel
theorem d_M_init_18 : decode y_M_init.2.1 18 = .ok (.invokespecial 15, 3) := by decide +kernel
theorem d_M_init_21 : decode y_M_init.2.1 21 = .ok (.putfield 16, 3) := by decide +kernel
theorem d_M_init_24 : decode y_M_init.2.1 24 = .ok (.aload_n 0, 1) := by decide +kernel
theorem d_M_init_25 : decode y_M_init.2.1 25 = .ok (.new 13, 3) := by decide +kernel
theorem d_M_init_28 : decode y_M_init.2.1 28 = .ok (.dup, 1) := by decide +kernel
theorem d_M_init_29 : decode y_M_init.2.1 29 = .ok (.invokespecial 15, 3) := by decide +kernel
theorem d_M_init_32 : decode y_M_init.2.1 32 = .ok (.putfield 20, 3) := by decide +kernel
theorem d_M_init_35 : decode y_M_init.2.1 35 = .ok (.aload_n 0, 1) := by decide +kernel
theorem d_M_init_36 : decode y_M_init.2.1 36 = .ok (.iconst (-1), 1) := by decide +kernel
theorem d_M_init_37 : decode y_M_init.2.1 37 = .ok (.putfield 23, 3) := by decide +kernel
theorem d_M_init_40 : decode y_M_init.2.1 40 = .ok (.aload_n 0, 1) := by decide +kernel
theorem d_M_init_41 : decode y_M_init.2.1 41 = .ok (.iconst (-1), 1) := by decide +kernel
theorem d_M_init_42 : decode y_M_init.2.1 42 = .ok (.putfield 27, 3) := by decide +kernel
theorem d_M_init_45 : decode y_M_init.2.1 45 = .ok (.aload_n 0, 1) := by decide +kernel
theorem d_M_init_46 : decode y_M_init.2.1 46 = .ok (.new 30, 3) := by decide +kernel
theorem d_M_init_49 : decode y_M_init.2.1 49 = .ok (.dup, 1) := by decide +kernel
theorem d_M_init_50 : decode y_M_init.2.1 50 = .ok (.invokespecial 32, 3) := by decide +kernel
theorem d_M_init_53 : decode y_M_init.2.1 53 = .ok (.putfield 33, 3) := by decide +kernel
theorem d_M_init_56 : decode y_M_init.2.1 56 = .ok (.aload_n 0, 1) := by decide +kernel
theorem d_M_init_57 : decode y_M_init.2.1 57 = .ok (.new 30, 3) := by decide +kernel
theorem d_M_init_60 : decode y_M_init.2.1 60 = .ok (.dup, 1) := by decide +kernel
theorem d_M_init_61 : decode y_M_init.2.1 61 = .ok (.invokespecial 32, 3) := by decide +kernel
theorem d_M_init_64 : decode y_M_init.2.1 64 = .ok (.putfield 37, 3) := by decide +kernel
theorem d_M_init_67 : decode y_M_init.2.1 67 = .ok (.aload_n 0, 1) := by decide +kernel
theorem d_M_init_68 : decode y_M_init.2.1 68 = .ok (.new 30, 3) := by decide +kernel
theorem d_M_init_71 : decode y_M_init.2.1 71 = .ok (.dup, 1) := by decide +kernel
theorem d_M_init_72 : decode y_M_init.2.1 72 = .ok (.invokespecial 32, 3) := by decide +kernel
theorem d_M_init_75 : decode y_M_init.2.1 75 = .ok (.putfield 40, 3) := by decide +kernel
theorem d_M_init_78 : decode y_M_init.2.1 78 = .ok (.aload_n 0, 1) := by decide +kernel
theorem d_M_init_79 : decode y_M_init.2.1 79 = .ok (.new 43, 3) := by decide +kernel
theorem d_M_init_82 : decode y_M_init.2.1 82 = .ok (.dup, 1) := by decide +kernel
theorem d_M_init_83 : decode y_M_init.2.1 83 = .ok (.invokespecial 45, 3) := by decide +kernel
theorem d_M_init_86 : decode y_M_init.2.1 86 = .ok (.putfield 46, 3) := by decide +kernel
theorem d_M_init_89 : decode y_M_init.2.1 89 = .ok (.aload_n 0, 1) := by decide +kernel
theorem d_M_init_90 : decode y_M_init.2.1 90 = .ok (.iconst 1, 1) := by decide +kernel
theorem d_M_init_91 : decode y_M_init.2.1 91 = .ok (.putfield 50, 3) := by decide +kernel
theorem d_M_init_94 : decode y_M_init.2.1 94 = .ok (.aload_n 0, 1) := by decide +kernel
theorem d_M_init_95 : decode y_M_init.2.1 95 = .ok (.sipush 256, 3) := by decide +kernel
theorem d_M_init_98 : decode y_M_init.2.1 98 = .ok (.newarray .int, 2) := by decide +kernel
theorem d_M_init_100 : decode y_M_init.2.1 100 = .ok (.putfield 53, 3) := by decide +kernel
theorem d_M_init_103 : decode y_M_init.2.1 103 = .ok (.aload_n 0, 1) := by decide +kernel
theorem d_M_init_104 : decode y_M_init.2.1 104 = .ok (.sipush 256, 3) := by decide +kernel
theorem d_M_init_107 : decode y_M_init.2.1 107 = .ok (.newarray .boolean, 2) := by decide +kernel
theorem d_M_init_109 : decode y_M_init.2.1 109 = .ok (.putfield 57, 3) := by decide +kernel
theorem d_M_init_112 : decode y_M_init.2.1 112 = .ok (.aload_n 0, 1) := by decide +kernel
theorem d_M_init_113 : decode y_M_init.2.1 113 = .ok (.bipush 64, 2) := by decide +kernel
theorem d_M_init_115 : decode y_M_init.2.1 115 = .ok (.newarray .int, 2) := by decide +kernel
theorem d_M_init_117 : decode y_M_init.2.1 117 = .ok (.putfield 61, 3) := by decide +kernel
theorem d_M_init_120 : decode y_M_init.2.1 120 = .ok (.aload_n 0, 1) := by decide +kernel
theorem d_M_init_121 : decode y_M_init.2.1 121 = .ok (.iconst 4, 1) := by decide +kernel
theorem d_M_init_122 : decode y_M_init.2.1 122 = .ok (.newarray .int, 2) := by decide +kernel
theorem d_M_init_124 : decode y_M_init.2.1 124 = .ok (.putfield 64, 3) := by decide +kernel
theorem d_M_init_127 : decode y_M_init.2.1 127 = .ok (.aload_n 0, 1) := by decide +kernel
theorem d_M_init_128 : decode y_M_init.2.1 128 = .ok (.iconst 4, 1) := by decide +kernel
theorem d_M_init_129 : decode y_M_init.2.1 129 = .ok (.newarray .int, 2) := by decide +kernel
theorem d_M_init_131 : decode y_M_init.2.1 131 = .ok (.putfield 67, 3) := by decide +kernel
theorem d_M_init_134 : decode y_M_init.2.1 134 = .ok (.aload_n 0, 1) := by decide +kernel
theorem d_M_init_135 : decode y_M_init.2.1 135 = .ok (.sipush 256, 3) := by decide +kernel
theorem d_M_init_138 : decode y_M_init.2.1 138 = .ok (.newarray .int, 2) := by decide +kernel
theorem d_M_init_140 : decode y_M_init.2.1 140 = .ok (.putfield 70, 3) := by decide +kernel
theorem d_M_init_143 : decode y_M_init.2.1 143 = .ok (.aload_n 0, 1) := by decide +kernel
theorem d_M_init_144 : decode y_M_init.2.1 144 = .ok (.ldc 73, 2) := by decide +kernel
theorem d_M_init_146 : decode y_M_init.2.1 146 = .ok (.newarray .byte, 2) := by decide +kernel
theorem d_M_init_148 : decode y_M_init.2.1 148 = .ok (.putfield 74, 3) := by decide +kernel
theorem d_M_init_151 : decode y_M_init.2.1 151 = .ok (.aload_n 0, 1) := by decide +kernel
theorem d_M_init_152 : decode y_M_init.2.1 152 = .ok (.bipush 8, 2) := by decide +kernel
theorem d_M_init_154 : decode y_M_init.2.1 154 = .ok (.newarray .boolean, 2) := by decide +kernel
theorem d_M_init_156 : decode y_M_init.2.1 156 = .ok (.putfield 77, 3) := by decide +kernel
theorem d_M_init_159 : decode y_M_init.2.1 159 = .ok (.aload_n 0, 1) := by decide +kernel
theorem d_M_init_160 : decode y_M_init.2.1 160 = .ok (.bipush 8, 2) := by decide +kernel
theorem d_M_init_162 : decode y_M_init.2.1 162 = .ok (.newarray .boolean, 2) := by decide +kernel
theorem d_M_init_164 : decode y_M_init.2.1 164 = .ok (.putfield 80, 3) := by decide +kernel
theorem d_M_init_167 : decode y_M_init.2.1 167 = .ok (.iload_n 1, 1) := by decide +kernel
theorem d_M_init_168 : decode y_M_init.2.1 168 = .ok (.iconst 1, 1) := by decide +kernel
theorem d_M_init_169 : decode y_M_init.2.1 169 = .ok (.if_icmp .ge 7, 3) := by decide +kernel
theorem d_M_init_172 : decode y_M_init.2.1 172 = .ok (.iconst 1, 1) := by decide +kernel
theorem d_M_init_173 : decode y_M_init.2.1 173 = .ok (.goto 15, 3) := by decide +kernel
theorem d_M_init_176 : decode y_M_init.2.1 176 = .ok (.iload_n 1, 1) := by decide +kernel
theorem d_M_init_177 : decode y_M_init.2.1 177 = .ok (.bipush 8, 2) := by decide +kernel
theorem d_M_init_179 : decode y_M_init.2.1 179 = .ok (.if_icmp .le 8, 3) := by decide +kernel
theorem d_M_init_182 : decode y_M_init.2.1 182 = .ok (.bipush 8, 2) := by decide +kernel
theorem d_M_init_184 : decode y_M_init.2.1 184 = .ok (.goto 4, 3) := by decide +kernel
theorem d_M_init_187 : decode y_M_init.2.1 187 = .ok (.iload_n 1, 1) := by decide +kernel
theorem d_M_init_188 : decode y_M_init.2.1 188 = .ok (.istore_n 2, 1) := by decide +kernel
theorem d_M_init_189 : decode y_M_init.2.1 189 = .ok (.iconst 0, 1) := by decide +kernel
theorem d_M_init_190 : decode y_M_init.2.1 190 = .ok (.istore_n 3, 1) := by decide +kernel
theorem d_M_init_191 : decode y_M_init.2.1 191 = .ok (.iload_n 3, 1) := by decide +kernel
theorem d_M_init_192 : decode y_M_init.2.1 192 = .ok (.iload_n 2, 1) := by decide +kernel
theorem d_M_init_193 : decode y_M_init.2.1 193 = .ok (.if_icmp .ge 16, 3) := by decide +kernel
theorem d_M_init_196 : decode y_M_init.2.1 196 = .ok (.aload_n 0, 1) := by decide +kernel
theorem d_M_init_197 : decode y_M_init.2.1 197 = .ok (.getfield 77, 3) := by decide +kernel
theorem d_M_init_200 : decode y_M_init.2.1 200 = .ok (.iload_n 3, 1) := by decide +kernel
theorem d_M_init_201 : decode y_M_init.2.1 201 = .ok (.iconst 1, 1) := by decide +kernel
theorem d_M_init_202 : decode y_M_init.2.1 202 = .ok (.bastore, 1) := by decide +kernel
theorem d_M_init_203 : decode y_M_init.2.1 203 = .ok (.iinc 3 1, 3) := by decide +kernel
theorem d_M_init_206 : decode y_M_init.2.1 206 = .ok (.goto (-15), 3) := by decide +kernel
theorem d_M_init_209 : decode y_M_init.2.1 209 = .ok (.return_, 1) := by decide +kernel
theorem s_M_init : ab_Stat y_M_init 1 := ⟨(k8 151 rfl rfl), (k1 19 rfl rfl), ⟨by decide, by decide⟩, by decide +kernel⟩
theorem i_M_init : Cond.instanceMethod y_M_init.1 ∈ ab_T := (k8 150 rfl rfl)
def B_M_init_191 (N : Nat) (p0 : Nat) (p1 : Int32) : Nat → Int32 → Int32 → Hp → Option (Unit × Hp)
  | 0, _, _, _ => none
  | n + 1, l2, l3, H =>
    if l2 ≤ l3 then
    some ((), H)
    else
    ck (H.sh[p0]? = some (12, 0)) <|
    rf (H.P p0 25) fun a95 =>
    ar H 102 a95 fun n97 =>
    ck (inb l3 n97) <|
    bnd (H.sD a95 (l3).toNatClampNeg (vp_nar .boolean (1 : Int32))) fun H100 =>
    B_M_init_191 N p0 p1 n l2 (l3 + 1) H100
termination_by structural n => n
set_option maxRecDepth 20000 in
set_option maxHeartbeats 2000000 in
theorem mB_M_init_191 {N : Nat} {p0 : Nat} {p1 : Int32} : ∀ (n : Nat) (l2 : Int32) (l3 : Int32) (H : Hp) (r : Unit × Hp), B_M_init_191 N p0 p1 n l2 l3 H = some r → Mo H r.2 := by
  intro n
  induction n with
  | zero => intro l2 l3 H r hF; rw [B_M_init_191] at hF; cases hF
  | succ n ih =>
    intro l2 l3 H r hF
    rw [B_M_init_191] at hF
    have hm := Mo.rf H
    rcases ite_s hF with ⟨q_52, hG⟩ | ⟨q_52, hG⟩
    · clear hF
      have hr := Option.some.inj hG; subst hr
      exact hm
    · clear hF
      obtain ⟨q102, hF⟩ := ck_s hG; clear hG
      obtain ⟨a103, e104, hG⟩ := rf_s hF; clear hF
      obtain ⟨n105, q106, hF⟩ := ar_s hG; clear hG
      obtain ⟨q107, hG⟩ := ck_s hF; clear hF
      obtain ⟨H108, eH108, hF⟩ := bnd_g hG; clear hG
      replace hm : Mo H H108 := by rw [eH108]; exact hm
      exact hm.tr (ih l2 (l3 + 1) H108 r hF)
set_option maxRecDepth 20000 in
set_option maxHeartbeats 2000000 in
theorem kB_M_init_191 {N : Nat} {p0 : Nat} {p1 : Int32} {c0 s0 C Sl : Nat} : ∀ (n : Nat) (l2 : Int32) (l3 : Int32) (H : Hp) (r : Unit × Hp), B_M_init_191 N p0 p1 n l2 l3 H = some r → c0 ≤ H.sh.length → s0 ≤ H.sl → H.sh.length ≤ c0 + C → H.sl ≤ s0 + Sl → r.2.sh.length ≤ c0 + C → r.2.sl ≤ s0 + Sl → ab_V y_M_init { frames := 2, cells := C, slots := Sl, locals := 80 } (po (.returned none) r.2) C Sl (H.sh.length - c0) (H.sl - s0) 191 [some (.ref p0), some (.int p1), some (.int l2), some (.int l3)] [] (hpw H) := by
  intro n
  induction n with
  | zero => intro l2 l3 H r hF; rw [B_M_init_191] at hF; cases hF
  | succ n ih =>
    intro l2 l3 H r hF hc0 hs0 hcc hss hC hS
    rw [B_M_init_191] at hF
    refine ab_iload_n d_M_init_191 rfl rfl ?_
    refine ab_iload_n d_M_init_192 rfl rfl ?_
    refine ab_icmp_ge (tgt := 209) d_M_init_193 (by decide) (fun q93 => ?_) (fun q93 => ?_)
    · rw [if_pos q93] at hF
      exact ab_vret d_M_init_209 rfl (by show _ ≤ C; omega) (by show _ ≤ Sl; omega) (by have hr := Option.some.inj hF; subst hr; exact ⟨rfl, rfl⟩)
    · rw [if_neg q93] at hF
      refine ab_aload_n d_M_init_196 rfl rfl rfl ?_
      obtain ⟨q94, hG⟩ := ck_s hF; clear hF
      obtain ⟨a95, e96, hF⟩ := rf_s hG; clear hG
      refine hp_getR (f := 25) d_M_init_197 q94 (by decide) rfl (by decide) (k10 18 rfl rfl) rfl e96 ?_
      refine ab_iload_n d_M_init_200 rfl rfl ?_
      refine ab_iconst (v := 1) d_M_init_201 (by decide) ?_
      obtain ⟨n97, q98, hG⟩ := ar_s hF; clear hF
      obtain ⟨q99, hF⟩ := ck_s hG; clear hG
      refine hp_zast d_M_init_202 tZ q98 q99 ?_
      refine hp_gen (fun H100 eH100 => ?_)
      replace hF := bnd_s eH100 hF
      have s_51 : Sa H H100 := by rw [eH100]; exact Sa.rf _
      refine ab_iinc (v := l3 + 1) (lv' := [some (.ref p0), some (.int p1), some (.int l2), some (.int (l3 + 1))]) d_M_init_203 rfl rfl (by decide) rfl ?_
      refine ab_goto (tgt := 191) d_M_init_206 (by decide) ?_
      refine ab_widen (cells' := H100.sh.length - c0) (slots' := H100.sl - s0) (by rw [(s_51).1]; exact Nat.le_refl _) (by rw [(s_51).2]; exact Nat.le_refl _) ?_
      exact ih l2 (l3 + 1) H100 r hF (by rw [(s_51).1]; exact hc0) (by rw [(s_51).2]; exact hs0) (by rw [(s_51).1]; exact hcc) (by rw [(s_51).2]; exact hss) hC hS
def B_M_init_188 (N : Nat) (p0 : Nat) (p1 : Int32) (w0 : Int32) (H : Hp) : Option (Unit × Hp) :=
    B_M_init_191 N p0 p1 N w0 0 H
set_option maxRecDepth 20000 in
set_option maxHeartbeats 2000000 in
theorem mB_M_init_188 {N : Nat} {p0 : Nat} {p1 : Int32} {w0 : Int32} {H : Hp} {r : Unit × Hp} (hF : B_M_init_188 N p0 p1 w0 H = some r) : Mo H r.2 := by
  unfold B_M_init_188 at hF
  have hm := Mo.rf H
  exact hm.tr (mB_M_init_191 N w0 0 H r hF)
set_option maxRecDepth 20000 in
set_option maxHeartbeats 2000000 in
theorem kB_M_init_188 {N : Nat} {p0 : Nat} {p1 : Int32} {c0 s0 C Sl : Nat} {w0 : Int32} {H : Hp} {r : Unit × Hp} (hF : B_M_init_188 N p0 p1 w0 H = some r) (hc0 : c0 ≤ H.sh.length) (hs0 : s0 ≤ H.sl) (hcc : H.sh.length ≤ c0 + C) (hss : H.sl ≤ s0 + Sl) (hC : r.2.sh.length ≤ c0 + C) (hS : r.2.sl ≤ s0 + Sl) : ab_V y_M_init { frames := 2, cells := C, slots := Sl, locals := 80 } (po (.returned none) r.2) C Sl (H.sh.length - c0) (H.sl - s0) 188 [some (.ref p0), some (.int p1), none, none] [.int w0] (hpw H) := by
  unfold B_M_init_188 at hF
  refine ab_istore_n (lv' := [some (.ref p0), some (.int p1), some (.int w0), none]) d_M_init_188 rfl (by decide) rfl ?_
  refine ab_iconst (v := 0) d_M_init_189 (by decide) ?_
  refine ab_istore_n (lv' := [some (.ref p0), some (.int p1), some (.int w0), some (.int 0)]) d_M_init_190 rfl (by decide) rfl ?_
  exact kB_M_init_191 N w0 0 H r hF hc0 hs0 hcc hss hC hS
def F_M_init (N : Nat) (p0 : Nat) (p1 : Int32) (H : Hp) : Option (Unit × Hp) :=
    ck (¬ (6000 : Int32) < 0) <|
    ck (((6000 : Int32)).toNatClampNeg * 1 ≤ 536870912) <|
    bnd (H.nw (101, ((6000 : Int32)).toNatClampNeg) ((6000 : Int32)).toNatClampNeg) fun H3 =>
    bnd H.sh.length fun a4 =>
    ck (H3.sh[p0]? = some (12, 0)) <|
    bnd (H3.sP p0 1 (.ref a4)) fun H6 =>
    bnd (H6.nw (14, 0) 43) fun H7 =>
    bnd H6.sh.length fun a8 =>
    bC (F_MText_init N a8 H7) fun v10 H11 =>
    bnd (H11.sP p0 3 (.ref a8)) fun H12 =>
    bnd (H12.nw (14, 0) 43) fun H13 =>
    bnd H12.sh.length fun a14 =>
    bC (F_MText_init N a14 H13) fun v16 H17 =>
    bnd (H17.sP p0 4 (.ref a14)) fun H18 =>
    bnd (H18.sD p0 6 ((-1) : Int32)) fun H19 =>
    bnd (H19.sD p0 7 ((-1) : Int32)) fun H20 =>
    bnd (H20.nw (13, 0) 18) fun H21 =>
    bnd H20.sh.length fun a22 =>
    bC (F_MWorld_init N a22 H21) fun v24 H25 =>
    bnd (H25.sP p0 8 (.ref a22)) fun H26 =>
    bnd (H26.nw (13, 0) 18) fun H27 =>
    bnd H26.sh.length fun a28 =>
    bC (F_MWorld_init N a28 H27) fun v30 H31 =>
    bnd (H31.sP p0 9 (.ref a28)) fun H32 =>
    bnd (H32.nw (13, 0) 18) fun H33 =>
    bnd H32.sh.length fun a34 =>
    bC (F_MWorld_init N a34 H33) fun v36 H37 =>
    bnd (H37.sP p0 10 (.ref a34)) fun H38 =>
    bnd (H38.nw (15, 0) 16) fun H39 =>
    bnd H38.sh.length fun a40 =>
    bC (F_MRunner_init N a40 H39) fun v42 H43 =>
    bnd (H43.sP p0 11 (.ref a40)) fun H44 =>
    bnd (H44.sD p0 12 (1 : Int32)) fun H45 =>
    ck (¬ (256 : Int32) < 0) <|
    ck (((256 : Int32)).toNatClampNeg * 4 ≤ 536870912) <|
    bnd (H45.nw (100, ((256 : Int32)).toNatClampNeg) ((256 : Int32)).toNatClampNeg) fun H48 =>
    bnd H45.sh.length fun a49 =>
    bnd (H48.sP p0 14 (.ref a49)) fun H50 =>
    ck (¬ (256 : Int32) < 0) <|
    ck (((256 : Int32)).toNatClampNeg * 1 ≤ 536870912) <|
    bnd (H50.nw (102, ((256 : Int32)).toNatClampNeg) ((256 : Int32)).toNatClampNeg) fun H53 =>
    bnd H50.sh.length fun a54 =>
    bnd (H53.sP p0 15 (.ref a54)) fun H55 =>
    ck (¬ (64 : Int32) < 0) <|
    ck (((64 : Int32)).toNatClampNeg * 4 ≤ 536870912) <|
    bnd (H55.nw (100, ((64 : Int32)).toNatClampNeg) ((64 : Int32)).toNatClampNeg) fun H58 =>
    bnd H55.sh.length fun a59 =>
    bnd (H58.sP p0 16 (.ref a59)) fun H60 =>
    ck (¬ (4 : Int32) < 0) <|
    ck (((4 : Int32)).toNatClampNeg * 4 ≤ 536870912) <|
    bnd (H60.nw (100, ((4 : Int32)).toNatClampNeg) ((4 : Int32)).toNatClampNeg) fun H63 =>
    bnd H60.sh.length fun a64 =>
    bnd (H63.sP p0 17 (.ref a64)) fun H65 =>
    ck (¬ (4 : Int32) < 0) <|
    ck (((4 : Int32)).toNatClampNeg * 4 ≤ 536870912) <|
    bnd (H65.nw (100, ((4 : Int32)).toNatClampNeg) ((4 : Int32)).toNatClampNeg) fun H68 =>
    bnd H65.sh.length fun a69 =>
    bnd (H68.sP p0 18 (.ref a69)) fun H70 =>
    ck (¬ (256 : Int32) < 0) <|
    ck (((256 : Int32)).toNatClampNeg * 4 ≤ 536870912) <|
    bnd (H70.nw (100, ((256 : Int32)).toNatClampNeg) ((256 : Int32)).toNatClampNeg) fun H73 =>
    bnd H70.sh.length fun a74 =>
    bnd (H73.sP p0 19 (.ref a74)) fun H75 =>
    ck (¬ (58000 : Int32) < 0) <|
    ck (((58000 : Int32)).toNatClampNeg * 1 ≤ 536870912) <|
    bnd (H75.nw (101, ((58000 : Int32)).toNatClampNeg) ((58000 : Int32)).toNatClampNeg) fun H78 =>
    bnd H75.sh.length fun a79 =>
    bnd (H78.sP p0 21 (.ref a79)) fun H80 =>
    ck (¬ (8 : Int32) < 0) <|
    ck (((8 : Int32)).toNatClampNeg * 1 ≤ 536870912) <|
    bnd (H80.nw (102, ((8 : Int32)).toNatClampNeg) ((8 : Int32)).toNatClampNeg) fun H83 =>
    bnd H80.sh.length fun a84 =>
    bnd (H83.sP p0 25 (.ref a84)) fun H85 =>
    ck (¬ (8 : Int32) < 0) <|
    ck (((8 : Int32)).toNatClampNeg * 1 ≤ 536870912) <|
    bnd (H85.nw (102, ((8 : Int32)).toNatClampNeg) ((8 : Int32)).toNatClampNeg) fun H88 =>
    bnd H85.sh.length fun a89 =>
    bnd (H88.sP p0 26 (.ref a89)) fun H90 =>
    if (1 : Int32) ≤ p1 then
    if p1 ≤ (8 : Int32) then
    B_M_init_188 N p0 p1 p1 H90
    else
    B_M_init_188 N p0 p1 8 H90
    else
    B_M_init_188 N p0 p1 1 H90
set_option maxRecDepth 20000 in
set_option maxHeartbeats 2000000 in
theorem m_M_init {N : Nat} {p0 : Nat} {p1 : Int32} {H : Hp} {r : Unit × Hp} (hF : F_M_init N p0 p1 H = some r) : Mo H r.2 := by
  unfold F_M_init at hF
  have hm := Mo.rf H
  obtain ⟨q93, hG⟩ := ck_s hF; clear hF
  obtain ⟨q94, hF⟩ := ck_s hG; clear hG
  obtain ⟨H95, eH95, hG⟩ := bnd_g hF; clear hF
  replace hm : Mo H H95 := hm.tr (by rw [eH95]; exact Mo.nw _ _ _)
  obtain ⟨a96, -, hF⟩ := bnd_g hG; clear hG
  obtain ⟨q97, hG⟩ := ck_s hF; clear hF
  obtain ⟨H98, eH98, hF⟩ := bnd_g hG; clear hG
  replace hm : Mo H H98 := by rw [eH98]; exact hm
  obtain ⟨H99, eH99, hG⟩ := bnd_g hF; clear hF
  replace hm : Mo H H99 := hm.tr (by rw [eH99]; exact Mo.nw _ _ _)
  obtain ⟨a100, -, hF⟩ := bnd_g hG; clear hG
  obtain ⟨v102, H103, z101, hG⟩ := bC_s hF; clear hF
  replace hm : Mo H H103 := hm.tr (m_MText_init z101)
  obtain ⟨H104, eH104, hF⟩ := bnd_g hG; clear hG
  replace hm : Mo H H104 := by rw [eH104]; exact hm
  obtain ⟨H105, eH105, hG⟩ := bnd_g hF; clear hF
  replace hm : Mo H H105 := hm.tr (by rw [eH105]; exact Mo.nw _ _ _)
  obtain ⟨a106, -, hF⟩ := bnd_g hG; clear hG
  obtain ⟨v108, H109, z107, hG⟩ := bC_s hF; clear hF
  replace hm : Mo H H109 := hm.tr (m_MText_init z107)
  obtain ⟨H110, eH110, hF⟩ := bnd_g hG; clear hG
  replace hm : Mo H H110 := by rw [eH110]; exact hm
  obtain ⟨H111, eH111, hG⟩ := bnd_g hF; clear hF
  replace hm : Mo H H111 := by rw [eH111]; exact hm
  obtain ⟨H112, eH112, hF⟩ := bnd_g hG; clear hG
  replace hm : Mo H H112 := by rw [eH112]; exact hm
  obtain ⟨H113, eH113, hG⟩ := bnd_g hF; clear hF
  replace hm : Mo H H113 := hm.tr (by rw [eH113]; exact Mo.nw _ _ _)
  obtain ⟨a114, -, hF⟩ := bnd_g hG; clear hG
  obtain ⟨v116, H117, z115, hG⟩ := bC_s hF; clear hF
  replace hm : Mo H H117 := hm.tr (m_MWorld_init z115)
  obtain ⟨H118, eH118, hF⟩ := bnd_g hG; clear hG
  replace hm : Mo H H118 := by rw [eH118]; exact hm
  obtain ⟨H119, eH119, hG⟩ := bnd_g hF; clear hF
  replace hm : Mo H H119 := hm.tr (by rw [eH119]; exact Mo.nw _ _ _)
  obtain ⟨a120, -, hF⟩ := bnd_g hG; clear hG
  obtain ⟨v122, H123, z121, hG⟩ := bC_s hF; clear hF
  replace hm : Mo H H123 := hm.tr (m_MWorld_init z121)
  obtain ⟨H124, eH124, hF⟩ := bnd_g hG; clear hG
  replace hm : Mo H H124 := by rw [eH124]; exact hm
  obtain ⟨H125, eH125, hG⟩ := bnd_g hF; clear hF
  replace hm : Mo H H125 := hm.tr (by rw [eH125]; exact Mo.nw _ _ _)
  obtain ⟨a126, -, hF⟩ := bnd_g hG; clear hG
  obtain ⟨v128, H129, z127, hG⟩ := bC_s hF; clear hF
  replace hm : Mo H H129 := hm.tr (m_MWorld_init z127)
  obtain ⟨H130, eH130, hF⟩ := bnd_g hG; clear hG
  replace hm : Mo H H130 := by rw [eH130]; exact hm
  obtain ⟨H131, eH131, hG⟩ := bnd_g hF; clear hF
  replace hm : Mo H H131 := hm.tr (by rw [eH131]; exact Mo.nw _ _ _)
  obtain ⟨a132, -, hF⟩ := bnd_g hG; clear hG
  obtain ⟨v134, H135, z133, hG⟩ := bC_s hF; clear hF
  replace hm : Mo H H135 := hm.tr (m_MRunner_init z133)
  obtain ⟨H136, eH136, hF⟩ := bnd_g hG; clear hG
  replace hm : Mo H H136 := by rw [eH136]; exact hm
  obtain ⟨H137, eH137, hG⟩ := bnd_g hF; clear hF
  replace hm : Mo H H137 := by rw [eH137]; exact hm
  obtain ⟨q138, hF⟩ := ck_s hG; clear hG
  obtain ⟨q139, hG⟩ := ck_s hF; clear hF
  obtain ⟨H140, eH140, hF⟩ := bnd_g hG; clear hG
  replace hm : Mo H H140 := hm.tr (by rw [eH140]; exact Mo.nw _ _ _)
  obtain ⟨a141, -, hG⟩ := bnd_g hF; clear hF
  obtain ⟨H142, eH142, hF⟩ := bnd_g hG; clear hG
  replace hm : Mo H H142 := by rw [eH142]; exact hm
  obtain ⟨q143, hG⟩ := ck_s hF; clear hF
  obtain ⟨q144, hF⟩ := ck_s hG; clear hG
  obtain ⟨H145, eH145, hG⟩ := bnd_g hF; clear hF
  replace hm : Mo H H145 := hm.tr (by rw [eH145]; exact Mo.nw _ _ _)
  obtain ⟨a146, -, hF⟩ := bnd_g hG; clear hG
  obtain ⟨H147, eH147, hG⟩ := bnd_g hF; clear hF
  replace hm : Mo H H147 := by rw [eH147]; exact hm
  obtain ⟨q148, hF⟩ := ck_s hG; clear hG
  obtain ⟨q149, hG⟩ := ck_s hF; clear hF
  obtain ⟨H150, eH150, hF⟩ := bnd_g hG; clear hG
  replace hm : Mo H H150 := hm.tr (by rw [eH150]; exact Mo.nw _ _ _)
  obtain ⟨a151, -, hG⟩ := bnd_g hF; clear hF
  obtain ⟨H152, eH152, hF⟩ := bnd_g hG; clear hG
  replace hm : Mo H H152 := by rw [eH152]; exact hm
  obtain ⟨q153, hG⟩ := ck_s hF; clear hF
  obtain ⟨q154, hF⟩ := ck_s hG; clear hG
  obtain ⟨H155, eH155, hG⟩ := bnd_g hF; clear hF
  replace hm : Mo H H155 := hm.tr (by rw [eH155]; exact Mo.nw _ _ _)
  obtain ⟨a156, -, hF⟩ := bnd_g hG; clear hG
  obtain ⟨H157, eH157, hG⟩ := bnd_g hF; clear hF
  replace hm : Mo H H157 := by rw [eH157]; exact hm
  obtain ⟨q158, hF⟩ := ck_s hG; clear hG
  obtain ⟨q159, hG⟩ := ck_s hF; clear hF
  obtain ⟨H160, eH160, hF⟩ := bnd_g hG; clear hG
  replace hm : Mo H H160 := hm.tr (by rw [eH160]; exact Mo.nw _ _ _)
  obtain ⟨a161, -, hG⟩ := bnd_g hF; clear hF
  obtain ⟨H162, eH162, hF⟩ := bnd_g hG; clear hG
  replace hm : Mo H H162 := by rw [eH162]; exact hm
  obtain ⟨q163, hG⟩ := ck_s hF; clear hF
  obtain ⟨q164, hF⟩ := ck_s hG; clear hG
  obtain ⟨H165, eH165, hG⟩ := bnd_g hF; clear hF
  replace hm : Mo H H165 := hm.tr (by rw [eH165]; exact Mo.nw _ _ _)
  obtain ⟨a166, -, hF⟩ := bnd_g hG; clear hG
  obtain ⟨H167, eH167, hG⟩ := bnd_g hF; clear hF
  replace hm : Mo H H167 := by rw [eH167]; exact hm
  obtain ⟨q168, hF⟩ := ck_s hG; clear hG
  obtain ⟨q169, hG⟩ := ck_s hF; clear hF
  obtain ⟨H170, eH170, hF⟩ := bnd_g hG; clear hG
  replace hm : Mo H H170 := hm.tr (by rw [eH170]; exact Mo.nw _ _ _)
  obtain ⟨a171, -, hG⟩ := bnd_g hF; clear hF
  obtain ⟨H172, eH172, hF⟩ := bnd_g hG; clear hG
  replace hm : Mo H H172 := by rw [eH172]; exact hm
  obtain ⟨q173, hG⟩ := ck_s hF; clear hF
  obtain ⟨q174, hF⟩ := ck_s hG; clear hG
  obtain ⟨H175, eH175, hG⟩ := bnd_g hF; clear hF
  replace hm : Mo H H175 := hm.tr (by rw [eH175]; exact Mo.nw _ _ _)
  obtain ⟨a176, -, hF⟩ := bnd_g hG; clear hG
  obtain ⟨H177, eH177, hG⟩ := bnd_g hF; clear hF
  replace hm : Mo H H177 := by rw [eH177]; exact hm
  obtain ⟨q178, hF⟩ := ck_s hG; clear hG
  obtain ⟨q179, hG⟩ := ck_s hF; clear hF
  obtain ⟨H180, eH180, hF⟩ := bnd_g hG; clear hG
  replace hm : Mo H H180 := hm.tr (by rw [eH180]; exact Mo.nw _ _ _)
  obtain ⟨a181, -, hG⟩ := bnd_g hF; clear hF
  obtain ⟨H182, eH182, hF⟩ := bnd_g hG; clear hG
  replace hm : Mo H H182 := by rw [eH182]; exact hm
  rcases ite_s hF with ⟨q_182, hG⟩ | ⟨q_182, hG⟩
  · clear hF
    rcases ite_s hG with ⟨q_183, hF⟩ | ⟨q_183, hF⟩
    · clear hG
      exact hm.tr (mB_M_init_188 hF)
    · clear hG
      exact hm.tr (mB_M_init_188 hF)
  · clear hF
    exact hm.tr (mB_M_init_188 hG)
set_option maxRecDepth 20000 in
set_option maxHeartbeats 2000000 in
theorem k_M_init {N : Nat} {p0 : Nat} {p1 : Int32} {H : Hp} {r : Unit × Hp} {C Sl : Nat} (hF : F_M_init N p0 p1 H = some r) (hC : r.2.sh.length ≤ H.sh.length + C) (hS : r.2.sl ≤ H.sl + Sl) : ab_M y_M_init { frames := 2, cells := C, slots := Sl, locals := 80 } [.ref p0, .int p1] (hpw H) (po (.returned none) r.2) := by
  unfold F_M_init at hF
  obtain ⟨c0, e0⟩ : ∃ q, q = H.sh.length := ⟨_, rfl⟩
  obtain ⟨s0, e1⟩ : ∃ q, q = H.sl := ⟨_, rfl⟩
  rw [← e0] at hC
  rw [← e1] at hS
  have hc0 : c0 ≤ H.sh.length := Nat.le_of_eq e0
  have hs0 : s0 ≤ H.sl := Nat.le_of_eq e1
  have hcc : H.sh.length ≤ c0 + C := by omega
  have hss : H.sl ≤ s0 + Sl := by omega
  refine ab_of2 (lv := [some (.ref p0), some (.int p1), none, none]) 2 rfl rfl (Nat.le_of_ble_eq_true rfl) ?_
  refine ab_widen (cells' := H.sh.length - c0) (slots' := H.sl - s0) (Nat.zero_le _) (Nat.zero_le _) ?_
  refine ab_aload_n d_M_init_0 rfl rfl rfl ?_
  refine ab_objInit d_M_init_1 (k8 152 rfl rfl) (k1 37 rfl rfl) (k1 38 rfl rfl) (Nat.le_of_ble_eq_true rfl) (Nat.le_of_ble_eq_true rfl) ?_
  refine ab_aload_n d_M_init_4 rfl rfl rfl ?_
  refine ab_sipush (v := 6000) d_M_init_5 (by decide) ?_
  obtain ⟨q1, hG⟩ := ck_s hF; clear hF
  obtain ⟨q2, hF⟩ := ck_s hG; clear hG
  obtain ⟨H3, eH3, hG⟩ := bnd_g hF; clear hF
  obtain ⟨a4, ea4, hF⟩ := bnd_g hG; clear hG
  have m_1 : Mo H H3 := by rw [eH3]; exact Mo.nw _ _ _
  have b_2l := (m_1).len
  have b_2s := (m_1).2
  have b_2c : c0 ≤ H3.sh.length := by omega
  have b_2d : s0 ≤ H3.sl := by omega
  have b_2x : H3.sh.length = H.sh.length + 1 := by rw [eH3]; simp [Hp.nw, mkH_sh]
  have b_2y : H3.sl = H.sl + ((6000 : Int32)).toNatClampNeg := by rw [eH3]; rfl
  obtain ⟨q5, hG⟩ := ck_s hF; clear hF
  obtain ⟨H6, eH6, hF⟩ := bnd_g hG; clear hG
  have jH6 : Mo H3 H6 := by rw [eH6]; exact Mo.rf _
  obtain ⟨H7, eH7, hG⟩ := bnd_g hF; clear hF
  obtain ⟨a8, ea8, hF⟩ := bnd_g hG; clear hG
  have jH7 : Mo H6 H7 := by rw [eH7]; exact Mo.nw _ _ _
  obtain ⟨v10, H11, z9, hG⟩ := bC_s hF; clear hF
  have jH11 : Mo H7 H11 := (m_MText_init z9)
  obtain ⟨H12, eH12, hF⟩ := bnd_g hG; clear hG
  have jH12 : Mo H11 H12 := by rw [eH12]; exact Mo.rf _
  obtain ⟨H13, eH13, hG⟩ := bnd_g hF; clear hF
  obtain ⟨a14, ea14, hF⟩ := bnd_g hG; clear hG
  have jH13 : Mo H12 H13 := by rw [eH13]; exact Mo.nw _ _ _
  obtain ⟨v16, H17, z15, hG⟩ := bC_s hF; clear hF
  have jH17 : Mo H13 H17 := (m_MText_init z15)
  obtain ⟨H18, eH18, hF⟩ := bnd_g hG; clear hG
  have jH18 : Mo H17 H18 := by rw [eH18]; exact Mo.rf _
  obtain ⟨H19, eH19, hG⟩ := bnd_g hF; clear hF
  have jH19 : Mo H18 H19 := by rw [eH19]; exact Mo.rf _
  obtain ⟨H20, eH20, hF⟩ := bnd_g hG; clear hG
  have jH20 : Mo H19 H20 := by rw [eH20]; exact Mo.rf _
  obtain ⟨H21, eH21, hG⟩ := bnd_g hF; clear hF
  obtain ⟨a22, ea22, hF⟩ := bnd_g hG; clear hG
  have jH21 : Mo H20 H21 := by rw [eH21]; exact Mo.nw _ _ _
  obtain ⟨v24, H25, z23, hG⟩ := bC_s hF; clear hF
  have jH25 : Mo H21 H25 := (m_MWorld_init z23)
  obtain ⟨H26, eH26, hF⟩ := bnd_g hG; clear hG
  have jH26 : Mo H25 H26 := by rw [eH26]; exact Mo.rf _
  obtain ⟨H27, eH27, hG⟩ := bnd_g hF; clear hF
  obtain ⟨a28, ea28, hF⟩ := bnd_g hG; clear hG
  have jH27 : Mo H26 H27 := by rw [eH27]; exact Mo.nw _ _ _
  obtain ⟨v30, H31, z29, hG⟩ := bC_s hF; clear hF
  have jH31 : Mo H27 H31 := (m_MWorld_init z29)
  obtain ⟨H32, eH32, hF⟩ := bnd_g hG; clear hG
  have jH32 : Mo H31 H32 := by rw [eH32]; exact Mo.rf _
  obtain ⟨H33, eH33, hG⟩ := bnd_g hF; clear hF
  obtain ⟨a34, ea34, hF⟩ := bnd_g hG; clear hG
  have jH33 : Mo H32 H33 := by rw [eH33]; exact Mo.nw _ _ _
  obtain ⟨v36, H37, z35, hG⟩ := bC_s hF; clear hF
  have jH37 : Mo H33 H37 := (m_MWorld_init z35)
  obtain ⟨H38, eH38, hF⟩ := bnd_g hG; clear hG
  have jH38 : Mo H37 H38 := by rw [eH38]; exact Mo.rf _
  obtain ⟨H39, eH39, hG⟩ := bnd_g hF; clear hF
  obtain ⟨a40, ea40, hF⟩ := bnd_g hG; clear hG
  have jH39 : Mo H38 H39 := by rw [eH39]; exact Mo.nw _ _ _
  obtain ⟨v42, H43, z41, hG⟩ := bC_s hF; clear hF
  have jH43 : Mo H39 H43 := (m_MRunner_init z41)
  obtain ⟨H44, eH44, hF⟩ := bnd_g hG; clear hG
  have jH44 : Mo H43 H44 := by rw [eH44]; exact Mo.rf _
  obtain ⟨H45, eH45, hG⟩ := bnd_g hF; clear hF
  have jH45 : Mo H44 H45 := by rw [eH45]; exact Mo.rf _
  obtain ⟨q46, hF⟩ := ck_s hG; clear hG
  obtain ⟨q47, hG⟩ := ck_s hF; clear hF
  obtain ⟨H48, eH48, hF⟩ := bnd_g hG; clear hG
  obtain ⟨a49, ea49, hG⟩ := bnd_g hF; clear hF
  have jH48 : Mo H45 H48 := by rw [eH48]; exact Mo.nw _ _ _
  obtain ⟨H50, eH50, hF⟩ := bnd_g hG; clear hG
  have jH50 : Mo H48 H50 := by rw [eH50]; exact Mo.rf _
  obtain ⟨q51, hG⟩ := ck_s hF; clear hF
  obtain ⟨q52, hF⟩ := ck_s hG; clear hG
  obtain ⟨H53, eH53, hG⟩ := bnd_g hF; clear hF
  obtain ⟨a54, ea54, hF⟩ := bnd_g hG; clear hG
  have jH53 : Mo H50 H53 := by rw [eH53]; exact Mo.nw _ _ _
  obtain ⟨H55, eH55, hG⟩ := bnd_g hF; clear hF
  have jH55 : Mo H53 H55 := by rw [eH55]; exact Mo.rf _
  obtain ⟨q56, hF⟩ := ck_s hG; clear hG
  obtain ⟨q57, hG⟩ := ck_s hF; clear hF
  obtain ⟨H58, eH58, hF⟩ := bnd_g hG; clear hG
  obtain ⟨a59, ea59, hG⟩ := bnd_g hF; clear hF
  have jH58 : Mo H55 H58 := by rw [eH58]; exact Mo.nw _ _ _
  obtain ⟨H60, eH60, hF⟩ := bnd_g hG; clear hG
  have jH60 : Mo H58 H60 := by rw [eH60]; exact Mo.rf _
  obtain ⟨q61, hG⟩ := ck_s hF; clear hF
  obtain ⟨q62, hF⟩ := ck_s hG; clear hG
  obtain ⟨H63, eH63, hG⟩ := bnd_g hF; clear hF
  obtain ⟨a64, ea64, hF⟩ := bnd_g hG; clear hG
  have jH63 : Mo H60 H63 := by rw [eH63]; exact Mo.nw _ _ _
  obtain ⟨H65, eH65, hG⟩ := bnd_g hF; clear hF
  have jH65 : Mo H63 H65 := by rw [eH65]; exact Mo.rf _
  obtain ⟨q66, hF⟩ := ck_s hG; clear hG
  obtain ⟨q67, hG⟩ := ck_s hF; clear hF
  obtain ⟨H68, eH68, hF⟩ := bnd_g hG; clear hG
  obtain ⟨a69, ea69, hG⟩ := bnd_g hF; clear hF
  have jH68 : Mo H65 H68 := by rw [eH68]; exact Mo.nw _ _ _
  obtain ⟨H70, eH70, hF⟩ := bnd_g hG; clear hG
  have jH70 : Mo H68 H70 := by rw [eH70]; exact Mo.rf _
  obtain ⟨q71, hG⟩ := ck_s hF; clear hF
  obtain ⟨q72, hF⟩ := ck_s hG; clear hG
  obtain ⟨H73, eH73, hG⟩ := bnd_g hF; clear hF
  obtain ⟨a74, ea74, hF⟩ := bnd_g hG; clear hG
  have jH73 : Mo H70 H73 := by rw [eH73]; exact Mo.nw _ _ _
  obtain ⟨H75, eH75, hG⟩ := bnd_g hF; clear hF
  have jH75 : Mo H73 H75 := by rw [eH75]; exact Mo.rf _
  obtain ⟨q76, hF⟩ := ck_s hG; clear hG
  obtain ⟨q77, hG⟩ := ck_s hF; clear hF
  obtain ⟨H78, eH78, hF⟩ := bnd_g hG; clear hG
  obtain ⟨a79, ea79, hG⟩ := bnd_g hF; clear hF
  have jH78 : Mo H75 H78 := by rw [eH78]; exact Mo.nw _ _ _
  obtain ⟨H80, eH80, hF⟩ := bnd_g hG; clear hG
  have jH80 : Mo H78 H80 := by rw [eH80]; exact Mo.rf _
  obtain ⟨q81, hG⟩ := ck_s hF; clear hF
  obtain ⟨q82, hF⟩ := ck_s hG; clear hG
  obtain ⟨H83, eH83, hG⟩ := bnd_g hF; clear hF
  obtain ⟨a84, ea84, hF⟩ := bnd_g hG; clear hG
  have jH83 : Mo H80 H83 := by rw [eH83]; exact Mo.nw _ _ _
  obtain ⟨H85, eH85, hG⟩ := bnd_g hF; clear hF
  have jH85 : Mo H83 H85 := by rw [eH85]; exact Mo.rf _
  obtain ⟨q86, hF⟩ := ck_s hG; clear hG
  obtain ⟨q87, hG⟩ := ck_s hF; clear hF
  obtain ⟨H88, eH88, hF⟩ := bnd_g hG; clear hG
  obtain ⟨a89, ea89, hG⟩ := bnd_g hF; clear hF
  have jH88 : Mo H85 H88 := by rw [eH88]; exact Mo.nw _ _ _
  obtain ⟨H90, eH90, hF⟩ := bnd_g hG; clear hG
  have jH90 : Mo H88 H90 := by rw [eH90]; exact Mo.rf _
  have fH90 : Mo H90 r.2 := by
    have hm := Mo.rf H90
    rcases ite_s hF with ⟨q_49, hG⟩ | ⟨q_49, hG⟩
    · clear hF
      rcases ite_s hG with ⟨q_50, hF⟩ | ⟨q_50, hF⟩
      · clear hG
        exact hm.tr (mB_M_init_188 hF)
      · clear hG
        exact hm.tr (mB_M_init_188 hF)
    · clear hF
      exact hm.tr (mB_M_init_188 hG)
  have fH88 : Mo H88 r.2 := jH90.tr fH90
  have fH85 : Mo H85 r.2 := jH88.tr fH88
  have fH83 : Mo H83 r.2 := jH85.tr fH85
  have fH80 : Mo H80 r.2 := jH83.tr fH83
  have fH78 : Mo H78 r.2 := jH80.tr fH80
  have fH75 : Mo H75 r.2 := jH78.tr fH78
  have fH73 : Mo H73 r.2 := jH75.tr fH75
  have fH70 : Mo H70 r.2 := jH73.tr fH73
  have fH68 : Mo H68 r.2 := jH70.tr fH70
  have fH65 : Mo H65 r.2 := jH68.tr fH68
  have fH63 : Mo H63 r.2 := jH65.tr fH65
  have fH60 : Mo H60 r.2 := jH63.tr fH63
  have fH58 : Mo H58 r.2 := jH60.tr fH60
  have fH55 : Mo H55 r.2 := jH58.tr fH58
  have fH53 : Mo H53 r.2 := jH55.tr fH55
  have fH50 : Mo H50 r.2 := jH53.tr fH53
  have fH48 : Mo H48 r.2 := jH50.tr fH50
  have fH45 : Mo H45 r.2 := jH48.tr fH48
  have fH44 : Mo H44 r.2 := jH45.tr fH45
  have fH43 : Mo H43 r.2 := jH44.tr fH44
  have fH39 : Mo H39 r.2 := jH43.tr fH43
  have fH38 : Mo H38 r.2 := jH39.tr fH39
  have fH37 : Mo H37 r.2 := jH38.tr fH38
  have fH33 : Mo H33 r.2 := jH37.tr fH37
  have fH32 : Mo H32 r.2 := jH33.tr fH33
  have fH31 : Mo H31 r.2 := jH32.tr fH32
  have fH27 : Mo H27 r.2 := jH31.tr fH31
  have fH26 : Mo H26 r.2 := jH27.tr fH27
  have fH25 : Mo H25 r.2 := jH26.tr fH26
  have fH21 : Mo H21 r.2 := jH25.tr fH25
  have fH20 : Mo H20 r.2 := jH21.tr fH21
  have fH19 : Mo H19 r.2 := jH20.tr fH20
  have fH18 : Mo H18 r.2 := jH19.tr fH19
  have fH17 : Mo H17 r.2 := jH18.tr fH18
  have fH13 : Mo H13 r.2 := jH17.tr fH17
  have fH12 : Mo H12 r.2 := jH13.tr fH13
  have fH11 : Mo H11 r.2 := jH12.tr fH12
  have fH7 : Mo H7 r.2 := jH11.tr fH11
  have fH6 : Mo H6 r.2 := jH7.tr fH7
  have fH3 : Mo H3 r.2 := jH6.tr fH6
  have b_2m := (fH3).len
  have b_2n := (fH3).2
  have b_2p : H3.sh.length ≤ c0 + C := by omega
  have b_2q : H3.sl ≤ s0 + Sl := by omega
  refine hp_newa (q := 101) d_M_init_8 rfl (k1 142 rfl rfl) tB (Or.inr (Or.inl rfl)) ⟨by decide, by decide, rfl⟩ rfl q1 q2 (by show _ ≤ C; omega) (by show _ + ((6000 : Int32)).toNatClampNeg ≤ Sl; omega) ?_
  refine ab_widen (cells' := H3.sh.length - c0) (slots' := H3.sl - s0) (by omega) (by show _ + ((6000 : Int32)).toNatClampNeg ≤ _; omega) ?_
  rw [← eH3, ← ea4]
  clear b_2l b_2s b_2x b_2y b_2m b_2n
  refine hp_putFP (v := .ref a4) (f := 1) d_M_init_10 q5 (by decide) rfl (by decide) (k9 234 rfl rfl) rfl rfl rfl rfl (fun _ => rfl) (fun _ => rfl) rfl ?_
  refine hp_genx eH6 ?_
  have s_54 : Sa H3 H6 := by rw [eH6]; exact Sa.rf _
  refine ab_aload_n d_M_init_13 rfl rfl rfl ?_
  have m_55 : Mo H6 H7 := by rw [eH7]; exact Mo.nw _ _ _
  have b_56l := (m_55).len
  have b_56s := (m_55).2
  have b_56e := congrArg List.length (s_54).1
  have b_56f := (s_54).2
  have b_56c : c0 ≤ H7.sh.length := by omega
  have b_56d : s0 ≤ H7.sl := by omega
  have b_56x : H7.sh.length = H6.sh.length + 1 := by rw [eH7]; simp [Hp.nw, mkH_sh]
  have b_56y : H7.sl = H6.sl + 43 := by rw [eH7]; rfl
  have q_57 := (m_55).get (by rw [(s_54).1]; exact q5)
  have b_56m := (fH7).len
  have b_56n := (fH7).2
  have b_56p : H7.sh.length ≤ c0 + C := by omega
  have b_56q : H7.sl ≤ s0 + Sl := by omega
  refine ab_widen (cells' := H6.sh.length - c0) (slots' := H6.sl - s0) (by rw [(s_54).1]; exact Nat.le_refl _) (by rw [(s_54).2]; exact Nat.le_refl _) ?_
  refine hp_new (ci := 14) d_M_init_14 rfl (k8 153 rfl rfl) (k8 154 rfl rfl) (k1 20 rfl rfl) rfl (by decide) (by decide) rfl (by show _ ≤ C; omega) (by show _ + 43 ≤ Sl; omega) ?_
  refine ab_widen (cells' := H7.sh.length - c0) (slots' := H7.sl - s0) (by omega) (by show _ + 43 ≤ _; omega) ?_
  rw [← eH7, ← ea8]
  clear b_56l b_56s b_56x b_56y b_56m b_56n b_56e b_56f b_2c b_2d b_2p b_2q
  refine ab_dup d_M_init_17 rfl ?_
  have mz_58 : Mo H7 H11 := (m_MText_init z9)
  have b_59l := (mz_58).len
  have b_59s := (mz_58).2
  have b_59c : c0 ≤ H11.sh.length := by omega
  have b_59d : s0 ≤ H11.sl := by omega
  have q_60 := (mz_58).get q_57
  have b_59m := (fH11).len
  have b_59n := (fH11).2
  have b_59p : H11.sh.length ≤ c0 + C := by omega
  have b_59q : H11.sl ≤ s0 + Sl := by omega
  refine hp_callIN_v (H1 := H11) (As := []) (rest := [.ref a8, .ref p0]) d_M_init_18 (k_MText_init z9 (C := H11.sh.length - H7.sh.length) (Sl := H11.sl - H7.sl) (by show H11.sh.length ≤ _; omega) (by show H11.sl ≤ _; omega)) (ab_mkC s_MText_init (Nat.le_of_ble_eq_true rfl) (Nat.le_of_ble_eq_true rfl) (show (H7.sh.length - c0) + (H11.sh.length - H7.sh.length) ≤ C from by omega) (show (H7.sl - s0) + (H11.sl - H7.sl) ≤ Sl from by omega)) (k8 155 rfl rfl) i_MText_init rfl (k8 157 rfl rfl) rfl (Nat.le_of_ble_eq_true rfl) ?_
  refine ab_widen (cells' := H11.sh.length - c0) (slots' := H11.sl - s0) (by show _ + (H11.sh.length - H7.sh.length) ≤ _; omega) (by show _ + (H11.sl - H7.sl) ≤ _; omega) ?_
  clear b_59l b_59s b_59m b_59n b_56c b_56d b_56p b_56q
  refine hp_putP (v := .ref a8) (f := 3) d_M_init_21 q_60 (by decide) rfl (by decide) (k9 236 rfl rfl) rfl rfl (fun _ => rfl) (fun _ => rfl) rfl ?_
  refine hp_genx eH12 ?_
  have s_61 : Sa H11 H12 := by rw [eH12]; exact Sa.rf _
  refine ab_aload_n d_M_init_24 rfl rfl rfl ?_
  have m_62 : Mo H12 H13 := by rw [eH13]; exact Mo.nw _ _ _
  have b_63l := (m_62).len
  have b_63s := (m_62).2
  have b_63e := congrArg List.length (s_61).1
  have b_63f := (s_61).2
  have b_63c : c0 ≤ H13.sh.length := by omega
  have b_63d : s0 ≤ H13.sl := by omega
  have b_63x : H13.sh.length = H12.sh.length + 1 := by rw [eH13]; simp [Hp.nw, mkH_sh]
  have b_63y : H13.sl = H12.sl + 43 := by rw [eH13]; rfl
  have q_64 := (m_62).get (by rw [(s_61).1]; exact q_60)
  have b_63m := (fH13).len
  have b_63n := (fH13).2
  have b_63p : H13.sh.length ≤ c0 + C := by omega
  have b_63q : H13.sl ≤ s0 + Sl := by omega
  refine ab_widen (cells' := H12.sh.length - c0) (slots' := H12.sl - s0) (by rw [(s_61).1]; exact Nat.le_refl _) (by rw [(s_61).2]; exact Nat.le_refl _) ?_
  refine hp_new (ci := 14) d_M_init_25 rfl (k8 153 rfl rfl) (k8 154 rfl rfl) (k1 20 rfl rfl) rfl (by decide) (by decide) rfl (by show _ ≤ C; omega) (by show _ + 43 ≤ Sl; omega) ?_
  refine ab_widen (cells' := H13.sh.length - c0) (slots' := H13.sl - s0) (by omega) (by show _ + 43 ≤ _; omega) ?_
  rw [← eH13, ← ea14]
  clear b_63l b_63s b_63x b_63y b_63m b_63n b_63e b_63f b_59c b_59d b_59p b_59q
  refine ab_dup d_M_init_28 rfl ?_
  have mz_65 : Mo H13 H17 := (m_MText_init z15)
  have b_66l := (mz_65).len
  have b_66s := (mz_65).2
  have b_66c : c0 ≤ H17.sh.length := by omega
  have b_66d : s0 ≤ H17.sl := by omega
  have q_67 := (mz_65).get q_64
  have b_66m := (fH17).len
  have b_66n := (fH17).2
  have b_66p : H17.sh.length ≤ c0 + C := by omega
  have b_66q : H17.sl ≤ s0 + Sl := by omega
  refine hp_callIN_v (H1 := H17) (As := []) (rest := [.ref a14, .ref p0]) d_M_init_29 (k_MText_init z15 (C := H17.sh.length - H13.sh.length) (Sl := H17.sl - H13.sl) (by show H17.sh.length ≤ _; omega) (by show H17.sl ≤ _; omega)) (ab_mkC s_MText_init (Nat.le_of_ble_eq_true rfl) (Nat.le_of_ble_eq_true rfl) (show (H13.sh.length - c0) + (H17.sh.length - H13.sh.length) ≤ C from by omega) (show (H13.sl - s0) + (H17.sl - H13.sl) ≤ Sl from by omega)) (k8 155 rfl rfl) i_MText_init rfl (k8 157 rfl rfl) rfl (Nat.le_of_ble_eq_true rfl) ?_
  refine ab_widen (cells' := H17.sh.length - c0) (slots' := H17.sl - s0) (by show _ + (H17.sh.length - H13.sh.length) ≤ _; omega) (by show _ + (H17.sl - H13.sl) ≤ _; omega) ?_
  clear b_66l b_66s b_66m b_66n b_63c b_63d b_63p b_63q
  refine hp_putP (v := .ref a14) (f := 4) d_M_init_32 q_67 (by decide) rfl (by decide) (k9 237 rfl rfl) rfl rfl (fun _ => rfl) (fun _ => rfl) rfl ?_
  refine hp_genx eH18 ?_
  have s_68 : Sa H17 H18 := by rw [eH18]; exact Sa.rf _
  refine ab_aload_n d_M_init_35 rfl rfl rfl ?_
  refine ab_iconst (v := (-1)) d_M_init_36 (by decide) ?_
  refine hp_putI (v := (-1)) (f := 6) d_M_init_37 (by rw [(s_68).1]; exact q_67) (by decide) rfl (by decide) (k9 239 rfl rfl) rfl rfl (fun _ => rfl) (fun _ => rfl) rfl ?_
  refine hp_genx eH19 ?_
  have s_69 : Sa H17 H19 := by rw [eH19]; exact s_68
  refine ab_aload_n d_M_init_40 rfl rfl rfl ?_
  refine ab_iconst (v := (-1)) d_M_init_41 (by decide) ?_
  refine hp_putI (v := (-1)) (f := 7) d_M_init_42 (by rw [(s_69).1]; exact q_67) (by decide) rfl (by decide) (k10 0 rfl rfl) rfl rfl (fun _ => rfl) (fun _ => rfl) rfl ?_
  refine hp_genx eH20 ?_
  have s_70 : Sa H17 H20 := by rw [eH20]; exact s_69
  refine ab_aload_n d_M_init_45 rfl rfl rfl ?_
  have m_71 : Mo H20 H21 := by rw [eH21]; exact Mo.nw _ _ _
  have b_72l := (m_71).len
  have b_72s := (m_71).2
  have b_72e := congrArg List.length (s_70).1
  have b_72f := (s_70).2
  have b_72c : c0 ≤ H21.sh.length := by omega
  have b_72d : s0 ≤ H21.sl := by omega
  have b_72x : H21.sh.length = H20.sh.length + 1 := by rw [eH21]; simp [Hp.nw, mkH_sh]
  have b_72y : H21.sl = H20.sl + 18 := by rw [eH21]; rfl
  have q_73 := (m_71).get (by rw [(s_70).1]; exact q_67)
  have b_72m := (fH21).len
  have b_72n := (fH21).2
  have b_72p : H21.sh.length ≤ c0 + C := by omega
  have b_72q : H21.sl ≤ s0 + Sl := by omega
  refine ab_widen (cells' := H20.sh.length - c0) (slots' := H20.sl - s0) (by rw [(s_70).1]; exact Nat.le_refl _) (by rw [(s_70).2]; exact Nat.le_refl _) ?_
  refine hp_new (ci := 13) d_M_init_46 rfl (k9 77 rfl rfl) (k9 78 rfl rfl) (k1 21 rfl rfl) rfl (by decide) (by decide) rfl (by show _ ≤ C; omega) (by show _ + 18 ≤ Sl; omega) ?_
  refine ab_widen (cells' := H21.sh.length - c0) (slots' := H21.sl - s0) (by omega) (by show _ + 18 ≤ _; omega) ?_
  rw [← eH21, ← ea22]
  clear b_72l b_72s b_72x b_72y b_72m b_72n b_72e b_72f b_66c b_66d b_66p b_66q
  refine ab_dup d_M_init_49 rfl ?_
  have mz_74 : Mo H21 H25 := (m_MWorld_init z23)
  have b_75l := (mz_74).len
  have b_75s := (mz_74).2
  have b_75c : c0 ≤ H25.sh.length := by omega
  have b_75d : s0 ≤ H25.sl := by omega
  have q_76 := (mz_74).get q_73
  have b_75m := (fH25).len
  have b_75n := (fH25).2
  have b_75p : H25.sh.length ≤ c0 + C := by omega
  have b_75q : H25.sl ≤ s0 + Sl := by omega
  refine hp_callI_v (H1 := H25) (As := []) (rest := [.ref a22, .ref p0]) d_M_init_50 (k_MWorld_init z23 (C := H25.sh.length - H21.sh.length) (Sl := H25.sl - H21.sl) (by show H25.sh.length ≤ _; omega) (by show H25.sl ≤ _; omega)) (ab_mkC s_MWorld_init (Nat.le_of_ble_eq_true rfl) (Nat.le_of_ble_eq_true rfl) (show (H21.sh.length - c0) + (H25.sh.length - H21.sh.length) ≤ C from by omega) (show (H21.sl - s0) + (H25.sl - H21.sl) ≤ Sl from by omega)) (k9 79 rfl rfl) i_MWorld_init rfl (k9 81 rfl rfl) rfl (Nat.le_of_ble_eq_true rfl) ?_
  refine ab_widen (cells' := H25.sh.length - c0) (slots' := H25.sl - s0) (by show _ + (H25.sh.length - H21.sh.length) ≤ _; omega) (by show _ + (H25.sl - H21.sl) ≤ _; omega) ?_
  clear b_75l b_75s b_75m b_75n b_72c b_72d b_72p b_72q
  refine hp_putP (v := .ref a22) (f := 8) d_M_init_53 q_76 (by decide) rfl (by decide) (k10 1 rfl rfl) rfl rfl (fun _ => rfl) (fun _ => rfl) rfl ?_
  refine hp_genx eH26 ?_
  have s_77 : Sa H25 H26 := by rw [eH26]; exact Sa.rf _
  refine ab_aload_n d_M_init_56 rfl rfl rfl ?_
  have m_78 : Mo H26 H27 := by rw [eH27]; exact Mo.nw _ _ _
  have b_79l := (m_78).len
  have b_79s := (m_78).2
  have b_79e := congrArg List.length (s_77).1
  have b_79f := (s_77).2
  have b_79c : c0 ≤ H27.sh.length := by omega
  have b_79d : s0 ≤ H27.sl := by omega
  have b_79x : H27.sh.length = H26.sh.length + 1 := by rw [eH27]; simp [Hp.nw, mkH_sh]
  have b_79y : H27.sl = H26.sl + 18 := by rw [eH27]; rfl
  have q_80 := (m_78).get (by rw [(s_77).1]; exact q_76)
  have b_79m := (fH27).len
  have b_79n := (fH27).2
  have b_79p : H27.sh.length ≤ c0 + C := by omega
  have b_79q : H27.sl ≤ s0 + Sl := by omega
  refine ab_widen (cells' := H26.sh.length - c0) (slots' := H26.sl - s0) (by rw [(s_77).1]; exact Nat.le_refl _) (by rw [(s_77).2]; exact Nat.le_refl _) ?_
  refine hp_new (ci := 13) d_M_init_57 rfl (k9 77 rfl rfl) (k9 78 rfl rfl) (k1 21 rfl rfl) rfl (by decide) (by decide) rfl (by show _ ≤ C; omega) (by show _ + 18 ≤ Sl; omega) ?_
  refine ab_widen (cells' := H27.sh.length - c0) (slots' := H27.sl - s0) (by omega) (by show _ + 18 ≤ _; omega) ?_
  rw [← eH27, ← ea28]
  clear b_79l b_79s b_79x b_79y b_79m b_79n b_79e b_79f b_75c b_75d b_75p b_75q
  refine ab_dup d_M_init_60 rfl ?_
  have mz_81 : Mo H27 H31 := (m_MWorld_init z29)
  have b_82l := (mz_81).len
  have b_82s := (mz_81).2
  have b_82c : c0 ≤ H31.sh.length := by omega
  have b_82d : s0 ≤ H31.sl := by omega
  have q_83 := (mz_81).get q_80
  have b_82m := (fH31).len
  have b_82n := (fH31).2
  have b_82p : H31.sh.length ≤ c0 + C := by omega
  have b_82q : H31.sl ≤ s0 + Sl := by omega
  refine hp_callI_v (H1 := H31) (As := []) (rest := [.ref a28, .ref p0]) d_M_init_61 (k_MWorld_init z29 (C := H31.sh.length - H27.sh.length) (Sl := H31.sl - H27.sl) (by show H31.sh.length ≤ _; omega) (by show H31.sl ≤ _; omega)) (ab_mkC s_MWorld_init (Nat.le_of_ble_eq_true rfl) (Nat.le_of_ble_eq_true rfl) (show (H27.sh.length - c0) + (H31.sh.length - H27.sh.length) ≤ C from by omega) (show (H27.sl - s0) + (H31.sl - H27.sl) ≤ Sl from by omega)) (k9 79 rfl rfl) i_MWorld_init rfl (k9 81 rfl rfl) rfl (Nat.le_of_ble_eq_true rfl) ?_
  refine ab_widen (cells' := H31.sh.length - c0) (slots' := H31.sl - s0) (by show _ + (H31.sh.length - H27.sh.length) ≤ _; omega) (by show _ + (H31.sl - H27.sl) ≤ _; omega) ?_
  clear b_82l b_82s b_82m b_82n b_79c b_79d b_79p b_79q
  refine hp_putP (v := .ref a28) (f := 9) d_M_init_64 q_83 (by decide) rfl (by decide) (k10 2 rfl rfl) rfl rfl (fun _ => rfl) (fun _ => rfl) rfl ?_
  refine hp_genx eH32 ?_
  have s_84 : Sa H31 H32 := by rw [eH32]; exact Sa.rf _
  refine ab_aload_n d_M_init_67 rfl rfl rfl ?_
  have m_85 : Mo H32 H33 := by rw [eH33]; exact Mo.nw _ _ _
  have b_86l := (m_85).len
  have b_86s := (m_85).2
  have b_86e := congrArg List.length (s_84).1
  have b_86f := (s_84).2
  have b_86c : c0 ≤ H33.sh.length := by omega
  have b_86d : s0 ≤ H33.sl := by omega
  have b_86x : H33.sh.length = H32.sh.length + 1 := by rw [eH33]; simp [Hp.nw, mkH_sh]
  have b_86y : H33.sl = H32.sl + 18 := by rw [eH33]; rfl
  have q_87 := (m_85).get (by rw [(s_84).1]; exact q_83)
  have b_86m := (fH33).len
  have b_86n := (fH33).2
  have b_86p : H33.sh.length ≤ c0 + C := by omega
  have b_86q : H33.sl ≤ s0 + Sl := by omega
  refine ab_widen (cells' := H32.sh.length - c0) (slots' := H32.sl - s0) (by rw [(s_84).1]; exact Nat.le_refl _) (by rw [(s_84).2]; exact Nat.le_refl _) ?_
  refine hp_new (ci := 13) d_M_init_68 rfl (k9 77 rfl rfl) (k9 78 rfl rfl) (k1 21 rfl rfl) rfl (by decide) (by decide) rfl (by show _ ≤ C; omega) (by show _ + 18 ≤ Sl; omega) ?_
  refine ab_widen (cells' := H33.sh.length - c0) (slots' := H33.sl - s0) (by omega) (by show _ + 18 ≤ _; omega) ?_
  rw [← eH33, ← ea34]
  clear b_86l b_86s b_86x b_86y b_86m b_86n b_86e b_86f b_82c b_82d b_82p b_82q
  refine ab_dup d_M_init_71 rfl ?_
  have mz_88 : Mo H33 H37 := (m_MWorld_init z35)
  have b_89l := (mz_88).len
  have b_89s := (mz_88).2
  have b_89c : c0 ≤ H37.sh.length := by omega
  have b_89d : s0 ≤ H37.sl := by omega
  have q_90 := (mz_88).get q_87
  have b_89m := (fH37).len
  have b_89n := (fH37).2
  have b_89p : H37.sh.length ≤ c0 + C := by omega
  have b_89q : H37.sl ≤ s0 + Sl := by omega
  refine hp_callI_v (H1 := H37) (As := []) (rest := [.ref a34, .ref p0]) d_M_init_72 (k_MWorld_init z35 (C := H37.sh.length - H33.sh.length) (Sl := H37.sl - H33.sl) (by show H37.sh.length ≤ _; omega) (by show H37.sl ≤ _; omega)) (ab_mkC s_MWorld_init (Nat.le_of_ble_eq_true rfl) (Nat.le_of_ble_eq_true rfl) (show (H33.sh.length - c0) + (H37.sh.length - H33.sh.length) ≤ C from by omega) (show (H33.sl - s0) + (H37.sl - H33.sl) ≤ Sl from by omega)) (k9 79 rfl rfl) i_MWorld_init rfl (k9 81 rfl rfl) rfl (Nat.le_of_ble_eq_true rfl) ?_
  refine ab_widen (cells' := H37.sh.length - c0) (slots' := H37.sl - s0) (by show _ + (H37.sh.length - H33.sh.length) ≤ _; omega) (by show _ + (H37.sl - H33.sl) ≤ _; omega) ?_
  clear b_89l b_89s b_89m b_89n b_86c b_86d b_86p b_86q
  refine hp_putP (v := .ref a34) (f := 10) d_M_init_75 q_90 (by decide) rfl (by decide) (k10 3 rfl rfl) rfl rfl (fun _ => rfl) (fun _ => rfl) rfl ?_
  refine hp_genx eH38 ?_
  have s_91 : Sa H37 H38 := by rw [eH38]; exact Sa.rf _
  refine ab_aload_n d_M_init_78 rfl rfl rfl ?_
  have m_92 : Mo H38 H39 := by rw [eH39]; exact Mo.nw _ _ _
  have b_93l := (m_92).len
  have b_93s := (m_92).2
  have b_93e := congrArg List.length (s_91).1
  have b_93f := (s_91).2
  have b_93c : c0 ≤ H39.sh.length := by omega
  have b_93d : s0 ≤ H39.sl := by omega
  have b_93x : H39.sh.length = H38.sh.length + 1 := by rw [eH39]; simp [Hp.nw, mkH_sh]
  have b_93y : H39.sl = H38.sl + 16 := by rw [eH39]; rfl
  have q_94 := (m_92).get (by rw [(s_91).1]; exact q_90)
  have b_93m := (fH39).len
  have b_93n := (fH39).2
  have b_93p : H39.sh.length ≤ c0 + C := by omega
  have b_93q : H39.sl ≤ s0 + Sl := by omega
  refine ab_widen (cells' := H38.sh.length - c0) (slots' := H38.sl - s0) (by rw [(s_91).1]; exact Nat.le_refl _) (by rw [(s_91).2]; exact Nat.le_refl _) ?_
  refine hp_new (ci := 15) d_M_init_79 rfl (k9 176 rfl rfl) (k9 177 rfl rfl) (k1 22 rfl rfl) rfl (by decide) (by decide) rfl (by show _ ≤ C; omega) (by show _ + 16 ≤ Sl; omega) ?_
  refine ab_widen (cells' := H39.sh.length - c0) (slots' := H39.sl - s0) (by omega) (by show _ + 16 ≤ _; omega) ?_
  rw [← eH39, ← ea40]
  clear b_93l b_93s b_93x b_93y b_93m b_93n b_93e b_93f b_89c b_89d b_89p b_89q
  refine ab_dup d_M_init_82 rfl ?_
  have mz_95 : Mo H39 H43 := (m_MRunner_init z41)
  have b_96l := (mz_95).len
  have b_96s := (mz_95).2
  have b_96c : c0 ≤ H43.sh.length := by omega
  have b_96d : s0 ≤ H43.sl := by omega
  have q_97 := (mz_95).get q_94
  have b_96m := (fH43).len
  have b_96n := (fH43).2
  have b_96p : H43.sh.length ≤ c0 + C := by omega
  have b_96q : H43.sl ≤ s0 + Sl := by omega
  refine hp_callIN_v (H1 := H43) (As := []) (rest := [.ref a40, .ref p0]) d_M_init_83 (k_MRunner_init z41 (C := H43.sh.length - H39.sh.length) (Sl := H43.sl - H39.sl) (by show H43.sh.length ≤ _; omega) (by show H43.sl ≤ _; omega)) (ab_mkC s_MRunner_init (Nat.le_of_ble_eq_true rfl) (Nat.le_of_ble_eq_true rfl) (show (H39.sh.length - c0) + (H43.sh.length - H39.sh.length) ≤ C from by omega) (show (H39.sl - s0) + (H43.sl - H39.sl) ≤ Sl from by omega)) (k9 178 rfl rfl) i_MRunner_init rfl (k9 180 rfl rfl) rfl (Nat.le_of_ble_eq_true rfl) ?_
  refine ab_widen (cells' := H43.sh.length - c0) (slots' := H43.sl - s0) (by show _ + (H43.sh.length - H39.sh.length) ≤ _; omega) (by show _ + (H43.sl - H39.sl) ≤ _; omega) ?_
  clear b_96l b_96s b_96m b_96n b_93c b_93d b_93p b_93q
  refine hp_putFP (v := .ref a40) (f := 11) d_M_init_86 q_97 (by decide) rfl (by decide) (k10 4 rfl rfl) rfl rfl rfl rfl (fun _ => rfl) (fun _ => rfl) rfl ?_
  refine hp_genx eH44 ?_
  have s_98 : Sa H43 H44 := by rw [eH44]; exact Sa.rf _
  refine ab_aload_n d_M_init_89 rfl rfl rfl ?_
  refine ab_iconst (v := 1) d_M_init_90 (by decide) ?_
  refine hp_putI (v := 1) (f := 12) d_M_init_91 (by rw [(s_98).1]; exact q_97) (by decide) rfl (by decide) (k10 5 rfl rfl) rfl rfl (fun _ => rfl) (fun _ => rfl) rfl ?_
  refine hp_genx eH45 ?_
  have s_99 : Sa H43 H45 := by rw [eH45]; exact s_98
  refine ab_aload_n d_M_init_94 rfl rfl rfl ?_
  refine ab_sipush (v := 256) d_M_init_95 (by decide) ?_
  have m_100 : Mo H45 H48 := by rw [eH48]; exact Mo.nw _ _ _
  have b_101l := (m_100).len
  have b_101s := (m_100).2
  have b_101e := congrArg List.length (s_99).1
  have b_101f := (s_99).2
  have b_101c : c0 ≤ H48.sh.length := by omega
  have b_101d : s0 ≤ H48.sl := by omega
  have b_101x : H48.sh.length = H45.sh.length + 1 := by rw [eH48]; simp [Hp.nw, mkH_sh]
  have b_101y : H48.sl = H45.sl + ((256 : Int32)).toNatClampNeg := by rw [eH48]; rfl
  have q_102 := (m_100).get (by rw [(s_99).1]; exact q_97)
  have b_101m := (fH48).len
  have b_101n := (fH48).2
  have b_101p : H48.sh.length ≤ c0 + C := by omega
  have b_101q : H48.sl ≤ s0 + Sl := by omega
  refine ab_widen (cells' := H45.sh.length - c0) (slots' := H45.sl - s0) (by rw [(s_99).1]; exact Nat.le_refl _) (by rw [(s_99).2]; exact Nat.le_refl _) ?_
  refine hp_newa (q := 100) d_M_init_98 rfl (k1 143 rfl rfl) tI (Or.inl rfl) ⟨by decide, by decide, rfl⟩ rfl q46 q47 (by show _ ≤ C; omega) (by show _ + ((256 : Int32)).toNatClampNeg ≤ Sl; omega) ?_
  refine ab_widen (cells' := H48.sh.length - c0) (slots' := H48.sl - s0) (by omega) (by show _ + ((256 : Int32)).toNatClampNeg ≤ _; omega) ?_
  rw [← eH48, ← ea49]
  clear b_101l b_101s b_101x b_101y b_101m b_101n b_101e b_101f b_96c b_96d b_96p b_96q
  refine hp_putFP (v := .ref a49) (f := 14) d_M_init_100 q_102 (by decide) rfl (by decide) (k10 7 rfl rfl) rfl rfl rfl rfl (fun _ => rfl) (fun _ => rfl) rfl ?_
  refine hp_genx eH50 ?_
  have s_103 : Sa H48 H50 := by rw [eH50]; exact Sa.rf _
  refine ab_aload_n d_M_init_103 rfl rfl rfl ?_
  refine ab_sipush (v := 256) d_M_init_104 (by decide) ?_
  have m_104 : Mo H50 H53 := by rw [eH53]; exact Mo.nw _ _ _
  have b_105l := (m_104).len
  have b_105s := (m_104).2
  have b_105e := congrArg List.length (s_103).1
  have b_105f := (s_103).2
  have b_105c : c0 ≤ H53.sh.length := by omega
  have b_105d : s0 ≤ H53.sl := by omega
  have b_105x : H53.sh.length = H50.sh.length + 1 := by rw [eH53]; simp [Hp.nw, mkH_sh]
  have b_105y : H53.sl = H50.sl + ((256 : Int32)).toNatClampNeg := by rw [eH53]; rfl
  have q_106 := (m_104).get (by rw [(s_103).1]; exact q_102)
  have b_105m := (fH53).len
  have b_105n := (fH53).2
  have b_105p : H53.sh.length ≤ c0 + C := by omega
  have b_105q : H53.sl ≤ s0 + Sl := by omega
  refine ab_widen (cells' := H50.sh.length - c0) (slots' := H50.sl - s0) (by rw [(s_103).1]; exact Nat.le_refl _) (by rw [(s_103).2]; exact Nat.le_refl _) ?_
  refine hp_newa (q := 102) d_M_init_107 rfl (k1 144 rfl rfl) tZ (Or.inr (Or.inr (Or.inl rfl))) ⟨by decide, by decide, rfl⟩ rfl q51 q52 (by show _ ≤ C; omega) (by show _ + ((256 : Int32)).toNatClampNeg ≤ Sl; omega) ?_
  refine ab_widen (cells' := H53.sh.length - c0) (slots' := H53.sl - s0) (by omega) (by show _ + ((256 : Int32)).toNatClampNeg ≤ _; omega) ?_
  rw [← eH53, ← ea54]
  clear b_105l b_105s b_105x b_105y b_105m b_105n b_105e b_105f b_101c b_101d b_101p b_101q
  refine hp_putFP (v := .ref a54) (f := 15) d_M_init_109 q_106 (by decide) rfl (by decide) (k10 8 rfl rfl) rfl rfl rfl rfl (fun _ => rfl) (fun _ => rfl) rfl ?_
  refine hp_genx eH55 ?_
  have s_107 : Sa H53 H55 := by rw [eH55]; exact Sa.rf _
  refine ab_aload_n d_M_init_112 rfl rfl rfl ?_
  refine ab_bipush (v := 64) d_M_init_113 (by decide) ?_
  have m_108 : Mo H55 H58 := by rw [eH58]; exact Mo.nw _ _ _
  have b_109l := (m_108).len
  have b_109s := (m_108).2
  have b_109e := congrArg List.length (s_107).1
  have b_109f := (s_107).2
  have b_109c : c0 ≤ H58.sh.length := by omega
  have b_109d : s0 ≤ H58.sl := by omega
  have b_109x : H58.sh.length = H55.sh.length + 1 := by rw [eH58]; simp [Hp.nw, mkH_sh]
  have b_109y : H58.sl = H55.sl + ((64 : Int32)).toNatClampNeg := by rw [eH58]; rfl
  have q_110 := (m_108).get (by rw [(s_107).1]; exact q_106)
  have b_109m := (fH58).len
  have b_109n := (fH58).2
  have b_109p : H58.sh.length ≤ c0 + C := by omega
  have b_109q : H58.sl ≤ s0 + Sl := by omega
  refine ab_widen (cells' := H55.sh.length - c0) (slots' := H55.sl - s0) (by rw [(s_107).1]; exact Nat.le_refl _) (by rw [(s_107).2]; exact Nat.le_refl _) ?_
  refine hp_newa (q := 100) d_M_init_115 rfl (k1 143 rfl rfl) tI (Or.inl rfl) ⟨by decide, by decide, rfl⟩ rfl q56 q57 (by show _ ≤ C; omega) (by show _ + ((64 : Int32)).toNatClampNeg ≤ Sl; omega) ?_
  refine ab_widen (cells' := H58.sh.length - c0) (slots' := H58.sl - s0) (by omega) (by show _ + ((64 : Int32)).toNatClampNeg ≤ _; omega) ?_
  rw [← eH58, ← ea59]
  clear b_109l b_109s b_109x b_109y b_109m b_109n b_109e b_109f b_105c b_105d b_105p b_105q
  refine hp_putFP (v := .ref a59) (f := 16) d_M_init_117 q_110 (by decide) rfl (by decide) (k10 9 rfl rfl) rfl rfl rfl rfl (fun _ => rfl) (fun _ => rfl) rfl ?_
  refine hp_genx eH60 ?_
  have s_111 : Sa H58 H60 := by rw [eH60]; exact Sa.rf _
  refine ab_aload_n d_M_init_120 rfl rfl rfl ?_
  refine ab_iconst (v := 4) d_M_init_121 (by decide) ?_
  have m_112 : Mo H60 H63 := by rw [eH63]; exact Mo.nw _ _ _
  have b_113l := (m_112).len
  have b_113s := (m_112).2
  have b_113e := congrArg List.length (s_111).1
  have b_113f := (s_111).2
  have b_113c : c0 ≤ H63.sh.length := by omega
  have b_113d : s0 ≤ H63.sl := by omega
  have b_113x : H63.sh.length = H60.sh.length + 1 := by rw [eH63]; simp [Hp.nw, mkH_sh]
  have b_113y : H63.sl = H60.sl + ((4 : Int32)).toNatClampNeg := by rw [eH63]; rfl
  have q_114 := (m_112).get (by rw [(s_111).1]; exact q_110)
  have b_113m := (fH63).len
  have b_113n := (fH63).2
  have b_113p : H63.sh.length ≤ c0 + C := by omega
  have b_113q : H63.sl ≤ s0 + Sl := by omega
  refine ab_widen (cells' := H60.sh.length - c0) (slots' := H60.sl - s0) (by rw [(s_111).1]; exact Nat.le_refl _) (by rw [(s_111).2]; exact Nat.le_refl _) ?_
  refine hp_newa (q := 100) d_M_init_122 rfl (k1 143 rfl rfl) tI (Or.inl rfl) ⟨by decide, by decide, rfl⟩ rfl q61 q62 (by show _ ≤ C; omega) (by show _ + ((4 : Int32)).toNatClampNeg ≤ Sl; omega) ?_
  refine ab_widen (cells' := H63.sh.length - c0) (slots' := H63.sl - s0) (by omega) (by show _ + ((4 : Int32)).toNatClampNeg ≤ _; omega) ?_
  rw [← eH63, ← ea64]
  clear b_113l b_113s b_113x b_113y b_113m b_113n b_113e b_113f b_109c b_109d b_109p b_109q
  refine hp_putFP (v := .ref a64) (f := 17) d_M_init_124 q_114 (by decide) rfl (by decide) (k10 10 rfl rfl) rfl rfl rfl rfl (fun _ => rfl) (fun _ => rfl) rfl ?_
  refine hp_genx eH65 ?_
  have s_115 : Sa H63 H65 := by rw [eH65]; exact Sa.rf _
  refine ab_aload_n d_M_init_127 rfl rfl rfl ?_
  refine ab_iconst (v := 4) d_M_init_128 (by decide) ?_
  have m_116 : Mo H65 H68 := by rw [eH68]; exact Mo.nw _ _ _
  have b_117l := (m_116).len
  have b_117s := (m_116).2
  have b_117e := congrArg List.length (s_115).1
  have b_117f := (s_115).2
  have b_117c : c0 ≤ H68.sh.length := by omega
  have b_117d : s0 ≤ H68.sl := by omega
  have b_117x : H68.sh.length = H65.sh.length + 1 := by rw [eH68]; simp [Hp.nw, mkH_sh]
  have b_117y : H68.sl = H65.sl + ((4 : Int32)).toNatClampNeg := by rw [eH68]; rfl
  have q_118 := (m_116).get (by rw [(s_115).1]; exact q_114)
  have b_117m := (fH68).len
  have b_117n := (fH68).2
  have b_117p : H68.sh.length ≤ c0 + C := by omega
  have b_117q : H68.sl ≤ s0 + Sl := by omega
  refine ab_widen (cells' := H65.sh.length - c0) (slots' := H65.sl - s0) (by rw [(s_115).1]; exact Nat.le_refl _) (by rw [(s_115).2]; exact Nat.le_refl _) ?_
  refine hp_newa (q := 100) d_M_init_129 rfl (k1 143 rfl rfl) tI (Or.inl rfl) ⟨by decide, by decide, rfl⟩ rfl q66 q67 (by show _ ≤ C; omega) (by show _ + ((4 : Int32)).toNatClampNeg ≤ Sl; omega) ?_
  refine ab_widen (cells' := H68.sh.length - c0) (slots' := H68.sl - s0) (by omega) (by show _ + ((4 : Int32)).toNatClampNeg ≤ _; omega) ?_
  rw [← eH68, ← ea69]
  clear b_117l b_117s b_117x b_117y b_117m b_117n b_117e b_117f b_113c b_113d b_113p b_113q
  refine hp_putFP (v := .ref a69) (f := 18) d_M_init_131 q_118 (by decide) rfl (by decide) (k10 11 rfl rfl) rfl rfl rfl rfl (fun _ => rfl) (fun _ => rfl) rfl ?_
  refine hp_genx eH70 ?_
  have s_119 : Sa H68 H70 := by rw [eH70]; exact Sa.rf _
  refine ab_aload_n d_M_init_134 rfl rfl rfl ?_
  refine ab_sipush (v := 256) d_M_init_135 (by decide) ?_
  have m_120 : Mo H70 H73 := by rw [eH73]; exact Mo.nw _ _ _
  have b_121l := (m_120).len
  have b_121s := (m_120).2
  have b_121e := congrArg List.length (s_119).1
  have b_121f := (s_119).2
  have b_121c : c0 ≤ H73.sh.length := by omega
  have b_121d : s0 ≤ H73.sl := by omega
  have b_121x : H73.sh.length = H70.sh.length + 1 := by rw [eH73]; simp [Hp.nw, mkH_sh]
  have b_121y : H73.sl = H70.sl + ((256 : Int32)).toNatClampNeg := by rw [eH73]; rfl
  have q_122 := (m_120).get (by rw [(s_119).1]; exact q_118)
  have b_121m := (fH73).len
  have b_121n := (fH73).2
  have b_121p : H73.sh.length ≤ c0 + C := by omega
  have b_121q : H73.sl ≤ s0 + Sl := by omega
  refine ab_widen (cells' := H70.sh.length - c0) (slots' := H70.sl - s0) (by rw [(s_119).1]; exact Nat.le_refl _) (by rw [(s_119).2]; exact Nat.le_refl _) ?_
  refine hp_newa (q := 100) d_M_init_138 rfl (k1 143 rfl rfl) tI (Or.inl rfl) ⟨by decide, by decide, rfl⟩ rfl q71 q72 (by show _ ≤ C; omega) (by show _ + ((256 : Int32)).toNatClampNeg ≤ Sl; omega) ?_
  refine ab_widen (cells' := H73.sh.length - c0) (slots' := H73.sl - s0) (by omega) (by show _ + ((256 : Int32)).toNatClampNeg ≤ _; omega) ?_
  rw [← eH73, ← ea74]
  clear b_121l b_121s b_121x b_121y b_121m b_121n b_121e b_121f b_117c b_117d b_117p b_117q
  refine hp_putFP (v := .ref a74) (f := 19) d_M_init_140 q_122 (by decide) rfl (by decide) (k10 12 rfl rfl) rfl rfl rfl rfl (fun _ => rfl) (fun _ => rfl) rfl ?_
  refine hp_genx eH75 ?_
  have s_123 : Sa H73 H75 := by rw [eH75]; exact Sa.rf _
  refine ab_aload_n d_M_init_143 rfl rfl rfl ?_
  refine ab_ldc d_M_init_144 (k9 232 rfl rfl) ?_
  have m_124 : Mo H75 H78 := by rw [eH78]; exact Mo.nw _ _ _
  have b_125l := (m_124).len
  have b_125s := (m_124).2
  have b_125e := congrArg List.length (s_123).1
  have b_125f := (s_123).2
  have b_125c : c0 ≤ H78.sh.length := by omega
  have b_125d : s0 ≤ H78.sl := by omega
  have b_125x : H78.sh.length = H75.sh.length + 1 := by rw [eH78]; simp [Hp.nw, mkH_sh]
  have b_125y : H78.sl = H75.sl + ((58000 : Int32)).toNatClampNeg := by rw [eH78]; rfl
  have q_126 := (m_124).get (by rw [(s_123).1]; exact q_122)
  have b_125m := (fH78).len
  have b_125n := (fH78).2
  have b_125p : H78.sh.length ≤ c0 + C := by omega
  have b_125q : H78.sl ≤ s0 + Sl := by omega
  refine ab_widen (cells' := H75.sh.length - c0) (slots' := H75.sl - s0) (by rw [(s_123).1]; exact Nat.le_refl _) (by rw [(s_123).2]; exact Nat.le_refl _) ?_
  refine hp_newa (q := 101) d_M_init_146 rfl (k1 142 rfl rfl) tB (Or.inr (Or.inl rfl)) ⟨by decide, by decide, rfl⟩ rfl q76 q77 (by show _ ≤ C; omega) (by show _ + ((58000 : Int32)).toNatClampNeg ≤ Sl; omega) ?_
  refine ab_widen (cells' := H78.sh.length - c0) (slots' := H78.sl - s0) (by omega) (by show _ + ((58000 : Int32)).toNatClampNeg ≤ _; omega) ?_
  rw [← eH78, ← ea79]
  clear b_125l b_125s b_125x b_125y b_125m b_125n b_125e b_125f b_121c b_121d b_121p b_121q
  refine hp_putFP (v := .ref a79) (f := 21) d_M_init_148 q_126 (by decide) rfl (by decide) (k10 14 rfl rfl) rfl rfl rfl rfl (fun _ => rfl) (fun _ => rfl) rfl ?_
  refine hp_genx eH80 ?_
  have s_127 : Sa H78 H80 := by rw [eH80]; exact Sa.rf _
  refine ab_aload_n d_M_init_151 rfl rfl rfl ?_
  refine ab_bipush (v := 8) d_M_init_152 (by decide) ?_
  have m_128 : Mo H80 H83 := by rw [eH83]; exact Mo.nw _ _ _
  have b_129l := (m_128).len
  have b_129s := (m_128).2
  have b_129e := congrArg List.length (s_127).1
  have b_129f := (s_127).2
  have b_129c : c0 ≤ H83.sh.length := by omega
  have b_129d : s0 ≤ H83.sl := by omega
  have b_129x : H83.sh.length = H80.sh.length + 1 := by rw [eH83]; simp [Hp.nw, mkH_sh]
  have b_129y : H83.sl = H80.sl + ((8 : Int32)).toNatClampNeg := by rw [eH83]; rfl
  have q_130 := (m_128).get (by rw [(s_127).1]; exact q_126)
  have b_129m := (fH83).len
  have b_129n := (fH83).2
  have b_129p : H83.sh.length ≤ c0 + C := by omega
  have b_129q : H83.sl ≤ s0 + Sl := by omega
  refine ab_widen (cells' := H80.sh.length - c0) (slots' := H80.sl - s0) (by rw [(s_127).1]; exact Nat.le_refl _) (by rw [(s_127).2]; exact Nat.le_refl _) ?_
  refine hp_newa (q := 102) d_M_init_154 rfl (k1 144 rfl rfl) tZ (Or.inr (Or.inr (Or.inl rfl))) ⟨by decide, by decide, rfl⟩ rfl q81 q82 (by show _ ≤ C; omega) (by show _ + ((8 : Int32)).toNatClampNeg ≤ Sl; omega) ?_
  refine ab_widen (cells' := H83.sh.length - c0) (slots' := H83.sl - s0) (by omega) (by show _ + ((8 : Int32)).toNatClampNeg ≤ _; omega) ?_
  rw [← eH83, ← ea84]
  clear b_129l b_129s b_129x b_129y b_129m b_129n b_129e b_129f b_125c b_125d b_125p b_125q
  refine hp_putFP (v := .ref a84) (f := 25) d_M_init_156 q_130 (by decide) rfl (by decide) (k10 18 rfl rfl) rfl rfl rfl rfl (fun _ => rfl) (fun _ => rfl) rfl ?_
  refine hp_genx eH85 ?_
  have s_131 : Sa H83 H85 := by rw [eH85]; exact Sa.rf _
  refine ab_aload_n d_M_init_159 rfl rfl rfl ?_
  refine ab_bipush (v := 8) d_M_init_160 (by decide) ?_
  have m_132 : Mo H85 H88 := by rw [eH88]; exact Mo.nw _ _ _
  have b_133l := (m_132).len
  have b_133s := (m_132).2
  have b_133e := congrArg List.length (s_131).1
  have b_133f := (s_131).2
  have b_133c : c0 ≤ H88.sh.length := by omega
  have b_133d : s0 ≤ H88.sl := by omega
  have b_133x : H88.sh.length = H85.sh.length + 1 := by rw [eH88]; simp [Hp.nw, mkH_sh]
  have b_133y : H88.sl = H85.sl + ((8 : Int32)).toNatClampNeg := by rw [eH88]; rfl
  have q_134 := (m_132).get (by rw [(s_131).1]; exact q_130)
  have b_133m := (fH88).len
  have b_133n := (fH88).2
  have b_133p : H88.sh.length ≤ c0 + C := by omega
  have b_133q : H88.sl ≤ s0 + Sl := by omega
  refine ab_widen (cells' := H85.sh.length - c0) (slots' := H85.sl - s0) (by rw [(s_131).1]; exact Nat.le_refl _) (by rw [(s_131).2]; exact Nat.le_refl _) ?_
  refine hp_newa (q := 102) d_M_init_162 rfl (k1 144 rfl rfl) tZ (Or.inr (Or.inr (Or.inl rfl))) ⟨by decide, by decide, rfl⟩ rfl q86 q87 (by show _ ≤ C; omega) (by show _ + ((8 : Int32)).toNatClampNeg ≤ Sl; omega) ?_
  refine ab_widen (cells' := H88.sh.length - c0) (slots' := H88.sl - s0) (by omega) (by show _ + ((8 : Int32)).toNatClampNeg ≤ _; omega) ?_
  rw [← eH88, ← ea89]
  clear b_133l b_133s b_133x b_133y b_133m b_133n b_133e b_133f b_129c b_129d b_129p b_129q
  refine hp_putFP (v := .ref a89) (f := 26) d_M_init_164 q_134 (by decide) rfl (by decide) (k10 19 rfl rfl) rfl rfl rfl rfl (fun _ => rfl) (fun _ => rfl) rfl ?_
  refine hp_genx eH90 ?_
  have s_135 : Sa H88 H90 := by rw [eH90]; exact Sa.rf _
  refine ab_iload_n d_M_init_167 rfl rfl ?_
  refine ab_iconst (v := 1) d_M_init_168 (by decide) ?_
  refine ab_icmp_ge (tgt := 176) d_M_init_169 (by decide) (fun q91 => ?_) (fun q91 => ?_)
  · rw [if_pos q91] at hF
    refine ab_iload_n d_M_init_176 rfl rfl ?_
    refine ab_bipush (v := 8) d_M_init_177 (by decide) ?_
    refine ab_icmp_le (tgt := 187) d_M_init_179 (by decide) (fun q92 => ?_) (fun q92 => ?_)
    · rw [if_pos q92] at hF
      refine ab_iload_n d_M_init_187 rfl rfl ?_
      refine ab_widen (cells' := H90.sh.length - c0) (slots' := H90.sl - s0) (by rw [(s_135).1]; exact Nat.le_refl _) (by rw [(s_135).2]; exact Nat.le_refl _) ?_
      exact kB_M_init_188 hF (by rw [(s_135).1]; exact b_133c) (by rw [(s_135).2]; exact b_133d) (by rw [(s_135).1]; exact b_133p) (by rw [(s_135).2]; exact b_133q) hC hS
    · rw [if_neg q92] at hF
      refine ab_bipush (v := 8) d_M_init_182 (by decide) ?_
      refine ab_goto (tgt := 188) d_M_init_184 (by decide) ?_
      refine ab_widen (cells' := H90.sh.length - c0) (slots' := H90.sl - s0) (by rw [(s_135).1]; exact Nat.le_refl _) (by rw [(s_135).2]; exact Nat.le_refl _) ?_
      exact kB_M_init_188 hF (by rw [(s_135).1]; exact b_133c) (by rw [(s_135).2]; exact b_133d) (by rw [(s_135).1]; exact b_133p) (by rw [(s_135).2]; exact b_133q) hC hS
  · rw [if_neg q91] at hF
    refine ab_iconst (v := 1) d_M_init_172 (by decide) ?_
    refine ab_goto (tgt := 188) d_M_init_173 (by decide) ?_
    refine ab_widen (cells' := H90.sh.length - c0) (slots' := H90.sl - s0) (by rw [(s_135).1]; exact Nat.le_refl _) (by rw [(s_135).2]; exact Nat.le_refl _) ?_
    exact kB_M_init_188 hF (by rw [(s_135).1]; exact b_133c) (by rw [(s_135).2]; exact b_133d) (by rw [(s_135).1]; exact b_133p) (by rw [(s_135).2]; exact b_133q) hC hS
def y_M_thrown : ab_Y := (⟨"WorldEngineModel", "thrown", "()I"⟩, prog_14_method_2_code, 1, (some FieldType.int), [])
theorem d_M_thrown_0 : decode y_M_thrown.2.1 0 = .ok (.aload_n 0, 1) := by decide +kernel
theorem d_M_thrown_1 : decode y_M_thrown.2.1 1 = .ok (.getfield 83, 3) := by decide +kernel
theorem d_M_thrown_4 : decode y_M_thrown.2.1 4 = .ok (.ireturn, 1) := by decide +kernel
theorem s_M_thrown : ab_Stat y_M_thrown 0 := ⟨(k10 84 rfl rfl), (k1 19 rfl rfl), ⟨by decide, by decide⟩, by decide +kernel⟩
theorem i_M_thrown : Cond.instanceMethod y_M_thrown.1 ∈ ab_T := (k10 82 rfl rfl)
theorem v_M_thrown : Cond.selects "WorldEngineModel" y_M_thrown.1 y_M_thrown.1 ∈ ab_T := (k10 83 rfl rfl)
def F_M_thrown (N : Nat) (p0 : Nat) (H : Hp) : Option (Int32 × Hp) :=
    ck (H.sh[p0]? = some (12, 0)) <|
    bnd ((H.D p0 0)) fun x2 =>
    some (x2, H)
set_option maxRecDepth 20000 in
set_option maxHeartbeats 2000000 in
theorem m_M_thrown {N : Nat} {p0 : Nat} {H : Hp} {r : Int32 × Hp} (hF : F_M_thrown N p0 H = some r) : Sa H r.2 := by
  unfold F_M_thrown at hF
  have hm := Sa.rf H
  obtain ⟨q3, hG⟩ := ck_s hF; clear hF
  obtain ⟨x4, -, hF⟩ := bnd_g hG; clear hG
  have hr := Option.some.inj hF; subst hr
  exact hm
set_option maxRecDepth 20000 in
set_option maxHeartbeats 2000000 in
theorem k_M_thrown {N : Nat} {p0 : Nat} {H : Hp} {r : Int32 × Hp} (hF : F_M_thrown N p0 H = some r) : ab_M y_M_thrown { frames := 0, cells := 0, slots := 0, locals := 0 } [.ref p0] (hpw H) (po (.returned (some (.int r.1))) r.2) := by
  unfold F_M_thrown at hF
  refine ab_of2 (lv := [some (.ref p0)]) 0 rfl rfl (Nat.le_of_ble_eq_true rfl) ?_
  refine ab_aload_n d_M_thrown_0 rfl rfl rfl ?_
  obtain ⟨q1, hG⟩ := ck_s hF; clear hF
  refine hp_getI (f := 0) d_M_thrown_1 q1 (by decide) rfl (by decide) (k9 233 rfl rfl) rfl ?_
  refine ab_topi (fun x2 ex2 => ?_)
  replace hG := bnd_s ex2 hG
  exact ab_iret d_M_thrown_4 rfl (Nat.le_refl _) (Nat.le_refl _) (by have hr := Option.some.inj hG; subst hr; exact ⟨rfl, rfl⟩)
