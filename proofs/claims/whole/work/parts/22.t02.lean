def y_Program_init : ab_Y := (⟨"WorldEngine$Program", "<init>", "()V"⟩, prog_6_method_1_code, 1, none, [])
theorem d_Program_init_0 : decode y_Program_init.2.1 0 = .ok (.aload_n 0, 1) := by decide +kernel
theorem d_Program_init_1 : decode y_Program_init.2.1 1 = .ok (.invokespecial 3, 3) := by decide +kernel
theorem d_Program_init_4 : decode y_Program_init.2.1 4 = .ok (.aload_n 0, 1) := by decide +kernel
theorem d_Program_init_5 : decode y_Program_init.2.1 5 = .ok (.bipush 68, 2) := by decide +kernel
theorem d_Program_init_7 : decode y_Program_init.2.1 7 = .ok (.invokestatic 9, 3) := by decide +kernel
theorem d_Program_init_10 : decode y_Program_init.2.1 10 = .ok (.putfield 15, 3) := by decide +kernel
theorem d_Program_init_13 : decode y_Program_init.2.1 13 = .ok (.aload_n 0, 1) := by decide +kernel
theorem d_Program_init_14 : decode y_Program_init.2.1 14 = .ok (.new 19, 3) := by decide +kernel
theorem d_Program_init_17 : decode y_Program_init.2.1 17 = .ok (.dup, 1) := by decide +kernel
theorem d_Program_init_18 : decode y_Program_init.2.1 18 = .ok (.bipush 16, 2) := by decide +kernel
theorem d_Program_init_20 : decode y_Program_init.2.1 20 = .ok (.bipush 48, 2) := by decide +kernel
theorem d_Program_init_22 : decode y_Program_init.2.1 22 = .ok (.invokespecial 21, 3) := by decide +kernel
theorem d_Program_init_25 : decode y_Program_init.2.1 25 = .ok (.putfield 24, 3) := by decide +kernel
theorem d_Program_init_28 : decode y_Program_init.2.1 28 = .ok (.aload_n 0, 1) := by decide +kernel
theorem d_Program_init_29 : decode y_Program_init.2.1 29 = .ok (.new 19, 3) := by decide +kernel
theorem d_Program_init_32 : decode y_Program_init.2.1 32 = .ok (.dup, 1) := by decide +kernel
theorem d_Program_init_33 : decode y_Program_init.2.1 33 = .ok (.bipush 8, 2) := by decide +kernel
theorem d_Program_init_35 : decode y_Program_init.2.1 35 = .ok (.bipush 32, 2) := by decide +kernel
theorem d_Program_init_37 : decode y_Program_init.2.1 37 = .ok (.invokespecial 21, 3) := by decide +kernel
theorem d_Program_init_40 : decode y_Program_init.2.1 40 = .ok (.putfield 28, 3) := by decide +kernel
theorem d_Program_init_43 : decode y_Program_init.2.1 43 = .ok (.aload_n 0, 1) := by decide +kernel
theorem d_Program_init_44 : decode y_Program_init.2.1 44 = .ok (.bipush 16, 2) := by decide +kernel
theorem d_Program_init_46 : decode y_Program_init.2.1 46 = .ok (.newarray .int, 2) := by decide +kernel
theorem d_Program_init_48 : decode y_Program_init.2.1 48 = .ok (.putfield 31, 3) := by decide +kernel
theorem d_Program_init_51 : decode y_Program_init.2.1 51 = .ok (.aload_n 0, 1) := by decide +kernel
theorem d_Program_init_52 : decode y_Program_init.2.1 52 = .ok (.sipush 768, 3) := by decide +kernel
theorem d_Program_init_55 : decode y_Program_init.2.1 55 = .ok (.newarray .int, 2) := by decide +kernel
theorem d_Program_init_57 : decode y_Program_init.2.1 57 = .ok (.putfield 35, 3) := by decide +kernel
theorem d_Program_init_60 : decode y_Program_init.2.1 60 = .ok (.aload_n 0, 1) := by decide +kernel
theorem d_Program_init_61 : decode y_Program_init.2.1 61 = .ok (.bipush 16, 2) := by decide +kernel
theorem d_Program_init_63 : decode y_Program_init.2.1 63 = .ok (.newarray .int, 2) := by decide +kernel
theorem d_Program_init_65 : decode y_Program_init.2.1 65 = .ok (.putfield 38, 3) := by decide +kernel
theorem d_Program_init_68 : decode y_Program_init.2.1 68 = .ok (.aload_n 0, 1) := by decide +kernel
theorem d_Program_init_69 : decode y_Program_init.2.1 69 = .ok (.bipush 16, 2) := by decide +kernel
theorem d_Program_init_71 : decode y_Program_init.2.1 71 = .ok (.newarray .int, 2) := by decide +kernel
theorem d_Program_init_73 : decode y_Program_init.2.1 73 = .ok (.putfield 41, 3) := by decide +kernel
theorem d_Program_init_76 : decode y_Program_init.2.1 76 = .ok (.aload_n 0, 1) := by decide +kernel
theorem d_Program_init_77 : decode y_Program_init.2.1 77 = .ok (.bipush 16, 2) := by decide +kernel
theorem d_Program_init_79 : decode y_Program_init.2.1 79 = .ok (.newarray .int, 2) := by decide +kernel
theorem d_Program_init_81 : decode y_Program_init.2.1 81 = .ok (.putfield 44, 3) := by decide +kernel
theorem d_Program_init_84 : decode y_Program_init.2.1 84 = .ok (.aload_n 0, 1) := by decide +kernel
theorem d_Program_init_85 : decode y_Program_init.2.1 85 = .ok (.bipush 16, 2) := by decide +kernel
theorem d_Program_init_87 : decode y_Program_init.2.1 87 = .ok (.newarray .int, 2) := by decide +kernel
theorem d_Program_init_89 : decode y_Program_init.2.1 89 = .ok (.putfield 47, 3) := by decide +kernel
theorem d_Program_init_92 : decode y_Program_init.2.1 92 = .ok (.aload_n 0, 1) := by decide +kernel
theorem d_Program_init_93 : decode y_Program_init.2.1 93 = .ok (.bipush 16, 2) := by decide +kernel
theorem d_Program_init_95 : decode y_Program_init.2.1 95 = .ok (.newarray .int, 2) := by decide +kernel
theorem d_Program_init_97 : decode y_Program_init.2.1 97 = .ok (.putfield 50, 3) := by decide +kernel
theorem d_Program_init_100 : decode y_Program_init.2.1 100 = .ok (.aload_n 0, 1) := by decide +kernel
theorem d_Program_init_101 : decode y_Program_init.2.1 101 = .ok (.bipush 16, 2) := by decide +kernel
theorem d_Program_init_103 : decode y_Program_init.2.1 103 = .ok (.newarray .int, 2) := by decide +kernel
theorem d_Program_init_105 : decode y_Program_init.2.1 105 = .ok (.putfield 53, 3) := by decide +kernel
theorem d_Program_init_108 : decode y_Program_init.2.1 108 = .ok (.aload_n 0, 1) := by decide +kernel
theorem d_Program_init_109 : decode y_Program_init.2.1 109 = .ok (.bipush 16, 2) := by decide +kernel
theorem d_Program_init_111 : decode y_Program_init.2.1 111 = .ok (.newarray .int, 2) := by decide +kernel
theorem d_Program_init_113 : decode y_Program_init.2.1 113 = .ok (.putfield 56, 3) := by decide +kernel
theorem d_Program_init_116 : decode y_Program_init.2.1 116 = .ok (.aload_n 0, 1) := by decide +kernel
theorem d_Program_init_117 : decode y_Program_init.2.1 117 = .ok (.sipush 12000, 3) := by decide +kernel
theorem d_Program_init_120 : decode y_Program_init.2.1 120 = .ok (.newarray .int, 2) := by decide +kernel
theorem d_Program_init_122 : decode y_Program_init.2.1 122 = .ok (.putfield 59, 3) := by decide +kernel
theorem d_Program_init_125 : decode y_Program_init.2.1 125 = .ok (.return_, 1) := by decide +kernel
theorem s_Program_init : ab_Stat y_Program_init 0 := ⟨(k2 212 rfl rfl), (k1 15 rfl rfl), ⟨by decide, by decide⟩, by decide +kernel⟩
theorem i_Program_init : Cond.instanceMethod y_Program_init.1 ∈ ab_T := (k2 211 rfl rfl)
def F_Program_init (N : Nat) (p0 : Nat) (H : Hp) : Option (Unit × Hp) :=
    bC (F_Named_rowOf N (68 : Int32) H) fun v2 H3 =>
    on v2 fun a4 =>
    ck (H3.sh[p0]? = some (4, 0)) <|
    bnd (H3.sP p0 0 (.ref a4)) fun H6 =>
    bnd (H6.nw (3, 0) 4) fun H7 =>
    bnd H6.sh.length fun a8 =>
    bC (F_Shapes_init N a8 (16 : Int32) (48 : Int32) H7) fun v10 H11 =>
    bnd (H11.sP p0 2 (.ref a8)) fun H12 =>
    bnd (H12.nw (3, 0) 4) fun H13 =>
    bnd H12.sh.length fun a14 =>
    bC (F_Shapes_init N a14 (8 : Int32) (32 : Int32) H13) fun v16 H17 =>
    bnd (H17.sP p0 3 (.ref a14)) fun H18 =>
    ck (¬ (16 : Int32) < 0) <|
    ck (((16 : Int32)).toNatClampNeg * 4 ≤ 536870912) <|
    bnd (H18.nw (100, ((16 : Int32)).toNatClampNeg) ((16 : Int32)).toNatClampNeg) fun H21 =>
    bnd H18.sh.length fun a22 =>
    bnd (H21.sP p0 5 (.ref a22)) fun H23 =>
    ck (¬ (768 : Int32) < 0) <|
    ck (((768 : Int32)).toNatClampNeg * 4 ≤ 536870912) <|
    bnd (H23.nw (100, ((768 : Int32)).toNatClampNeg) ((768 : Int32)).toNatClampNeg) fun H26 =>
    bnd H23.sh.length fun a27 =>
    bnd (H26.sP p0 6 (.ref a27)) fun H28 =>
    ck (¬ (16 : Int32) < 0) <|
    ck (((16 : Int32)).toNatClampNeg * 4 ≤ 536870912) <|
    bnd (H28.nw (100, ((16 : Int32)).toNatClampNeg) ((16 : Int32)).toNatClampNeg) fun H31 =>
    bnd H28.sh.length fun a32 =>
    bnd (H31.sP p0 8 (.ref a32)) fun H33 =>
    ck (¬ (16 : Int32) < 0) <|
    ck (((16 : Int32)).toNatClampNeg * 4 ≤ 536870912) <|
    bnd (H33.nw (100, ((16 : Int32)).toNatClampNeg) ((16 : Int32)).toNatClampNeg) fun H36 =>
    bnd H33.sh.length fun a37 =>
    bnd (H36.sP p0 9 (.ref a37)) fun H38 =>
    ck (¬ (16 : Int32) < 0) <|
    ck (((16 : Int32)).toNatClampNeg * 4 ≤ 536870912) <|
    bnd (H38.nw (100, ((16 : Int32)).toNatClampNeg) ((16 : Int32)).toNatClampNeg) fun H41 =>
    bnd H38.sh.length fun a42 =>
    bnd (H41.sP p0 10 (.ref a42)) fun H43 =>
    ck (¬ (16 : Int32) < 0) <|
    ck (((16 : Int32)).toNatClampNeg * 4 ≤ 536870912) <|
    bnd (H43.nw (100, ((16 : Int32)).toNatClampNeg) ((16 : Int32)).toNatClampNeg) fun H46 =>
    bnd H43.sh.length fun a47 =>
    bnd (H46.sP p0 11 (.ref a47)) fun H48 =>
    ck (¬ (16 : Int32) < 0) <|
    ck (((16 : Int32)).toNatClampNeg * 4 ≤ 536870912) <|
    bnd (H48.nw (100, ((16 : Int32)).toNatClampNeg) ((16 : Int32)).toNatClampNeg) fun H51 =>
    bnd H48.sh.length fun a52 =>
    bnd (H51.sP p0 12 (.ref a52)) fun H53 =>
    ck (¬ (16 : Int32) < 0) <|
    ck (((16 : Int32)).toNatClampNeg * 4 ≤ 536870912) <|
    bnd (H53.nw (100, ((16 : Int32)).toNatClampNeg) ((16 : Int32)).toNatClampNeg) fun H56 =>
    bnd H53.sh.length fun a57 =>
    bnd (H56.sP p0 13 (.ref a57)) fun H58 =>
    ck (¬ (16 : Int32) < 0) <|
    ck (((16 : Int32)).toNatClampNeg * 4 ≤ 536870912) <|
    bnd (H58.nw (100, ((16 : Int32)).toNatClampNeg) ((16 : Int32)).toNatClampNeg) fun H61 =>
    bnd H58.sh.length fun a62 =>
    bnd (H61.sP p0 14 (.ref a62)) fun H63 =>
    ck (¬ (12000 : Int32) < 0) <|
    ck (((12000 : Int32)).toNatClampNeg * 4 ≤ 536870912) <|
    bnd (H63.nw (100, ((12000 : Int32)).toNatClampNeg) ((12000 : Int32)).toNatClampNeg) fun H66 =>
    bnd H63.sh.length fun a67 =>
    bnd (H66.sP p0 16 (.ref a67)) fun H68 =>
    some ((), H68)
set_option maxRecDepth 20000 in
set_option maxHeartbeats 2000000 in
theorem m_Program_init {N : Nat} {p0 : Nat} {H : Hp} {r : Unit × Hp} (hF : F_Program_init N p0 H = some r) : Mo H r.2 := by
  unfold F_Program_init at hF
  have hm := Mo.rf H
  obtain ⟨v70, H71, z69, hG⟩ := bC_s hF; clear hF
  replace hm : Mo H H71 := hm.tr (m_Named_rowOf z69)
  obtain ⟨a72, ea72, hF⟩ := on_s hG; clear hG
  subst ea72
  obtain ⟨q73, hG⟩ := ck_s hF; clear hF
  obtain ⟨H74, eH74, hF⟩ := bnd_g hG; clear hG
  replace hm : Mo H H74 := by rw [eH74]; exact hm
  obtain ⟨H75, eH75, hG⟩ := bnd_g hF; clear hF
  replace hm : Mo H H75 := hm.tr (by rw [eH75]; exact Mo.nw _ _ _)
  obtain ⟨a76, -, hF⟩ := bnd_g hG; clear hG
  obtain ⟨v78, H79, z77, hG⟩ := bC_s hF; clear hF
  replace hm : Mo H H79 := hm.tr (m_Shapes_init z77)
  obtain ⟨H80, eH80, hF⟩ := bnd_g hG; clear hG
  replace hm : Mo H H80 := by rw [eH80]; exact hm
  obtain ⟨H81, eH81, hG⟩ := bnd_g hF; clear hF
  replace hm : Mo H H81 := hm.tr (by rw [eH81]; exact Mo.nw _ _ _)
  obtain ⟨a82, -, hF⟩ := bnd_g hG; clear hG
  obtain ⟨v84, H85, z83, hG⟩ := bC_s hF; clear hF
  replace hm : Mo H H85 := hm.tr (m_Shapes_init z83)
  obtain ⟨H86, eH86, hF⟩ := bnd_g hG; clear hG
  replace hm : Mo H H86 := by rw [eH86]; exact hm
  obtain ⟨q87, hG⟩ := ck_s hF; clear hF
  obtain ⟨q88, hF⟩ := ck_s hG; clear hG
  obtain ⟨H89, eH89, hG⟩ := bnd_g hF; clear hF
  replace hm : Mo H H89 := hm.tr (by rw [eH89]; exact Mo.nw _ _ _)
  obtain ⟨a90, -, hF⟩ := bnd_g hG; clear hG
  obtain ⟨H91, eH91, hG⟩ := bnd_g hF; clear hF
  replace hm : Mo H H91 := by rw [eH91]; exact hm
  obtain ⟨q92, hF⟩ := ck_s hG; clear hG
  obtain ⟨q93, hG⟩ := ck_s hF; clear hF
  obtain ⟨H94, eH94, hF⟩ := bnd_g hG; clear hG
  replace hm : Mo H H94 := hm.tr (by rw [eH94]; exact Mo.nw _ _ _)
  obtain ⟨a95, -, hG⟩ := bnd_g hF; clear hF
  obtain ⟨H96, eH96, hF⟩ := bnd_g hG; clear hG
  replace hm : Mo H H96 := by rw [eH96]; exact hm
  obtain ⟨q97, hG⟩ := ck_s hF; clear hF
  obtain ⟨q98, hF⟩ := ck_s hG; clear hG
  obtain ⟨H99, eH99, hG⟩ := bnd_g hF; clear hF
  replace hm : Mo H H99 := hm.tr (by rw [eH99]; exact Mo.nw _ _ _)
  obtain ⟨a100, -, hF⟩ := bnd_g hG; clear hG
  obtain ⟨H101, eH101, hG⟩ := bnd_g hF; clear hF
  replace hm : Mo H H101 := by rw [eH101]; exact hm
  obtain ⟨q102, hF⟩ := ck_s hG; clear hG
  obtain ⟨q103, hG⟩ := ck_s hF; clear hF
  obtain ⟨H104, eH104, hF⟩ := bnd_g hG; clear hG
  replace hm : Mo H H104 := hm.tr (by rw [eH104]; exact Mo.nw _ _ _)
  obtain ⟨a105, -, hG⟩ := bnd_g hF; clear hF
  obtain ⟨H106, eH106, hF⟩ := bnd_g hG; clear hG
  replace hm : Mo H H106 := by rw [eH106]; exact hm
  obtain ⟨q107, hG⟩ := ck_s hF; clear hF
  obtain ⟨q108, hF⟩ := ck_s hG; clear hG
  obtain ⟨H109, eH109, hG⟩ := bnd_g hF; clear hF
  replace hm : Mo H H109 := hm.tr (by rw [eH109]; exact Mo.nw _ _ _)
  obtain ⟨a110, -, hF⟩ := bnd_g hG; clear hG
  obtain ⟨H111, eH111, hG⟩ := bnd_g hF; clear hF
  replace hm : Mo H H111 := by rw [eH111]; exact hm
  obtain ⟨q112, hF⟩ := ck_s hG; clear hG
  obtain ⟨q113, hG⟩ := ck_s hF; clear hF
  obtain ⟨H114, eH114, hF⟩ := bnd_g hG; clear hG
  replace hm : Mo H H114 := hm.tr (by rw [eH114]; exact Mo.nw _ _ _)
  obtain ⟨a115, -, hG⟩ := bnd_g hF; clear hF
  obtain ⟨H116, eH116, hF⟩ := bnd_g hG; clear hG
  replace hm : Mo H H116 := by rw [eH116]; exact hm
  obtain ⟨q117, hG⟩ := ck_s hF; clear hF
  obtain ⟨q118, hF⟩ := ck_s hG; clear hG
  obtain ⟨H119, eH119, hG⟩ := bnd_g hF; clear hF
  replace hm : Mo H H119 := hm.tr (by rw [eH119]; exact Mo.nw _ _ _)
  obtain ⟨a120, -, hF⟩ := bnd_g hG; clear hG
  obtain ⟨H121, eH121, hG⟩ := bnd_g hF; clear hF
  replace hm : Mo H H121 := by rw [eH121]; exact hm
  obtain ⟨q122, hF⟩ := ck_s hG; clear hG
  obtain ⟨q123, hG⟩ := ck_s hF; clear hF
  obtain ⟨H124, eH124, hF⟩ := bnd_g hG; clear hG
  replace hm : Mo H H124 := hm.tr (by rw [eH124]; exact Mo.nw _ _ _)
  obtain ⟨a125, -, hG⟩ := bnd_g hF; clear hF
  obtain ⟨H126, eH126, hF⟩ := bnd_g hG; clear hG
  replace hm : Mo H H126 := by rw [eH126]; exact hm
  obtain ⟨q127, hG⟩ := ck_s hF; clear hF
  obtain ⟨q128, hF⟩ := ck_s hG; clear hG
  obtain ⟨H129, eH129, hG⟩ := bnd_g hF; clear hF
  replace hm : Mo H H129 := hm.tr (by rw [eH129]; exact Mo.nw _ _ _)
  obtain ⟨a130, -, hF⟩ := bnd_g hG; clear hG
  obtain ⟨H131, eH131, hG⟩ := bnd_g hF; clear hF
  replace hm : Mo H H131 := by rw [eH131]; exact hm
  obtain ⟨q132, hF⟩ := ck_s hG; clear hG
  obtain ⟨q133, hG⟩ := ck_s hF; clear hF
  obtain ⟨H134, eH134, hF⟩ := bnd_g hG; clear hG
  replace hm : Mo H H134 := hm.tr (by rw [eH134]; exact Mo.nw _ _ _)
  obtain ⟨a135, -, hG⟩ := bnd_g hF; clear hF
  obtain ⟨H136, eH136, hF⟩ := bnd_g hG; clear hG
  replace hm : Mo H H136 := by rw [eH136]; exact hm
  have hr := Option.some.inj hF; subst hr
  exact hm
set_option maxRecDepth 20000 in
set_option maxHeartbeats 2000000 in
theorem k_Program_init {N : Nat} {p0 : Nat} {H : Hp} {r : Unit × Hp} {C Sl : Nat} (hF : F_Program_init N p0 H = some r) (hC : r.2.sh.length ≤ H.sh.length + C) (hS : r.2.sl ≤ H.sl + Sl) : ab_M y_Program_init { frames := 4, cells := C, slots := Sl, locals := 124 } [.ref p0] (hpw H) (po (.returned none) r.2) := by
  unfold F_Program_init at hF
  obtain ⟨c0, e0⟩ : ∃ q, q = H.sh.length := ⟨_, rfl⟩
  obtain ⟨s0, e1⟩ : ∃ q, q = H.sl := ⟨_, rfl⟩
  rw [← e0] at hC
  rw [← e1] at hS
  have hc0 : c0 ≤ H.sh.length := Nat.le_of_eq e0
  have hs0 : s0 ≤ H.sl := Nat.le_of_eq e1
  have hcc : H.sh.length ≤ c0 + C := by omega
  have hss : H.sl ≤ s0 + Sl := by omega
  refine ab_of2 (lv := [some (.ref p0)]) 0 rfl rfl (Nat.le_of_ble_eq_true rfl) ?_
  refine ab_widen (cells' := H.sh.length - c0) (slots' := H.sl - s0) (Nat.zero_le _) (Nat.zero_le _) ?_
  refine ab_aload_n d_Program_init_0 rfl rfl rfl ?_
  refine ab_objInit d_Program_init_1 (k2 213 rfl rfl) (k1 37 rfl rfl) (k1 38 rfl rfl) (Nat.le_of_ble_eq_true rfl) (Nat.le_of_ble_eq_true rfl) ?_
  refine ab_aload_n d_Program_init_4 rfl rfl rfl ?_
  refine ab_bipush (v := 68) d_Program_init_5 (by decide) ?_
  obtain ⟨v2, H3, z1, hG⟩ := bC_s hF; clear hF
  have mz_1 : Mo H H3 := (m_Named_rowOf z1)
  have b_2l := (mz_1).len
  have b_2s := (mz_1).2
  have b_2c : c0 ≤ H3.sh.length := by omega
  have b_2d : s0 ≤ H3.sl := by omega
  have mf_3 : Mo H3 r.2 := by
    have hm := Mo.rf H3
    obtain ⟨a4, ea4, hF⟩ := on_s hG; clear hG
    subst ea4
    obtain ⟨q5, hG⟩ := ck_s hF; clear hF
    obtain ⟨H6, eH6, hF⟩ := bnd_g hG; clear hG
    replace hm : Mo H3 H6 := by rw [eH6]; exact hm
    obtain ⟨H7, eH7, hG⟩ := bnd_g hF; clear hF
    replace hm : Mo H3 H7 := hm.tr (by rw [eH7]; exact Mo.nw _ _ _)
    obtain ⟨a8, -, hF⟩ := bnd_g hG; clear hG
    obtain ⟨v10, H11, z9, hG⟩ := bC_s hF; clear hF
    replace hm : Mo H3 H11 := hm.tr (m_Shapes_init z9)
    obtain ⟨H12, eH12, hF⟩ := bnd_g hG; clear hG
    replace hm : Mo H3 H12 := by rw [eH12]; exact hm
    obtain ⟨H13, eH13, hG⟩ := bnd_g hF; clear hF
    replace hm : Mo H3 H13 := hm.tr (by rw [eH13]; exact Mo.nw _ _ _)
    obtain ⟨a14, -, hF⟩ := bnd_g hG; clear hG
    obtain ⟨v16, H17, z15, hG⟩ := bC_s hF; clear hF
    replace hm : Mo H3 H17 := hm.tr (m_Shapes_init z15)
    obtain ⟨H18, eH18, hF⟩ := bnd_g hG; clear hG
    replace hm : Mo H3 H18 := by rw [eH18]; exact hm
    obtain ⟨q19, hG⟩ := ck_s hF; clear hF
    obtain ⟨q20, hF⟩ := ck_s hG; clear hG
    obtain ⟨H21, eH21, hG⟩ := bnd_g hF; clear hF
    replace hm : Mo H3 H21 := hm.tr (by rw [eH21]; exact Mo.nw _ _ _)
    obtain ⟨a22, -, hF⟩ := bnd_g hG; clear hG
    obtain ⟨H23, eH23, hG⟩ := bnd_g hF; clear hF
    replace hm : Mo H3 H23 := by rw [eH23]; exact hm
    obtain ⟨q24, hF⟩ := ck_s hG; clear hG
    obtain ⟨q25, hG⟩ := ck_s hF; clear hF
    obtain ⟨H26, eH26, hF⟩ := bnd_g hG; clear hG
    replace hm : Mo H3 H26 := hm.tr (by rw [eH26]; exact Mo.nw _ _ _)
    obtain ⟨a27, -, hG⟩ := bnd_g hF; clear hF
    obtain ⟨H28, eH28, hF⟩ := bnd_g hG; clear hG
    replace hm : Mo H3 H28 := by rw [eH28]; exact hm
    obtain ⟨q29, hG⟩ := ck_s hF; clear hF
    obtain ⟨q30, hF⟩ := ck_s hG; clear hG
    obtain ⟨H31, eH31, hG⟩ := bnd_g hF; clear hF
    replace hm : Mo H3 H31 := hm.tr (by rw [eH31]; exact Mo.nw _ _ _)
    obtain ⟨a32, -, hF⟩ := bnd_g hG; clear hG
    obtain ⟨H33, eH33, hG⟩ := bnd_g hF; clear hF
    replace hm : Mo H3 H33 := by rw [eH33]; exact hm
    obtain ⟨q34, hF⟩ := ck_s hG; clear hG
    obtain ⟨q35, hG⟩ := ck_s hF; clear hF
    obtain ⟨H36, eH36, hF⟩ := bnd_g hG; clear hG
    replace hm : Mo H3 H36 := hm.tr (by rw [eH36]; exact Mo.nw _ _ _)
    obtain ⟨a37, -, hG⟩ := bnd_g hF; clear hF
    obtain ⟨H38, eH38, hF⟩ := bnd_g hG; clear hG
    replace hm : Mo H3 H38 := by rw [eH38]; exact hm
    obtain ⟨q39, hG⟩ := ck_s hF; clear hF
    obtain ⟨q40, hF⟩ := ck_s hG; clear hG
    obtain ⟨H41, eH41, hG⟩ := bnd_g hF; clear hF
    replace hm : Mo H3 H41 := hm.tr (by rw [eH41]; exact Mo.nw _ _ _)
    obtain ⟨a42, -, hF⟩ := bnd_g hG; clear hG
    obtain ⟨H43, eH43, hG⟩ := bnd_g hF; clear hF
    replace hm : Mo H3 H43 := by rw [eH43]; exact hm
    obtain ⟨q44, hF⟩ := ck_s hG; clear hG
    obtain ⟨q45, hG⟩ := ck_s hF; clear hF
    obtain ⟨H46, eH46, hF⟩ := bnd_g hG; clear hG
    replace hm : Mo H3 H46 := hm.tr (by rw [eH46]; exact Mo.nw _ _ _)
    obtain ⟨a47, -, hG⟩ := bnd_g hF; clear hF
    obtain ⟨H48, eH48, hF⟩ := bnd_g hG; clear hG
    replace hm : Mo H3 H48 := by rw [eH48]; exact hm
    obtain ⟨q49, hG⟩ := ck_s hF; clear hF
    obtain ⟨q50, hF⟩ := ck_s hG; clear hG
    obtain ⟨H51, eH51, hG⟩ := bnd_g hF; clear hF
    replace hm : Mo H3 H51 := hm.tr (by rw [eH51]; exact Mo.nw _ _ _)
    obtain ⟨a52, -, hF⟩ := bnd_g hG; clear hG
    obtain ⟨H53, eH53, hG⟩ := bnd_g hF; clear hF
    replace hm : Mo H3 H53 := by rw [eH53]; exact hm
    obtain ⟨q54, hF⟩ := ck_s hG; clear hG
    obtain ⟨q55, hG⟩ := ck_s hF; clear hF
    obtain ⟨H56, eH56, hF⟩ := bnd_g hG; clear hG
    replace hm : Mo H3 H56 := hm.tr (by rw [eH56]; exact Mo.nw _ _ _)
    obtain ⟨a57, -, hG⟩ := bnd_g hF; clear hF
    obtain ⟨H58, eH58, hF⟩ := bnd_g hG; clear hG
    replace hm : Mo H3 H58 := by rw [eH58]; exact hm
    obtain ⟨q59, hG⟩ := ck_s hF; clear hF
    obtain ⟨q60, hF⟩ := ck_s hG; clear hG
    obtain ⟨H61, eH61, hG⟩ := bnd_g hF; clear hF
    replace hm : Mo H3 H61 := hm.tr (by rw [eH61]; exact Mo.nw _ _ _)
    obtain ⟨a62, -, hF⟩ := bnd_g hG; clear hG
    obtain ⟨H63, eH63, hG⟩ := bnd_g hF; clear hF
    replace hm : Mo H3 H63 := by rw [eH63]; exact hm
    obtain ⟨q64, hF⟩ := ck_s hG; clear hG
    obtain ⟨q65, hG⟩ := ck_s hF; clear hF
    obtain ⟨H66, eH66, hF⟩ := bnd_g hG; clear hG
    replace hm : Mo H3 H66 := hm.tr (by rw [eH66]; exact Mo.nw _ _ _)
    obtain ⟨a67, -, hG⟩ := bnd_g hF; clear hF
    obtain ⟨H68, eH68, hF⟩ := bnd_g hG; clear hG
    replace hm : Mo H3 H68 := by rw [eH68]; exact hm
    have hr := Option.some.inj hF; subst hr
    exact hm
  have b_2m := (mf_3).len
  have b_2n := (mf_3).2
  have b_2p : H3.sh.length ≤ c0 + C := by omega
  have b_2q : H3.sl ≤ s0 + Sl := by omega
  refine hp_callS_a (v := ab_rf v2) (H1 := H3) (As := [.int 68]) (rest := [.ref p0]) d_Program_init_7 (k_Named_rowOf z1 (C := H3.sh.length - H.sh.length) (Sl := H3.sl - H.sl) (by show H3.sh.length ≤ _; omega) (by show H3.sl ≤ _; omega)) (ab_mkC s_Named_rowOf (Nat.le_of_ble_eq_true rfl) (Nat.le_of_ble_eq_true rfl) (show (H.sh.length - c0) + (H3.sh.length - H.sh.length) ≤ C from by omega) (show (H.sl - s0) + (H3.sl - H.sl) ≤ Sl from by omega)) (k2 214 rfl rfl) t_Named_rowOf rfl (Nat.le_of_ble_eq_true rfl) ?_
  refine ab_widen (cells' := H3.sh.length - c0) (slots' := H3.sl - s0) (by show _ + (H3.sh.length - H.sh.length) ≤ _; omega) (by show _ + (H3.sl - H.sl) ≤ _; omega) ?_
  clear b_2l b_2s b_2m b_2n
  obtain ⟨a4, ea4, hF⟩ := on_s hG; clear hG
  subst ea4
  obtain ⟨q5, hG⟩ := ck_s hF; clear hF
  refine hp_putFP (v := .ref a4) (f := 0) d_Program_init_10 q5 (by decide) rfl (by decide) (k3 53 rfl rfl) rfl rfl rfl rfl (fun _ => rfl) (fun _ => rfl) rfl ?_
  refine hp_gen (fun H6 eH6 => ?_)
  replace hG := bnd_s eH6 hG
  have s_33 : Sa H3 H6 := by rw [eH6]; exact Sa.rf _
  refine ab_aload_n d_Program_init_13 rfl rfl rfl ?_
  obtain ⟨H7, eH7, hF⟩ := bnd_g hG; clear hG
  obtain ⟨a8, ea8, hG⟩ := bnd_g hF; clear hF
  have m_34 : Mo H6 H7 := by rw [eH7]; exact Mo.nw _ _ _
  have b_35l := (m_34).len
  have b_35s := (m_34).2
  have b_35e := congrArg List.length (s_33).1
  have b_35f := (s_33).2
  have b_35c : c0 ≤ H7.sh.length := by omega
  have b_35d : s0 ≤ H7.sl := by omega
  have b_35x : H7.sh.length = H6.sh.length + 1 := by rw [eH7]; simp [Hp.nw, mkH_sh]
  have b_35y : H7.sl = H6.sl + 4 := by rw [eH7]; rfl
  have q_36 := (m_34).get (by rw [(s_33).1]; exact q5)
  obtain ⟨v10, H11, z9, hF⟩ := bC_s hG; clear hG
  have jH11 : Mo H7 H11 := (m_Shapes_init z9)
  obtain ⟨H12, eH12, hG⟩ := bnd_g hF; clear hF
  have jH12 : Mo H11 H12 := by rw [eH12]; exact Mo.rf _
  obtain ⟨H13, eH13, hF⟩ := bnd_g hG; clear hG
  obtain ⟨a14, ea14, hG⟩ := bnd_g hF; clear hF
  have jH13 : Mo H12 H13 := by rw [eH13]; exact Mo.nw _ _ _
  obtain ⟨v16, H17, z15, hF⟩ := bC_s hG; clear hG
  have jH17 : Mo H13 H17 := (m_Shapes_init z15)
  obtain ⟨H18, eH18, hG⟩ := bnd_g hF; clear hF
  have jH18 : Mo H17 H18 := by rw [eH18]; exact Mo.rf _
  obtain ⟨q19, hF⟩ := ck_s hG; clear hG
  obtain ⟨q20, hG⟩ := ck_s hF; clear hF
  obtain ⟨H21, eH21, hF⟩ := bnd_g hG; clear hG
  obtain ⟨a22, ea22, hG⟩ := bnd_g hF; clear hF
  have jH21 : Mo H18 H21 := by rw [eH21]; exact Mo.nw _ _ _
  obtain ⟨H23, eH23, hF⟩ := bnd_g hG; clear hG
  have jH23 : Mo H21 H23 := by rw [eH23]; exact Mo.rf _
  obtain ⟨q24, hG⟩ := ck_s hF; clear hF
  obtain ⟨q25, hF⟩ := ck_s hG; clear hG
  obtain ⟨H26, eH26, hG⟩ := bnd_g hF; clear hF
  obtain ⟨a27, ea27, hF⟩ := bnd_g hG; clear hG
  have jH26 : Mo H23 H26 := by rw [eH26]; exact Mo.nw _ _ _
  obtain ⟨H28, eH28, hG⟩ := bnd_g hF; clear hF
  have jH28 : Mo H26 H28 := by rw [eH28]; exact Mo.rf _
  obtain ⟨q29, hF⟩ := ck_s hG; clear hG
  obtain ⟨q30, hG⟩ := ck_s hF; clear hF
  obtain ⟨H31, eH31, hF⟩ := bnd_g hG; clear hG
  obtain ⟨a32, ea32, hG⟩ := bnd_g hF; clear hF
  have jH31 : Mo H28 H31 := by rw [eH31]; exact Mo.nw _ _ _
  obtain ⟨H33, eH33, hF⟩ := bnd_g hG; clear hG
  have jH33 : Mo H31 H33 := by rw [eH33]; exact Mo.rf _
  obtain ⟨q34, hG⟩ := ck_s hF; clear hF
  obtain ⟨q35, hF⟩ := ck_s hG; clear hG
  obtain ⟨H36, eH36, hG⟩ := bnd_g hF; clear hF
  obtain ⟨a37, ea37, hF⟩ := bnd_g hG; clear hG
  have jH36 : Mo H33 H36 := by rw [eH36]; exact Mo.nw _ _ _
  obtain ⟨H38, eH38, hG⟩ := bnd_g hF; clear hF
  have jH38 : Mo H36 H38 := by rw [eH38]; exact Mo.rf _
  obtain ⟨q39, hF⟩ := ck_s hG; clear hG
  obtain ⟨q40, hG⟩ := ck_s hF; clear hF
  obtain ⟨H41, eH41, hF⟩ := bnd_g hG; clear hG
  obtain ⟨a42, ea42, hG⟩ := bnd_g hF; clear hF
  have jH41 : Mo H38 H41 := by rw [eH41]; exact Mo.nw _ _ _
  obtain ⟨H43, eH43, hF⟩ := bnd_g hG; clear hG
  have jH43 : Mo H41 H43 := by rw [eH43]; exact Mo.rf _
  obtain ⟨q44, hG⟩ := ck_s hF; clear hF
  obtain ⟨q45, hF⟩ := ck_s hG; clear hG
  obtain ⟨H46, eH46, hG⟩ := bnd_g hF; clear hF
  obtain ⟨a47, ea47, hF⟩ := bnd_g hG; clear hG
  have jH46 : Mo H43 H46 := by rw [eH46]; exact Mo.nw _ _ _
  obtain ⟨H48, eH48, hG⟩ := bnd_g hF; clear hF
  have jH48 : Mo H46 H48 := by rw [eH48]; exact Mo.rf _
  obtain ⟨q49, hF⟩ := ck_s hG; clear hG
  obtain ⟨q50, hG⟩ := ck_s hF; clear hF
  obtain ⟨H51, eH51, hF⟩ := bnd_g hG; clear hG
  obtain ⟨a52, ea52, hG⟩ := bnd_g hF; clear hF
  have jH51 : Mo H48 H51 := by rw [eH51]; exact Mo.nw _ _ _
  obtain ⟨H53, eH53, hF⟩ := bnd_g hG; clear hG
  have jH53 : Mo H51 H53 := by rw [eH53]; exact Mo.rf _
  obtain ⟨q54, hG⟩ := ck_s hF; clear hF
  obtain ⟨q55, hF⟩ := ck_s hG; clear hG
  obtain ⟨H56, eH56, hG⟩ := bnd_g hF; clear hF
  obtain ⟨a57, ea57, hF⟩ := bnd_g hG; clear hG
  have jH56 : Mo H53 H56 := by rw [eH56]; exact Mo.nw _ _ _
  obtain ⟨H58, eH58, hG⟩ := bnd_g hF; clear hF
  have jH58 : Mo H56 H58 := by rw [eH58]; exact Mo.rf _
  obtain ⟨q59, hF⟩ := ck_s hG; clear hG
  obtain ⟨q60, hG⟩ := ck_s hF; clear hF
  obtain ⟨H61, eH61, hF⟩ := bnd_g hG; clear hG
  obtain ⟨a62, ea62, hG⟩ := bnd_g hF; clear hF
  have jH61 : Mo H58 H61 := by rw [eH61]; exact Mo.nw _ _ _
  obtain ⟨H63, eH63, hF⟩ := bnd_g hG; clear hG
  have jH63 : Mo H61 H63 := by rw [eH63]; exact Mo.rf _
  obtain ⟨q64, hG⟩ := ck_s hF; clear hF
  obtain ⟨q65, hF⟩ := ck_s hG; clear hG
  obtain ⟨H66, eH66, hG⟩ := bnd_g hF; clear hF
  obtain ⟨a67, ea67, hF⟩ := bnd_g hG; clear hG
  have jH66 : Mo H63 H66 := by rw [eH66]; exact Mo.nw _ _ _
  obtain ⟨H68, eH68, hG⟩ := bnd_g hF; clear hF
  have jH68 : Mo H66 H68 := by rw [eH68]; exact Mo.rf _
  have fH68 : Mo H68 r.2 := by
    have hm := Mo.rf H68
    have hr := Option.some.inj hG; subst hr
    exact hm
  have fH66 : Mo H66 r.2 := jH68.tr fH68
  have fH63 : Mo H63 r.2 := jH66.tr fH66
  have fH61 : Mo H61 r.2 := jH63.tr fH63
  have fH58 : Mo H58 r.2 := jH61.tr fH61
  have fH56 : Mo H56 r.2 := jH58.tr fH58
  have fH53 : Mo H53 r.2 := jH56.tr fH56
  have fH51 : Mo H51 r.2 := jH53.tr fH53
  have fH48 : Mo H48 r.2 := jH51.tr fH51
  have fH46 : Mo H46 r.2 := jH48.tr fH48
  have fH43 : Mo H43 r.2 := jH46.tr fH46
  have fH41 : Mo H41 r.2 := jH43.tr fH43
  have fH38 : Mo H38 r.2 := jH41.tr fH41
  have fH36 : Mo H36 r.2 := jH38.tr fH38
  have fH33 : Mo H33 r.2 := jH36.tr fH36
  have fH31 : Mo H31 r.2 := jH33.tr fH33
  have fH28 : Mo H28 r.2 := jH31.tr fH31
  have fH26 : Mo H26 r.2 := jH28.tr fH28
  have fH23 : Mo H23 r.2 := jH26.tr fH26
  have fH21 : Mo H21 r.2 := jH23.tr fH23
  have fH18 : Mo H18 r.2 := jH21.tr fH21
  have fH17 : Mo H17 r.2 := jH18.tr fH18
  have fH13 : Mo H13 r.2 := jH17.tr fH17
  have fH12 : Mo H12 r.2 := jH13.tr fH13
  have fH11 : Mo H11 r.2 := jH12.tr fH12
  have fH7 : Mo H7 r.2 := jH11.tr fH11
  have b_35m := (fH7).len
  have b_35n := (fH7).2
  have b_35p : H7.sh.length ≤ c0 + C := by omega
  have b_35q : H7.sl ≤ s0 + Sl := by omega
  refine ab_widen (cells' := H6.sh.length - c0) (slots' := H6.sl - s0) (by rw [(s_33).1]; exact Nat.le_refl _) (by rw [(s_33).2]; exact Nat.le_refl _) ?_
  refine hp_new (ci := 3) d_Program_init_14 rfl (k3 15 rfl rfl) (k3 16 rfl rfl) (k1 18 rfl rfl) rfl (by decide) (by decide) rfl (by show _ ≤ C; omega) (by show _ + 4 ≤ Sl; omega) ?_
  refine ab_widen (cells' := H7.sh.length - c0) (slots' := H7.sl - s0) (by omega) (by show _ + 4 ≤ _; omega) ?_
  rw [← eH7, ← ea8]
  clear b_35l b_35s b_35x b_35y b_35m b_35n b_35e b_35f b_2c b_2d b_2p b_2q
  refine ab_dup d_Program_init_17 rfl ?_
  refine ab_bipush (v := 16) d_Program_init_18 (by decide) ?_
  refine ab_bipush (v := 48) d_Program_init_20 (by decide) ?_
  have mz_64 : Mo H7 H11 := (m_Shapes_init z9)
  have b_65l := (mz_64).len
  have b_65s := (mz_64).2
  have b_65c : c0 ≤ H11.sh.length := by omega
  have b_65d : s0 ≤ H11.sl := by omega
  have q_66 := (mz_64).get q_36
  have b_65m := (fH11).len
  have b_65n := (fH11).2
  have b_65p : H11.sh.length ≤ c0 + C := by omega
  have b_65q : H11.sl ≤ s0 + Sl := by omega
  refine hp_callI_v (H1 := H11) (As := [.int 16, .int 48]) (rest := [.ref a8, .ref p0]) d_Program_init_22 (k_Shapes_init z9 (C := H11.sh.length - H7.sh.length) (Sl := H11.sl - H7.sl) (by show H11.sh.length ≤ _; omega) (by show H11.sl ≤ _; omega)) (ab_mkC s_Shapes_init (Nat.le_of_ble_eq_true rfl) (Nat.le_of_ble_eq_true rfl) (show (H7.sh.length - c0) + (H11.sh.length - H7.sh.length) ≤ C from by omega) (show (H7.sl - s0) + (H11.sl - H7.sl) ≤ Sl from by omega)) (k3 17 rfl rfl) i_Shapes_init rfl (k3 19 rfl rfl) rfl (Nat.le_of_ble_eq_true rfl) ?_
  refine ab_widen (cells' := H11.sh.length - c0) (slots' := H11.sl - s0) (by show _ + (H11.sh.length - H7.sh.length) ≤ _; omega) (by show _ + (H11.sl - H7.sl) ≤ _; omega) ?_
  clear b_65l b_65s b_65m b_65n b_35c b_35d b_35p b_35q
  refine hp_putFP (v := .ref a8) (f := 2) d_Program_init_25 q_66 (by decide) rfl (by decide) (k3 55 rfl rfl) rfl rfl rfl rfl (fun _ => rfl) (fun _ => rfl) rfl ?_
  refine hp_genx eH12 ?_
  have s_67 : Sa H11 H12 := by rw [eH12]; exact Sa.rf _
  refine ab_aload_n d_Program_init_28 rfl rfl rfl ?_
  have m_68 : Mo H12 H13 := by rw [eH13]; exact Mo.nw _ _ _
  have b_69l := (m_68).len
  have b_69s := (m_68).2
  have b_69e := congrArg List.length (s_67).1
  have b_69f := (s_67).2
  have b_69c : c0 ≤ H13.sh.length := by omega
  have b_69d : s0 ≤ H13.sl := by omega
  have b_69x : H13.sh.length = H12.sh.length + 1 := by rw [eH13]; simp [Hp.nw, mkH_sh]
  have b_69y : H13.sl = H12.sl + 4 := by rw [eH13]; rfl
  have q_70 := (m_68).get (by rw [(s_67).1]; exact q_66)
  have b_69m := (fH13).len
  have b_69n := (fH13).2
  have b_69p : H13.sh.length ≤ c0 + C := by omega
  have b_69q : H13.sl ≤ s0 + Sl := by omega
  refine ab_widen (cells' := H12.sh.length - c0) (slots' := H12.sl - s0) (by rw [(s_67).1]; exact Nat.le_refl _) (by rw [(s_67).2]; exact Nat.le_refl _) ?_
  refine hp_new (ci := 3) d_Program_init_29 rfl (k3 15 rfl rfl) (k3 16 rfl rfl) (k1 18 rfl rfl) rfl (by decide) (by decide) rfl (by show _ ≤ C; omega) (by show _ + 4 ≤ Sl; omega) ?_
  refine ab_widen (cells' := H13.sh.length - c0) (slots' := H13.sl - s0) (by omega) (by show _ + 4 ≤ _; omega) ?_
  rw [← eH13, ← ea14]
  clear b_69l b_69s b_69x b_69y b_69m b_69n b_69e b_69f b_65c b_65d b_65p b_65q
  refine ab_dup d_Program_init_32 rfl ?_
  refine ab_bipush (v := 8) d_Program_init_33 (by decide) ?_
  refine ab_bipush (v := 32) d_Program_init_35 (by decide) ?_
  have mz_71 : Mo H13 H17 := (m_Shapes_init z15)
  have b_72l := (mz_71).len
  have b_72s := (mz_71).2
  have b_72c : c0 ≤ H17.sh.length := by omega
  have b_72d : s0 ≤ H17.sl := by omega
  have q_73 := (mz_71).get q_70
  have b_72m := (fH17).len
  have b_72n := (fH17).2
  have b_72p : H17.sh.length ≤ c0 + C := by omega
  have b_72q : H17.sl ≤ s0 + Sl := by omega
  refine hp_callI_v (H1 := H17) (As := [.int 8, .int 32]) (rest := [.ref a14, .ref p0]) d_Program_init_37 (k_Shapes_init z15 (C := H17.sh.length - H13.sh.length) (Sl := H17.sl - H13.sl) (by show H17.sh.length ≤ _; omega) (by show H17.sl ≤ _; omega)) (ab_mkC s_Shapes_init (Nat.le_of_ble_eq_true rfl) (Nat.le_of_ble_eq_true rfl) (show (H13.sh.length - c0) + (H17.sh.length - H13.sh.length) ≤ C from by omega) (show (H13.sl - s0) + (H17.sl - H13.sl) ≤ Sl from by omega)) (k3 17 rfl rfl) i_Shapes_init rfl (k3 19 rfl rfl) rfl (Nat.le_of_ble_eq_true rfl) ?_
  refine ab_widen (cells' := H17.sh.length - c0) (slots' := H17.sl - s0) (by show _ + (H17.sh.length - H13.sh.length) ≤ _; omega) (by show _ + (H17.sl - H13.sl) ≤ _; omega) ?_
  clear b_72l b_72s b_72m b_72n b_69c b_69d b_69p b_69q
  refine hp_putFP (v := .ref a14) (f := 3) d_Program_init_40 q_73 (by decide) rfl (by decide) (k3 62 rfl rfl) rfl rfl rfl rfl (fun _ => rfl) (fun _ => rfl) rfl ?_
  refine hp_genx eH18 ?_
  have s_74 : Sa H17 H18 := by rw [eH18]; exact Sa.rf _
  refine ab_aload_n d_Program_init_43 rfl rfl rfl ?_
  refine ab_bipush (v := 16) d_Program_init_44 (by decide) ?_
  have m_75 : Mo H18 H21 := by rw [eH21]; exact Mo.nw _ _ _
  have b_76l := (m_75).len
  have b_76s := (m_75).2
  have b_76e := congrArg List.length (s_74).1
  have b_76f := (s_74).2
  have b_76c : c0 ≤ H21.sh.length := by omega
  have b_76d : s0 ≤ H21.sl := by omega
  have b_76x : H21.sh.length = H18.sh.length + 1 := by rw [eH21]; simp [Hp.nw, mkH_sh]
  have b_76y : H21.sl = H18.sl + ((16 : Int32)).toNatClampNeg := by rw [eH21]; rfl
  have q_77 := (m_75).get (by rw [(s_74).1]; exact q_73)
  have b_76m := (fH21).len
  have b_76n := (fH21).2
  have b_76p : H21.sh.length ≤ c0 + C := by omega
  have b_76q : H21.sl ≤ s0 + Sl := by omega
  refine ab_widen (cells' := H18.sh.length - c0) (slots' := H18.sl - s0) (by rw [(s_74).1]; exact Nat.le_refl _) (by rw [(s_74).2]; exact Nat.le_refl _) ?_
  refine hp_newa (q := 100) d_Program_init_46 rfl (k1 143 rfl rfl) tI (Or.inl rfl) ⟨by decide, by decide, rfl⟩ rfl q19 q20 (by show _ ≤ C; omega) (by show _ + ((16 : Int32)).toNatClampNeg ≤ Sl; omega) ?_
  refine ab_widen (cells' := H21.sh.length - c0) (slots' := H21.sl - s0) (by omega) (by show _ + ((16 : Int32)).toNatClampNeg ≤ _; omega) ?_
  rw [← eH21, ← ea22]
  clear b_76l b_76s b_76x b_76y b_76m b_76n b_76e b_76f b_72c b_72d b_72p b_72q
  refine hp_putFP (v := .ref a22) (f := 5) d_Program_init_48 q_77 (by decide) rfl (by decide) (k3 72 rfl rfl) rfl rfl rfl rfl (fun _ => rfl) (fun _ => rfl) rfl ?_
  refine hp_genx eH23 ?_
  have s_78 : Sa H21 H23 := by rw [eH23]; exact Sa.rf _
  refine ab_aload_n d_Program_init_51 rfl rfl rfl ?_
  refine ab_sipush (v := 768) d_Program_init_52 (by decide) ?_
  have m_79 : Mo H23 H26 := by rw [eH26]; exact Mo.nw _ _ _
  have b_80l := (m_79).len
  have b_80s := (m_79).2
  have b_80e := congrArg List.length (s_78).1
  have b_80f := (s_78).2
  have b_80c : c0 ≤ H26.sh.length := by omega
  have b_80d : s0 ≤ H26.sl := by omega
  have b_80x : H26.sh.length = H23.sh.length + 1 := by rw [eH26]; simp [Hp.nw, mkH_sh]
  have b_80y : H26.sl = H23.sl + ((768 : Int32)).toNatClampNeg := by rw [eH26]; rfl
  have q_81 := (m_79).get (by rw [(s_78).1]; exact q_77)
  have b_80m := (fH26).len
  have b_80n := (fH26).2
  have b_80p : H26.sh.length ≤ c0 + C := by omega
  have b_80q : H26.sl ≤ s0 + Sl := by omega
  refine ab_widen (cells' := H23.sh.length - c0) (slots' := H23.sl - s0) (by rw [(s_78).1]; exact Nat.le_refl _) (by rw [(s_78).2]; exact Nat.le_refl _) ?_
  refine hp_newa (q := 100) d_Program_init_55 rfl (k1 143 rfl rfl) tI (Or.inl rfl) ⟨by decide, by decide, rfl⟩ rfl q24 q25 (by show _ ≤ C; omega) (by show _ + ((768 : Int32)).toNatClampNeg ≤ Sl; omega) ?_
  refine ab_widen (cells' := H26.sh.length - c0) (slots' := H26.sl - s0) (by omega) (by show _ + ((768 : Int32)).toNatClampNeg ≤ _; omega) ?_
  rw [← eH26, ← ea27]
  clear b_80l b_80s b_80x b_80y b_80m b_80n b_80e b_80f b_76c b_76d b_76p b_76q
  refine hp_putFP (v := .ref a27) (f := 6) d_Program_init_57 q_81 (by decide) rfl (by decide) (k3 76 rfl rfl) rfl rfl rfl rfl (fun _ => rfl) (fun _ => rfl) rfl ?_
  refine hp_genx eH28 ?_
  have s_82 : Sa H26 H28 := by rw [eH28]; exact Sa.rf _
  refine ab_aload_n d_Program_init_60 rfl rfl rfl ?_
  refine ab_bipush (v := 16) d_Program_init_61 (by decide) ?_
  have m_83 : Mo H28 H31 := by rw [eH31]; exact Mo.nw _ _ _
  have b_84l := (m_83).len
  have b_84s := (m_83).2
  have b_84e := congrArg List.length (s_82).1
  have b_84f := (s_82).2
  have b_84c : c0 ≤ H31.sh.length := by omega
  have b_84d : s0 ≤ H31.sl := by omega
  have b_84x : H31.sh.length = H28.sh.length + 1 := by rw [eH31]; simp [Hp.nw, mkH_sh]
  have b_84y : H31.sl = H28.sl + ((16 : Int32)).toNatClampNeg := by rw [eH31]; rfl
  have q_85 := (m_83).get (by rw [(s_82).1]; exact q_81)
  have b_84m := (fH31).len
  have b_84n := (fH31).2
  have b_84p : H31.sh.length ≤ c0 + C := by omega
  have b_84q : H31.sl ≤ s0 + Sl := by omega
  refine ab_widen (cells' := H28.sh.length - c0) (slots' := H28.sl - s0) (by rw [(s_82).1]; exact Nat.le_refl _) (by rw [(s_82).2]; exact Nat.le_refl _) ?_
  refine hp_newa (q := 100) d_Program_init_63 rfl (k1 143 rfl rfl) tI (Or.inl rfl) ⟨by decide, by decide, rfl⟩ rfl q29 q30 (by show _ ≤ C; omega) (by show _ + ((16 : Int32)).toNatClampNeg ≤ Sl; omega) ?_
  refine ab_widen (cells' := H31.sh.length - c0) (slots' := H31.sl - s0) (by omega) (by show _ + ((16 : Int32)).toNatClampNeg ≤ _; omega) ?_
  rw [← eH31, ← ea32]
  clear b_84l b_84s b_84x b_84y b_84m b_84n b_84e b_84f b_80c b_80d b_80p b_80q
  refine hp_putFP (v := .ref a32) (f := 8) d_Program_init_65 q_85 (by decide) rfl (by decide) (k3 84 rfl rfl) rfl rfl rfl rfl (fun _ => rfl) (fun _ => rfl) rfl ?_
  refine hp_genx eH33 ?_
  have s_86 : Sa H31 H33 := by rw [eH33]; exact Sa.rf _
  refine ab_aload_n d_Program_init_68 rfl rfl rfl ?_
  refine ab_bipush (v := 16) d_Program_init_69 (by decide) ?_
  have m_87 : Mo H33 H36 := by rw [eH36]; exact Mo.nw _ _ _
  have b_88l := (m_87).len
  have b_88s := (m_87).2
  have b_88e := congrArg List.length (s_86).1
  have b_88f := (s_86).2
  have b_88c : c0 ≤ H36.sh.length := by omega
  have b_88d : s0 ≤ H36.sl := by omega
  have b_88x : H36.sh.length = H33.sh.length + 1 := by rw [eH36]; simp [Hp.nw, mkH_sh]
  have b_88y : H36.sl = H33.sl + ((16 : Int32)).toNatClampNeg := by rw [eH36]; rfl
  have q_89 := (m_87).get (by rw [(s_86).1]; exact q_85)
  have b_88m := (fH36).len
  have b_88n := (fH36).2
  have b_88p : H36.sh.length ≤ c0 + C := by omega
  have b_88q : H36.sl ≤ s0 + Sl := by omega
  refine ab_widen (cells' := H33.sh.length - c0) (slots' := H33.sl - s0) (by rw [(s_86).1]; exact Nat.le_refl _) (by rw [(s_86).2]; exact Nat.le_refl _) ?_
  refine hp_newa (q := 100) d_Program_init_71 rfl (k1 143 rfl rfl) tI (Or.inl rfl) ⟨by decide, by decide, rfl⟩ rfl q34 q35 (by show _ ≤ C; omega) (by show _ + ((16 : Int32)).toNatClampNeg ≤ Sl; omega) ?_
  refine ab_widen (cells' := H36.sh.length - c0) (slots' := H36.sl - s0) (by omega) (by show _ + ((16 : Int32)).toNatClampNeg ≤ _; omega) ?_
  rw [← eH36, ← ea37]
  clear b_88l b_88s b_88x b_88y b_88m b_88n b_88e b_88f b_84c b_84d b_84p b_84q
  refine hp_putFP (v := .ref a37) (f := 9) d_Program_init_73 q_89 (by decide) rfl (by decide) (k3 86 rfl rfl) rfl rfl rfl rfl (fun _ => rfl) (fun _ => rfl) rfl ?_
  refine hp_genx eH38 ?_
  have s_90 : Sa H36 H38 := by rw [eH38]; exact Sa.rf _
  refine ab_aload_n d_Program_init_76 rfl rfl rfl ?_
  refine ab_bipush (v := 16) d_Program_init_77 (by decide) ?_
  have m_91 : Mo H38 H41 := by rw [eH41]; exact Mo.nw _ _ _
  have b_92l := (m_91).len
  have b_92s := (m_91).2
  have b_92e := congrArg List.length (s_90).1
  have b_92f := (s_90).2
  have b_92c : c0 ≤ H41.sh.length := by omega
  have b_92d : s0 ≤ H41.sl := by omega
  have b_92x : H41.sh.length = H38.sh.length + 1 := by rw [eH41]; simp [Hp.nw, mkH_sh]
  have b_92y : H41.sl = H38.sl + ((16 : Int32)).toNatClampNeg := by rw [eH41]; rfl
  have q_93 := (m_91).get (by rw [(s_90).1]; exact q_89)
  have b_92m := (fH41).len
  have b_92n := (fH41).2
  have b_92p : H41.sh.length ≤ c0 + C := by omega
  have b_92q : H41.sl ≤ s0 + Sl := by omega
  refine ab_widen (cells' := H38.sh.length - c0) (slots' := H38.sl - s0) (by rw [(s_90).1]; exact Nat.le_refl _) (by rw [(s_90).2]; exact Nat.le_refl _) ?_
  refine hp_newa (q := 100) d_Program_init_79 rfl (k1 143 rfl rfl) tI (Or.inl rfl) ⟨by decide, by decide, rfl⟩ rfl q39 q40 (by show _ ≤ C; omega) (by show _ + ((16 : Int32)).toNatClampNeg ≤ Sl; omega) ?_
  refine ab_widen (cells' := H41.sh.length - c0) (slots' := H41.sl - s0) (by omega) (by show _ + ((16 : Int32)).toNatClampNeg ≤ _; omega) ?_
  rw [← eH41, ← ea42]
  clear b_92l b_92s b_92x b_92y b_92m b_92n b_92e b_92f b_88c b_88d b_88p b_88q
  refine hp_putFP (v := .ref a42) (f := 10) d_Program_init_81 q_93 (by decide) rfl (by decide) (k3 91 rfl rfl) rfl rfl rfl rfl (fun _ => rfl) (fun _ => rfl) rfl ?_
  refine hp_genx eH43 ?_
  have s_94 : Sa H41 H43 := by rw [eH43]; exact Sa.rf _
  refine ab_aload_n d_Program_init_84 rfl rfl rfl ?_
  refine ab_bipush (v := 16) d_Program_init_85 (by decide) ?_
  have m_95 : Mo H43 H46 := by rw [eH46]; exact Mo.nw _ _ _
  have b_96l := (m_95).len
  have b_96s := (m_95).2
  have b_96e := congrArg List.length (s_94).1
  have b_96f := (s_94).2
  have b_96c : c0 ≤ H46.sh.length := by omega
  have b_96d : s0 ≤ H46.sl := by omega
  have b_96x : H46.sh.length = H43.sh.length + 1 := by rw [eH46]; simp [Hp.nw, mkH_sh]
  have b_96y : H46.sl = H43.sl + ((16 : Int32)).toNatClampNeg := by rw [eH46]; rfl
  have q_97 := (m_95).get (by rw [(s_94).1]; exact q_93)
  have b_96m := (fH46).len
  have b_96n := (fH46).2
  have b_96p : H46.sh.length ≤ c0 + C := by omega
  have b_96q : H46.sl ≤ s0 + Sl := by omega
  refine ab_widen (cells' := H43.sh.length - c0) (slots' := H43.sl - s0) (by rw [(s_94).1]; exact Nat.le_refl _) (by rw [(s_94).2]; exact Nat.le_refl _) ?_
  refine hp_newa (q := 100) d_Program_init_87 rfl (k1 143 rfl rfl) tI (Or.inl rfl) ⟨by decide, by decide, rfl⟩ rfl q44 q45 (by show _ ≤ C; omega) (by show _ + ((16 : Int32)).toNatClampNeg ≤ Sl; omega) ?_
  refine ab_widen (cells' := H46.sh.length - c0) (slots' := H46.sl - s0) (by omega) (by show _ + ((16 : Int32)).toNatClampNeg ≤ _; omega) ?_
  rw [← eH46, ← ea47]
  clear b_96l b_96s b_96x b_96y b_96m b_96n b_96e b_96f b_92c b_92d b_92p b_92q
  refine hp_putFP (v := .ref a47) (f := 11) d_Program_init_89 q_97 (by decide) rfl (by decide) (k3 95 rfl rfl) rfl rfl rfl rfl (fun _ => rfl) (fun _ => rfl) rfl ?_
  refine hp_genx eH48 ?_
  have s_98 : Sa H46 H48 := by rw [eH48]; exact Sa.rf _
  refine ab_aload_n d_Program_init_92 rfl rfl rfl ?_
  refine ab_bipush (v := 16) d_Program_init_93 (by decide) ?_
  have m_99 : Mo H48 H51 := by rw [eH51]; exact Mo.nw _ _ _
  have b_100l := (m_99).len
  have b_100s := (m_99).2
  have b_100e := congrArg List.length (s_98).1
  have b_100f := (s_98).2
  have b_100c : c0 ≤ H51.sh.length := by omega
  have b_100d : s0 ≤ H51.sl := by omega
  have b_100x : H51.sh.length = H48.sh.length + 1 := by rw [eH51]; simp [Hp.nw, mkH_sh]
  have b_100y : H51.sl = H48.sl + ((16 : Int32)).toNatClampNeg := by rw [eH51]; rfl
  have q_101 := (m_99).get (by rw [(s_98).1]; exact q_97)
  have b_100m := (fH51).len
  have b_100n := (fH51).2
  have b_100p : H51.sh.length ≤ c0 + C := by omega
  have b_100q : H51.sl ≤ s0 + Sl := by omega
  refine ab_widen (cells' := H48.sh.length - c0) (slots' := H48.sl - s0) (by rw [(s_98).1]; exact Nat.le_refl _) (by rw [(s_98).2]; exact Nat.le_refl _) ?_
  refine hp_newa (q := 100) d_Program_init_95 rfl (k1 143 rfl rfl) tI (Or.inl rfl) ⟨by decide, by decide, rfl⟩ rfl q49 q50 (by show _ ≤ C; omega) (by show _ + ((16 : Int32)).toNatClampNeg ≤ Sl; omega) ?_
  refine ab_widen (cells' := H51.sh.length - c0) (slots' := H51.sl - s0) (by omega) (by show _ + ((16 : Int32)).toNatClampNeg ≤ _; omega) ?_
  rw [← eH51, ← ea52]
  clear b_100l b_100s b_100x b_100y b_100m b_100n b_100e b_100f b_96c b_96d b_96p b_96q
  refine hp_putFP (v := .ref a52) (f := 12) d_Program_init_97 q_101 (by decide) rfl (by decide) (k3 98 rfl rfl) rfl rfl rfl rfl (fun _ => rfl) (fun _ => rfl) rfl ?_
  refine hp_genx eH53 ?_
  have s_102 : Sa H51 H53 := by rw [eH53]; exact Sa.rf _
  refine ab_aload_n d_Program_init_100 rfl rfl rfl ?_
  refine ab_bipush (v := 16) d_Program_init_101 (by decide) ?_
  have m_103 : Mo H53 H56 := by rw [eH56]; exact Mo.nw _ _ _
  have b_104l := (m_103).len
  have b_104s := (m_103).2
  have b_104e := congrArg List.length (s_102).1
  have b_104f := (s_102).2
  have b_104c : c0 ≤ H56.sh.length := by omega
  have b_104d : s0 ≤ H56.sl := by omega
  have b_104x : H56.sh.length = H53.sh.length + 1 := by rw [eH56]; simp [Hp.nw, mkH_sh]
  have b_104y : H56.sl = H53.sl + ((16 : Int32)).toNatClampNeg := by rw [eH56]; rfl
  have q_105 := (m_103).get (by rw [(s_102).1]; exact q_101)
  have b_104m := (fH56).len
  have b_104n := (fH56).2
  have b_104p : H56.sh.length ≤ c0 + C := by omega
  have b_104q : H56.sl ≤ s0 + Sl := by omega
  refine ab_widen (cells' := H53.sh.length - c0) (slots' := H53.sl - s0) (by rw [(s_102).1]; exact Nat.le_refl _) (by rw [(s_102).2]; exact Nat.le_refl _) ?_
  refine hp_newa (q := 100) d_Program_init_103 rfl (k1 143 rfl rfl) tI (Or.inl rfl) ⟨by decide, by decide, rfl⟩ rfl q54 q55 (by show _ ≤ C; omega) (by show _ + ((16 : Int32)).toNatClampNeg ≤ Sl; omega) ?_
  refine ab_widen (cells' := H56.sh.length - c0) (slots' := H56.sl - s0) (by omega) (by show _ + ((16 : Int32)).toNatClampNeg ≤ _; omega) ?_
  rw [← eH56, ← ea57]
  clear b_104l b_104s b_104x b_104y b_104m b_104n b_104e b_104f b_100c b_100d b_100p b_100q
  refine hp_putFP (v := .ref a57) (f := 13) d_Program_init_105 q_105 (by decide) rfl (by decide) (k3 101 rfl rfl) rfl rfl rfl rfl (fun _ => rfl) (fun _ => rfl) rfl ?_
  refine hp_genx eH58 ?_
  have s_106 : Sa H56 H58 := by rw [eH58]; exact Sa.rf _
  refine ab_aload_n d_Program_init_108 rfl rfl rfl ?_
  refine ab_bipush (v := 16) d_Program_init_109 (by decide) ?_
  have m_107 : Mo H58 H61 := by rw [eH61]; exact Mo.nw _ _ _
  have b_108l := (m_107).len
  have b_108s := (m_107).2
  have b_108e := congrArg List.length (s_106).1
  have b_108f := (s_106).2
  have b_108c : c0 ≤ H61.sh.length := by omega
  have b_108d : s0 ≤ H61.sl := by omega
  have b_108x : H61.sh.length = H58.sh.length + 1 := by rw [eH61]; simp [Hp.nw, mkH_sh]
  have b_108y : H61.sl = H58.sl + ((16 : Int32)).toNatClampNeg := by rw [eH61]; rfl
  have q_109 := (m_107).get (by rw [(s_106).1]; exact q_105)
  have b_108m := (fH61).len
  have b_108n := (fH61).2
  have b_108p : H61.sh.length ≤ c0 + C := by omega
  have b_108q : H61.sl ≤ s0 + Sl := by omega
  refine ab_widen (cells' := H58.sh.length - c0) (slots' := H58.sl - s0) (by rw [(s_106).1]; exact Nat.le_refl _) (by rw [(s_106).2]; exact Nat.le_refl _) ?_
  refine hp_newa (q := 100) d_Program_init_111 rfl (k1 143 rfl rfl) tI (Or.inl rfl) ⟨by decide, by decide, rfl⟩ rfl q59 q60 (by show _ ≤ C; omega) (by show _ + ((16 : Int32)).toNatClampNeg ≤ Sl; omega) ?_
  refine ab_widen (cells' := H61.sh.length - c0) (slots' := H61.sl - s0) (by omega) (by show _ + ((16 : Int32)).toNatClampNeg ≤ _; omega) ?_
  rw [← eH61, ← ea62]
  clear b_108l b_108s b_108x b_108y b_108m b_108n b_108e b_108f b_104c b_104d b_104p b_104q
  refine hp_putFP (v := .ref a62) (f := 14) d_Program_init_113 q_109 (by decide) rfl (by decide) (k3 104 rfl rfl) rfl rfl rfl rfl (fun _ => rfl) (fun _ => rfl) rfl ?_
  refine hp_genx eH63 ?_
  have s_110 : Sa H61 H63 := by rw [eH63]; exact Sa.rf _
  refine ab_aload_n d_Program_init_116 rfl rfl rfl ?_
  refine ab_sipush (v := 12000) d_Program_init_117 (by decide) ?_
  have m_111 : Mo H63 H66 := by rw [eH66]; exact Mo.nw _ _ _
  have b_112l := (m_111).len
  have b_112s := (m_111).2
  have b_112e := congrArg List.length (s_110).1
  have b_112f := (s_110).2
  have b_112c : c0 ≤ H66.sh.length := by omega
  have b_112d : s0 ≤ H66.sl := by omega
  have b_112x : H66.sh.length = H63.sh.length + 1 := by rw [eH66]; simp [Hp.nw, mkH_sh]
  have b_112y : H66.sl = H63.sl + ((12000 : Int32)).toNatClampNeg := by rw [eH66]; rfl
  have q_113 := (m_111).get (by rw [(s_110).1]; exact q_109)
  have b_112m := (fH66).len
  have b_112n := (fH66).2
  have b_112p : H66.sh.length ≤ c0 + C := by omega
  have b_112q : H66.sl ≤ s0 + Sl := by omega
  refine ab_widen (cells' := H63.sh.length - c0) (slots' := H63.sl - s0) (by rw [(s_110).1]; exact Nat.le_refl _) (by rw [(s_110).2]; exact Nat.le_refl _) ?_
  refine hp_newa (q := 100) d_Program_init_120 rfl (k1 143 rfl rfl) tI (Or.inl rfl) ⟨by decide, by decide, rfl⟩ rfl q64 q65 (by show _ ≤ C; omega) (by show _ + ((12000 : Int32)).toNatClampNeg ≤ Sl; omega) ?_
  refine ab_widen (cells' := H66.sh.length - c0) (slots' := H66.sl - s0) (by omega) (by show _ + ((12000 : Int32)).toNatClampNeg ≤ _; omega) ?_
  rw [← eH66, ← ea67]
  clear b_112l b_112s b_112x b_112y b_112m b_112n b_112e b_112f b_108c b_108d b_108p b_108q
  refine hp_putFP (v := .ref a67) (f := 16) d_Program_init_122 q_113 (by decide) rfl (by decide) (k3 110 rfl rfl) rfl rfl rfl rfl (fun _ => rfl) (fun _ => rfl) rfl ?_
  refine hp_genx eH68 ?_
  have s_114 : Sa H66 H68 := by rw [eH68]; exact Sa.rf _
  exact ab_vret d_Program_init_125 rfl (by show _ ≤ C; omega) (by show _ ≤ Sl; omega) (by have hr := Option.some.inj hG; subst hr; exact ⟨rfl, rfl⟩)
def y_Math_min : ab_Y := (⟨"java/lang/Math", "min", "(II)I"⟩, prog_23_method_69_code, 2, (some FieldType.int), [])
theorem d_Math_min_0 : decode y_Math_min.2.1 0 = .ok (.iload_n 0, 1) := by decide +kernel
theorem d_Math_min_1 : decode y_Math_min.2.1 1 = .ok (.iload_n 1, 1) := by decide +kernel
theorem d_Math_min_2 : decode y_Math_min.2.1 2 = .ok (.if_icmp .gt 7, 3) := by decide +kernel
theorem d_Math_min_5 : decode y_Math_min.2.1 5 = .ok (.iload_n 0, 1) := by decide +kernel
theorem d_Math_min_6 : decode y_Math_min.2.1 6 = .ok (.goto 4, 3) := by decide +kernel
theorem d_Math_min_9 : decode y_Math_min.2.1 9 = .ok (.iload_n 1, 1) := by decide +kernel
theorem d_Math_min_10 : decode y_Math_min.2.1 10 = .ok (.ireturn, 1) := by decide +kernel
theorem s_Math_min : ab_Stat y_Math_min 2 := ⟨(k3 155 rfl rfl), (k1 17 rfl rfl), ⟨by decide, by decide⟩, by decide +kernel⟩
theorem t_Math_min : Cond.static y_Math_min.1 ∈ ab_T := (k3 154 rfl rfl)
def F_Math_min (N : Nat) (p0 : Int32) (p1 : Int32) (H : Hp) : Option (Int32 × Hp) :=
    if p1 < p0 then
    some (p1, H)
    else
    some (p0, H)
set_option maxRecDepth 20000 in
set_option maxHeartbeats 2000000 in
theorem m_Math_min {N : Nat} {p0 : Int32} {p1 : Int32} {H : Hp} {r : Int32 × Hp} (hF : F_Math_min N p0 p1 H = some r) : Sa H r.2 := by
  unfold F_Math_min at hF
  have hm := Sa.rf H
  rcases ite_s hF with ⟨q_1, hG⟩ | ⟨q_1, hG⟩
  · clear hF
    have hr := Option.some.inj hG; subst hr
    exact hm
  · clear hF
    have hr := Option.some.inj hG; subst hr
    exact hm
set_option maxRecDepth 20000 in
set_option maxHeartbeats 2000000 in
theorem k_Math_min {N : Nat} {p0 : Int32} {p1 : Int32} {H : Hp} {r : Int32 × Hp} (hF : F_Math_min N p0 p1 H = some r) : ab_M y_Math_min { frames := 0, cells := 0, slots := 0, locals := 0 } [.int p0, .int p1] (hpw H) (po (.returned (some (.int r.1))) r.2) := by
  unfold F_Math_min at hF
  refine ab_of2 (lv := [some (.int p0), some (.int p1)]) 0 rfl (by decide +kernel) (Nat.le_of_ble_eq_true rfl) ?_
  refine ab_iload_n d_Math_min_0 rfl rfl ?_
  refine ab_iload_n d_Math_min_1 rfl rfl ?_
  refine ab_icmp_gt (tgt := 9) d_Math_min_2 (by decide) (fun q1 => ?_) (fun q1 => ?_)
  · rw [if_pos q1] at hF
    refine ab_iload_n d_Math_min_9 rfl rfl ?_
    exact ab_iret d_Math_min_10 rfl (Nat.le_refl _) (Nat.le_refl _) (by have hr := Option.some.inj hF; subst hr; exact ⟨rfl, rfl⟩)
  · rw [if_neg q1] at hF
    refine ab_iload_n d_Math_min_5 rfl rfl ?_
    refine ab_goto (tgt := 10) d_Math_min_6 (by decide) ?_
    exact ab_iret d_Math_min_10 rfl (Nat.le_refl _) (Nat.le_refl _) (by have hr := Option.some.inj hF; subst hr; exact ⟨rfl, rfl⟩)
def y_W_init : ab_Y := (⟨"WorldEngine", "<init>", "(I)V"⟩, prog_1_method_1_code, 2, none, [])
theorem d_W_init_0 : decode y_W_init.2.1 0 = .ok (.aload_n 0, 1) := by decide +kernel
theorem d_W_init_1 : decode y_W_init.2.1 1 = .ok (.invokespecial 1, 3) := by decide +kernel
theorem d_W_init_4 : decode y_W_init.2.1 4 = .ok (.aload_n 0, 1) := by decide +kernel
theorem d_W_init_5 : decode y_W_init.2.1 5 = .ok (.new 7, 3) := by decide +kernel
theorem d_W_init_8 : decode y_W_init.2.1 8 = .ok (.dup, 1) := by decide +kernel
theorem d_W_init_9 : decode y_W_init.2.1 9 = .ok (.invokespecial 9, 3) := by decide +kernel
theorem d_W_init_12 : decode y_W_init.2.1 12 = .ok (.putfield 10, 3) := by decide +kernel
theorem d_W_init_15 : decode y_W_init.2.1 15 = .ok (.aload_n 0, 1) := by decide +kernel
theorem d_W_init_16 : decode y_W_init.2.1 16 = .ok (.new 16, 3) := by decide +kernel
theorem d_W_init_19 : decode y_W_init.2.1 19 = .ok (.dup, 1) := by decide +kernel
theorem d_W_init_20 : decode y_W_init.2.1 20 = .ok (.aload_n 0, 1) := by decide +kernel
theorem d_W_init_21 : decode y_W_init.2.1 21 = .ok (.getfield 10, 3) := by decide +kernel
theorem d_W_init_24 : decode y_W_init.2.1 24 = .ok (.invokespecial 18, 3) := by decide +kernel
theorem d_W_init_27 : decode y_W_init.2.1 27 = .ok (.putfield 21, 3) := by decide +kernel
theorem d_W_init_30 : decode y_W_init.2.1 30 = .ok (.aload_n 0, 1) := by decide +kernel
theorem d_W_init_31 : decode y_W_init.2.1 31 = .ok (.new 25, 3) := by decide +kernel
theorem d_W_init_34 : decode y_W_init.2.1 34 = .ok (.dup, 1) := by decide +kernel
theorem d_W_init_35 : decode y_W_init.2.1 35 = .ok (.invokespecial 27, 3) := by decide +kernel
theorem d_W_init_38 : decode y_W_init.2.1 38 = .ok (.putfield 28, 3) := by decide +kernel
theorem d_W_init_41 : decode y_W_init.2.1 41 = .ok (.aload_n 0, 1) := by decide +kernel
theorem d_W_init_42 : decode y_W_init.2.1 42 = .ok (.new 32, 3) := by decide +kernel
theorem d_W_init_45 : decode y_W_init.2.1 45 = .ok (.dup, 1) := by decide +kernel
theorem d_W_init_46 : decode y_W_init.2.1 46 = .ok (.invokespecial 34, 3) := by decide +kernel
theorem d_W_init_49 : decode y_W_init.2.1 49 = .ok (.putfield 35, 3) := by decide +kernel
theorem d_W_init_52 : decode y_W_init.2.1 52 = .ok (.aload_n 0, 1) := by decide +kernel
theorem d_W_init_53 : decode y_W_init.2.1 53 = .ok (.new 39, 3) := by decide +kernel
theorem d_W_init_56 : decode y_W_init.2.1 56 = .ok (.dup, 1) := by decide +kernel
theorem d_W_init_57 : decode y_W_init.2.1 57 = .ok (.invokespecial 41, 3) := by decide +kernel
theorem d_W_init_60 : decode y_W_init.2.1 60 = .ok (.putfield 42, 3) := by decide +kernel
theorem d_W_init_63 : decode y_W_init.2.1 63 = .ok (.aload_n 0, 1) := by decide +kernel
theorem d_W_init_64 : decode y_W_init.2.1 64 = .ok (.new 39, 3) := by decide +kernel
theorem d_W_init_67 : decode y_W_init.2.1 67 = .ok (.dup, 1) := by decide +kernel
theorem d_W_init_68 : decode y_W_init.2.1 68 = .ok (.invokespecial 41, 3) := by decide +kernel
theorem d_W_init_71 : decode y_W_init.2.1 71 = .ok (.putfield 46, 3) := by decide +kernel
theorem d_W_init_74 : decode y_W_init.2.1 74 = .ok (.aload_n 0, 1) := by decide +kernel
theorem d_W_init_75 : decode y_W_init.2.1 75 = .ok (.iconst 0, 1) := by decide +kernel
theorem d_W_init_76 : decode y_W_init.2.1 76 = .ok (.putfield 49, 3) := by decide +kernel
theorem d_W_init_79 : decode y_W_init.2.1 79 = .ok (.aload_n 0, 1) := by decide +kernel
theorem d_W_init_80 : decode y_W_init.2.1 80 = .ok (.iconst 1, 1) := by decide +kernel
theorem d_W_init_81 : decode y_W_init.2.1 81 = .ok (.iconst 1, 1) := by decide +kernel
theorem d_W_init_82 : decode y_W_init.2.1 82 = .ok (.bipush 8, 2) := by decide +kernel
theorem d_W_init_84 : decode y_W_init.2.1 84 = .ok (.iload_n 1, 1) := by decide +kernel
theorem d_W_init_85 : decode y_W_init.2.1 85 = .ok (.invokestatic 53, 3) := by decide +kernel
theorem d_W_init_88 : decode y_W_init.2.1 88 = .ok (.invokestatic 59, 3) := by decide +kernel
theorem d_W_init_91 : decode y_W_init.2.1 91 = .ok (.ishl, 1) := by decide +kernel
theorem d_W_init_92 : decode y_W_init.2.1 92 = .ok (.iconst 1, 1) := by decide +kernel
theorem d_W_init_93 : decode y_W_init.2.1 93 = .ok (.isub, 1) := by decide +kernel
theorem d_W_init_94 : decode y_W_init.2.1 94 = .ok (.putfield 62, 3) := by decide +kernel
theorem d_W_init_97 : decode y_W_init.2.1 97 = .ok (.aload_n 0, 1) := by decide +kernel
theorem d_W_init_98 : decode y_W_init.2.1 98 = .ok (.iconst 0, 1) := by decide +kernel
theorem d_W_init_99 : decode y_W_init.2.1 99 = .ok (.putfield 66, 3) := by decide +kernel
theorem d_W_init_102 : decode y_W_init.2.1 102 = .ok (.return_, 1) := by decide +kernel
theorem s_W_init : ab_Stat y_W_init 1 := ⟨(k1 35 rfl rfl), (k1 1 rfl rfl), ⟨by decide, by decide⟩, by decide +kernel⟩
theorem i_W_init : Cond.instanceMethod y_W_init.1 ∈ ab_T := (k1 34 rfl rfl)
def F_W_init (N : Nat) (p0 : Nat) (p1 : Int32) (H : Hp) : Option (Unit × Hp) :=
    bnd (H.nw (1, 0) 13) fun H1 =>
    bnd H.sh.length fun a2 =>
    bC (F_Lexer_init N a2 H1) fun v4 H5 =>
    ck (H5.sh[p0]? = some (0, 0)) <|
    bnd (H5.sP p0 0 (.ref a2)) fun H7 =>
    bnd (H7.nw (5, 0) 3) fun H8 =>
    bnd H7.sh.length fun a9 =>
    rf (H8.P p0 0) fun a10 =>
    bC (F_Reader_init N a9 a10 H8) fun v13 H14 =>
    bnd (H14.sP p0 1 (.ref a9)) fun H15 =>
    bnd (H15.nw (10, 0) 14) fun H16 =>
    bnd H15.sh.length fun a17 =>
    bC (F_Play_init N a17 H16) fun v19 H20 =>
    bnd (H20.sP p0 2 (.ref a17)) fun H21 =>
    bnd (H21.nw (11, 0) 6) fun H22 =>
    bnd H21.sh.length fun a23 =>
    bC (F_Store_init N a23 H22) fun v25 H26 =>
    bnd (H26.sP p0 3 (.ref a23)) fun H27 =>
    bnd (H27.nw (4, 0) 18) fun H28 =>
    bnd H27.sh.length fun a29 =>
    bC (F_Program_init N a29 H28) fun v31 H32 =>
    bnd (H32.sP p0 4 (.ref a29)) fun H33 =>
    bnd (H33.nw (4, 0) 18) fun H34 =>
    bnd H33.sh.length fun a35 =>
    bC (F_Program_init N a35 H34) fun v37 H38 =>
    bnd (H38.sP p0 5 (.ref a35)) fun H39 =>
    bnd (H39.sD p0 6 (0 : Int32)) fun H40 =>
    bC (F_Math_min N (8 : Int32) p1 H40) fun v42 H43 =>
    bC (F_Math_max N (1 : Int32) v42 H43) fun v45 H46 =>
    bnd (H46.sD p0 7 (((1 : Int32) <<< (v45 &&& 31)) - (1 : Int32))) fun H47 =>
    bnd (H47.sD p0 8 (0 : Int32)) fun H48 =>
    some ((), H48)
set_option maxRecDepth 20000 in
set_option maxHeartbeats 2000000 in
theorem m_W_init {N : Nat} {p0 : Nat} {p1 : Int32} {H : Hp} {r : Unit × Hp} (hF : F_W_init N p0 p1 H = some r) : Mo H r.2 := by
  unfold F_W_init at hF
  have hm := Mo.rf H
  obtain ⟨H49, eH49, hG⟩ := bnd_g hF; clear hF
  replace hm : Mo H H49 := hm.tr (by rw [eH49]; exact Mo.nw _ _ _)
  obtain ⟨a50, -, hF⟩ := bnd_g hG; clear hG
  obtain ⟨v52, H53, z51, hG⟩ := bC_s hF; clear hF
  replace hm : Mo H H53 := hm.tr (m_Lexer_init z51)
  obtain ⟨q54, hF⟩ := ck_s hG; clear hG
  obtain ⟨H55, eH55, hG⟩ := bnd_g hF; clear hF
  replace hm : Mo H H55 := by rw [eH55]; exact hm
  obtain ⟨H56, eH56, hF⟩ := bnd_g hG; clear hG
  replace hm : Mo H H56 := hm.tr (by rw [eH56]; exact Mo.nw _ _ _)
  obtain ⟨a57, -, hG⟩ := bnd_g hF; clear hF
  obtain ⟨a58, e59, hF⟩ := rf_s hG; clear hG
  obtain ⟨v61, H62, z60, hG⟩ := bC_s hF; clear hF
  replace hm : Mo H H62 := hm.tr (m_Reader_init z60)
  obtain ⟨H63, eH63, hF⟩ := bnd_g hG; clear hG
  replace hm : Mo H H63 := by rw [eH63]; exact hm
  obtain ⟨H64, eH64, hG⟩ := bnd_g hF; clear hF
  replace hm : Mo H H64 := hm.tr (by rw [eH64]; exact Mo.nw _ _ _)
  obtain ⟨a65, -, hF⟩ := bnd_g hG; clear hG
  obtain ⟨v67, H68, z66, hG⟩ := bC_s hF; clear hF
  replace hm : Mo H H68 := hm.tr (m_Play_init z66)
  obtain ⟨H69, eH69, hF⟩ := bnd_g hG; clear hG
  replace hm : Mo H H69 := by rw [eH69]; exact hm
  obtain ⟨H70, eH70, hG⟩ := bnd_g hF; clear hF
  replace hm : Mo H H70 := hm.tr (by rw [eH70]; exact Mo.nw _ _ _)
  obtain ⟨a71, -, hF⟩ := bnd_g hG; clear hG
  obtain ⟨v73, H74, z72, hG⟩ := bC_s hF; clear hF
  replace hm : Mo H H74 := hm.tr (m_Store_init z72)
  obtain ⟨H75, eH75, hF⟩ := bnd_g hG; clear hG
  replace hm : Mo H H75 := by rw [eH75]; exact hm
  obtain ⟨H76, eH76, hG⟩ := bnd_g hF; clear hF
  replace hm : Mo H H76 := hm.tr (by rw [eH76]; exact Mo.nw _ _ _)
  obtain ⟨a77, -, hF⟩ := bnd_g hG; clear hG
  obtain ⟨v79, H80, z78, hG⟩ := bC_s hF; clear hF
  replace hm : Mo H H80 := hm.tr (m_Program_init z78)
  obtain ⟨H81, eH81, hF⟩ := bnd_g hG; clear hG
  replace hm : Mo H H81 := by rw [eH81]; exact hm
  obtain ⟨H82, eH82, hG⟩ := bnd_g hF; clear hF
  replace hm : Mo H H82 := hm.tr (by rw [eH82]; exact Mo.nw _ _ _)
  obtain ⟨a83, -, hF⟩ := bnd_g hG; clear hG
  obtain ⟨v85, H86, z84, hG⟩ := bC_s hF; clear hF
  replace hm : Mo H H86 := hm.tr (m_Program_init z84)
  obtain ⟨H87, eH87, hF⟩ := bnd_g hG; clear hG
  replace hm : Mo H H87 := by rw [eH87]; exact hm
  obtain ⟨H88, eH88, hG⟩ := bnd_g hF; clear hF
  replace hm : Mo H H88 := by rw [eH88]; exact hm
  obtain ⟨v90, H91, z89, hF⟩ := bC_s hG; clear hG
  replace hm : Mo H H91 := hm.tr ((m_Math_min z89)).mo
  obtain ⟨v93, H94, z92, hG⟩ := bC_s hF; clear hF
  replace hm : Mo H H94 := hm.tr ((m_Math_max z92)).mo
  obtain ⟨H95, eH95, hF⟩ := bnd_g hG; clear hG
  replace hm : Mo H H95 := by rw [eH95]; exact hm
  obtain ⟨H96, eH96, hG⟩ := bnd_g hF; clear hF
  replace hm : Mo H H96 := by rw [eH96]; exact hm
  have hr := Option.some.inj hG; subst hr
  exact hm
set_option maxRecDepth 20000 in
set_option maxHeartbeats 2000000 in
theorem k_W_init {N : Nat} {p0 : Nat} {p1 : Int32} {H : Hp} {r : Unit × Hp} {C Sl : Nat} (hF : F_W_init N p0 p1 H = some r) (hC : r.2.sh.length ≤ H.sh.length + C) (hS : r.2.sl ≤ H.sl + Sl) : ab_M y_W_init { frames := 5, cells := C, slots := Sl, locals := 144 } [.ref p0, .int p1] (hpw H) (po (.returned none) r.2) := by
  unfold F_W_init at hF
  obtain ⟨c0, e0⟩ : ∃ q, q = H.sh.length := ⟨_, rfl⟩
  obtain ⟨s0, e1⟩ : ∃ q, q = H.sl := ⟨_, rfl⟩
  rw [← e0] at hC
  rw [← e1] at hS
  have hc0 : c0 ≤ H.sh.length := Nat.le_of_eq e0
  have hs0 : s0 ≤ H.sl := Nat.le_of_eq e1
  have hcc : H.sh.length ≤ c0 + C := by omega
  have hss : H.sl ≤ s0 + Sl := by omega
  refine ab_of2 (lv := [some (.ref p0), some (.int p1)]) 0 rfl rfl (Nat.le_of_ble_eq_true rfl) ?_
  refine ab_widen (cells' := H.sh.length - c0) (slots' := H.sl - s0) (Nat.zero_le _) (Nat.zero_le _) ?_
  refine ab_aload_n d_W_init_0 rfl rfl rfl ?_
  refine ab_objInit d_W_init_1 (k1 36 rfl rfl) (k1 37 rfl rfl) (k1 38 rfl rfl) (Nat.le_of_ble_eq_true rfl) (Nat.le_of_ble_eq_true rfl) ?_
  refine ab_aload_n d_W_init_4 rfl rfl rfl ?_
  obtain ⟨H1, eH1, hG⟩ := bnd_g hF; clear hF
  obtain ⟨a2, ea2, hF⟩ := bnd_g hG; clear hG
  have m_1 : Mo H H1 := by rw [eH1]; exact Mo.nw _ _ _
  have b_2l := (m_1).len
  have b_2s := (m_1).2
  have b_2c : c0 ≤ H1.sh.length := by omega
  have b_2d : s0 ≤ H1.sl := by omega
  have b_2x : H1.sh.length = H.sh.length + 1 := by rw [eH1]; simp [Hp.nw, mkH_sh]
  have b_2y : H1.sl = H.sl + 13 := by rw [eH1]; rfl
  obtain ⟨v4, H5, z3, hG⟩ := bC_s hF; clear hF
  have jH5 : Mo H1 H5 := (m_Lexer_init z3)
  obtain ⟨q6, hF⟩ := ck_s hG; clear hG
  obtain ⟨H7, eH7, hG⟩ := bnd_g hF; clear hF
  have jH7 : Mo H5 H7 := by rw [eH7]; exact Mo.rf _
  obtain ⟨H8, eH8, hF⟩ := bnd_g hG; clear hG
  obtain ⟨a9, ea9, hG⟩ := bnd_g hF; clear hF
  have jH8 : Mo H7 H8 := by rw [eH8]; exact Mo.nw _ _ _
  obtain ⟨a10, e11, hF⟩ := rf_s hG; clear hG
  obtain ⟨v13, H14, z12, hG⟩ := bC_s hF; clear hF
  have jH14 : Mo H8 H14 := (m_Reader_init z12)
  obtain ⟨H15, eH15, hF⟩ := bnd_g hG; clear hG
  have jH15 : Mo H14 H15 := by rw [eH15]; exact Mo.rf _
  obtain ⟨H16, eH16, hG⟩ := bnd_g hF; clear hF
  obtain ⟨a17, ea17, hF⟩ := bnd_g hG; clear hG
  have jH16 : Mo H15 H16 := by rw [eH16]; exact Mo.nw _ _ _
  obtain ⟨v19, H20, z18, hG⟩ := bC_s hF; clear hF
  have jH20 : Mo H16 H20 := (m_Play_init z18)
  obtain ⟨H21, eH21, hF⟩ := bnd_g hG; clear hG
  have jH21 : Mo H20 H21 := by rw [eH21]; exact Mo.rf _
  obtain ⟨H22, eH22, hG⟩ := bnd_g hF; clear hF
  obtain ⟨a23, ea23, hF⟩ := bnd_g hG; clear hG
  have jH22 : Mo H21 H22 := by rw [eH22]; exact Mo.nw _ _ _
  obtain ⟨v25, H26, z24, hG⟩ := bC_s hF; clear hF
  have jH26 : Mo H22 H26 := (m_Store_init z24)
  obtain ⟨H27, eH27, hF⟩ := bnd_g hG; clear hG
  have jH27 : Mo H26 H27 := by rw [eH27]; exact Mo.rf _
  obtain ⟨H28, eH28, hG⟩ := bnd_g hF; clear hF
  obtain ⟨a29, ea29, hF⟩ := bnd_g hG; clear hG
  have jH28 : Mo H27 H28 := by rw [eH28]; exact Mo.nw _ _ _
  obtain ⟨v31, H32, z30, hG⟩ := bC_s hF; clear hF
  have jH32 : Mo H28 H32 := (m_Program_init z30)
  obtain ⟨H33, eH33, hF⟩ := bnd_g hG; clear hG
  have jH33 : Mo H32 H33 := by rw [eH33]; exact Mo.rf _
  obtain ⟨H34, eH34, hG⟩ := bnd_g hF; clear hF
  obtain ⟨a35, ea35, hF⟩ := bnd_g hG; clear hG
  have jH34 : Mo H33 H34 := by rw [eH34]; exact Mo.nw _ _ _
  obtain ⟨v37, H38, z36, hG⟩ := bC_s hF; clear hF
  have jH38 : Mo H34 H38 := (m_Program_init z36)
  obtain ⟨H39, eH39, hF⟩ := bnd_g hG; clear hG
  have jH39 : Mo H38 H39 := by rw [eH39]; exact Mo.rf _
  obtain ⟨H40, eH40, hG⟩ := bnd_g hF; clear hF
  have jH40 : Mo H39 H40 := by rw [eH40]; exact Mo.rf _
  obtain ⟨v42, H43, z41, hF⟩ := bC_s hG; clear hG
  have jH43 : Mo H40 H43 := ((m_Math_min z41)).mo
  obtain ⟨v45, H46, z44, hG⟩ := bC_s hF; clear hF
  have jH46 : Mo H43 H46 := ((m_Math_max z44)).mo
  obtain ⟨H47, eH47, hF⟩ := bnd_g hG; clear hG
  have jH47 : Mo H46 H47 := by rw [eH47]; exact Mo.rf _
  obtain ⟨H48, eH48, hG⟩ := bnd_g hF; clear hF
  have jH48 : Mo H47 H48 := by rw [eH48]; exact Mo.rf _
  have fH48 : Mo H48 r.2 := by
    have hm := Mo.rf H48
    have hr := Option.some.inj hG; subst hr
    exact hm
  have fH47 : Mo H47 r.2 := jH48.tr fH48
  have fH46 : Mo H46 r.2 := jH47.tr fH47
  have fH43 : Mo H43 r.2 := jH46.tr fH46
  have fH40 : Mo H40 r.2 := jH43.tr fH43
  have fH39 : Mo H39 r.2 := jH40.tr fH40
  have fH38 : Mo H38 r.2 := jH39.tr fH39
  have fH34 : Mo H34 r.2 := jH38.tr fH38
  have fH33 : Mo H33 r.2 := jH34.tr fH34
  have fH32 : Mo H32 r.2 := jH33.tr fH33
  have fH28 : Mo H28 r.2 := jH32.tr fH32
  have fH27 : Mo H27 r.2 := jH28.tr fH28
  have fH26 : Mo H26 r.2 := jH27.tr fH27
  have fH22 : Mo H22 r.2 := jH26.tr fH26
  have fH21 : Mo H21 r.2 := jH22.tr fH22
  have fH20 : Mo H20 r.2 := jH21.tr fH21
  have fH16 : Mo H16 r.2 := jH20.tr fH20
  have fH15 : Mo H15 r.2 := jH16.tr fH16
  have fH14 : Mo H14 r.2 := jH15.tr fH15
  have fH8 : Mo H8 r.2 := jH14.tr fH14
  have fH7 : Mo H7 r.2 := jH8.tr fH8
  have fH5 : Mo H5 r.2 := jH7.tr fH7
  have fH1 : Mo H1 r.2 := jH5.tr fH5
  have b_2m := (fH1).len
  have b_2n := (fH1).2
  have b_2p : H1.sh.length ≤ c0 + C := by omega
  have b_2q : H1.sl ≤ s0 + Sl := by omega
  refine hp_new (ci := 1) d_W_init_5 rfl (k1 39 rfl rfl) (k1 40 rfl rfl) (k1 2 rfl rfl) rfl (by decide) (by decide) rfl (by show _ ≤ C; omega) (by show _ + 13 ≤ Sl; omega) ?_
  refine ab_widen (cells' := H1.sh.length - c0) (slots' := H1.sl - s0) (by omega) (by show _ + 13 ≤ _; omega) ?_
  rw [← eH1, ← ea2]
  clear b_2l b_2s b_2x b_2y b_2m b_2n
  refine ab_dup d_W_init_8 rfl ?_
  have mz_30 : Mo H1 H5 := (m_Lexer_init z3)
  have b_31l := (mz_30).len
  have b_31s := (mz_30).2
  have b_31c : c0 ≤ H5.sh.length := by omega
  have b_31d : s0 ≤ H5.sl := by omega
  have b_31m := (fH5).len
  have b_31n := (fH5).2
  have b_31p : H5.sh.length ≤ c0 + C := by omega
  have b_31q : H5.sl ≤ s0 + Sl := by omega
  refine hp_callI_v (H1 := H5) (As := []) (rest := [.ref a2, .ref p0]) d_W_init_9 (k_Lexer_init z3 (C := H5.sh.length - H1.sh.length) (Sl := H5.sl - H1.sl) (by show H5.sh.length ≤ _; omega) (by show H5.sl ≤ _; omega)) (ab_mkC s_Lexer_init (Nat.le_of_ble_eq_true rfl) (Nat.le_of_ble_eq_true rfl) (show (H1.sh.length - c0) + (H5.sh.length - H1.sh.length) ≤ C from by omega) (show (H1.sl - s0) + (H5.sl - H1.sl) ≤ Sl from by omega)) (k1 41 rfl rfl) i_Lexer_init rfl (k1 43 rfl rfl) rfl (Nat.le_of_ble_eq_true rfl) ?_
  refine ab_widen (cells' := H5.sh.length - c0) (slots' := H5.sl - s0) (by show _ + (H5.sh.length - H1.sh.length) ≤ _; omega) (by show _ + (H5.sl - H1.sl) ≤ _; omega) ?_
  clear b_31l b_31s b_31m b_31n b_2c b_2d b_2p b_2q
  refine hp_putFP (v := .ref a2) (f := 0) d_W_init_12 q6 (by decide) rfl (by decide) (k3 157 rfl rfl) rfl rfl rfl rfl (fun _ => rfl) (fun _ => rfl) rfl ?_
  refine hp_genx eH7 ?_
  have s_32 : Sa H5 H7 := by rw [eH7]; exact Sa.rf _
  refine ab_aload_n d_W_init_15 rfl rfl rfl ?_
  have m_33 : Mo H7 H8 := by rw [eH8]; exact Mo.nw _ _ _
  have b_34l := (m_33).len
  have b_34s := (m_33).2
  have b_34e := congrArg List.length (s_32).1
  have b_34f := (s_32).2
  have b_34c : c0 ≤ H8.sh.length := by omega
  have b_34d : s0 ≤ H8.sl := by omega
  have b_34x : H8.sh.length = H7.sh.length + 1 := by rw [eH8]; simp [Hp.nw, mkH_sh]
  have b_34y : H8.sl = H7.sl + 3 := by rw [eH8]; rfl
  have q_35 := (m_33).get (by rw [(s_32).1]; exact q6)
  have b_34m := (fH8).len
  have b_34n := (fH8).2
  have b_34p : H8.sh.length ≤ c0 + C := by omega
  have b_34q : H8.sl ≤ s0 + Sl := by omega
  refine ab_widen (cells' := H7.sh.length - c0) (slots' := H7.sl - s0) (by rw [(s_32).1]; exact Nat.le_refl _) (by rw [(s_32).2]; exact Nat.le_refl _) ?_
  refine hp_new (ci := 5) d_W_init_16 rfl (k1 145 rfl rfl) (k1 146 rfl rfl) (k1 7 rfl rfl) rfl (by decide) (by decide) rfl (by show _ ≤ C; omega) (by show _ + 3 ≤ Sl; omega) ?_
  refine ab_widen (cells' := H8.sh.length - c0) (slots' := H8.sl - s0) (by omega) (by show _ + 3 ≤ _; omega) ?_
  rw [← eH8, ← ea9]
  clear b_34l b_34s b_34x b_34y b_34m b_34n b_34e b_34f b_31c b_31d b_31p b_31q
  refine ab_dup d_W_init_19 rfl ?_
  refine ab_aload_n d_W_init_20 rfl rfl rfl ?_
  refine hp_getR (f := 0) d_W_init_21 q_35 (by decide) rfl (by decide) (k3 157 rfl rfl) rfl e11 ?_
  have mz_36 : Mo H8 H14 := (m_Reader_init z12)
  have b_37l := (mz_36).len
  have b_37s := (mz_36).2
  have b_37c : c0 ≤ H14.sh.length := by omega
  have b_37d : s0 ≤ H14.sl := by omega
  have q_38 := (mz_36).get q_35
  have b_37m := (fH14).len
  have b_37n := (fH14).2
  have b_37p : H14.sh.length ≤ c0 + C := by omega
  have b_37q : H14.sl ≤ s0 + Sl := by omega
  refine hp_callI_v (H1 := H14) (As := [.ref a10]) (rest := [.ref a9, .ref p0]) d_W_init_24 (k_Reader_init z12 (C := H14.sh.length - H8.sh.length) (Sl := H14.sl - H8.sl) (by show H14.sh.length ≤ _; omega) (by show H14.sl ≤ _; omega)) (ab_mkC s_Reader_init (Nat.le_of_ble_eq_true rfl) (Nat.le_of_ble_eq_true rfl) (show (H8.sh.length - c0) + (H14.sh.length - H8.sh.length) ≤ C from by omega) (show (H8.sl - s0) + (H14.sl - H8.sl) ≤ Sl from by omega)) (k1 147 rfl rfl) i_Reader_init rfl (k1 149 rfl rfl) rfl (Nat.le_of_ble_eq_true rfl) ?_
  refine ab_widen (cells' := H14.sh.length - c0) (slots' := H14.sl - s0) (by show _ + (H14.sh.length - H8.sh.length) ≤ _; omega) (by show _ + (H14.sl - H8.sl) ≤ _; omega) ?_
  clear b_37l b_37s b_37m b_37n b_34c b_34d b_34p b_34q
  refine hp_putFP (v := .ref a9) (f := 1) d_W_init_27 q_38 (by decide) rfl (by decide) (k3 158 rfl rfl) rfl rfl rfl rfl (fun _ => rfl) (fun _ => rfl) rfl ?_
  refine hp_genx eH15 ?_
  have s_39 : Sa H14 H15 := by rw [eH15]; exact Sa.rf _
  refine ab_aload_n d_W_init_30 rfl rfl rfl ?_
  have m_40 : Mo H15 H16 := by rw [eH16]; exact Mo.nw _ _ _
  have b_41l := (m_40).len
  have b_41s := (m_40).2
  have b_41e := congrArg List.length (s_39).1
  have b_41f := (s_39).2
  have b_41c : c0 ≤ H16.sh.length := by omega
  have b_41d : s0 ≤ H16.sl := by omega
  have b_41x : H16.sh.length = H15.sh.length + 1 := by rw [eH16]; simp [Hp.nw, mkH_sh]
  have b_41y : H16.sl = H15.sl + 14 := by rw [eH16]; rfl
  have q_42 := (m_40).get (by rw [(s_39).1]; exact q_38)
  have b_41m := (fH16).len
  have b_41n := (fH16).2
  have b_41p : H16.sh.length ≤ c0 + C := by omega
  have b_41q : H16.sl ≤ s0 + Sl := by omega
  refine ab_widen (cells' := H15.sh.length - c0) (slots' := H15.sl - s0) (by rw [(s_39).1]; exact Nat.le_refl _) (by rw [(s_39).2]; exact Nat.le_refl _) ?_
  refine hp_new (ci := 10) d_W_init_31 rfl (k1 189 rfl rfl) (k1 190 rfl rfl) (k1 9 rfl rfl) rfl (by decide) (by decide) rfl (by show _ ≤ C; omega) (by show _ + 14 ≤ Sl; omega) ?_
  refine ab_widen (cells' := H16.sh.length - c0) (slots' := H16.sl - s0) (by omega) (by show _ + 14 ≤ _; omega) ?_
  rw [← eH16, ← ea17]
  clear b_41l b_41s b_41x b_41y b_41m b_41n b_41e b_41f b_37c b_37d b_37p b_37q
  refine ab_dup d_W_init_34 rfl ?_
  have mz_43 : Mo H16 H20 := (m_Play_init z18)
  have b_44l := (mz_43).len
  have b_44s := (mz_43).2
  have b_44c : c0 ≤ H20.sh.length := by omega
  have b_44d : s0 ≤ H20.sl := by omega
  have q_45 := (mz_43).get q_42
  have b_44m := (fH20).len
  have b_44n := (fH20).2
  have b_44p : H20.sh.length ≤ c0 + C := by omega
  have b_44q : H20.sl ≤ s0 + Sl := by omega
  refine hp_callI_v (H1 := H20) (As := []) (rest := [.ref a17, .ref p0]) d_W_init_35 (k_Play_init z18 (C := H20.sh.length - H16.sh.length) (Sl := H20.sl - H16.sl) (by show H20.sh.length ≤ _; omega) (by show H20.sl ≤ _; omega)) (ab_mkC s_Play_init (Nat.le_of_ble_eq_true rfl) (Nat.le_of_ble_eq_true rfl) (show (H16.sh.length - c0) + (H20.sh.length - H16.sh.length) ≤ C from by omega) (show (H16.sl - s0) + (H20.sl - H16.sl) ≤ Sl from by omega)) (k1 191 rfl rfl) i_Play_init rfl (k1 193 rfl rfl) rfl (Nat.le_of_ble_eq_true rfl) ?_
  refine ab_widen (cells' := H20.sh.length - c0) (slots' := H20.sl - s0) (by show _ + (H20.sh.length - H16.sh.length) ≤ _; omega) (by show _ + (H20.sl - H16.sl) ≤ _; omega) ?_
  clear b_44l b_44s b_44m b_44n b_41c b_41d b_41p b_41q
  refine hp_putFP (v := .ref a17) (f := 2) d_W_init_38 q_45 (by decide) rfl (by decide) (k3 159 rfl rfl) rfl rfl rfl rfl (fun _ => rfl) (fun _ => rfl) rfl ?_
  refine hp_genx eH21 ?_
  have s_46 : Sa H20 H21 := by rw [eH21]; exact Sa.rf _
  refine ab_aload_n d_W_init_41 rfl rfl rfl ?_
  have m_47 : Mo H21 H22 := by rw [eH22]; exact Mo.nw _ _ _
  have b_48l := (m_47).len
  have b_48s := (m_47).2
  have b_48e := congrArg List.length (s_46).1
  have b_48f := (s_46).2
  have b_48c : c0 ≤ H22.sh.length := by omega
  have b_48d : s0 ≤ H22.sl := by omega
  have b_48x : H22.sh.length = H21.sh.length + 1 := by rw [eH22]; simp [Hp.nw, mkH_sh]
  have b_48y : H22.sl = H21.sl + 6 := by rw [eH22]; rfl
  have q_49 := (m_47).get (by rw [(s_46).1]; exact q_45)
  have b_48m := (fH22).len
  have b_48n := (fH22).2
  have b_48p : H22.sh.length ≤ c0 + C := by omega
  have b_48q : H22.sl ≤ s0 + Sl := by omega
  refine ab_widen (cells' := H21.sh.length - c0) (slots' := H21.sl - s0) (by rw [(s_46).1]; exact Nat.le_refl _) (by rw [(s_46).2]; exact Nat.le_refl _) ?_
  refine hp_new (ci := 11) d_W_init_42 rfl (k2 179 rfl rfl) (k2 180 rfl rfl) (k1 14 rfl rfl) rfl (by decide) (by decide) rfl (by show _ ≤ C; omega) (by show _ + 6 ≤ Sl; omega) ?_
  refine ab_widen (cells' := H22.sh.length - c0) (slots' := H22.sl - s0) (by omega) (by show _ + 6 ≤ _; omega) ?_
  rw [← eH22, ← ea23]
  clear b_48l b_48s b_48x b_48y b_48m b_48n b_48e b_48f b_44c b_44d b_44p b_44q
  refine ab_dup d_W_init_45 rfl ?_
  have mz_50 : Mo H22 H26 := (m_Store_init z24)
  have b_51l := (mz_50).len
  have b_51s := (mz_50).2
  have b_51c : c0 ≤ H26.sh.length := by omega
  have b_51d : s0 ≤ H26.sl := by omega
  have q_52 := (mz_50).get q_49
  have b_51m := (fH26).len
  have b_51n := (fH26).2
  have b_51p : H26.sh.length ≤ c0 + C := by omega
  have b_51q : H26.sl ≤ s0 + Sl := by omega
  refine hp_callI_v (H1 := H26) (As := []) (rest := [.ref a23, .ref p0]) d_W_init_46 (k_Store_init z24 (C := H26.sh.length - H22.sh.length) (Sl := H26.sl - H22.sl) (by show H26.sh.length ≤ _; omega) (by show H26.sl ≤ _; omega)) (ab_mkC s_Store_init (Nat.le_of_ble_eq_true rfl) (Nat.le_of_ble_eq_true rfl) (show (H22.sh.length - c0) + (H26.sh.length - H22.sh.length) ≤ C from by omega) (show (H22.sl - s0) + (H26.sl - H22.sl) ≤ Sl from by omega)) (k2 181 rfl rfl) i_Store_init rfl (k2 183 rfl rfl) rfl (Nat.le_of_ble_eq_true rfl) ?_
  refine ab_widen (cells' := H26.sh.length - c0) (slots' := H26.sl - s0) (by show _ + (H26.sh.length - H22.sh.length) ≤ _; omega) (by show _ + (H26.sl - H22.sl) ≤ _; omega) ?_
  clear b_51l b_51s b_51m b_51n b_48c b_48d b_48p b_48q
  refine hp_putFP (v := .ref a23) (f := 3) d_W_init_49 q_52 (by decide) rfl (by decide) (k3 160 rfl rfl) rfl rfl rfl rfl (fun _ => rfl) (fun _ => rfl) rfl ?_
  refine hp_genx eH27 ?_
  have s_53 : Sa H26 H27 := by rw [eH27]; exact Sa.rf _
  refine ab_aload_n d_W_init_52 rfl rfl rfl ?_
  have m_54 : Mo H27 H28 := by rw [eH28]; exact Mo.nw _ _ _
  have b_55l := (m_54).len
  have b_55s := (m_54).2
  have b_55e := congrArg List.length (s_53).1
  have b_55f := (s_53).2
  have b_55c : c0 ≤ H28.sh.length := by omega
  have b_55d : s0 ≤ H28.sl := by omega
  have b_55x : H28.sh.length = H27.sh.length + 1 := by rw [eH28]; simp [Hp.nw, mkH_sh]
  have b_55y : H28.sl = H27.sl + 18 := by rw [eH28]; rfl
  have q_56 := (m_54).get (by rw [(s_53).1]; exact q_52)
  have b_55m := (fH28).len
  have b_55n := (fH28).2
  have b_55p : H28.sh.length ≤ c0 + C := by omega
  have b_55q : H28.sl ≤ s0 + Sl := by omega
  refine ab_widen (cells' := H27.sh.length - c0) (slots' := H27.sl - s0) (by rw [(s_53).1]; exact Nat.le_refl _) (by rw [(s_53).2]; exact Nat.le_refl _) ?_
  refine hp_new (ci := 4) d_W_init_53 rfl (k2 208 rfl rfl) (k2 209 rfl rfl) (k1 15 rfl rfl) rfl (by decide) (by decide) rfl (by show _ ≤ C; omega) (by show _ + 18 ≤ Sl; omega) ?_
  refine ab_widen (cells' := H28.sh.length - c0) (slots' := H28.sl - s0) (by omega) (by show _ + 18 ≤ _; omega) ?_
  rw [← eH28, ← ea29]
  clear b_55l b_55s b_55x b_55y b_55m b_55n b_55e b_55f b_51c b_51d b_51p b_51q
  refine ab_dup d_W_init_56 rfl ?_
  have mz_57 : Mo H28 H32 := (m_Program_init z30)
  have b_58l := (mz_57).len
  have b_58s := (mz_57).2
  have b_58c : c0 ≤ H32.sh.length := by omega
  have b_58d : s0 ≤ H32.sl := by omega
  have q_59 := (mz_57).get q_56
  have b_58m := (fH32).len
  have b_58n := (fH32).2
  have b_58p : H32.sh.length ≤ c0 + C := by omega
  have b_58q : H32.sl ≤ s0 + Sl := by omega
  refine hp_callI_v (H1 := H32) (As := []) (rest := [.ref a29, .ref p0]) d_W_init_57 (k_Program_init z30 (C := H32.sh.length - H28.sh.length) (Sl := H32.sl - H28.sl) (by show H32.sh.length ≤ _; omega) (by show H32.sl ≤ _; omega)) (ab_mkC s_Program_init (Nat.le_of_ble_eq_true rfl) (Nat.le_of_ble_eq_true rfl) (show (H28.sh.length - c0) + (H32.sh.length - H28.sh.length) ≤ C from by omega) (show (H28.sl - s0) + (H32.sl - H28.sl) ≤ Sl from by omega)) (k2 210 rfl rfl) i_Program_init rfl (k2 212 rfl rfl) rfl (Nat.le_of_ble_eq_true rfl) ?_
  refine ab_widen (cells' := H32.sh.length - c0) (slots' := H32.sl - s0) (by show _ + (H32.sh.length - H28.sh.length) ≤ _; omega) (by show _ + (H32.sl - H28.sl) ≤ _; omega) ?_
  clear b_58l b_58s b_58m b_58n b_55c b_55d b_55p b_55q
  refine hp_putP (v := .ref a29) (f := 4) d_W_init_60 q_59 (by decide) rfl (by decide) (k3 161 rfl rfl) rfl rfl (fun _ => rfl) (fun _ => rfl) rfl ?_
  refine hp_genx eH33 ?_
  have s_60 : Sa H32 H33 := by rw [eH33]; exact Sa.rf _
  refine ab_aload_n d_W_init_63 rfl rfl rfl ?_
  have m_61 : Mo H33 H34 := by rw [eH34]; exact Mo.nw _ _ _
  have b_62l := (m_61).len
  have b_62s := (m_61).2
  have b_62e := congrArg List.length (s_60).1
  have b_62f := (s_60).2
  have b_62c : c0 ≤ H34.sh.length := by omega
  have b_62d : s0 ≤ H34.sl := by omega
  have b_62x : H34.sh.length = H33.sh.length + 1 := by rw [eH34]; simp [Hp.nw, mkH_sh]
  have b_62y : H34.sl = H33.sl + 18 := by rw [eH34]; rfl
  have q_63 := (m_61).get (by rw [(s_60).1]; exact q_59)
  have b_62m := (fH34).len
  have b_62n := (fH34).2
  have b_62p : H34.sh.length ≤ c0 + C := by omega
  have b_62q : H34.sl ≤ s0 + Sl := by omega
  refine ab_widen (cells' := H33.sh.length - c0) (slots' := H33.sl - s0) (by rw [(s_60).1]; exact Nat.le_refl _) (by rw [(s_60).2]; exact Nat.le_refl _) ?_
  refine hp_new (ci := 4) d_W_init_64 rfl (k2 208 rfl rfl) (k2 209 rfl rfl) (k1 15 rfl rfl) rfl (by decide) (by decide) rfl (by show _ ≤ C; omega) (by show _ + 18 ≤ Sl; omega) ?_
  refine ab_widen (cells' := H34.sh.length - c0) (slots' := H34.sl - s0) (by omega) (by show _ + 18 ≤ _; omega) ?_
  rw [← eH34, ← ea35]
  clear b_62l b_62s b_62x b_62y b_62m b_62n b_62e b_62f b_58c b_58d b_58p b_58q
  refine ab_dup d_W_init_67 rfl ?_
  have mz_64 : Mo H34 H38 := (m_Program_init z36)
  have b_65l := (mz_64).len
  have b_65s := (mz_64).2
  have b_65c : c0 ≤ H38.sh.length := by omega
  have b_65d : s0 ≤ H38.sl := by omega
  have q_66 := (mz_64).get q_63
  have b_65m := (fH38).len
  have b_65n := (fH38).2
  have b_65p : H38.sh.length ≤ c0 + C := by omega
  have b_65q : H38.sl ≤ s0 + Sl := by omega
  refine hp_callI_v (H1 := H38) (As := []) (rest := [.ref a35, .ref p0]) d_W_init_68 (k_Program_init z36 (C := H38.sh.length - H34.sh.length) (Sl := H38.sl - H34.sl) (by show H38.sh.length ≤ _; omega) (by show H38.sl ≤ _; omega)) (ab_mkC s_Program_init (Nat.le_of_ble_eq_true rfl) (Nat.le_of_ble_eq_true rfl) (show (H34.sh.length - c0) + (H38.sh.length - H34.sh.length) ≤ C from by omega) (show (H34.sl - s0) + (H38.sl - H34.sl) ≤ Sl from by omega)) (k2 210 rfl rfl) i_Program_init rfl (k2 212 rfl rfl) rfl (Nat.le_of_ble_eq_true rfl) ?_
  refine ab_widen (cells' := H38.sh.length - c0) (slots' := H38.sl - s0) (by show _ + (H38.sh.length - H34.sh.length) ≤ _; omega) (by show _ + (H38.sl - H34.sl) ≤ _; omega) ?_
  clear b_65l b_65s b_65m b_65n b_62c b_62d b_62p b_62q
  refine hp_putP (v := .ref a35) (f := 5) d_W_init_71 q_66 (by decide) rfl (by decide) (k3 162 rfl rfl) rfl rfl (fun _ => rfl) (fun _ => rfl) rfl ?_
  refine hp_genx eH39 ?_
  have s_67 : Sa H38 H39 := by rw [eH39]; exact Sa.rf _
  refine ab_aload_n d_W_init_74 rfl rfl rfl ?_
  refine ab_iconst (v := 0) d_W_init_75 (by decide) ?_
  refine hp_putI (v := 0) (f := 6) (ty := .boolean) d_W_init_76 (by rw [(s_67).1]; exact q_66) (by decide) rfl (by decide) (k3 163 rfl rfl) rfl rfl (fun _ => rfl) (fun _ => rfl) rfl ?_
  refine hp_genx eH40 ?_
  have s_68 : Sa H38 H40 := by rw [eH40]; exact s_67
  refine ab_aload_n d_W_init_79 rfl rfl rfl ?_
  refine ab_iconst (v := 1) d_W_init_80 (by decide) ?_
  refine ab_iconst (v := 1) d_W_init_81 (by decide) ?_
  refine ab_bipush (v := 8) d_W_init_82 (by decide) ?_
  refine ab_iload_n d_W_init_84 rfl rfl ?_
  refine ab_widen (cells' := H40.sh.length - c0) (slots' := H40.sl - s0) (by rw [(s_68).1]; exact Nat.le_refl _) (by rw [(s_68).2]; exact Nat.le_refl _) ?_
  have b_69e := congrArg List.length (s_68).1
  have b_69f := (s_68).2
  refine hp_callS_a (v := .int v42) (H1 := H43) (As := [.int 8, .int p1]) (rest := [.int 1, .int 1, .ref p0]) d_W_init_85 (k_Math_min z41) (ab_mkC s_Math_min (Nat.le_of_ble_eq_true rfl) (Nat.le_of_ble_eq_true rfl) (show (H40.sh.length - c0) + 0 ≤ C from by omega) (show (H40.sl - s0) + 0 ≤ Sl from by omega)) (k3 153 rfl rfl) t_Math_min rfl (Nat.le_of_ble_eq_true rfl) ?_
  have s_70 : Sa H38 H43 := (s_68).tr (m_Math_min z41)
  refine ab_widen (cells' := H38.sh.length - c0) (slots' := H38.sl - s0) (by show (H40.sh.length - c0) + 0 ≤ _; omega) (by show (H40.sl - s0) + 0 ≤ _; omega) ?_
  clear b_69e b_69f
  refine ab_widen (cells' := H43.sh.length - c0) (slots' := H43.sl - s0) (by rw [(s_70).1]; exact Nat.le_refl _) (by rw [(s_70).2]; exact Nat.le_refl _) ?_
  have b_71e := congrArg List.length (s_70).1
  have b_71f := (s_70).2
  refine hp_callS_a (v := .int v45) (H1 := H46) (As := [.int 1, .int v42]) (rest := [.int 1, .ref p0]) d_W_init_88 (k_Math_max z44) (ab_mkC s_Math_max (Nat.le_of_ble_eq_true rfl) (Nat.le_of_ble_eq_true rfl) (show (H43.sh.length - c0) + 0 ≤ C from by omega) (show (H43.sl - s0) + 0 ≤ Sl from by omega)) (k3 156 rfl rfl) t_Math_max rfl (Nat.le_of_ble_eq_true rfl) ?_
  have s_72 : Sa H38 H46 := (s_70).tr (m_Math_max z44)
  refine ab_widen (cells' := H38.sh.length - c0) (slots' := H38.sl - s0) (by show (H43.sh.length - c0) + 0 ≤ _; omega) (by show (H43.sl - s0) + 0 ≤ _; omega) ?_
  clear b_71e b_71f
  refine ab_ishl d_W_init_91 ?_
  refine ab_iconst (v := 1) d_W_init_92 (by decide) ?_
  refine ab_isub d_W_init_93 ?_
  refine hp_putI (v := ((1 : Int32) <<< (v45 &&& 31)) - (1 : Int32)) (f := 7) d_W_init_94 (by rw [(s_72).1]; exact q_66) (by decide) rfl (by decide) (k3 164 rfl rfl) rfl rfl (fun _ => rfl) (fun _ => rfl) rfl ?_
  refine hp_genx eH47 ?_
  have s_73 : Sa H38 H47 := by rw [eH47]; exact s_72
  refine ab_aload_n d_W_init_97 rfl rfl rfl ?_
  refine ab_iconst (v := 0) d_W_init_98 (by decide) ?_
  refine hp_putI (v := 0) (f := 8) d_W_init_99 (by rw [(s_73).1]; exact q_66) (by decide) rfl (by decide) (k3 165 rfl rfl) rfl rfl (fun _ => rfl) (fun _ => rfl) rfl ?_
  refine hp_genx eH48 ?_
  have s_74 : Sa H38 H48 := by rw [eH48]; exact s_73
  exact ab_vret d_W_init_102 rfl (by show _ ≤ C; omega) (by show _ ≤ Sl; omega) (by have hr := Option.some.inj hG; subst hr; exact ⟨rfl, rfl⟩)
def y_Lexer_hasRoom : ab_Y := (⟨"WorldEngine$Lexer", "hasRoom", "(I)Z"⟩, prog_3_method_2_code, 2, (some FieldType.boolean), [])
theorem d_Lexer_hasRoom_0 : decode y_Lexer_hasRoom.2.1 0 = .ok (.aload_n 0, 1) := by decide +kernel
theorem d_Lexer_hasRoom_1 : decode y_Lexer_hasRoom.2.1 1 = .ok (.getfield 42, 3) := by decide +kernel
theorem d_Lexer_hasRoom_4 : decode y_Lexer_hasRoom.2.1 4 = .ok (.sipush 6000, 3) := by decide +kernel
theorem d_Lexer_hasRoom_7 : decode y_Lexer_hasRoom.2.1 7 = .ok (.iload_n 1, 1) := by decide +kernel
theorem d_Lexer_hasRoom_8 : decode y_Lexer_hasRoom.2.1 8 = .ok (.isub, 1) := by decide +kernel
theorem d_Lexer_hasRoom_9 : decode y_Lexer_hasRoom.2.1 9 = .ok (.if_icmp .gt 7, 3) := by decide +kernel
theorem d_Lexer_hasRoom_12 : decode y_Lexer_hasRoom.2.1 12 = .ok (.iconst 1, 1) := by decide +kernel
theorem d_Lexer_hasRoom_13 : decode y_Lexer_hasRoom.2.1 13 = .ok (.goto 4, 3) := by decide +kernel
theorem d_Lexer_hasRoom_16 : decode y_Lexer_hasRoom.2.1 16 = .ok (.iconst 0, 1) := by decide +kernel
theorem d_Lexer_hasRoom_17 : decode y_Lexer_hasRoom.2.1 17 = .ok (.ireturn, 1) := by decide +kernel
theorem s_Lexer_hasRoom : ab_Stat y_Lexer_hasRoom 1 := ⟨(k3 192 rfl rfl), (k1 2 rfl rfl), ⟨by decide, by decide⟩, by decide +kernel⟩
theorem i_Lexer_hasRoom : Cond.instanceMethod y_Lexer_hasRoom.1 ∈ ab_T := (k3 190 rfl rfl)
theorem v_Lexer_hasRoom : Cond.selects "WorldEngine$Lexer" y_Lexer_hasRoom.1 y_Lexer_hasRoom.1 ∈ ab_T := (k3 191 rfl rfl)
def F_Lexer_hasRoom (N : Nat) (p0 : Nat) (p1 : Int32) (H : Hp) : Option (Int32 × Hp) :=
    ck (H.sh[p0]? = some (1, 0)) <|
    bnd ((H.D p0 1)) fun x2 =>
    if ((6000 : Int32) - p1) < x2 then
    some (0, H)
    else
    some (1, H)
set_option maxRecDepth 20000 in
set_option maxHeartbeats 2000000 in
theorem m_Lexer_hasRoom {N : Nat} {p0 : Nat} {p1 : Int32} {H : Hp} {r : Int32 × Hp} (hF : F_Lexer_hasRoom N p0 p1 H = some r) : Sa H r.2 := by
  unfold F_Lexer_hasRoom at hF
  have hm := Sa.rf H
  obtain ⟨q4, hG⟩ := ck_s hF; clear hF
  obtain ⟨x5, -, hF⟩ := bnd_g hG; clear hG
  rcases ite_s hF with ⟨q_1, hG⟩ | ⟨q_1, hG⟩
  · clear hF
    have hr := Option.some.inj hG; subst hr
    exact hm
  · clear hF
    have hr := Option.some.inj hG; subst hr
    exact hm
set_option maxRecDepth 20000 in
set_option maxHeartbeats 2000000 in
theorem k_Lexer_hasRoom {N : Nat} {p0 : Nat} {p1 : Int32} {H : Hp} {r : Int32 × Hp} (hF : F_Lexer_hasRoom N p0 p1 H = some r) : ab_M y_Lexer_hasRoom { frames := 0, cells := 0, slots := 0, locals := 0 } [.ref p0, .int p1] (hpw H) (po (.returned (some (.int r.1))) r.2) := by
  unfold F_Lexer_hasRoom at hF
  refine ab_of2 (lv := [some (.ref p0), some (.int p1)]) 0 rfl rfl (Nat.le_of_ble_eq_true rfl) ?_
  refine ab_aload_n d_Lexer_hasRoom_0 rfl rfl rfl ?_
  obtain ⟨q1, hG⟩ := ck_s hF; clear hF
  refine hp_getI (f := 1) d_Lexer_hasRoom_1 q1 (by decide) rfl (by decide) (k1 95 rfl rfl) rfl ?_
  refine ab_topi (fun x2 ex2 => ?_)
  replace hG := bnd_s ex2 hG
  refine ab_sipush (v := 6000) d_Lexer_hasRoom_4 (by decide) ?_
  refine ab_iload_n d_Lexer_hasRoom_7 rfl rfl ?_
  refine ab_isub d_Lexer_hasRoom_8 ?_
  refine ab_icmp_gt (tgt := 16) d_Lexer_hasRoom_9 (by decide) (fun q3 => ?_) (fun q3 => ?_)
  · rw [if_pos q3] at hG
    refine ab_iconst (v := 0) d_Lexer_hasRoom_16 (by decide) ?_
    exact ab_zret d_Lexer_hasRoom_17 rfl rfl (Nat.le_refl _) (Nat.le_refl _) (by have hr := Option.some.inj hG; subst hr; exact ⟨rfl, rfl⟩)
  · rw [if_neg q3] at hG
    refine ab_iconst (v := 1) d_Lexer_hasRoom_12 (by decide) ?_
    refine ab_goto (tgt := 17) d_Lexer_hasRoom_13 (by decide) ?_
    exact ab_zret d_Lexer_hasRoom_17 rfl rfl (Nat.le_refl _) (Nat.le_refl _) (by have hr := Option.some.inj hG; subst hr; exact ⟨rfl, rfl⟩)
def y_Lexer_addInt : ab_Y := (⟨"WorldEngine$Lexer", "addInt", "(I)V"⟩, prog_3_method_3_code, 3, none, [])
theorem d_Lexer_addInt_0 : decode y_Lexer_addInt.2.1 0 = .ok (.bipush 24, 2) := by decide +kernel
theorem d_Lexer_addInt_2 : decode y_Lexer_addInt.2.1 2 = .ok (.istore_n 2, 1) := by decide +kernel
theorem d_Lexer_addInt_3 : decode y_Lexer_addInt.2.1 3 = .ok (.iload_n 2, 1) := by decide +kernel
theorem d_Lexer_addInt_4 : decode y_Lexer_addInt.2.1 4 = .ok (.ifCond .lt 42, 3) := by decide +kernel
theorem d_Lexer_addInt_7 : decode y_Lexer_addInt.2.1 7 = .ok (.aload_n 0, 1) := by decide +kernel
theorem d_Lexer_addInt_8 : decode y_Lexer_addInt.2.1 8 = .ok (.getfield 42, 3) := by decide +kernel
theorem d_Lexer_addInt_11 : decode y_Lexer_addInt.2.1 11 = .ok (.sipush 6000, 3) := by decide +kernel
theorem d_Lexer_addInt_14 : decode y_Lexer_addInt.2.1 14 = .ok (.if_icmp .ge 26, 3) := by decide +kernel
theorem d_Lexer_addInt_17 : decode y_Lexer_addInt.2.1 17 = .ok (.aload_n 0, 1) := by decide +kernel
theorem d_Lexer_addInt_18 : decode y_Lexer_addInt.2.1 18 = .ok (.getfield 9, 3) := by decide +kernel
theorem d_Lexer_addInt_21 : decode y_Lexer_addInt.2.1 21 = .ok (.aload_n 0, 1) := by decide +kernel
theorem d_Lexer_addInt_22 : decode y_Lexer_addInt.2.1 22 = .ok (.getfield 42, 3) := by decide +kernel
theorem d_Lexer_addInt_25 : decode y_Lexer_addInt.2.1 25 = .ok (.iload_n 1, 1) := by decide +kernel
theorem d_Lexer_addInt_26 : decode y_Lexer_addInt.2.1 26 = .ok (.iload_n 2, 1) := by decide +kernel
theorem d_Lexer_addInt_27 : decode y_Lexer_addInt.2.1 27 = .ok (.ishr, 1) := by decide +kernel
theorem d_Lexer_addInt_28 : decode y_Lexer_addInt.2.1 28 = .ok (.i2b, 1) := by decide +kernel
theorem d_Lexer_addInt_29 : decode y_Lexer_addInt.2.1 29 = .ok (.bastore, 1) := by decide +kernel
theorem d_Lexer_addInt_30 : decode y_Lexer_addInt.2.1 30 = .ok (.aload_n 0, 1) := by decide +kernel
theorem d_Lexer_addInt_31 : decode y_Lexer_addInt.2.1 31 = .ok (.dup, 1) := by decide +kernel
theorem d_Lexer_addInt_32 : decode y_Lexer_addInt.2.1 32 = .ok (.getfield 42, 3) := by decide +kernel
theorem d_Lexer_addInt_35 : decode y_Lexer_addInt.2.1 35 = .ok (.iconst 1, 1) := by decide +kernel
theorem d_Lexer_addInt_36 : decode y_Lexer_addInt.2.1 36 = .ok (.iadd, 1) := by decide +kernel
theorem d_Lexer_addInt_37 : decode y_Lexer_addInt.2.1 37 = .ok (.putfield 42, 3) := by decide +kernel
theorem d_Lexer_addInt_40 : decode y_Lexer_addInt.2.1 40 = .ok (.iinc 2 (-8), 3) := by decide +kernel
theorem d_Lexer_addInt_43 : decode y_Lexer_addInt.2.1 43 = .ok (.goto (-40), 3) := by decide +kernel
theorem d_Lexer_addInt_46 : decode y_Lexer_addInt.2.1 46 = .ok (.return_, 1) := by decide +kernel
theorem s_Lexer_addInt : ab_Stat y_Lexer_addInt 1 := ⟨(k3 196 rfl rfl), (k1 2 rfl rfl), ⟨by decide, by decide⟩, by decide +kernel⟩
theorem i_Lexer_addInt : Cond.instanceMethod y_Lexer_addInt.1 ∈ ab_T := (k3 194 rfl rfl)
theorem v_Lexer_addInt : Cond.selects "WorldEngine$Lexer" y_Lexer_addInt.1 y_Lexer_addInt.1 ∈ ab_T := (k3 195 rfl rfl)
def B_Lexer_addInt_40 (N : Nat) (p0 : Nat) (p1 : Int32) (kq3 : Int32 → Hp → Option (Unit × Hp)) (l2 : Int32) (H : Hp) : Option (Unit × Hp) :=
    kq3 (l2 + (-8)) H
set_option maxRecDepth 20000 in
set_option maxHeartbeats 2000000 in
theorem mB_Lexer_addInt_40 {N : Nat} {p0 : Nat} {p1 : Int32} {kq3 : Int32 → Hp → Option (Unit × Hp)} (hm3 : ∀ (l2 : Int32) (H : Hp) (r : Unit × Hp), kq3 l2 H = some r → Sa H r.2) {l2 : Int32} {H : Hp} {r : Unit × Hp} (hF : B_Lexer_addInt_40 N p0 p1 kq3 l2 H = some r) : Sa H r.2 := by
  unfold B_Lexer_addInt_40 at hF
  have hm := Sa.rf H
  exact hm.tr (hm3 (l2 + (-8)) H r hF)
set_option maxRecDepth 20000 in
set_option maxHeartbeats 2000000 in
theorem kB_Lexer_addInt_40 {N : Nat} {p0 : Nat} {p1 : Int32} {kq3 : Int32 → Hp → Option (Unit × Hp)} (hm3 : ∀ (l2 : Int32) (H : Hp) (r : Unit × Hp), kq3 l2 H = some r → Sa H r.2) (hk3 : ∀ (l2 : Int32) (H : Hp) (r : Unit × Hp), kq3 l2 H = some r → ab_V y_Lexer_addInt { frames := 0, cells := 0, slots := 0, locals := 0 } (po (.returned none) r.2) 0 0 0 0 3 [some (.ref p0), some (.int p1), some (.int l2)] [] (hpw H)) {l2 : Int32} {H : Hp} {r : Unit × Hp} (hF : B_Lexer_addInt_40 N p0 p1 kq3 l2 H = some r) : ab_V y_Lexer_addInt { frames := 0, cells := 0, slots := 0, locals := 0 } (po (.returned none) r.2) 0 0 0 0 40 [some (.ref p0), some (.int p1), some (.int l2)] [] (hpw H) := by
  unfold B_Lexer_addInt_40 at hF
  refine ab_iinc (v := l2 + (-8)) (lv' := [some (.ref p0), some (.int p1), some (.int (l2 + (-8)))]) d_Lexer_addInt_40 rfl rfl (by decide) rfl ?_
  refine ab_goto (tgt := 3) d_Lexer_addInt_43 (by decide) ?_
  exact hk3 (l2 + (-8)) H r hF
def B_Lexer_addInt_3 (N : Nat) (p0 : Nat) (p1 : Int32) : Nat → Int32 → Hp → Option (Unit × Hp)
  | 0, _, _ => none
  | n + 1, l2, H =>
    if l2 < (0 : Int32) then
    some ((), H)
    else
    ck (H.sh[p0]? = some (1, 0)) <|
    bnd ((H.D p0 1)) fun x3 =>
    if (6000 : Int32) ≤ x3 then
    B_Lexer_addInt_40 N p0 p1 (fun l2 H => B_Lexer_addInt_3 N p0 p1 n l2 H) l2 H
    else
    rf (H.P p0 0) fun a5 =>
    bnd ((H.D p0 1)) fun x7 =>
    ar H 101 a5 fun n8 =>
    ck (inb x7 n8) <|
    bnd (H.sD a5 (x7).toNatClampNeg (vp_nar .byte (((p1 >>> (l2 &&& 31)) : Int32).toInt8.toInt32))) fun H11 =>
    bnd ((H11.D p0 1)) fun x12 =>
    bnd (H11.sD p0 1 (x12 + (1 : Int32))) fun H13 =>
    B_Lexer_addInt_40 N p0 p1 (fun l2 H => B_Lexer_addInt_3 N p0 p1 n l2 H) l2 H13
termination_by structural n => n
set_option maxRecDepth 20000 in
set_option maxHeartbeats 2000000 in
theorem mB_Lexer_addInt_3 {N : Nat} {p0 : Nat} {p1 : Int32} : ∀ (n : Nat) (l2 : Int32) (H : Hp) (r : Unit × Hp), B_Lexer_addInt_3 N p0 p1 n l2 H = some r → Sa H r.2 := by
  intro n
  induction n with
  | zero => intro l2 H r hF; rw [B_Lexer_addInt_3] at hF; cases hF
  | succ n ih =>
    intro l2 H r hF
    rw [B_Lexer_addInt_3] at hF
    have hm := Sa.rf H
    rcases ite_s hF with ⟨q_3, hG⟩ | ⟨q_3, hG⟩
    · clear hF
      have hr := Option.some.inj hG; subst hr
      exact hm
    · clear hF
      obtain ⟨q15, hF⟩ := ck_s hG; clear hG
      obtain ⟨x16, -, hG⟩ := bnd_g hF; clear hF
      rcases ite_s hG with ⟨q_4, hF⟩ | ⟨q_4, hF⟩
      · clear hG
        exact hm.tr (mB_Lexer_addInt_40 ih hF)
      · clear hG
        obtain ⟨a18, e19, hG⟩ := rf_s hF; clear hF
        obtain ⟨x20, -, hF⟩ := bnd_g hG; clear hG
        obtain ⟨n21, q22, hG⟩ := ar_s hF; clear hF
        obtain ⟨q23, hF⟩ := ck_s hG; clear hG
        obtain ⟨H24, eH24, hG⟩ := bnd_g hF; clear hF
        replace hm : Sa H H24 := by rw [eH24]; exact hm
        obtain ⟨x25, -, hF⟩ := bnd_g hG; clear hG
        obtain ⟨H26, eH26, hG⟩ := bnd_g hF; clear hF
        replace hm : Sa H H26 := by rw [eH26]; exact hm
        exact hm.tr (mB_Lexer_addInt_40 ih hG)
set_option maxRecDepth 20000 in
set_option maxHeartbeats 2000000 in
theorem kB_Lexer_addInt_3 {N : Nat} {p0 : Nat} {p1 : Int32} : ∀ (n : Nat) (l2 : Int32) (H : Hp) (r : Unit × Hp), B_Lexer_addInt_3 N p0 p1 n l2 H = some r → ab_V y_Lexer_addInt { frames := 0, cells := 0, slots := 0, locals := 0 } (po (.returned none) r.2) 0 0 0 0 3 [some (.ref p0), some (.int p1), some (.int l2)] [] (hpw H) := by
  intro n
  induction n with
  | zero => intro l2 H r hF; rw [B_Lexer_addInt_3] at hF; cases hF
  | succ n ih =>
    intro l2 H r hF
    rw [B_Lexer_addInt_3] at hF
    refine ab_iload_n d_Lexer_addInt_3 rfl rfl ?_
    refine ab_if_lt (tgt := 46) d_Lexer_addInt_4 (by decide) (fun q1 => ?_) (fun q1 => ?_)
    · rw [if_pos q1] at hF
      exact ab_vret d_Lexer_addInt_46 rfl (Nat.le_refl _) (Nat.le_refl _) (by have hr := Option.some.inj hF; subst hr; exact ⟨rfl, rfl⟩)
    · rw [if_neg q1] at hF
      refine ab_aload_n d_Lexer_addInt_7 rfl rfl rfl ?_
      obtain ⟨q2, hG⟩ := ck_s hF; clear hF
      refine hp_getI (f := 1) d_Lexer_addInt_8 q2 (by decide) rfl (by decide) (k1 95 rfl rfl) rfl ?_
      refine ab_topi (fun x3 ex3 => ?_)
      replace hG := bnd_s ex3 hG
      refine ab_sipush (v := 6000) d_Lexer_addInt_11 (by decide) ?_
      refine ab_icmp_ge (tgt := 40) d_Lexer_addInt_14 (by decide) (fun q4 => ?_) (fun q4 => ?_)
      · rw [if_pos q4] at hG
        exact kB_Lexer_addInt_40 (mB_Lexer_addInt_3 n) ih hG
      · rw [if_neg q4] at hG
        refine ab_aload_n d_Lexer_addInt_17 rfl rfl rfl ?_
        obtain ⟨a5, e6, hF⟩ := rf_s hG; clear hG
        refine hp_getR (f := 0) d_Lexer_addInt_18 q2 (by decide) rfl (by decide) (k1 94 rfl rfl) rfl e6 ?_
        refine ab_aload_n d_Lexer_addInt_21 rfl rfl rfl ?_
        refine hp_getI (f := 1) d_Lexer_addInt_22 q2 (by decide) rfl (by decide) (k1 95 rfl rfl) rfl ?_
        refine ab_topi (fun x7 ex7 => ?_)
        replace hF := bnd_s ex7 hF
        refine ab_iload_n d_Lexer_addInt_25 rfl rfl ?_
        refine ab_iload_n d_Lexer_addInt_26 rfl rfl ?_
        refine ab_ishr d_Lexer_addInt_27 ?_
        refine ab_i2b d_Lexer_addInt_28 ?_
        obtain ⟨n8, q9, hG⟩ := ar_s hF; clear hF
        obtain ⟨q10, hF⟩ := ck_s hG; clear hG
        refine hp_bast d_Lexer_addInt_29 tB q9 q10 ?_
        refine hp_gen (fun H11 eH11 => ?_)
        replace hF := bnd_s eH11 hF
        have s_1 : Sa H H11 := by rw [eH11]; exact Sa.rf _
        refine ab_aload_n d_Lexer_addInt_30 rfl rfl rfl ?_
        refine ab_dup d_Lexer_addInt_31 rfl ?_
        refine hp_getI (f := 1) d_Lexer_addInt_32 (by rw [(s_1).1]; exact q2) (by decide) rfl (by decide) (k1 95 rfl rfl) rfl ?_
        refine ab_topi (fun x12 ex12 => ?_)
        replace hF := bnd_s ex12 hF
        refine ab_iconst (v := 1) d_Lexer_addInt_35 (by decide) ?_
        refine ab_iadd d_Lexer_addInt_36 ?_
        refine hp_putI (v := x12 + (1 : Int32)) (f := 1) d_Lexer_addInt_37 (by rw [(s_1).1]; exact q2) (by decide) rfl (by decide) (k1 95 rfl rfl) rfl rfl (fun _ => rfl) (fun _ => rfl) rfl ?_
        refine hp_gen (fun H13 eH13 => ?_)
        replace hF := bnd_s eH13 hF
        have s_2 : Sa H H13 := by rw [eH13]; exact s_1
        exact kB_Lexer_addInt_40 (mB_Lexer_addInt_3 n) ih hF
def F_Lexer_addInt (N : Nat) (p0 : Nat) (p1 : Int32) (H : Hp) : Option (Unit × Hp) :=
    B_Lexer_addInt_3 N p0 p1 N 24 H
set_option maxRecDepth 20000 in
set_option maxHeartbeats 2000000 in
theorem m_Lexer_addInt {N : Nat} {p0 : Nat} {p1 : Int32} {H : Hp} {r : Unit × Hp} (hF : F_Lexer_addInt N p0 p1 H = some r) : Sa H r.2 := by
  unfold F_Lexer_addInt at hF
  have hm := Sa.rf H
  exact hm.tr (mB_Lexer_addInt_3 N 24 H r hF)
set_option maxRecDepth 20000 in
set_option maxHeartbeats 2000000 in
theorem k_Lexer_addInt {N : Nat} {p0 : Nat} {p1 : Int32} {H : Hp} {r : Unit × Hp} (hF : F_Lexer_addInt N p0 p1 H = some r) : ab_M y_Lexer_addInt { frames := 0, cells := 0, slots := 0, locals := 0 } [.ref p0, .int p1] (hpw H) (po (.returned none) r.2) := by
  unfold F_Lexer_addInt at hF
  refine ab_of2 (lv := [some (.ref p0), some (.int p1), none]) 1 rfl rfl (Nat.le_of_ble_eq_true rfl) ?_
  refine ab_bipush (v := 24) d_Lexer_addInt_0 (by decide) ?_
  refine ab_istore_n (lv' := [some (.ref p0), some (.int p1), some (.int 24)]) d_Lexer_addInt_2 rfl (by decide) rfl ?_
  exact kB_Lexer_addInt_3 N 24 H r hF
def y_W_feed : ab_Y := (⟨"WorldEngine", "feed", "(IIIII)Z"⟩, prog_1_method_2_code, 6, (some FieldType.boolean), [])
theorem d_W_feed_0 : decode y_W_feed.2.1 0 = .ok (.aload_n 0, 1) := by decide +kernel
theorem d_W_feed_1 : decode y_W_feed.2.1 1 = .ok (.getfield 10, 3) := by decide +kernel
theorem d_W_feed_4 : decode y_W_feed.2.1 4 = .ok (.bipush 20, 2) := by decide +kernel
theorem d_W_feed_6 : decode y_W_feed.2.1 6 = .ok (.invokevirtual 69, 3) := by decide +kernel
theorem d_W_feed_9 : decode y_W_feed.2.1 9 = .ok (.ifCond .ne 5, 3) := by decide +kernel
theorem d_W_feed_12 : decode y_W_feed.2.1 12 = .ok (.iconst 0, 1) := by decide +kernel
theorem d_W_feed_13 : decode y_W_feed.2.1 13 = .ok (.ireturn, 1) := by decide +kernel
theorem d_W_feed_14 : decode y_W_feed.2.1 14 = .ok (.aload_n 0, 1) := by decide +kernel
theorem d_W_feed_15 : decode y_W_feed.2.1 15 = .ok (.getfield 10, 3) := by decide +kernel
theorem d_W_feed_18 : decode y_W_feed.2.1 18 = .ok (.iload_n 1, 1) := by decide +kernel
theorem d_W_feed_19 : decode y_W_feed.2.1 19 = .ok (.invokevirtual 73, 3) := by decide +kernel
theorem d_W_feed_22 : decode y_W_feed.2.1 22 = .ok (.aload_n 0, 1) := by decide +kernel
theorem d_W_feed_23 : decode y_W_feed.2.1 23 = .ok (.getfield 10, 3) := by decide +kernel
theorem d_W_feed_26 : decode y_W_feed.2.1 26 = .ok (.iload_n 2, 1) := by decide +kernel
theorem d_W_feed_27 : decode y_W_feed.2.1 27 = .ok (.invokevirtual 73, 3) := by decide +kernel
theorem d_W_feed_30 : decode y_W_feed.2.1 30 = .ok (.aload_n 0, 1) := by decide +kernel
theorem d_W_feed_31 : decode y_W_feed.2.1 31 = .ok (.getfield 10, 3) := by decide +kernel
theorem d_W_feed_34 : decode y_W_feed.2.1 34 = .ok (.iload_n 3, 1) := by decide +kernel
theorem d_W_feed_35 : decode y_W_feed.2.1 35 = .ok (.invokevirtual 73, 3) := by decide +kernel
theorem d_W_feed_38 : decode y_W_feed.2.1 38 = .ok (.aload_n 0, 1) := by decide +kernel
theorem d_W_feed_39 : decode y_W_feed.2.1 39 = .ok (.getfield 10, 3) := by decide +kernel
theorem d_W_feed_42 : decode y_W_feed.2.1 42 = .ok (.iload 4, 2) := by decide +kernel
theorem d_W_feed_44 : decode y_W_feed.2.1 44 = .ok (.invokevirtual 73, 3) := by decide +kernel
theorem d_W_feed_47 : decode y_W_feed.2.1 47 = .ok (.aload_n 0, 1) := by decide +kernel
theorem d_W_feed_48 : decode y_W_feed.2.1 48 = .ok (.getfield 10, 3) := by decide +kernel
theorem d_W_feed_51 : decode y_W_feed.2.1 51 = .ok (.iload 5, 2) := by decide +kernel
theorem d_W_feed_53 : decode y_W_feed.2.1 53 = .ok (.invokevirtual 73, 3) := by decide +kernel
theorem d_W_feed_56 : decode y_W_feed.2.1 56 = .ok (.iconst 1, 1) := by decide +kernel
theorem d_W_feed_57 : decode y_W_feed.2.1 57 = .ok (.ireturn, 1) := by decide +kernel
theorem s_W_feed : ab_Stat y_W_feed 5 := ⟨(k3 188 rfl rfl), (k1 1 rfl rfl), ⟨by decide, by decide⟩, by decide +kernel⟩
theorem i_W_feed : Cond.instanceMethod y_W_feed.1 ∈ ab_T := (k3 186 rfl rfl)
theorem v_W_feed : Cond.selects "WorldEngine" y_W_feed.1 y_W_feed.1 ∈ ab_T := (k3 187 rfl rfl)
def F_W_feed (N : Nat) (p0 : Nat) (p1 : Int32) (p2 : Int32) (p3 : Int32) (p4 : Int32) (p5 : Int32) (H : Hp) : Option (Int32 × Hp) :=
    ck (H.sh[p0]? = some (0, 0)) <|
    rf (H.P p0 0) fun a2 =>
    ck (H.sh[a2]? = some (1, 0)) <|
    bC (F_Lexer_hasRoom N a2 (20 : Int32) H) fun v6 H7 =>
    if v6 = (0 : Int32) then
    some (0, H7)
    else
    rf (H7.P p0 0) fun a9 =>
    ck (H7.sh[a9]? = some (1, 0)) <|
    bC (F_Lexer_addInt N a9 p1 H7) fun v13 H14 =>
    rf (H14.P p0 0) fun a15 =>
    ck (H14.sh[a15]? = some (1, 0)) <|
    bC (F_Lexer_addInt N a15 p2 H14) fun v19 H20 =>
    rf (H20.P p0 0) fun a21 =>
    ck (H20.sh[a21]? = some (1, 0)) <|
    bC (F_Lexer_addInt N a21 p3 H20) fun v25 H26 =>
    rf (H26.P p0 0) fun a27 =>
    ck (H26.sh[a27]? = some (1, 0)) <|
    bC (F_Lexer_addInt N a27 p4 H26) fun v31 H32 =>
    rf (H32.P p0 0) fun a33 =>
    ck (H32.sh[a33]? = some (1, 0)) <|
    bC (F_Lexer_addInt N a33 p5 H32) fun v37 H38 =>
    some (1, H38)
set_option maxRecDepth 20000 in
set_option maxHeartbeats 2000000 in
theorem m_W_feed {N : Nat} {p0 : Nat} {p1 : Int32} {p2 : Int32} {p3 : Int32} {p4 : Int32} {p5 : Int32} {H : Hp} {r : Int32 × Hp} (hF : F_W_feed N p0 p1 p2 p3 p4 p5 H = some r) : Sa H r.2 := by
  unfold F_W_feed at hF
  have hm := Sa.rf H
  obtain ⟨q39, hG⟩ := ck_s hF; clear hF
  obtain ⟨a40, e41, hF⟩ := rf_s hG; clear hG
  obtain ⟨q42, hG⟩ := ck_s hF; clear hF
  obtain ⟨v44, H45, z43, hF⟩ := bC_s hG; clear hG
  replace hm : Sa H H45 := hm.tr (m_Lexer_hasRoom z43)
  rcases ite_s hF with ⟨q_8, hG⟩ | ⟨q_8, hG⟩
  · clear hF
    have hr := Option.some.inj hG; subst hr
    exact hm
  · clear hF
    obtain ⟨a47, e48, hF⟩ := rf_s hG; clear hG
    obtain ⟨q49, hG⟩ := ck_s hF; clear hF
    obtain ⟨v51, H52, z50, hF⟩ := bC_s hG; clear hG
    replace hm : Sa H H52 := hm.tr (m_Lexer_addInt z50)
    obtain ⟨a53, e54, hG⟩ := rf_s hF; clear hF
    obtain ⟨q55, hF⟩ := ck_s hG; clear hG
    obtain ⟨v57, H58, z56, hG⟩ := bC_s hF; clear hF
    replace hm : Sa H H58 := hm.tr (m_Lexer_addInt z56)
    obtain ⟨a59, e60, hF⟩ := rf_s hG; clear hG
    obtain ⟨q61, hG⟩ := ck_s hF; clear hF
    obtain ⟨v63, H64, z62, hF⟩ := bC_s hG; clear hG
    replace hm : Sa H H64 := hm.tr (m_Lexer_addInt z62)
    obtain ⟨a65, e66, hG⟩ := rf_s hF; clear hF
    obtain ⟨q67, hF⟩ := ck_s hG; clear hG
    obtain ⟨v69, H70, z68, hG⟩ := bC_s hF; clear hF
    replace hm : Sa H H70 := hm.tr (m_Lexer_addInt z68)
    obtain ⟨a71, e72, hF⟩ := rf_s hG; clear hG
    obtain ⟨q73, hG⟩ := ck_s hF; clear hF
    obtain ⟨v75, H76, z74, hF⟩ := bC_s hG; clear hG
    replace hm : Sa H H76 := hm.tr (m_Lexer_addInt z74)
    have hr := Option.some.inj hF; subst hr
    exact hm
set_option maxRecDepth 20000 in
set_option maxHeartbeats 2000000 in
theorem k_W_feed {N : Nat} {p0 : Nat} {p1 : Int32} {p2 : Int32} {p3 : Int32} {p4 : Int32} {p5 : Int32} {H : Hp} {r : Int32 × Hp} (hF : F_W_feed N p0 p1 p2 p3 p4 p5 H = some r) : ab_M y_W_feed { frames := 1, cells := 0, slots := 0, locals := 22 } [.ref p0, .int p1, .int p2, .int p3, .int p4, .int p5] (hpw H) (po (.returned (some (.int r.1))) r.2) := by
  unfold F_W_feed at hF
  refine ab_of2 (lv := [some (.ref p0), some (.int p1), some (.int p2), some (.int p3), some (.int p4), some (.int p5)]) 0 rfl rfl (Nat.le_of_ble_eq_true rfl) ?_
  refine ab_aload_n d_W_feed_0 rfl rfl rfl ?_
  obtain ⟨q1, hG⟩ := ck_s hF; clear hF
  obtain ⟨a2, e3, hF⟩ := rf_s hG; clear hG
  refine hp_getR (f := 0) d_W_feed_1 q1 (by decide) rfl (by decide) (k3 157 rfl rfl) rfl e3 ?_
  refine ab_bipush (v := 20) d_W_feed_4 (by decide) ?_
  obtain ⟨q4, hG⟩ := ck_s hF; clear hF
  obtain ⟨v6, H7, z5, hF⟩ := bC_s hG; clear hG
  refine hp_callV_a (v := .int v6) (H1 := H7) (As := [.int 20]) (rest := []) d_W_feed_6 (k_Lexer_hasRoom z5) (ab_mkC s_Lexer_hasRoom (Nat.le_of_ble_eq_true rfl) (Nat.le_of_ble_eq_true rfl) (Nat.le_refl 0) (Nat.le_refl 0)) (k3 189 rfl rfl) i_Lexer_hasRoom v_Lexer_hasRoom q4 (by decide) rfl rfl (Nat.le_of_ble_eq_true rfl) ?_
  have s_1 : Sa H H7 := (m_Lexer_hasRoom z5)
  refine ab_if_ne (tgt := 14) d_W_feed_9 (by decide) (fun q8 => ?_) (fun q8 => ?_)
  · rw [if_neg q8] at hF
    refine ab_aload_n d_W_feed_14 rfl rfl rfl ?_
    obtain ⟨a9, e10, hG⟩ := rf_s hF; clear hF
    refine hp_getR (f := 0) d_W_feed_15 (by rw [(s_1).1]; exact q1) (by decide) rfl (by decide) (k3 157 rfl rfl) rfl e10 ?_
    refine ab_iload_n d_W_feed_18 rfl rfl ?_
    obtain ⟨q11, hF⟩ := ck_s hG; clear hG
    rw [(s_1).1] at q11
    obtain ⟨v13, H14, z12, hG⟩ := bC_s hF; clear hF
    refine hp_callV_v (H1 := H14) (As := [.int p1]) (rest := []) d_W_feed_19 (k_Lexer_addInt z12) (ab_mkC s_Lexer_addInt (Nat.le_of_ble_eq_true rfl) (Nat.le_of_ble_eq_true rfl) (Nat.le_refl 0) (Nat.le_refl 0)) (k3 193 rfl rfl) i_Lexer_addInt v_Lexer_addInt (by rw [(s_1).1]; exact q11) (by decide) rfl rfl (Nat.le_of_ble_eq_true rfl) ?_
    have s_2 : Sa H H14 := (s_1).tr (m_Lexer_addInt z12)
    refine ab_aload_n d_W_feed_22 rfl rfl rfl ?_
    obtain ⟨a15, e16, hF⟩ := rf_s hG; clear hG
    refine hp_getR (f := 0) d_W_feed_23 (by rw [(s_2).1]; exact q1) (by decide) rfl (by decide) (k3 157 rfl rfl) rfl e16 ?_
    refine ab_iload_n d_W_feed_26 rfl rfl ?_
    obtain ⟨q17, hG⟩ := ck_s hF; clear hF
    rw [(s_2).1] at q17
    obtain ⟨v19, H20, z18, hF⟩ := bC_s hG; clear hG
    refine hp_callV_v (H1 := H20) (As := [.int p2]) (rest := []) d_W_feed_27 (k_Lexer_addInt z18) (ab_mkC s_Lexer_addInt (Nat.le_of_ble_eq_true rfl) (Nat.le_of_ble_eq_true rfl) (Nat.le_refl 0) (Nat.le_refl 0)) (k3 193 rfl rfl) i_Lexer_addInt v_Lexer_addInt (by rw [(s_2).1]; exact q17) (by decide) rfl rfl (Nat.le_of_ble_eq_true rfl) ?_
    have s_3 : Sa H H20 := (s_2).tr (m_Lexer_addInt z18)
    refine ab_aload_n d_W_feed_30 rfl rfl rfl ?_
    obtain ⟨a21, e22, hG⟩ := rf_s hF; clear hF
    refine hp_getR (f := 0) d_W_feed_31 (by rw [(s_3).1]; exact q1) (by decide) rfl (by decide) (k3 157 rfl rfl) rfl e22 ?_
    refine ab_iload_n d_W_feed_34 rfl rfl ?_
    obtain ⟨q23, hF⟩ := ck_s hG; clear hG
    rw [(s_3).1] at q23
    obtain ⟨v25, H26, z24, hG⟩ := bC_s hF; clear hF
    refine hp_callV_v (H1 := H26) (As := [.int p3]) (rest := []) d_W_feed_35 (k_Lexer_addInt z24) (ab_mkC s_Lexer_addInt (Nat.le_of_ble_eq_true rfl) (Nat.le_of_ble_eq_true rfl) (Nat.le_refl 0) (Nat.le_refl 0)) (k3 193 rfl rfl) i_Lexer_addInt v_Lexer_addInt (by rw [(s_3).1]; exact q23) (by decide) rfl rfl (Nat.le_of_ble_eq_true rfl) ?_
    have s_4 : Sa H H26 := (s_3).tr (m_Lexer_addInt z24)
    refine ab_aload_n d_W_feed_38 rfl rfl rfl ?_
    obtain ⟨a27, e28, hF⟩ := rf_s hG; clear hG
    refine hp_getR (f := 0) d_W_feed_39 (by rw [(s_4).1]; exact q1) (by decide) rfl (by decide) (k3 157 rfl rfl) rfl e28 ?_
    refine ab_iload d_W_feed_42 rfl ?_
    obtain ⟨q29, hG⟩ := ck_s hF; clear hF
    rw [(s_4).1] at q29
    obtain ⟨v31, H32, z30, hF⟩ := bC_s hG; clear hG
    refine hp_callV_v (H1 := H32) (As := [.int p4]) (rest := []) d_W_feed_44 (k_Lexer_addInt z30) (ab_mkC s_Lexer_addInt (Nat.le_of_ble_eq_true rfl) (Nat.le_of_ble_eq_true rfl) (Nat.le_refl 0) (Nat.le_refl 0)) (k3 193 rfl rfl) i_Lexer_addInt v_Lexer_addInt (by rw [(s_4).1]; exact q29) (by decide) rfl rfl (Nat.le_of_ble_eq_true rfl) ?_
    have s_5 : Sa H H32 := (s_4).tr (m_Lexer_addInt z30)
    refine ab_aload_n d_W_feed_47 rfl rfl rfl ?_
    obtain ⟨a33, e34, hG⟩ := rf_s hF; clear hF
    refine hp_getR (f := 0) d_W_feed_48 (by rw [(s_5).1]; exact q1) (by decide) rfl (by decide) (k3 157 rfl rfl) rfl e34 ?_
    refine ab_iload d_W_feed_51 rfl ?_
    obtain ⟨q35, hF⟩ := ck_s hG; clear hG
    rw [(s_5).1] at q35
    obtain ⟨v37, H38, z36, hG⟩ := bC_s hF; clear hF
    refine hp_callV_v (H1 := H38) (As := [.int p5]) (rest := []) d_W_feed_53 (k_Lexer_addInt z36) (ab_mkC s_Lexer_addInt (Nat.le_of_ble_eq_true rfl) (Nat.le_of_ble_eq_true rfl) (Nat.le_refl 0) (Nat.le_refl 0)) (k3 193 rfl rfl) i_Lexer_addInt v_Lexer_addInt (by rw [(s_5).1]; exact q35) (by decide) rfl rfl (Nat.le_of_ble_eq_true rfl) ?_
    have s_6 : Sa H H38 := (s_5).tr (m_Lexer_addInt z36)
    refine ab_iconst (v := 1) d_W_feed_56 (by decide) ?_
    exact ab_zret d_W_feed_57 rfl rfl (Nat.le_refl _) (Nat.le_refl _) (by have hr := Option.some.inj hG; subst hr; exact ⟨rfl, rfl⟩)
  · rw [if_pos q8] at hF
    refine ab_iconst (v := 0) d_W_feed_12 (by decide) ?_
    exact ab_zret d_W_feed_13 rfl rfl (Nat.le_refl _) (Nat.le_refl _) (by have hr := Option.some.inj hF; subst hr; exact ⟨rfl, rfl⟩)
def y_W_end : ab_Y := (⟨"WorldEngine", "end", "(I)Z"⟩, prog_1_method_3_code, 2, (some FieldType.boolean), [])
theorem d_W_end_0 : decode y_W_end.2.1 0 = .ok (.iload_n 1, 1) := by decide +kernel
theorem d_W_end_1 : decode y_W_end.2.1 1 = .ok (.ifCond .lt 14, 3) := by decide +kernel
theorem d_W_end_4 : decode y_W_end.2.1 4 = .ok (.iload_n 1, 1) := by decide +kernel
theorem d_W_end_5 : decode y_W_end.2.1 5 = .ok (.aload_n 0, 1) := by decide +kernel
theorem d_W_end_6 : decode y_W_end.2.1 6 = .ok (.getfield 10, 3) := by decide +kernel
theorem d_W_end_9 : decode y_W_end.2.1 9 = .ok (.getfield 77, 3) := by decide +kernel
theorem d_W_end_12 : decode y_W_end.2.1 12 = .ok (.if_icmp .le 5, 3) := by decide +kernel
theorem d_W_end_15 : decode y_W_end.2.1 15 = .ok (.iconst 0, 1) := by decide +kernel
theorem d_W_end_16 : decode y_W_end.2.1 16 = .ok (.ireturn, 1) := by decide +kernel
theorem d_W_end_17 : decode y_W_end.2.1 17 = .ok (.aload_n 0, 1) := by decide +kernel
theorem d_W_end_18 : decode y_W_end.2.1 18 = .ok (.getfield 10, 3) := by decide +kernel
theorem d_W_end_21 : decode y_W_end.2.1 21 = .ok (.iload_n 1, 1) := by decide +kernel
theorem d_W_end_22 : decode y_W_end.2.1 22 = .ok (.putfield 77, 3) := by decide +kernel
theorem d_W_end_25 : decode y_W_end.2.1 25 = .ok (.iconst 1, 1) := by decide +kernel
theorem d_W_end_26 : decode y_W_end.2.1 26 = .ok (.ireturn, 1) := by decide +kernel
theorem s_W_end : ab_Stat y_W_end 1 := ⟨(k3 200 rfl rfl), (k1 1 rfl rfl), ⟨by decide, by decide⟩, by decide +kernel⟩
theorem i_W_end : Cond.instanceMethod y_W_end.1 ∈ ab_T := (k3 198 rfl rfl)
theorem v_W_end : Cond.selects "WorldEngine" y_W_end.1 y_W_end.1 ∈ ab_T := (k3 199 rfl rfl)
def F_W_end (N : Nat) (p0 : Nat) (p1 : Int32) (H : Hp) : Option (Int32 × Hp) :=
    if p1 < (0 : Int32) then
    some (0, H)
    else
    ck (H.sh[p0]? = some (0, 0)) <|
    rf (H.P p0 0) fun a3 =>
    ck (H.sh[a3]? = some (1, 0)) <|
    bnd ((H.D a3 1)) fun x6 =>
    if p1 ≤ x6 then
    rf (H.P p0 0) fun a8 =>
    ck (H.sh[a8]? = some (1, 0)) <|
    bnd (H.sD a8 1 p1) fun H11 =>
    some (1, H11)
    else
    some (0, H)
set_option maxRecDepth 20000 in
set_option maxHeartbeats 2000000 in
theorem m_W_end {N : Nat} {p0 : Nat} {p1 : Int32} {H : Hp} {r : Int32 × Hp} (hF : F_W_end N p0 p1 H = some r) : Sa H r.2 := by
  unfold F_W_end at hF
  have hm := Sa.rf H
  rcases ite_s hF with ⟨q_2, hG⟩ | ⟨q_2, hG⟩
  · clear hF
    have hr := Option.some.inj hG; subst hr
    exact hm
  · clear hF
    obtain ⟨q13, hF⟩ := ck_s hG; clear hG
    obtain ⟨a14, e15, hG⟩ := rf_s hF; clear hF
    obtain ⟨q16, hF⟩ := ck_s hG; clear hG
    obtain ⟨x17, -, hG⟩ := bnd_g hF; clear hF
    rcases ite_s hG with ⟨q_3, hF⟩ | ⟨q_3, hF⟩
    · clear hG
      obtain ⟨a19, e20, hG⟩ := rf_s hF; clear hF
      obtain ⟨q21, hF⟩ := ck_s hG; clear hG
      obtain ⟨H22, eH22, hG⟩ := bnd_g hF; clear hF
      replace hm : Sa H H22 := by rw [eH22]; exact hm
      have hr := Option.some.inj hG; subst hr
      exact hm
    · clear hG
      have hr := Option.some.inj hF; subst hr
      exact hm
set_option maxRecDepth 20000 in
set_option maxHeartbeats 2000000 in
theorem k_W_end {N : Nat} {p0 : Nat} {p1 : Int32} {H : Hp} {r : Int32 × Hp} (hF : F_W_end N p0 p1 H = some r) : ab_M y_W_end { frames := 0, cells := 0, slots := 0, locals := 0 } [.ref p0, .int p1] (hpw H) (po (.returned (some (.int r.1))) r.2) := by
  unfold F_W_end at hF
  refine ab_of2 (lv := [some (.ref p0), some (.int p1)]) 0 rfl rfl (Nat.le_of_ble_eq_true rfl) ?_
  refine ab_iload_n d_W_end_0 rfl rfl ?_
  refine ab_if_lt (tgt := 15) d_W_end_1 (by decide) (fun q1 => ?_) (fun q1 => ?_)
  · rw [if_pos q1] at hF
    refine ab_iconst (v := 0) d_W_end_15 (by decide) ?_
    exact ab_zret d_W_end_16 rfl rfl (Nat.le_refl _) (Nat.le_refl _) (by have hr := Option.some.inj hF; subst hr; exact ⟨rfl, rfl⟩)
  · rw [if_neg q1] at hF
    refine ab_iload_n d_W_end_4 rfl rfl ?_
    refine ab_aload_n d_W_end_5 rfl rfl rfl ?_
    obtain ⟨q2, hG⟩ := ck_s hF; clear hF
    obtain ⟨a3, e4, hF⟩ := rf_s hG; clear hG
    refine hp_getR (f := 0) d_W_end_6 q2 (by decide) rfl (by decide) (k3 157 rfl rfl) rfl e4 ?_
    obtain ⟨q5, hG⟩ := ck_s hF; clear hF
    refine hp_getI (f := 1) d_W_end_9 q5 (by decide) rfl (by decide) (k1 97 rfl rfl) rfl ?_
    refine ab_topi (fun x6 ex6 => ?_)
    replace hG := bnd_s ex6 hG
    refine ab_icmp_le (tgt := 17) d_W_end_12 (by decide) (fun q7 => ?_) (fun q7 => ?_)
    · rw [if_pos q7] at hG
      refine ab_aload_n d_W_end_17 rfl rfl rfl ?_
      obtain ⟨a8, e9, hF⟩ := rf_s hG; clear hG
      refine hp_getR (f := 0) d_W_end_18 q2 (by decide) rfl (by decide) (k3 157 rfl rfl) rfl e9 ?_
      refine ab_iload_n d_W_end_21 rfl rfl ?_
      obtain ⟨q10, hG⟩ := ck_s hF; clear hF
      refine hp_putI (v := p1) (f := 1) d_W_end_22 q10 (by decide) rfl (by decide) (k1 97 rfl rfl) rfl rfl (fun _ => rfl) (fun _ => rfl) rfl ?_
      refine hp_gen (fun H11 eH11 => ?_)
      replace hG := bnd_s eH11 hG
      have s_1 : Sa H H11 := by rw [eH11]; exact Sa.rf _
      refine ab_iconst (v := 1) d_W_end_25 (by decide) ?_
      exact ab_zret d_W_end_26 rfl rfl (Nat.le_refl _) (Nat.le_refl _) (by have hr := Option.some.inj hG; subst hr; exact ⟨rfl, rfl⟩)
    · rw [if_neg q7] at hG
      refine ab_iconst (v := 0) d_W_end_15 (by decide) ?_
      exact ab_zret d_W_end_16 rfl rfl (Nat.le_refl _) (Nat.le_refl _) (by have hr := Option.some.inj hG; subst hr; exact ⟨rfl, rfl⟩)
def y_Shapes_clear : ab_Y := (⟨"WorldEngine$Shapes", "clear", "()V"⟩, prog_9_method_2_code, 1, none, [])
theorem d_Shapes_clear_0 : decode y_Shapes_clear.2.1 0 = .ok (.aload_n 0, 1) := by decide +kernel
theorem d_Shapes_clear_1 : decode y_Shapes_clear.2.1 1 = .ok (.iconst 0, 1) := by decide +kernel
theorem d_Shapes_clear_2 : decode y_Shapes_clear.2.1 2 = .ok (.putfield 32, 3) := by decide +kernel
theorem d_Shapes_clear_5 : decode y_Shapes_clear.2.1 5 = .ok (.aload_n 0, 1) := by decide +kernel
theorem d_Shapes_clear_6 : decode y_Shapes_clear.2.1 6 = .ok (.getfield 28, 3) := by decide +kernel
theorem d_Shapes_clear_9 : decode y_Shapes_clear.2.1 9 = .ok (.iconst 0, 1) := by decide +kernel
theorem d_Shapes_clear_10 : decode y_Shapes_clear.2.1 10 = .ok (.iconst 0, 1) := by decide +kernel
theorem d_Shapes_clear_11 : decode y_Shapes_clear.2.1 11 = .ok (.iastore, 1) := by decide +kernel
theorem d_Shapes_clear_12 : decode y_Shapes_clear.2.1 12 = .ok (.return_, 1) := by decide +kernel
theorem s_Shapes_clear : ab_Stat y_Shapes_clear 0 := ⟨(k3 217 rfl rfl), (k1 18 rfl rfl), ⟨by decide, by decide⟩, by decide +kernel⟩
theorem i_Shapes_clear : Cond.instanceMethod y_Shapes_clear.1 ∈ ab_T := (k3 215 rfl rfl)
theorem v_Shapes_clear : Cond.selects "WorldEngine$Shapes" y_Shapes_clear.1 y_Shapes_clear.1 ∈ ab_T := (k3 216 rfl rfl)
def F_Shapes_clear (N : Nat) (p0 : Nat) (H : Hp) : Option (Unit × Hp) :=
    ck (H.sh[p0]? = some (3, 0)) <|
    bnd (H.sD p0 3 (0 : Int32)) fun H2 =>
    rf (H2.P p0 2) fun a3 =>
    ar H2 100 a3 fun n5 =>
    ck (inb (0 : Int32) n5) <|
    bnd (H2.sD a3 ((0 : Int32)).toNatClampNeg (0 : Int32)) fun H8 =>
    some ((), H8)
set_option maxRecDepth 20000 in
set_option maxHeartbeats 2000000 in
theorem m_Shapes_clear {N : Nat} {p0 : Nat} {H : Hp} {r : Unit × Hp} (hF : F_Shapes_clear N p0 H = some r) : Sa H r.2 := by
  unfold F_Shapes_clear at hF
  have hm := Sa.rf H
  obtain ⟨q9, hG⟩ := ck_s hF; clear hF
  obtain ⟨H10, eH10, hF⟩ := bnd_g hG; clear hG
  replace hm : Sa H H10 := by rw [eH10]; exact hm
  obtain ⟨a11, e12, hG⟩ := rf_s hF; clear hF
  obtain ⟨n13, q14, hF⟩ := ar_s hG; clear hG
  obtain ⟨q15, hG⟩ := ck_s hF; clear hF
  obtain ⟨H16, eH16, hF⟩ := bnd_g hG; clear hG
  replace hm : Sa H H16 := by rw [eH16]; exact hm
  have hr := Option.some.inj hF; subst hr
  exact hm
set_option maxRecDepth 20000 in
set_option maxHeartbeats 2000000 in
theorem k_Shapes_clear {N : Nat} {p0 : Nat} {H : Hp} {r : Unit × Hp} (hF : F_Shapes_clear N p0 H = some r) : ab_M y_Shapes_clear { frames := 0, cells := 0, slots := 0, locals := 0 } [.ref p0] (hpw H) (po (.returned none) r.2) := by
  unfold F_Shapes_clear at hF
  refine ab_of2 (lv := [some (.ref p0)]) 0 rfl rfl (Nat.le_of_ble_eq_true rfl) ?_
  refine ab_aload_n d_Shapes_clear_0 rfl rfl rfl ?_
  refine ab_iconst (v := 0) d_Shapes_clear_1 (by decide) ?_
  obtain ⟨q1, hG⟩ := ck_s hF; clear hF
  refine hp_putI (v := 0) (f := 3) d_Shapes_clear_2 q1 (by decide) rfl (by decide) (k3 39 rfl rfl) rfl rfl (fun _ => rfl) (fun _ => rfl) rfl ?_
  refine hp_gen (fun H2 eH2 => ?_)
  replace hG := bnd_s eH2 hG
  have s_1 : Sa H H2 := by rw [eH2]; exact Sa.rf _
  refine ab_aload_n d_Shapes_clear_5 rfl rfl rfl ?_
  obtain ⟨a3, e4, hF⟩ := rf_s hG; clear hG
  refine hp_getR (f := 2) d_Shapes_clear_6 (by rw [(s_1).1]; exact q1) (by decide) rfl (by decide) (k3 32 rfl rfl) rfl e4 ?_
  refine ab_iconst (v := 0) d_Shapes_clear_9 (by decide) ?_
  refine ab_iconst (v := 0) d_Shapes_clear_10 (by decide) ?_
  obtain ⟨n5, q6, hG⟩ := ar_s hF; clear hF
  rw [(s_1).1] at q6
  obtain ⟨q7, hF⟩ := ck_s hG; clear hG
  refine hp_iast d_Shapes_clear_11 tI (by rw [(s_1).1]; exact q6) q7 ?_
  refine hp_gen (fun H8 eH8 => ?_)
  replace hF := bnd_s eH8 hF
  have s_2 : Sa H H8 := by rw [eH8]; exact s_1
  exact ab_vret d_Shapes_clear_12 rfl (Nat.le_refl _) (Nat.le_refl _) (by have hr := Option.some.inj hF; subst hr; exact ⟨rfl, rfl⟩)
def y_Program_clear : ab_Y := (⟨"WorldEngine$Program", "clear", "()V"⟩, prog_6_method_2_code, 1, none, [])
theorem d_Program_clear_0 : decode y_Program_clear.2.1 0 = .ok (.aload_n 0, 1) := by decide +kernel
theorem d_Program_clear_1 : decode y_Program_clear.2.1 1 = .ok (.iconst 0, 1) := by decide +kernel
theorem d_Program_clear_2 : decode y_Program_clear.2.1 2 = .ok (.putfield 62, 3) := by decide +kernel
theorem d_Program_clear_5 : decode y_Program_clear.2.1 5 = .ok (.aload_n 0, 1) := by decide +kernel
theorem d_Program_clear_6 : decode y_Program_clear.2.1 6 = .ok (.getfield 24, 3) := by decide +kernel
theorem d_Program_clear_9 : decode y_Program_clear.2.1 9 = .ok (.invokevirtual 66, 3) := by decide +kernel
theorem d_Program_clear_12 : decode y_Program_clear.2.1 12 = .ok (.aload_n 0, 1) := by decide +kernel
theorem d_Program_clear_13 : decode y_Program_clear.2.1 13 = .ok (.getfield 28, 3) := by decide +kernel
theorem d_Program_clear_16 : decode y_Program_clear.2.1 16 = .ok (.invokevirtual 66, 3) := by decide +kernel
theorem d_Program_clear_19 : decode y_Program_clear.2.1 19 = .ok (.aload_n 0, 1) := by decide +kernel
theorem d_Program_clear_20 : decode y_Program_clear.2.1 20 = .ok (.iconst 0, 1) := by decide +kernel
theorem d_Program_clear_21 : decode y_Program_clear.2.1 21 = .ok (.putfield 69, 3) := by decide +kernel
theorem d_Program_clear_24 : decode y_Program_clear.2.1 24 = .ok (.aload_n 0, 1) := by decide +kernel
theorem d_Program_clear_25 : decode y_Program_clear.2.1 25 = .ok (.iconst 0, 1) := by decide +kernel
theorem d_Program_clear_26 : decode y_Program_clear.2.1 26 = .ok (.putfield 72, 3) := by decide +kernel
theorem d_Program_clear_29 : decode y_Program_clear.2.1 29 = .ok (.aload_n 0, 1) := by decide +kernel
theorem d_Program_clear_30 : decode y_Program_clear.2.1 30 = .ok (.iconst 0, 1) := by decide +kernel
theorem d_Program_clear_31 : decode y_Program_clear.2.1 31 = .ok (.putfield 75, 3) := by decide +kernel
theorem d_Program_clear_34 : decode y_Program_clear.2.1 34 = .ok (.aload_n 0, 1) := by decide +kernel
theorem d_Program_clear_35 : decode y_Program_clear.2.1 35 = .ok (.iconst 0, 1) := by decide +kernel
theorem d_Program_clear_36 : decode y_Program_clear.2.1 36 = .ok (.putfield 78, 3) := by decide +kernel
theorem d_Program_clear_39 : decode y_Program_clear.2.1 39 = .ok (.return_, 1) := by decide +kernel
theorem s_Program_clear : ab_Stat y_Program_clear 0 := ⟨(k3 213 rfl rfl), (k1 15 rfl rfl), ⟨by decide, by decide⟩, by decide +kernel⟩
theorem i_Program_clear : Cond.instanceMethod y_Program_clear.1 ∈ ab_T := (k3 211 rfl rfl)
theorem v_Program_clear : Cond.selects "WorldEngine$Program" y_Program_clear.1 y_Program_clear.1 ∈ ab_T := (k3 212 rfl rfl)
def F_Program_clear (N : Nat) (p0 : Nat) (H : Hp) : Option (Unit × Hp) :=
    ck (H.sh[p0]? = some (4, 0)) <|
    bnd (H.sD p0 1 (0 : Int32)) fun H2 =>
    rf (H2.P p0 2) fun a3 =>
    ck (H2.sh[a3]? = some (3, 0)) <|
    bC (F_Shapes_clear N a3 H2) fun v7 H8 =>
    rf (H8.P p0 3) fun a9 =>
    ck (H8.sh[a9]? = some (3, 0)) <|
    bC (F_Shapes_clear N a9 H8) fun v13 H14 =>
    bnd (H14.sD p0 4 (0 : Int32)) fun H15 =>
    bnd (H15.sD p0 7 (0 : Int32)) fun H16 =>
    bnd (H16.sD p0 15 (0 : Int32)) fun H17 =>
    bnd (H17.sD p0 17 (0 : Int32)) fun H18 =>
    some ((), H18)
set_option maxRecDepth 20000 in
set_option maxHeartbeats 2000000 in
theorem m_Program_clear {N : Nat} {p0 : Nat} {H : Hp} {r : Unit × Hp} (hF : F_Program_clear N p0 H = some r) : Sa H r.2 := by
  unfold F_Program_clear at hF
  have hm := Sa.rf H
  obtain ⟨q19, hG⟩ := ck_s hF; clear hF
  obtain ⟨H20, eH20, hF⟩ := bnd_g hG; clear hG
  replace hm : Sa H H20 := by rw [eH20]; exact hm
  obtain ⟨a21, e22, hG⟩ := rf_s hF; clear hF
  obtain ⟨q23, hF⟩ := ck_s hG; clear hG
  obtain ⟨v25, H26, z24, hG⟩ := bC_s hF; clear hF
  replace hm : Sa H H26 := hm.tr (m_Shapes_clear z24)
  obtain ⟨a27, e28, hF⟩ := rf_s hG; clear hG
  obtain ⟨q29, hG⟩ := ck_s hF; clear hF
  obtain ⟨v31, H32, z30, hF⟩ := bC_s hG; clear hG
  replace hm : Sa H H32 := hm.tr (m_Shapes_clear z30)
  obtain ⟨H33, eH33, hG⟩ := bnd_g hF; clear hF
  replace hm : Sa H H33 := by rw [eH33]; exact hm
  obtain ⟨H34, eH34, hF⟩ := bnd_g hG; clear hG
  replace hm : Sa H H34 := by rw [eH34]; exact hm
  obtain ⟨H35, eH35, hG⟩ := bnd_g hF; clear hF
  replace hm : Sa H H35 := by rw [eH35]; exact hm
  obtain ⟨H36, eH36, hF⟩ := bnd_g hG; clear hG
  replace hm : Sa H H36 := by rw [eH36]; exact hm
  have hr := Option.some.inj hF; subst hr
  exact hm
set_option maxRecDepth 20000 in
set_option maxHeartbeats 2000000 in
theorem k_Program_clear {N : Nat} {p0 : Nat} {H : Hp} {r : Unit × Hp} (hF : F_Program_clear N p0 H = some r) : ab_M y_Program_clear { frames := 1, cells := 0, slots := 0, locals := 20 } [.ref p0] (hpw H) (po (.returned none) r.2) := by
  unfold F_Program_clear at hF
  refine ab_of2 (lv := [some (.ref p0)]) 0 rfl rfl (Nat.le_of_ble_eq_true rfl) ?_
  refine ab_aload_n d_Program_clear_0 rfl rfl rfl ?_
  refine ab_iconst (v := 0) d_Program_clear_1 (by decide) ?_
  obtain ⟨q1, hG⟩ := ck_s hF; clear hF
  refine hp_putI (v := 0) (f := 1) d_Program_clear_2 q1 (by decide) rfl (by decide) (k3 54 rfl rfl) rfl rfl (fun _ => rfl) (fun _ => rfl) rfl ?_
  refine hp_gen (fun H2 eH2 => ?_)
  replace hG := bnd_s eH2 hG
  have s_1 : Sa H H2 := by rw [eH2]; exact Sa.rf _
  refine ab_aload_n d_Program_clear_5 rfl rfl rfl ?_
  obtain ⟨a3, e4, hF⟩ := rf_s hG; clear hG
  refine hp_getR (f := 2) d_Program_clear_6 (by rw [(s_1).1]; exact q1) (by decide) rfl (by decide) (k3 55 rfl rfl) rfl e4 ?_
  obtain ⟨q5, hG⟩ := ck_s hF; clear hF
  rw [(s_1).1] at q5
  obtain ⟨v7, H8, z6, hF⟩ := bC_s hG; clear hG
  refine hp_callV_v (H1 := H8) (As := []) (rest := []) d_Program_clear_9 (k_Shapes_clear z6) (ab_mkC s_Shapes_clear (Nat.le_of_ble_eq_true rfl) (Nat.le_of_ble_eq_true rfl) (Nat.le_refl 0) (Nat.le_refl 0)) (k3 214 rfl rfl) i_Shapes_clear v_Shapes_clear (by rw [(s_1).1]; exact q5) (by decide) rfl rfl (Nat.le_of_ble_eq_true rfl) ?_
  have s_2 : Sa H H8 := (s_1).tr (m_Shapes_clear z6)
  refine ab_aload_n d_Program_clear_12 rfl rfl rfl ?_
  obtain ⟨a9, e10, hG⟩ := rf_s hF; clear hF
  refine hp_getR (f := 3) d_Program_clear_13 (by rw [(s_2).1]; exact q1) (by decide) rfl (by decide) (k3 62 rfl rfl) rfl e10 ?_
  obtain ⟨q11, hF⟩ := ck_s hG; clear hG
  rw [(s_2).1] at q11
  obtain ⟨v13, H14, z12, hG⟩ := bC_s hF; clear hF
  refine hp_callV_v (H1 := H14) (As := []) (rest := []) d_Program_clear_16 (k_Shapes_clear z12) (ab_mkC s_Shapes_clear (Nat.le_of_ble_eq_true rfl) (Nat.le_of_ble_eq_true rfl) (Nat.le_refl 0) (Nat.le_refl 0)) (k3 214 rfl rfl) i_Shapes_clear v_Shapes_clear (by rw [(s_2).1]; exact q11) (by decide) rfl rfl (Nat.le_of_ble_eq_true rfl) ?_
  have s_3 : Sa H H14 := (s_2).tr (m_Shapes_clear z12)
  refine ab_aload_n d_Program_clear_19 rfl rfl rfl ?_
  refine ab_iconst (v := 0) d_Program_clear_20 (by decide) ?_
  refine hp_putI (v := 0) (f := 4) d_Program_clear_21 (by rw [(s_3).1]; exact q1) (by decide) rfl (by decide) (k3 69 rfl rfl) rfl rfl (fun _ => rfl) (fun _ => rfl) rfl ?_
  refine hp_gen (fun H15 eH15 => ?_)
  replace hG := bnd_s eH15 hG
  have s_4 : Sa H H15 := by rw [eH15]; exact s_3
  refine ab_aload_n d_Program_clear_24 rfl rfl rfl ?_
  refine ab_iconst (v := 0) d_Program_clear_25 (by decide) ?_
  refine hp_putI (v := 0) (f := 7) d_Program_clear_26 (by rw [(s_4).1]; exact q1) (by decide) rfl (by decide) (k3 80 rfl rfl) rfl rfl (fun _ => rfl) (fun _ => rfl) rfl ?_
  refine hp_gen (fun H16 eH16 => ?_)
  replace hG := bnd_s eH16 hG
  have s_5 : Sa H H16 := by rw [eH16]; exact s_4
  refine ab_aload_n d_Program_clear_29 rfl rfl rfl ?_
  refine ab_iconst (v := 0) d_Program_clear_30 (by decide) ?_
  refine hp_putI (v := 0) (f := 15) d_Program_clear_31 (by rw [(s_5).1]; exact q1) (by decide) rfl (by decide) (k3 107 rfl rfl) rfl rfl (fun _ => rfl) (fun _ => rfl) rfl ?_
  refine hp_gen (fun H17 eH17 => ?_)
  replace hG := bnd_s eH17 hG
  have s_6 : Sa H H17 := by rw [eH17]; exact s_5
  refine ab_aload_n d_Program_clear_34 rfl rfl rfl ?_
  refine ab_iconst (v := 0) d_Program_clear_35 (by decide) ?_
  refine hp_putI (v := 0) (f := 17) d_Program_clear_36 (by rw [(s_6).1]; exact q1) (by decide) rfl (by decide) (k3 112 rfl rfl) rfl rfl (fun _ => rfl) (fun _ => rfl) rfl ?_
  refine hp_gen (fun H18 eH18 => ?_)
  replace hG := bnd_s eH18 hG
  have s_7 : Sa H H18 := by rw [eH18]; exact s_6
  exact ab_vret d_Program_clear_39 rfl (Nat.le_refl _) (Nat.le_refl _) (by have hr := Option.some.inj hG; subst hr; exact ⟨rfl, rfl⟩)
