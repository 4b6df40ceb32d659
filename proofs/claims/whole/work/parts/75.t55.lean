def y_MText_hears : ab_Y := (⟨"WorldEngineModel$Text", "hears", "()V"⟩, prog_16_method_54_code, 3, none, [])
theorem d_MText_hears_0 : decode y_MText_hears.2.1 0 = .ok (.aload_n 0, 1) := by decide +kernel
theorem d_MText_hears_1 : decode y_MText_hears.2.1 1 = .ok (.aload_n 0, 1) := by decide +kernel
theorem d_MText_hears_2 : decode y_MText_hears.2.1 2 = .ok (.invokevirtual 240, 3) := by decide +kernel
theorem d_MText_hears_5 : decode y_MText_hears.2.1 5 = .ok (.iconst 3, 1) := by decide +kernel
theorem d_MText_hears_6 : decode y_MText_hears.2.1 6 = .ok (.invokevirtual 290, 3) := by decide +kernel
theorem d_MText_hears_9 : decode y_MText_hears.2.1 9 = .ok (.istore_n 1, 1) := by decide +kernel
theorem d_MText_hears_10 : decode y_MText_hears.2.1 10 = .ok (.aload_n 0, 1) := by decide +kernel
theorem d_MText_hears_11 : decode y_MText_hears.2.1 11 = .ok (.getfield 296, 3) := by decide +kernel
theorem d_MText_hears_14 : decode y_MText_hears.2.1 14 = .ok (.istore_n 2, 1) := by decide +kernel
theorem d_MText_hears_15 : decode y_MText_hears.2.1 15 = .ok (.aload_n 0, 1) := by decide +kernel
theorem d_MText_hears_16 : decode y_MText_hears.2.1 16 = .ok (.dup, 1) := by decide +kernel
theorem d_MText_hears_17 : decode y_MText_hears.2.1 17 = .ok (.getfield 296, 3) := by decide +kernel
theorem d_MText_hears_20 : decode y_MText_hears.2.1 20 = .ok (.iconst 1, 1) := by decide +kernel
theorem d_MText_hears_21 : decode y_MText_hears.2.1 21 = .ok (.iload_n 1, 1) := by decide +kernel
theorem d_MText_hears_22 : decode y_MText_hears.2.1 22 = .ok (.ishl, 1) := by decide +kernel
theorem d_MText_hears_23 : decode y_MText_hears.2.1 23 = .ok (.ior, 1) := by decide +kernel
theorem d_MText_hears_24 : decode y_MText_hears.2.1 24 = .ok (.putfield 296, 3) := by decide +kernel
theorem d_MText_hears_27 : decode y_MText_hears.2.1 27 = .ok (.aload_n 0, 1) := by decide +kernel
theorem d_MText_hears_28 : decode y_MText_hears.2.1 28 = .ok (.invokevirtual 330, 3) := by decide +kernel
theorem d_MText_hears_31 : decode y_MText_hears.2.1 31 = .ok (.aload_n 0, 1) := by decide +kernel
theorem d_MText_hears_32 : decode y_MText_hears.2.1 32 = .ok (.iload_n 2, 1) := by decide +kernel
theorem d_MText_hears_33 : decode y_MText_hears.2.1 33 = .ok (.putfield 296, 3) := by decide +kernel
theorem d_MText_hears_36 : decode y_MText_hears.2.1 36 = .ok (.return_, 1) := by decide +kernel
theorem s_MText_hears : ab_Stat y_MText_hears 0 := ⟨(k11 124 rfl rfl), (k1 20 rfl rfl), ⟨by decide, by decide⟩, by decide +kernel⟩
theorem i_MText_hears : Cond.instanceMethod y_MText_hears.1 ∈ ab_T := (k11 123 rfl rfl)
theorem v_MText_hears : Cond.selects "WorldEngineModel$Text" y_MText_hears.1 y_MText_hears.1 ∈ ab_T := ab_s (List.mem_of_getElem? (i := 161) rfl) rfl
def F_MText_hears (N : Nat) (o : Orc_TextS) (p0 : Nat) (H : Hp) : Option (Unit × Hp) :=
    ck (H.sh[p0]? = some (14, 0)) <|
    bC (F_MText_name N p0 H) fun v3 H4 =>
    bC (F_MText_numberOf N p0 v3 (3 : Int32) H4) fun v6 H7 =>
    bnd ((H7.D p0 42)) fun x8 =>
    bnd ((H7.D p0 42)) fun x9 =>
    bnd (H7.sD p0 42 (x9 ||| ((1 : Int32) <<< (v6 &&& 31)))) fun H10 =>
    bC (F_MText_block N o p0 H10) fun v12 H13 =>
    bnd (H13.sD p0 42 x8) fun H14 =>
    some ((), H14)
set_option maxRecDepth 20000 in
set_option maxHeartbeats 2000000 in
theorem m_MText_hears {N : Nat} {o : Orc_TextS} (hmo : mo_TextS o) {p0 : Nat} {H : Hp} {r : Unit × Hp} (hF : F_MText_hears N o p0 H = some r) : Sa H r.2 := by
  unfold F_MText_hears at hF
  have hm := Sa.rf H
  obtain ⟨q15, hG⟩ := ck_s hF; clear hF
  obtain ⟨v17, H18, z16, hF⟩ := bC_s hG; clear hG
  replace hm : Sa H H18 := hm.tr (m_MText_name z16)
  obtain ⟨v20, H21, z19, hG⟩ := bC_s hF; clear hF
  replace hm : Sa H H21 := hm.tr (m_MText_numberOf z19)
  obtain ⟨x22, -, hF⟩ := bnd_g hG; clear hG
  obtain ⟨x23, -, hG⟩ := bnd_g hF; clear hF
  obtain ⟨H24, eH24, hF⟩ := bnd_g hG; clear hG
  replace hm : Sa H H24 := by rw [eH24]; exact hm
  obtain ⟨v26, H27, z25, hG⟩ := bC_s hF; clear hF
  replace hm : Sa H H27 := hm.tr (m_MText_block hmo z25)
  obtain ⟨H28, eH28, hF⟩ := bnd_g hG; clear hG
  replace hm : Sa H H28 := by rw [eH28]; exact hm
  have hr := Option.some.inj hF; subst hr
  exact hm
set_option maxRecDepth 20000 in
set_option maxHeartbeats 2000000 in
theorem k_MText_hears {N : Nat} {o : Orc_TextS} {fr lo : Nat} (ho : ok_TextS o fr lo) (hmo : mo_TextS o) {p0 : Nat} {H : Hp} {r : Unit × Hp} (hF : F_MText_hears N o p0 H = some r) : ab_M y_MText_hears { frames := fr + 2, cells := 0, slots := 0, locals := lo + 42 } [.ref p0] (hpw H) (po (.returned none) r.2) := by
  unfold F_MText_hears at hF
  refine ab_of2 (lv := [some (.ref p0), none, none]) 2 rfl rfl (Nat.le_of_ble_eq_true rfl) ?_
  refine ab_aload_n d_MText_hears_0 rfl rfl rfl ?_
  refine ab_aload_n d_MText_hears_1 rfl rfl rfl ?_
  obtain ⟨q1, hG⟩ := ck_s hF; clear hF
  obtain ⟨v3, H4, z2, hF⟩ := bC_s hG; clear hG
  refine hp_callV_a (v := .int v3) (H1 := H4) (As := []) (rest := [.ref p0]) d_MText_hears_2 (k_MText_name z2) (ab_mkC s_MText_name (show 3 + 1 ≤ fr + 2 from by have := ho.1; omega) (show 8 + (2 + 11) + 64 ≤ lo + 42 from by have := ho.2.1; omega) (Nat.le_refl 0) (Nat.le_refl 0)) (k10 168 rfl rfl) i_MText_name v_MText_name q1 (by decide) rfl rfl (Nat.le_of_ble_eq_true rfl) ?_
  have s_1 : Sa H H4 := (m_MText_name z2)
  refine ab_iconst (v := 3) d_MText_hears_5 (by decide) ?_
  obtain ⟨v6, H7, z5, hG⟩ := bC_s hF; clear hF
  refine hp_callV_a (v := .int v6) (H1 := H7) (As := [.int v3, .int 3]) (rest := []) d_MText_hears_6 (k_MText_numberOf z5) (ab_mkC s_MText_numberOf (show 3 + 1 ≤ fr + 2 from by have := ho.1; omega) (show 8 + (4 + 11) + 69 ≤ lo + 42 from by have := ho.2.1; omega) (Nat.le_refl 0) (Nat.le_refl 0)) (k10 225 rfl rfl) i_MText_numberOf v_MText_numberOf (by rw [(s_1).1]; exact q1) (by decide) rfl rfl (Nat.le_of_ble_eq_true rfl) ?_
  have s_2 : Sa H H7 := (s_1).tr (m_MText_numberOf z5)
  refine ab_istore_n (lv' := [some (.ref p0), some (.int v6), none]) d_MText_hears_9 rfl (by decide) rfl ?_
  refine ab_aload_n d_MText_hears_10 rfl rfl rfl ?_
  refine hp_getI (f := 42) d_MText_hears_11 (by rw [(s_2).1]; exact q1) (by decide) rfl (by decide) (k8 229 rfl rfl) rfl ?_
  refine ab_topi (fun x8 ex8 => ?_)
  replace hG := bnd_s ex8 hG
  refine ab_istore_n (lv' := [some (.ref p0), some (.int v6), some (.int x8)]) d_MText_hears_14 rfl (by decide) rfl ?_
  refine ab_aload_n d_MText_hears_15 rfl rfl rfl ?_
  refine ab_dup d_MText_hears_16 rfl ?_
  refine hp_getI (f := 42) d_MText_hears_17 (by rw [(s_2).1]; exact q1) (by decide) rfl (by decide) (k8 229 rfl rfl) rfl ?_
  refine ab_topi (fun x9 ex9 => ?_)
  replace hG := bnd_s ex9 hG
  refine ab_iconst (v := 1) d_MText_hears_20 (by decide) ?_
  refine ab_iload_n d_MText_hears_21 rfl rfl ?_
  refine ab_ishl d_MText_hears_22 ?_
  refine ab_ior d_MText_hears_23 ?_
  refine hp_putI (v := x9 ||| ((1 : Int32) <<< (v6 &&& 31))) (f := 42) d_MText_hears_24 (by rw [(s_2).1]; exact q1) (by decide) rfl (by decide) (k8 229 rfl rfl) rfl rfl (fun _ => rfl) (fun _ => rfl) rfl ?_
  refine hp_gen (fun H10 eH10 => ?_)
  replace hG := bnd_s eH10 hG
  have s_3 : Sa H H10 := by rw [eH10]; exact s_2
  refine ab_aload_n d_MText_hears_27 rfl rfl rfl ?_
  obtain ⟨v12, H13, z11, hF⟩ := bC_s hG; clear hG
  refine hp_callV_v (H1 := H13) (As := []) (rest := []) d_MText_hears_28 (k_MText_block ho hmo z11) (ab_mkC s_MText_block (show (fr + 1) + 1 ≤ fr + 2 from by have := ho.1; omega) (show 8 + (1 + 11) + (lo + 22) ≤ lo + 42 from by have := ho.2.1; omega) (Nat.le_refl 0) (Nat.le_refl 0)) (k11 113 rfl rfl) i_MText_block v_MText_block (by rw [(s_3).1]; exact q1) (by decide) rfl rfl (Nat.le_of_ble_eq_true rfl) ?_
  have s_4 : Sa H H13 := (s_3).tr (m_MText_block hmo z11)
  refine ab_aload_n d_MText_hears_31 rfl rfl rfl ?_
  refine ab_iload_n d_MText_hears_32 rfl rfl ?_
  refine hp_putI (v := x8) (f := 42) d_MText_hears_33 (by rw [(s_4).1]; exact q1) (by decide) rfl (by decide) (k8 229 rfl rfl) rfl rfl (fun _ => rfl) (fun _ => rfl) rfl ?_
  refine hp_gen (fun H14 eH14 => ?_)
  replace hF := bnd_s eH14 hF
  have s_5 : Sa H H14 := by rw [eH14]; exact s_4
  exact ab_vret d_MText_hears_36 rfl (Nat.le_refl _) (Nat.le_refl _) (by have hr := Option.some.inj hF; subst hr; exact ⟨rfl, rfl⟩)
def y_MText_goes : ab_Y := (⟨"WorldEngineModel$Text", "goes", "()V"⟩, prog_16_method_53_code, 4, none, [])
theorem d_MText_goes_0 : decode y_MText_goes.2.1 0 = .ok (.aload_n 0, 1) := by decide +kernel
theorem d_MText_goes_1 : decode y_MText_goes.2.1 1 = .ok (.invokevirtual 317, 3) := by decide +kernel
theorem d_MText_goes_4 : decode y_MText_goes.2.1 4 = .ok (.istore_n 1, 1) := by decide +kernel
theorem d_MText_goes_5 : decode y_MText_goes.2.1 5 = .ok (.aload_n 0, 1) := by decide +kernel
theorem d_MText_goes_6 : decode y_MText_goes.2.1 6 = .ok (.sipush 219, 3) := by decide +kernel
theorem d_MText_goes_9 : decode y_MText_goes.2.1 9 = .ok (.invokevirtual 204, 3) := by decide +kernel
theorem d_MText_goes_12 : decode y_MText_goes.2.1 12 = .ok (.aload_n 0, 1) := by decide +kernel
theorem d_MText_goes_13 : decode y_MText_goes.2.1 13 = .ok (.aload_n 0, 1) := by decide +kernel
theorem d_MText_goes_14 : decode y_MText_goes.2.1 14 = .ok (.invokevirtual 240, 3) := by decide +kernel
theorem d_MText_goes_17 : decode y_MText_goes.2.1 17 = .ok (.iconst 2, 1) := by decide +kernel
theorem d_MText_goes_18 : decode y_MText_goes.2.1 18 = .ok (.invokevirtual 290, 3) := by decide +kernel
theorem d_MText_goes_21 : decode y_MText_goes.2.1 21 = .ok (.istore_n 2, 1) := by decide +kernel
theorem d_MText_goes_22 : decode y_MText_goes.2.1 22 = .ok (.aload_n 0, 1) := by decide +kernel
theorem d_MText_goes_23 : decode y_MText_goes.2.1 23 = .ok (.sipush 220, 3) := by decide +kernel
theorem d_MText_goes_26 : decode y_MText_goes.2.1 26 = .ok (.invokevirtual 194, 3) := by decide +kernel
theorem d_MText_goes_29 : decode y_MText_goes.2.1 29 = .ok (.ifCond .eq 136, 3) := by decide +kernel
theorem d_MText_goes_32 : decode y_MText_goes.2.1 32 = .ok (.aload_n 0, 1) := by decide +kernel
theorem d_MText_goes_33 : decode y_MText_goes.2.1 33 = .ok (.getfield 74, 3) := by decide +kernel
theorem d_MText_goes_36 : decode y_MText_goes.2.1 36 = .ok (.aload_n 0, 1) := by decide +kernel
theorem d_MText_goes_37 : decode y_MText_goes.2.1 37 = .ok (.getfield 182, 3) := by decide +kernel
theorem d_MText_goes_40 : decode y_MText_goes.2.1 40 = .ok (.iconst 1, 1) := by decide +kernel
theorem d_MText_goes_41 : decode y_MText_goes.2.1 41 = .ok (.isub, 1) := by decide +kernel
theorem d_MText_goes_42 : decode y_MText_goes.2.1 42 = .ok (.iaload, 1) := by decide +kernel
theorem d_MText_goes_43 : decode y_MText_goes.2.1 43 = .ok (.aload_n 0, 1) := by decide +kernel
theorem d_MText_goes_44 : decode y_MText_goes.2.1 44 = .ok (.getfield 83, 3) := by decide +kernel
theorem d_MText_goes_47 : decode y_MText_goes.2.1 47 = .ok (.aload_n 0, 1) := by decide +kernel
theorem d_MText_goes_48 : decode y_MText_goes.2.1 48 = .ok (.getfield 182, 3) := by decide +kernel
theorem d_MText_goes_51 : decode y_MText_goes.2.1 51 = .ok (.iconst 1, 1) := by decide +kernel
theorem d_MText_goes_52 : decode y_MText_goes.2.1 52 = .ok (.isub, 1) := by decide +kernel
theorem d_MText_goes_53 : decode y_MText_goes.2.1 53 = .ok (.iaload, 1) := by decide +kernel
theorem d_MText_goes_54 : decode y_MText_goes.2.1 54 = .ok (.iand, 1) := by decide +kernel
theorem d_MText_goes_55 : decode y_MText_goes.2.1 55 = .ok (.iconst 1, 1) := by decide +kernel
theorem d_MText_goes_56 : decode y_MText_goes.2.1 56 = .ok (.iload_n 2, 1) := by decide +kernel
theorem d_MText_goes_57 : decode y_MText_goes.2.1 57 = .ok (.ishl, 1) := by decide +kernel
theorem d_MText_goes_58 : decode y_MText_goes.2.1 58 = .ok (.iand, 1) := by decide +kernel
theorem d_MText_goes_59 : decode y_MText_goes.2.1 59 = .ok (.ifCond .eq 7, 3) := by decide +kernel
theorem d_MText_goes_62 : decode y_MText_goes.2.1 62 = .ok (.iconst 1, 1) := by decide +kernel
theorem d_MText_goes_63 : decode y_MText_goes.2.1 63 = .ok (.goto 4, 3) := by decide +kernel
theorem d_MText_goes_66 : decode y_MText_goes.2.1 66 = .ok (.iconst 0, 1) := by decide +kernel
theorem d_MText_goes_67 : decode y_MText_goes.2.1 67 = .ok (.istore_n 3, 1) := by decide +kernel
theorem d_MText_goes_68 : decode y_MText_goes.2.1 68 = .ok (.iload_n 3, 1) := by decide +kernel
theorem d_MText_goes_69 : decode y_MText_goes.2.1 69 = .ok (.ifCond .eq 58, 3) := by decide +kernel
theorem d_MText_goes_72 : decode y_MText_goes.2.1 72 = .ok (.aload_n 0, 1) := by decide +kernel
theorem d_MText_goes_73 : decode y_MText_goes.2.1 73 = .ok (.getfield 47, 3) := by decide +kernel
theorem d_MText_goes_76 : decode y_MText_goes.2.1 76 = .ok (.iload_n 2, 1) := by decide +kernel
theorem d_MText_goes_77 : decode y_MText_goes.2.1 77 = .ok (.iconst 1, 1) := by decide +kernel
theorem d_MText_goes_78 : decode y_MText_goes.2.1 78 = .ok (.iadd, 1) := by decide +kernel
theorem d_MText_goes_79 : decode y_MText_goes.2.1 79 = .ok (.iaload, 1) := by decide +kernel
theorem d_MText_goes_80 : decode y_MText_goes.2.1 80 = .ok (.aload_n 0, 1) := by decide +kernel
theorem d_MText_goes_81 : decode y_MText_goes.2.1 81 = .ok (.getfield 47, 3) := by decide +kernel
theorem d_MText_goes_84 : decode y_MText_goes.2.1 84 = .ok (.iload_n 2, 1) := by decide +kernel
theorem d_MText_goes_85 : decode y_MText_goes.2.1 85 = .ok (.iaload, 1) := by decide +kernel
theorem d_MText_goes_86 : decode y_MText_goes.2.1 86 = .ok (.isub, 1) := by decide +kernel
theorem d_MText_goes_87 : decode y_MText_goes.2.1 87 = .ok (.iconst 1, 1) := by decide +kernel
theorem d_MText_goes_88 : decode y_MText_goes.2.1 88 = .ok (.if_icmp .le 39, 3) := by decide +kernel
theorem d_MText_goes_91 : decode y_MText_goes.2.1 91 = .ok (.aload_n 0, 1) := by decide +kernel
theorem d_MText_goes_92 : decode y_MText_goes.2.1 92 = .ok (.getfield 50, 3) := by decide +kernel
theorem d_MText_goes_95 : decode y_MText_goes.2.1 95 = .ok (.aload_n 0, 1) := by decide +kernel
theorem d_MText_goes_96 : decode y_MText_goes.2.1 96 = .ok (.getfield 47, 3) := by decide +kernel
theorem d_MText_goes_99 : decode y_MText_goes.2.1 99 = .ok (.iload_n 2, 1) := by decide +kernel
theorem d_MText_goes_100 : decode y_MText_goes.2.1 100 = .ok (.iaload, 1) := by decide +kernel
theorem d_MText_goes_101 : decode y_MText_goes.2.1 101 = .ok (.iaload, 1) := by decide +kernel
theorem d_MText_goes_102 : decode y_MText_goes.2.1 102 = .ok (.iconst 2, 1) := by decide +kernel
theorem d_MText_goes_103 : decode y_MText_goes.2.1 103 = .ok (.if_icmp .ne 24, 3) := by decide +kernel
theorem d_MText_goes_106 : decode y_MText_goes.2.1 106 = .ok (.aload_n 0, 1) := by decide +kernel
theorem d_MText_goes_107 : decode y_MText_goes.2.1 107 = .ok (.getfield 50, 3) := by decide +kernel
theorem d_MText_goes_110 : decode y_MText_goes.2.1 110 = .ok (.aload_n 0, 1) := by decide +kernel
theorem d_MText_goes_111 : decode y_MText_goes.2.1 111 = .ok (.getfield 47, 3) := by decide +kernel
theorem d_MText_goes_114 : decode y_MText_goes.2.1 114 = .ok (.iload_n 2, 1) := by decide +kernel
theorem d_MText_goes_115 : decode y_MText_goes.2.1 115 = .ok (.iaload, 1) := by decide +kernel
theorem d_MText_goes_116 : decode y_MText_goes.2.1 116 = .ok (.iconst 1, 1) := by decide +kernel
theorem d_MText_goes_117 : decode y_MText_goes.2.1 117 = .ok (.iadd, 1) := by decide +kernel
theorem d_MText_goes_118 : decode y_MText_goes.2.1 118 = .ok (.iaload, 1) := by decide +kernel
theorem d_MText_goes_119 : decode y_MText_goes.2.1 119 = .ok (.iconst 2, 1) := by decide +kernel
theorem d_MText_goes_120 : decode y_MText_goes.2.1 120 = .ok (.if_icmp .ne 7, 3) := by decide +kernel
theorem d_MText_goes_123 : decode y_MText_goes.2.1 123 = .ok (.iconst 1, 1) := by decide +kernel
theorem d_MText_goes_124 : decode y_MText_goes.2.1 124 = .ok (.goto 4, 3) := by decide +kernel
theorem d_MText_goes_127 : decode y_MText_goes.2.1 127 = .ok (.iconst 0, 1) := by decide +kernel
theorem d_MText_goes_128 : decode y_MText_goes.2.1 128 = .ok (.istore_n 3, 1) := by decide +kernel
theorem d_MText_goes_129 : decode y_MText_goes.2.1 129 = .ok (.iload_n 3, 1) := by decide +kernel
theorem d_MText_goes_130 : decode y_MText_goes.2.1 130 = .ok (.ifCond .ne 12, 3) := by decide +kernel
theorem d_MText_goes_133 : decode y_MText_goes.2.1 133 = .ok (.aload_n 0, 1) := by decide +kernel
theorem d_MText_goes_134 : decode y_MText_goes.2.1 134 = .ok (.iconst 5, 1) := by decide +kernel
theorem d_MText_goes_135 : decode y_MText_goes.2.1 135 = .ok (.aload_n 0, 1) := by decide +kernel
theorem d_MText_goes_136 : decode y_MText_goes.2.1 136 = .ok (.getfield 191, 3) := by decide +kernel
theorem d_MText_goes_139 : decode y_MText_goes.2.1 139 = .ok (.invokevirtual 200, 3) := by decide +kernel
theorem d_MText_goes_142 : decode y_MText_goes.2.1 142 = .ok (.aload_n 0, 1) := by decide +kernel
theorem d_MText_goes_143 : decode y_MText_goes.2.1 143 = .ok (.dup, 1) := by decide +kernel
theorem d_MText_goes_144 : decode y_MText_goes.2.1 144 = .ok (.getfield 191, 3) := by decide +kernel
theorem d_MText_goes_147 : decode y_MText_goes.2.1 147 = .ok (.iconst 1, 1) := by decide +kernel
theorem d_MText_goes_148 : decode y_MText_goes.2.1 148 = .ok (.iadd, 1) := by decide +kernel
theorem d_MText_goes_149 : decode y_MText_goes.2.1 149 = .ok (.putfield 191, 3) := by decide +kernel
theorem d_MText_goes_152 : decode y_MText_goes.2.1 152 = .ok (.aload_n 0, 1) := by decide +kernel
theorem d_MText_goes_153 : decode y_MText_goes.2.1 153 = .ok (.invokevirtual 354, 3) := by decide +kernel
theorem d_MText_goes_156 : decode y_MText_goes.2.1 156 = .ok (.aload_n 0, 1) := by decide +kernel
theorem d_MText_goes_157 : decode y_MText_goes.2.1 157 = .ok (.iconst 2, 1) := by decide +kernel
theorem d_MText_goes_158 : decode y_MText_goes.2.1 158 = .ok (.invokevirtual 327, 3) := by decide +kernel
theorem d_MText_goes_161 : decode y_MText_goes.2.1 161 = .ok (.aload_n 0, 1) := by decide +kernel
theorem d_MText_goes_162 : decode y_MText_goes.2.1 162 = .ok (.invokevirtual 357, 3) := by decide +kernel
theorem d_MText_goes_165 : decode y_MText_goes.2.1 165 = .ok (.aload_n 0, 1) := by decide +kernel
theorem d_MText_goes_166 : decode y_MText_goes.2.1 166 = .ok (.getfield 281, 3) := by decide +kernel
theorem d_MText_goes_169 : decode y_MText_goes.2.1 169 = .ok (.istore_n 3, 1) := by decide +kernel
theorem d_MText_goes_170 : decode y_MText_goes.2.1 170 = .ok (.aload_n 0, 1) := by decide +kernel
theorem d_MText_goes_171 : decode y_MText_goes.2.1 171 = .ok (.iload_n 1, 1) := by decide +kernel
theorem d_MText_goes_172 : decode y_MText_goes.2.1 172 = .ok (.iconst 4, 1) := by decide +kernel
theorem d_MText_goes_173 : decode y_MText_goes.2.1 173 = .ok (.iconst 1, 1) := by decide +kernel
theorem d_MText_goes_174 : decode y_MText_goes.2.1 174 = .ok (.invokevirtual 323, 3) := by decide +kernel
theorem d_MText_goes_177 : decode y_MText_goes.2.1 177 = .ok (.aload_n 0, 1) := by decide +kernel
theorem d_MText_goes_178 : decode y_MText_goes.2.1 178 = .ok (.invokevirtual 330, 3) := by decide +kernel
theorem d_MText_goes_181 : decode y_MText_goes.2.1 181 = .ok (.aload_n 0, 1) := by decide +kernel
theorem d_MText_goes_182 : decode y_MText_goes.2.1 182 = .ok (.iload_n 3, 1) := by decide +kernel
theorem d_MText_goes_183 : decode y_MText_goes.2.1 183 = .ok (.putfield 281, 3) := by decide +kernel
theorem d_MText_goes_186 : decode y_MText_goes.2.1 186 = .ok (.return_, 1) := by decide +kernel
theorem s_MText_goes : ab_Stat y_MText_goes 0 := ⟨(k11 120 rfl rfl), (k1 20 rfl rfl), ⟨by decide, by decide⟩, by decide +kernel⟩
theorem i_MText_goes : Cond.instanceMethod y_MText_goes.1 ∈ ab_T := (k11 119 rfl rfl)
theorem v_MText_goes : Cond.selects "WorldEngineModel$Text" y_MText_goes.1 y_MText_goes.1 ∈ ab_T := ab_s (List.mem_of_getElem? (i := 160) rfl) rfl
def B_MText_goes_165 (N : Nat) (o : Orc_TextS) (p0 : Nat) (l1 : Int32) (H : Hp) : Option (Unit × Hp) :=
    ck (H.sh[p0]? = some (14, 0)) <|
    bnd ((H.D p0 37)) fun x19 =>
    bC (F_MText_tells N p0 l1 (4 : Int32) (1 : Int32) H) fun v21 H22 =>
    bC (F_MText_block N o p0 H22) fun v24 H25 =>
    bnd (H25.sD p0 37 x19) fun H26 =>
    some ((), H26)
set_option maxRecDepth 20000 in
set_option maxHeartbeats 2000000 in
theorem mB_MText_goes_165 {N : Nat} {o : Orc_TextS} (hmo : mo_TextS o) {p0 : Nat} {l1 : Int32} {H : Hp} {r : Unit × Hp} (hF : B_MText_goes_165 N o p0 l1 H = some r) : Sa H r.2 := by
  unfold B_MText_goes_165 at hF
  have hm := Sa.rf H
  obtain ⟨q27, hG⟩ := ck_s hF; clear hF
  obtain ⟨x28, -, hF⟩ := bnd_g hG; clear hG
  obtain ⟨v30, H31, z29, hG⟩ := bC_s hF; clear hF
  replace hm : Sa H H31 := hm.tr (m_MText_tells z29)
  obtain ⟨v33, H34, z32, hF⟩ := bC_s hG; clear hG
  replace hm : Sa H H34 := hm.tr (m_MText_block hmo z32)
  obtain ⟨H35, eH35, hG⟩ := bnd_g hF; clear hF
  replace hm : Sa H H35 := by rw [eH35]; exact hm
  have hr := Option.some.inj hG; subst hr
  exact hm
set_option maxRecDepth 20000 in
set_option maxHeartbeats 2000000 in
theorem kB_MText_goes_165 {N : Nat} {o : Orc_TextS} {fr lo : Nat} (ho : ok_TextS o fr lo) (hmo : mo_TextS o) {p0 : Nat} {l1 : Int32} {H : Hp} {r : Unit × Hp} (hF : B_MText_goes_165 N o p0 l1 H = some r) : ab_V y_MText_goes { frames := fr + 2, cells := 0, slots := 0, locals := lo + 42 } (po (.returned none) r.2) 0 0 0 0 165 [some (.ref p0), some (.int l1), none, none] [] (hpw H) := by
  unfold B_MText_goes_165 at hF
  refine ab_aload_n d_MText_goes_165 rfl rfl rfl ?_
  obtain ⟨q18, hG⟩ := ck_s hF; clear hF
  refine hp_getI (f := 37) d_MText_goes_166 q18 (by decide) rfl (by decide) (k8 224 rfl rfl) rfl ?_
  refine ab_topi (fun x19 ex19 => ?_)
  replace hG := bnd_s ex19 hG
  refine ab_istore_n (lv' := [some (.ref p0), some (.int l1), none, some (.int x19)]) d_MText_goes_169 rfl (by decide) rfl ?_
  refine ab_aload_n d_MText_goes_170 rfl rfl rfl ?_
  refine ab_iload_n d_MText_goes_171 rfl rfl ?_
  refine ab_iconst (v := 4) d_MText_goes_172 (by decide) ?_
  refine ab_iconst (v := 1) d_MText_goes_173 (by decide) ?_
  obtain ⟨v21, H22, z20, hF⟩ := bC_s hG; clear hG
  refine hp_callV_v (H1 := H22) (As := [.int l1, .int 4, .int 1]) (rest := []) d_MText_goes_174 (k_MText_tells z20) (ab_mkC s_MText_tells (show 0 + 1 ≤ fr + 2 from by have := ho.1; omega) (show 8 + (4 + 11) + 0 ≤ lo + 42 from by have := ho.2.1; omega) (Nat.le_refl 0) (Nat.le_refl 0)) (k11 109 rfl rfl) i_MText_tells v_MText_tells q18 (by decide) rfl rfl (Nat.le_of_ble_eq_true rfl) ?_
  have s_6 : Sa H H22 := (m_MText_tells z20)
  refine ab_aload_n d_MText_goes_177 rfl rfl rfl ?_
  obtain ⟨v24, H25, z23, hG⟩ := bC_s hF; clear hF
  refine hp_callV_v (H1 := H25) (As := []) (rest := []) d_MText_goes_178 (k_MText_block ho hmo z23) (ab_mkC s_MText_block (show (fr + 1) + 1 ≤ fr + 2 from by have := ho.1; omega) (show 8 + (1 + 11) + (lo + 22) ≤ lo + 42 from by have := ho.2.1; omega) (Nat.le_refl 0) (Nat.le_refl 0)) (k11 113 rfl rfl) i_MText_block v_MText_block (by rw [(s_6).1]; exact q18) (by decide) rfl rfl (Nat.le_of_ble_eq_true rfl) ?_
  have s_7 : Sa H H25 := (s_6).tr (m_MText_block hmo z23)
  refine ab_aload_n d_MText_goes_181 rfl rfl rfl ?_
  refine ab_iload_n d_MText_goes_182 rfl rfl ?_
  refine hp_putI (v := x19) (f := 37) d_MText_goes_183 (by rw [(s_7).1]; exact q18) (by decide) rfl (by decide) (k8 224 rfl rfl) rfl rfl (fun _ => rfl) (fun _ => rfl) rfl ?_
  refine hp_gen (fun H26 eH26 => ?_)
  replace hG := bnd_s eH26 hG
  have s_8 : Sa H H26 := by rw [eH26]; exact s_7
  exact ab_vret d_MText_goes_186 rfl (Nat.le_refl _) (Nat.le_refl _) (by have hr := Option.some.inj hG; subst hr; exact ⟨rfl, rfl⟩)
def B_MText_goes_142 (N : Nat) (o : Orc_TextS) (p0 : Nat) (l1 : Int32) (H : Hp) : Option (Unit × Hp) :=
    ck (H.sh[p0]? = some (14, 0)) <|
    bnd ((H.D p0 11)) fun x54 =>
    bnd (H.sD p0 11 (x54 + (1 : Int32))) fun H55 =>
    bC (F_MText_opens N p0 H55) fun v57 H58 =>
    bC (F_MText_wants N (X_TextE N 50) p0 (2 : Int32) H58) fun v60 H61 =>
    bC (F_MText_closes N p0 H61) fun v63 H64 =>
    B_MText_goes_165 N o p0 l1 H64
set_option maxRecDepth 20000 in
set_option maxHeartbeats 2000000 in
theorem mB_MText_goes_142 {N : Nat} {o : Orc_TextS} (hmo : mo_TextS o) {p0 : Nat} {l1 : Int32} {H : Hp} {r : Unit × Hp} (hF : B_MText_goes_142 N o p0 l1 H = some r) : Sa H r.2 := by
  unfold B_MText_goes_142 at hF
  have hm := Sa.rf H
  obtain ⟨q65, hG⟩ := ck_s hF; clear hF
  obtain ⟨x66, -, hF⟩ := bnd_g hG; clear hG
  obtain ⟨H67, eH67, hG⟩ := bnd_g hF; clear hF
  replace hm : Sa H H67 := by rw [eH67]; exact hm
  obtain ⟨v69, H70, z68, hF⟩ := bC_s hG; clear hG
  replace hm : Sa H H70 := hm.tr (m_MText_opens z68)
  obtain ⟨v72, H73, z71, hG⟩ := bC_s hF; clear hF
  replace hm : Sa H H73 := hm.tr (m_MText_wants (moX_TextE 50) z71)
  obtain ⟨v75, H76, z74, hF⟩ := bC_s hG; clear hG
  replace hm : Sa H H76 := hm.tr (m_MText_closes z74)
  exact hm.tr (mB_MText_goes_165 hmo hF)
set_option maxRecDepth 20000 in
set_option maxHeartbeats 2000000 in
theorem kB_MText_goes_142 {N : Nat} {o : Orc_TextS} {fr lo : Nat} (ho : ok_TextS o fr lo) (hmo : mo_TextS o) {p0 : Nat} {l1 : Int32} {H : Hp} {r : Unit × Hp} (hF : B_MText_goes_142 N o p0 l1 H = some r) : ab_V y_MText_goes { frames := fr + 2, cells := 0, slots := 0, locals := lo + 42 } (po (.returned none) r.2) 0 0 0 0 142 [some (.ref p0), some (.int l1), none, none] [] (hpw H) := by
  unfold B_MText_goes_142 at hF
  refine ab_aload_n d_MText_goes_142 rfl rfl rfl ?_
  refine ab_dup d_MText_goes_143 rfl ?_
  obtain ⟨q53, hG⟩ := ck_s hF; clear hF
  refine hp_getI (f := 11) d_MText_goes_144 q53 (by decide) rfl (by decide) (k8 175 rfl rfl) rfl ?_
  refine ab_topi (fun x54 ex54 => ?_)
  replace hG := bnd_s ex54 hG
  refine ab_iconst (v := 1) d_MText_goes_147 (by decide) ?_
  refine ab_iadd d_MText_goes_148 ?_
  refine hp_putI (v := x54 + (1 : Int32)) (f := 11) d_MText_goes_149 q53 (by decide) rfl (by decide) (k8 175 rfl rfl) rfl rfl (fun _ => rfl) (fun _ => rfl) rfl ?_
  refine hp_gen (fun H55 eH55 => ?_)
  replace hG := bnd_s eH55 hG
  have s_12 : Sa H H55 := by rw [eH55]; exact Sa.rf _
  refine ab_aload_n d_MText_goes_152 rfl rfl rfl ?_
  obtain ⟨v57, H58, z56, hF⟩ := bC_s hG; clear hG
  refine hp_callV_v (H1 := H58) (As := []) (rest := []) d_MText_goes_153 (k_MText_opens z56) (ab_mkC s_MText_opens (show 3 + 1 ≤ fr + 2 from by have := ho.1; omega) (show 8 + (1 + 11) + 64 ≤ lo + 42 from by have := ho.2.1; omega) (Nat.le_refl 0) (Nat.le_refl 0)) (k11 78 rfl rfl) i_MText_opens v_MText_opens (by rw [(s_12).1]; exact q53) (by decide) rfl rfl (Nat.le_of_ble_eq_true rfl) ?_
  have s_13 : Sa H H58 := (s_12).tr (m_MText_opens z56)
  refine ab_aload_n d_MText_goes_156 rfl rfl rfl ?_
  refine ab_iconst (v := 2) d_MText_goes_157 (by decide) ?_
  obtain ⟨v60, H61, z59, hG⟩ := bC_s hF; clear hF
  refine hp_callV_v (H1 := H61) (As := [.int 2]) (rest := []) d_MText_goes_158 (k_MText_wants (okX_TextE 50) (moX_TextE 50) z59) (ab_mkC s_MText_wants (show (5 + 5 * 50 + 1) + 1 ≤ fr + 2 from by have := ho.1; omega) (show 8 + (4 + 11) + (108 + 114 * 50 + 22) ≤ lo + 42 from by have := ho.2.1; omega) (Nat.le_refl 0) (Nat.le_refl 0)) (k11 35 rfl rfl) i_MText_wants v_MText_wants (by rw [(s_13).1]; exact q53) (by decide) rfl rfl (Nat.le_of_ble_eq_true rfl) ?_
  have s_14 : Sa H H61 := (s_13).tr (m_MText_wants (moX_TextE 50) z59)
  refine ab_aload_n d_MText_goes_161 rfl rfl rfl ?_
  obtain ⟨v63, H64, z62, hF⟩ := bC_s hG; clear hG
  refine hp_callV_v (H1 := H64) (As := []) (rest := []) d_MText_goes_162 (k_MText_closes z62) (ab_mkC s_MText_closes (show 3 + 1 ≤ fr + 2 from by have := ho.1; omega) (show 8 + (1 + 11) + 64 ≤ lo + 42 from by have := ho.2.1; omega) (Nat.le_refl 0) (Nat.le_refl 0)) (k11 86 rfl rfl) i_MText_closes v_MText_closes (by rw [(s_14).1]; exact q53) (by decide) rfl rfl (Nat.le_of_ble_eq_true rfl) ?_
  have s_15 : Sa H H64 := (s_14).tr (m_MText_closes z62)
  exact kB_MText_goes_165 ho hmo hF
def B_MText_goes_128 (N : Nat) (o : Orc_TextS) (p0 : Nat) (l1 : Int32) (w0 : Int32) (H : Hp) : Option (Unit × Hp) :=
    if w0 = (0 : Int32) then
    ck (H.sh[p0]? = some (14, 0)) <|
    bnd ((H.D p0 11)) fun x78 =>
    bC (F_MText_fails N p0 (5 : Int32) x78 H) fun v80 H81 =>
    B_MText_goes_142 N o p0 l1 H81
    else
    B_MText_goes_142 N o p0 l1 H
set_option maxRecDepth 20000 in
set_option maxHeartbeats 2000000 in
theorem mB_MText_goes_128 {N : Nat} {o : Orc_TextS} (hmo : mo_TextS o) {p0 : Nat} {l1 : Int32} {w0 : Int32} {H : Hp} {r : Unit × Hp} (hF : B_MText_goes_128 N o p0 l1 w0 H = some r) : Sa H r.2 := by
  unfold B_MText_goes_128 at hF
  have hm := Sa.rf H
  rcases ite_s hF with ⟨q_21, hG⟩ | ⟨q_21, hG⟩
  · clear hF
    obtain ⟨q83, hF⟩ := ck_s hG; clear hG
    obtain ⟨x84, -, hG⟩ := bnd_g hF; clear hF
    obtain ⟨v86, H87, z85, hF⟩ := bC_s hG; clear hG
    replace hm : Sa H H87 := hm.tr (m_MText_fails z85)
    exact hm.tr (mB_MText_goes_142 hmo hF)
  · clear hF
    exact hm.tr (mB_MText_goes_142 hmo hG)
set_option maxRecDepth 20000 in
set_option maxHeartbeats 2000000 in
theorem kB_MText_goes_128 {N : Nat} {o : Orc_TextS} {fr lo : Nat} (ho : ok_TextS o fr lo) (hmo : mo_TextS o) {p0 : Nat} {l1 : Int32} {w0 : Int32} {H : Hp} {r : Unit × Hp} (hF : B_MText_goes_128 N o p0 l1 w0 H = some r) : ab_V y_MText_goes { frames := fr + 2, cells := 0, slots := 0, locals := lo + 42 } (po (.returned none) r.2) 0 0 0 0 128 [some (.ref p0), some (.int l1), none, none] [.int w0] (hpw H) := by
  unfold B_MText_goes_128 at hF
  refine ab_istore_n (lv' := [some (.ref p0), some (.int l1), none, some (.int w0)]) d_MText_goes_128 rfl (by decide) rfl ?_
  refine ab_iload_n d_MText_goes_129 rfl rfl ?_
  refine ab_if_ne (tgt := 142) d_MText_goes_130 (by decide) (fun q52 => ?_) (fun q52 => ?_)
  · rw [if_neg q52] at hF
    refine ab_le (lv' := [some (.ref p0), some (.int l1), none, none]) ⟨rfl, ⟨rfl, trivial⟩⟩ ?_
    exact kB_MText_goes_142 ho hmo hF
  · rw [if_pos q52] at hF
    refine ab_aload_n d_MText_goes_133 rfl rfl rfl ?_
    refine ab_iconst (v := 5) d_MText_goes_134 (by decide) ?_
    refine ab_aload_n d_MText_goes_135 rfl rfl rfl ?_
    obtain ⟨q77, hG⟩ := ck_s hF; clear hF
    refine hp_getI (f := 11) d_MText_goes_136 q77 (by decide) rfl (by decide) (k8 175 rfl rfl) rfl ?_
    refine ab_topi (fun x78 ex78 => ?_)
    replace hG := bnd_s ex78 hG
    obtain ⟨v80, H81, z79, hF⟩ := bC_s hG; clear hG
    refine hp_callV_v (H1 := H81) (As := [.int 5, .int x78]) (rest := []) d_MText_goes_139 (k_MText_fails z79) (ab_mkC s_MText_fails (show 0 + 1 ≤ fr + 2 from by have := ho.1; omega) (show 8 + (3 + 11) + 0 ≤ lo + 42 from by have := ho.2.1; omega) (Nat.le_refl 0) (Nat.le_refl 0)) (k10 160 rfl rfl) i_MText_fails v_MText_fails q77 (by decide) rfl rfl (Nat.le_of_ble_eq_true rfl) ?_
    have s_20 : Sa H H81 := (m_MText_fails z79)
    refine ab_le (lv' := [some (.ref p0), some (.int l1), none, none]) ⟨rfl, ⟨rfl, trivial⟩⟩ ?_
    exact kB_MText_goes_142 ho hmo hF
def B_MText_goes_127 (N : Nat) (o : Orc_TextS) (p0 : Nat) (l1 : Int32) (H : Hp) : Option (Unit × Hp) :=
    B_MText_goes_128 N o p0 l1 0 H
set_option maxRecDepth 20000 in
set_option maxHeartbeats 2000000 in
theorem mB_MText_goes_127 {N : Nat} {o : Orc_TextS} (hmo : mo_TextS o) {p0 : Nat} {l1 : Int32} {H : Hp} {r : Unit × Hp} (hF : B_MText_goes_127 N o p0 l1 H = some r) : Sa H r.2 := by
  unfold B_MText_goes_127 at hF
  have hm := Sa.rf H
  exact hm.tr (mB_MText_goes_128 hmo hF)
set_option maxRecDepth 20000 in
set_option maxHeartbeats 2000000 in
theorem kB_MText_goes_127 {N : Nat} {o : Orc_TextS} {fr lo : Nat} (ho : ok_TextS o fr lo) (hmo : mo_TextS o) {p0 : Nat} {l1 : Int32} {H : Hp} {r : Unit × Hp} (hF : B_MText_goes_127 N o p0 l1 H = some r) : ab_V y_MText_goes { frames := fr + 2, cells := 0, slots := 0, locals := lo + 42 } (po (.returned none) r.2) 0 0 0 0 127 [some (.ref p0), some (.int l1), none, none] [] (hpw H) := by
  unfold B_MText_goes_127 at hF
  refine ab_iconst (v := 0) d_MText_goes_127 (by decide) ?_
  exact kB_MText_goes_128 ho hmo hF
def B_MText_goes_67 (N : Nat) (o : Orc_TextS) (p0 : Nat) (l1 : Int32) (l2 : Int32) (w0 : Int32) (H : Hp) : Option (Unit × Hp) :=
    if w0 = (0 : Int32) then
    B_MText_goes_127 N o p0 l1 H
    else
    ck (H.sh[p0]? = some (14, 0)) <|
    rf (H.P p0 18) fun a89 =>
    ar H 100 a89 fun n91 =>
    ck (inb (l2 + (1 : Int32)) n91) <|
    bnd ((H.D a89 ((l2 + (1 : Int32))).toNatClampNeg)) fun x94 =>
    rf (H.P p0 18) fun a95 =>
    ar H 100 a95 fun n97 =>
    ck (inb l2 n97) <|
    bnd ((H.D a95 (l2).toNatClampNeg)) fun x100 =>
    if (x94 - x100) ≤ (1 : Int32) then
    B_MText_goes_127 N o p0 l1 H
    else
    rf (H.P p0 19) fun a102 =>
    rf (H.P p0 18) fun a104 =>
    ar H 100 a104 fun n106 =>
    ck (inb l2 n106) <|
    bnd ((H.D a104 (l2).toNatClampNeg)) fun x109 =>
    ar H 100 a102 fun n110 =>
    ck (inb x109 n110) <|
    bnd ((H.D a102 (x109).toNatClampNeg)) fun x113 =>
    if x113 = (2 : Int32) then
    rf (H.P p0 19) fun a115 =>
    rf (H.P p0 18) fun a117 =>
    ar H 100 a117 fun n119 =>
    ck (inb l2 n119) <|
    bnd ((H.D a117 (l2).toNatClampNeg)) fun x122 =>
    ar H 100 a115 fun n123 =>
    ck (inb (x122 + (1 : Int32)) n123) <|
    bnd ((H.D a115 ((x122 + (1 : Int32))).toNatClampNeg)) fun x126 =>
    if x126 = (2 : Int32) then
    B_MText_goes_128 N o p0 l1 1 H
    else
    B_MText_goes_127 N o p0 l1 H
    else
    B_MText_goes_127 N o p0 l1 H
set_option maxRecDepth 20000 in
set_option maxHeartbeats 2000000 in
theorem mB_MText_goes_67 {N : Nat} {o : Orc_TextS} (hmo : mo_TextS o) {p0 : Nat} {l1 : Int32} {l2 : Int32} {w0 : Int32} {H : Hp} {r : Unit × Hp} (hF : B_MText_goes_67 N o p0 l1 l2 w0 H = some r) : Sa H r.2 := by
  unfold B_MText_goes_67 at hF
  have hm := Sa.rf H
  rcases ite_s hF with ⟨q_23, hG⟩ | ⟨q_23, hG⟩
  · clear hF
    exact hm.tr (mB_MText_goes_127 hmo hG)
  · clear hF
    obtain ⟨q129, hF⟩ := ck_s hG; clear hG
    obtain ⟨a130, e131, hG⟩ := rf_s hF; clear hF
    obtain ⟨n132, q133, hF⟩ := ar_s hG; clear hG
    obtain ⟨q134, hG⟩ := ck_s hF; clear hF
    obtain ⟨x135, -, hF⟩ := bnd_g hG; clear hG
    obtain ⟨a136, e137, hG⟩ := rf_s hF; clear hF
    obtain ⟨n138, q139, hF⟩ := ar_s hG; clear hG
    obtain ⟨q140, hG⟩ := ck_s hF; clear hF
    obtain ⟨x141, -, hF⟩ := bnd_g hG; clear hG
    rcases ite_s hF with ⟨q_24, hG⟩ | ⟨q_24, hG⟩
    · clear hF
      exact hm.tr (mB_MText_goes_127 hmo hG)
    · clear hF
      obtain ⟨a143, e144, hF⟩ := rf_s hG; clear hG
      obtain ⟨a145, e146, hG⟩ := rf_s hF; clear hF
      obtain ⟨n147, q148, hF⟩ := ar_s hG; clear hG
      obtain ⟨q149, hG⟩ := ck_s hF; clear hF
      obtain ⟨x150, -, hF⟩ := bnd_g hG; clear hG
      obtain ⟨n151, q152, hG⟩ := ar_s hF; clear hF
      obtain ⟨q153, hF⟩ := ck_s hG; clear hG
      obtain ⟨x154, -, hG⟩ := bnd_g hF; clear hF
      rcases ite_s hG with ⟨q_25, hF⟩ | ⟨q_25, hF⟩
      · clear hG
        obtain ⟨a156, e157, hG⟩ := rf_s hF; clear hF
        obtain ⟨a158, e159, hF⟩ := rf_s hG; clear hG
        obtain ⟨n160, q161, hG⟩ := ar_s hF; clear hF
        obtain ⟨q162, hF⟩ := ck_s hG; clear hG
        obtain ⟨x163, -, hG⟩ := bnd_g hF; clear hF
        obtain ⟨n164, q165, hF⟩ := ar_s hG; clear hG
        obtain ⟨q166, hG⟩ := ck_s hF; clear hF
        obtain ⟨x167, -, hF⟩ := bnd_g hG; clear hG
        rcases ite_s hF with ⟨q_26, hG⟩ | ⟨q_26, hG⟩
        · clear hF
          exact hm.tr (mB_MText_goes_128 hmo hG)
        · clear hF
          exact hm.tr (mB_MText_goes_127 hmo hG)
      · clear hG
        exact hm.tr (mB_MText_goes_127 hmo hF)
set_option maxRecDepth 20000 in
set_option maxHeartbeats 2000000 in
theorem kB_MText_goes_67 {N : Nat} {o : Orc_TextS} {fr lo : Nat} (ho : ok_TextS o fr lo) (hmo : mo_TextS o) {p0 : Nat} {l1 : Int32} {l2 : Int32} {w0 : Int32} {H : Hp} {r : Unit × Hp} (hF : B_MText_goes_67 N o p0 l1 l2 w0 H = some r) : ab_V y_MText_goes { frames := fr + 2, cells := 0, slots := 0, locals := lo + 42 } (po (.returned none) r.2) 0 0 0 0 67 [some (.ref p0), some (.int l1), some (.int l2), none] [.int w0] (hpw H) := by
  unfold B_MText_goes_67 at hF
  refine ab_istore_n (lv' := [some (.ref p0), some (.int l1), some (.int l2), some (.int w0)]) d_MText_goes_67 rfl (by decide) rfl ?_
  refine ab_iload_n d_MText_goes_68 rfl rfl ?_
  refine ab_if_eq (tgt := 127) d_MText_goes_69 (by decide) (fun q51 => ?_) (fun q51 => ?_)
  · rw [if_pos q51] at hF
    refine ab_le (lv' := [some (.ref p0), some (.int l1), none, none]) ⟨rfl, ⟨rfl, trivial⟩⟩ ?_
    exact kB_MText_goes_127 ho hmo hF
  · rw [if_neg q51] at hF
    refine ab_aload_n d_MText_goes_72 rfl rfl rfl ?_
    obtain ⟨q88, hG⟩ := ck_s hF; clear hF
    obtain ⟨a89, e90, hF⟩ := rf_s hG; clear hG
    refine hp_getR (f := 18) d_MText_goes_73 q88 (by decide) rfl (by decide) (k8 184 rfl rfl) rfl e90 ?_
    refine ab_iload_n d_MText_goes_76 rfl rfl ?_
    refine ab_iconst (v := 1) d_MText_goes_77 (by decide) ?_
    refine ab_iadd d_MText_goes_78 ?_
    obtain ⟨n91, q92, hG⟩ := ar_s hF; clear hF
    obtain ⟨q93, hF⟩ := ck_s hG; clear hG
    refine hp_iald d_MText_goes_79 tI q92 q93 ?_
    refine ab_topi (fun x94 ex94 => ?_)
    replace hF := bnd_s ex94 hF
    refine ab_aload_n d_MText_goes_80 rfl rfl rfl ?_
    obtain ⟨a95, e96, hG⟩ := rf_s hF; clear hF
    refine hp_getR (f := 18) d_MText_goes_81 q88 (by decide) rfl (by decide) (k8 184 rfl rfl) rfl e96 ?_
    refine ab_iload_n d_MText_goes_84 rfl rfl ?_
    obtain ⟨n97, q98, hF⟩ := ar_s hG; clear hG
    obtain ⟨q99, hG⟩ := ck_s hF; clear hF
    refine hp_iald d_MText_goes_85 tI q98 q99 ?_
    refine ab_topi (fun x100 ex100 => ?_)
    replace hG := bnd_s ex100 hG
    refine ab_isub d_MText_goes_86 ?_
    refine ab_iconst (v := 1) d_MText_goes_87 (by decide) ?_
    refine ab_icmp_le (tgt := 127) d_MText_goes_88 (by decide) (fun q101 => ?_) (fun q101 => ?_)
    · rw [if_pos q101] at hG
      refine ab_le (lv' := [some (.ref p0), some (.int l1), none, none]) ⟨rfl, ⟨rfl, trivial⟩⟩ ?_
      exact kB_MText_goes_127 ho hmo hG
    · rw [if_neg q101] at hG
      refine ab_aload_n d_MText_goes_91 rfl rfl rfl ?_
      obtain ⟨a102, e103, hF⟩ := rf_s hG; clear hG
      refine hp_getR (f := 19) d_MText_goes_92 q88 (by decide) rfl (by decide) (k8 188 rfl rfl) rfl e103 ?_
      refine ab_aload_n d_MText_goes_95 rfl rfl rfl ?_
      obtain ⟨a104, e105, hG⟩ := rf_s hF; clear hF
      refine hp_getR (f := 18) d_MText_goes_96 q88 (by decide) rfl (by decide) (k8 184 rfl rfl) rfl e105 ?_
      refine ab_iload_n d_MText_goes_99 rfl rfl ?_
      obtain ⟨n106, q107, hF⟩ := ar_s hG; clear hG
      obtain ⟨q108, hG⟩ := ck_s hF; clear hF
      refine hp_iald d_MText_goes_100 tI q107 q108 ?_
      refine ab_topi (fun x109 ex109 => ?_)
      replace hG := bnd_s ex109 hG
      obtain ⟨n110, q111, hF⟩ := ar_s hG; clear hG
      obtain ⟨q112, hG⟩ := ck_s hF; clear hF
      refine hp_iald d_MText_goes_101 tI q111 q112 ?_
      refine ab_topi (fun x113 ex113 => ?_)
      replace hG := bnd_s ex113 hG
      refine ab_iconst (v := 2) d_MText_goes_102 (by decide) ?_
      refine ab_icmp_ne (tgt := 127) d_MText_goes_103 (by decide) (fun q114 => ?_) (fun q114 => ?_)
      · rw [if_neg q114] at hG
        refine ab_le (lv' := [some (.ref p0), some (.int l1), none, none]) ⟨rfl, ⟨rfl, trivial⟩⟩ ?_
        exact kB_MText_goes_127 ho hmo hG
      · rw [if_pos q114] at hG
        refine ab_aload_n d_MText_goes_106 rfl rfl rfl ?_
        obtain ⟨a115, e116, hF⟩ := rf_s hG; clear hG
        refine hp_getR (f := 19) d_MText_goes_107 q88 (by decide) rfl (by decide) (k8 188 rfl rfl) rfl e116 ?_
        refine ab_aload_n d_MText_goes_110 rfl rfl rfl ?_
        obtain ⟨a117, e118, hG⟩ := rf_s hF; clear hF
        refine hp_getR (f := 18) d_MText_goes_111 q88 (by decide) rfl (by decide) (k8 184 rfl rfl) rfl e118 ?_
        refine ab_iload_n d_MText_goes_114 rfl rfl ?_
        obtain ⟨n119, q120, hF⟩ := ar_s hG; clear hG
        obtain ⟨q121, hG⟩ := ck_s hF; clear hF
        refine hp_iald d_MText_goes_115 tI q120 q121 ?_
        refine ab_topi (fun x122 ex122 => ?_)
        replace hG := bnd_s ex122 hG
        refine ab_iconst (v := 1) d_MText_goes_116 (by decide) ?_
        refine ab_iadd d_MText_goes_117 ?_
        obtain ⟨n123, q124, hF⟩ := ar_s hG; clear hG
        obtain ⟨q125, hG⟩ := ck_s hF; clear hF
        refine hp_iald d_MText_goes_118 tI q124 q125 ?_
        refine ab_topi (fun x126 ex126 => ?_)
        replace hG := bnd_s ex126 hG
        refine ab_iconst (v := 2) d_MText_goes_119 (by decide) ?_
        refine ab_icmp_ne (tgt := 127) d_MText_goes_120 (by decide) (fun q127 => ?_) (fun q127 => ?_)
        · rw [if_neg q127] at hG
          refine ab_le (lv' := [some (.ref p0), some (.int l1), none, none]) ⟨rfl, ⟨rfl, trivial⟩⟩ ?_
          exact kB_MText_goes_127 ho hmo hG
        · rw [if_pos q127] at hG
          refine ab_iconst (v := 1) d_MText_goes_123 (by decide) ?_
          refine ab_goto (tgt := 128) d_MText_goes_124 (by decide) ?_
          refine ab_le (lv' := [some (.ref p0), some (.int l1), none, none]) ⟨rfl, ⟨rfl, trivial⟩⟩ ?_
          exact kB_MText_goes_128 ho hmo hG
def F_MText_goes (N : Nat) (o : Orc_TextS) (p0 : Nat) (H : Hp) : Option (Unit × Hp) :=
    ck (H.sh[p0]? = some (14, 0)) <|
    bC (F_MText_localName N p0 H) fun v3 H4 =>
    bC (F_MText_takes N p0 (219 : Int32) H4) fun v6 H7 =>
    bC (F_MText_name N p0 H7) fun v9 H10 =>
    bC (F_MText_numberOf N p0 v9 (2 : Int32) H10) fun v12 H13 =>
    bC (F_MText_is N p0 (220 : Int32) H13) fun v15 H16 =>
    if v15 = (0 : Int32) then
    B_MText_goes_165 N o p0 v3 H16
    else
    rf (H16.P p0 30) fun a36 =>
    bnd ((H16.D p0 29)) fun x38 =>
    ar H16 100 a36 fun n39 =>
    ck (inb (x38 - (1 : Int32)) n39) <|
    bnd ((H16.D a36 ((x38 - (1 : Int32))).toNatClampNeg)) fun x42 =>
    rf (H16.P p0 33) fun a43 =>
    bnd ((H16.D p0 29)) fun x45 =>
    ar H16 100 a43 fun n46 =>
    ck (inb (x45 - (1 : Int32)) n46) <|
    bnd ((H16.D a43 ((x45 - (1 : Int32))).toNatClampNeg)) fun x49 =>
    if ((x42 &&& x49) &&& ((1 : Int32) <<< (v12 &&& 31))) = (0 : Int32) then
    B_MText_goes_67 N o p0 v3 v12 0 H16
    else
    B_MText_goes_67 N o p0 v3 v12 1 H16
set_option maxRecDepth 20000 in
set_option maxHeartbeats 2000000 in
theorem m_MText_goes {N : Nat} {o : Orc_TextS} (hmo : mo_TextS o) {p0 : Nat} {H : Hp} {r : Unit × Hp} (hF : F_MText_goes N o p0 H = some r) : Sa H r.2 := by
  unfold F_MText_goes at hF
  have hm := Sa.rf H
  obtain ⟨q169, hG⟩ := ck_s hF; clear hF
  obtain ⟨v171, H172, z170, hF⟩ := bC_s hG; clear hG
  replace hm : Sa H H172 := hm.tr (m_MText_localName z170)
  obtain ⟨v174, H175, z173, hG⟩ := bC_s hF; clear hF
  replace hm : Sa H H175 := hm.tr (m_MText_takes z173)
  obtain ⟨v177, H178, z176, hF⟩ := bC_s hG; clear hG
  replace hm : Sa H H178 := hm.tr (m_MText_name z176)
  obtain ⟨v180, H181, z179, hG⟩ := bC_s hF; clear hF
  replace hm : Sa H H181 := hm.tr (m_MText_numberOf z179)
  obtain ⟨v183, H184, z182, hF⟩ := bC_s hG; clear hG
  replace hm : Sa H H184 := hm.tr (m_MText_is z182)
  rcases ite_s hF with ⟨q_32, hG⟩ | ⟨q_32, hG⟩
  · clear hF
    exact hm.tr (mB_MText_goes_165 hmo hG)
  · clear hF
    obtain ⟨a186, e187, hF⟩ := rf_s hG; clear hG
    obtain ⟨x188, -, hG⟩ := bnd_g hF; clear hF
    obtain ⟨n189, q190, hF⟩ := ar_s hG; clear hG
    obtain ⟨q191, hG⟩ := ck_s hF; clear hF
    obtain ⟨x192, -, hF⟩ := bnd_g hG; clear hG
    obtain ⟨a193, e194, hG⟩ := rf_s hF; clear hF
    obtain ⟨x195, -, hF⟩ := bnd_g hG; clear hG
    obtain ⟨n196, q197, hG⟩ := ar_s hF; clear hF
    obtain ⟨q198, hF⟩ := ck_s hG; clear hG
    obtain ⟨x199, -, hG⟩ := bnd_g hF; clear hF
    rcases ite_s hG with ⟨q_33, hF⟩ | ⟨q_33, hF⟩
    · clear hG
      exact hm.tr (mB_MText_goes_67 hmo hF)
    · clear hG
      exact hm.tr (mB_MText_goes_67 hmo hF)
set_option maxRecDepth 20000 in
set_option maxHeartbeats 2000000 in
theorem k_MText_goes {N : Nat} {o : Orc_TextS} {fr lo : Nat} (ho : ok_TextS o fr lo) (hmo : mo_TextS o) {p0 : Nat} {H : Hp} {r : Unit × Hp} (hF : F_MText_goes N o p0 H = some r) : ab_M y_MText_goes { frames := fr + 2, cells := 0, slots := 0, locals := lo + 42 } [.ref p0] (hpw H) (po (.returned none) r.2) := by
  unfold F_MText_goes at hF
  refine ab_of2 (lv := [some (.ref p0), none, none, none]) 3 rfl rfl (Nat.le_of_ble_eq_true rfl) ?_
  refine ab_aload_n d_MText_goes_0 rfl rfl rfl ?_
  obtain ⟨q1, hG⟩ := ck_s hF; clear hF
  obtain ⟨v3, H4, z2, hF⟩ := bC_s hG; clear hG
  refine hp_callV_a (v := .int v3) (H1 := H4) (As := []) (rest := []) d_MText_goes_1 (k_MText_localName z2) (ab_mkC s_MText_localName (show 4 + 1 ≤ fr + 2 from by have := ho.1; omega) (show 8 + (2 + 11) + 85 ≤ lo + 42 from by have := ho.2.1; omega) (Nat.le_refl 0) (Nat.le_refl 0)) (k11 105 rfl rfl) i_MText_localName v_MText_localName q1 (by decide) rfl rfl (Nat.le_of_ble_eq_true rfl) ?_
  have s_1 : Sa H H4 := (m_MText_localName z2)
  refine ab_istore_n (lv' := [some (.ref p0), some (.int v3), none, none]) d_MText_goes_4 rfl (by decide) rfl ?_
  refine ab_aload_n d_MText_goes_5 rfl rfl rfl ?_
  refine ab_sipush (v := 219) d_MText_goes_6 (by decide) ?_
  obtain ⟨v6, H7, z5, hG⟩ := bC_s hF; clear hF
  refine hp_callV_v (H1 := H7) (As := [.int 219]) (rest := []) d_MText_goes_9 (k_MText_takes z5) (ab_mkC s_MText_takes (show 2 + 1 ≤ fr + 2 from by have := ho.1; omega) (show 8 + (2 + 11) + 43 ≤ lo + 42 from by have := ho.2.1; omega) (Nat.le_refl 0) (Nat.le_refl 0)) (k10 172 rfl rfl) i_MText_takes v_MText_takes (by rw [(s_1).1]; exact q1) (by decide) rfl rfl (Nat.le_of_ble_eq_true rfl) ?_
  have s_2 : Sa H H7 := (s_1).tr (m_MText_takes z5)
  refine ab_aload_n d_MText_goes_12 rfl rfl rfl ?_
  refine ab_aload_n d_MText_goes_13 rfl rfl rfl ?_
  obtain ⟨v9, H10, z8, hF⟩ := bC_s hG; clear hG
  refine hp_callV_a (v := .int v9) (H1 := H10) (As := []) (rest := [.ref p0]) d_MText_goes_14 (k_MText_name z8) (ab_mkC s_MText_name (show 3 + 1 ≤ fr + 2 from by have := ho.1; omega) (show 8 + (2 + 11) + 64 ≤ lo + 42 from by have := ho.2.1; omega) (Nat.le_refl 0) (Nat.le_refl 0)) (k10 168 rfl rfl) i_MText_name v_MText_name (by rw [(s_2).1]; exact q1) (by decide) rfl rfl (Nat.le_of_ble_eq_true rfl) ?_
  have s_3 : Sa H H10 := (s_2).tr (m_MText_name z8)
  refine ab_iconst (v := 2) d_MText_goes_17 (by decide) ?_
  obtain ⟨v12, H13, z11, hG⟩ := bC_s hF; clear hF
  refine hp_callV_a (v := .int v12) (H1 := H13) (As := [.int v9, .int 2]) (rest := []) d_MText_goes_18 (k_MText_numberOf z11) (ab_mkC s_MText_numberOf (show 3 + 1 ≤ fr + 2 from by have := ho.1; omega) (show 8 + (4 + 11) + 69 ≤ lo + 42 from by have := ho.2.1; omega) (Nat.le_refl 0) (Nat.le_refl 0)) (k10 225 rfl rfl) i_MText_numberOf v_MText_numberOf (by rw [(s_3).1]; exact q1) (by decide) rfl rfl (Nat.le_of_ble_eq_true rfl) ?_
  have s_4 : Sa H H13 := (s_3).tr (m_MText_numberOf z11)
  refine ab_istore_n (lv' := [some (.ref p0), some (.int v3), some (.int v12), none]) d_MText_goes_21 rfl (by decide) rfl ?_
  refine ab_aload_n d_MText_goes_22 rfl rfl rfl ?_
  refine ab_sipush (v := 220) d_MText_goes_23 (by decide) ?_
  obtain ⟨v15, H16, z14, hF⟩ := bC_s hG; clear hG
  refine hp_callV_a (v := .int v15) (H1 := H16) (As := [.int 220]) (rest := []) d_MText_goes_26 (k_MText_is z14) (ab_mkC s_MText_is (show 0 + 1 ≤ fr + 2 from by have := ho.1; omega) (show 8 + (2 + 11) + 0 ≤ lo + 42 from by have := ho.2.1; omega) (Nat.le_refl 0) (Nat.le_refl 0)) (k10 180 rfl rfl) i_MText_is v_MText_is (by rw [(s_4).1]; exact q1) (by decide) rfl rfl (Nat.le_of_ble_eq_true rfl) ?_
  have s_5 : Sa H H16 := (s_4).tr (m_MText_is z14)
  refine ab_if_eq (tgt := 165) d_MText_goes_29 (by decide) (fun q17 => ?_) (fun q17 => ?_)
  · rw [if_pos q17] at hF
    refine ab_le (lv' := [some (.ref p0), some (.int v3), none, none]) ⟨rfl, ⟨rfl, trivial⟩⟩ ?_
    exact kB_MText_goes_165 ho hmo hF
  · rw [if_neg q17] at hF
    refine ab_aload_n d_MText_goes_32 rfl rfl rfl ?_
    obtain ⟨a36, e37, hG⟩ := rf_s hF; clear hF
    refine hp_getR (f := 30) d_MText_goes_33 (by rw [(s_5).1]; exact q1) (by decide) rfl (by decide) (k8 214 rfl rfl) rfl e37 ?_
    refine ab_aload_n d_MText_goes_36 rfl rfl rfl ?_
    refine hp_getI (f := 29) d_MText_goes_37 (by rw [(s_5).1]; exact q1) (by decide) rfl (by decide) (k8 213 rfl rfl) rfl ?_
    refine ab_topi (fun x38 ex38 => ?_)
    replace hG := bnd_s ex38 hG
    refine ab_iconst (v := 1) d_MText_goes_40 (by decide) ?_
    refine ab_isub d_MText_goes_41 ?_
    obtain ⟨n39, q40, hF⟩ := ar_s hG; clear hG
    rw [(s_5).1] at q40
    obtain ⟨q41, hG⟩ := ck_s hF; clear hF
    refine hp_iald d_MText_goes_42 tI (by rw [(s_5).1]; exact q40) q41 ?_
    refine ab_topi (fun x42 ex42 => ?_)
    replace hG := bnd_s ex42 hG
    refine ab_aload_n d_MText_goes_43 rfl rfl rfl ?_
    obtain ⟨a43, e44, hF⟩ := rf_s hG; clear hG
    refine hp_getR (f := 33) d_MText_goes_44 (by rw [(s_5).1]; exact q1) (by decide) rfl (by decide) (k8 217 rfl rfl) rfl e44 ?_
    refine ab_aload_n d_MText_goes_47 rfl rfl rfl ?_
    refine hp_getI (f := 29) d_MText_goes_48 (by rw [(s_5).1]; exact q1) (by decide) rfl (by decide) (k8 213 rfl rfl) rfl ?_
    refine ab_topi (fun x45 ex45 => ?_)
    replace hF := bnd_s ex45 hF
    refine ab_iconst (v := 1) d_MText_goes_51 (by decide) ?_
    refine ab_isub d_MText_goes_52 ?_
    obtain ⟨n46, q47, hG⟩ := ar_s hF; clear hF
    rw [(s_5).1] at q47
    obtain ⟨q48, hF⟩ := ck_s hG; clear hG
    refine hp_iald d_MText_goes_53 tI (by rw [(s_5).1]; exact q47) q48 ?_
    refine ab_topi (fun x49 ex49 => ?_)
    replace hF := bnd_s ex49 hF
    refine ab_iand d_MText_goes_54 ?_
    refine ab_iconst (v := 1) d_MText_goes_55 (by decide) ?_
    refine ab_iload_n d_MText_goes_56 rfl rfl ?_
    refine ab_ishl d_MText_goes_57 ?_
    refine ab_iand d_MText_goes_58 ?_
    refine ab_if_eq (tgt := 66) d_MText_goes_59 (by decide) (fun q50 => ?_) (fun q50 => ?_)
    · rw [if_pos q50] at hF
      refine ab_iconst (v := 0) d_MText_goes_66 (by decide) ?_
      exact kB_MText_goes_67 ho hmo hF
    · rw [if_neg q50] at hF
      refine ab_iconst (v := 1) d_MText_goes_62 (by decide) ?_
      refine ab_goto (tgt := 67) d_MText_goes_63 (by decide) ?_
      exact kB_MText_goes_67 ho hmo hF
def y_MText_statement : ab_Y := (⟨"WorldEngineModel$Text", "statement", "()V"⟩, prog_16_method_49_code, 5, none, [])
theorem d_MText_statement_0 : decode y_MText_statement.2.1 0 = .ok (.aload_n 0, 1) := by decide +kernel
theorem d_MText_statement_1 : decode y_MText_statement.2.1 1 = .ok (.getfield 15, 3) := by decide +kernel
theorem d_MText_statement_4 : decode y_MText_statement.2.1 4 = .ok (.aload_n 0, 1) := by decide +kernel
theorem d_MText_statement_5 : decode y_MText_statement.2.1 5 = .ok (.getfield 191, 3) := by decide +kernel
theorem d_MText_statement_8 : decode y_MText_statement.2.1 8 = .ok (.iaload, 1) := by decide +kernel
theorem d_MText_statement_9 : decode y_MText_statement.2.1 9 = .ok (.istore_n 1, 1) := by decide +kernel
theorem d_MText_statement_10 : decode y_MText_statement.2.1 10 = .ok (.iload_n 1, 1) := by decide +kernel
theorem d_MText_statement_11 : decode y_MText_statement.2.1 11 = .ok (.iconst 1, 1) := by decide +kernel
theorem d_MText_statement_12 : decode y_MText_statement.2.1 12 = .ok (.if_icmp .ne 8, 3) := by decide +kernel
theorem d_MText_statement_15 : decode y_MText_statement.2.1 15 = .ok (.aload_n 0, 1) := by decide +kernel
theorem d_MText_statement_16 : decode y_MText_statement.2.1 16 = .ok (.invokevirtual 314, 3) := by decide +kernel
theorem d_MText_statement_19 : decode y_MText_statement.2.1 19 = .ok (.return_, 1) := by decide +kernel
theorem d_MText_statement_20 : decode y_MText_statement.2.1 20 = .ok (.aload_n 0, 1) := by decide +kernel
theorem d_MText_statement_21 : decode y_MText_statement.2.1 21 = .ok (.getfield 191, 3) := by decide +kernel
theorem d_MText_statement_24 : decode y_MText_statement.2.1 24 = .ok (.istore_n 2, 1) := by decide +kernel
theorem d_MText_statement_25 : decode y_MText_statement.2.1 25 = .ok (.aload_n 0, 1) := by decide +kernel
theorem d_MText_statement_26 : decode y_MText_statement.2.1 26 = .ok (.dup, 1) := by decide +kernel
theorem d_MText_statement_27 : decode y_MText_statement.2.1 27 = .ok (.getfield 191, 3) := by decide +kernel
theorem d_MText_statement_30 : decode y_MText_statement.2.1 30 = .ok (.iconst 1, 1) := by decide +kernel
theorem d_MText_statement_31 : decode y_MText_statement.2.1 31 = .ok (.iadd, 1) := by decide +kernel
theorem d_MText_statement_32 : decode y_MText_statement.2.1 32 = .ok (.putfield 191, 3) := by decide +kernel
theorem d_MText_statement_35 : decode y_MText_statement.2.1 35 = .ok (.iload_n 1, 1) := by decide +kernel
theorem d_MText_statement_36 : decode y_MText_statement.2.1 36 = .ok (.tableswitch 201 214 230 #[84, 118, 201, 144, 156, 201, 201, 163, 170, 184, 184, 184, 184, 177, 201, 184, 192], 84) := by decide +kernel
theorem d_MText_statement_120 : decode y_MText_statement.2.1 120 = .ok (.aload_n 0, 1) := by decide +kernel
theorem d_MText_statement_121 : decode y_MText_statement.2.1 121 = .ok (.invokevirtual 317, 3) := by decide +kernel
theorem d_MText_statement_124 : decode y_MText_statement.2.1 124 = .ok (.istore_n 3, 1) := by decide +kernel
theorem d_MText_statement_125 : decode y_MText_statement.2.1 125 = .ok (.aload_n 0, 1) := by decide +kernel
theorem d_MText_statement_126 : decode y_MText_statement.2.1 126 = .ok (.bipush 61, 2) := by decide +kernel
theorem d_MText_statement_128 : decode y_MText_statement.2.1 128 = .ok (.invokevirtual 204, 3) := by decide +kernel
theorem d_MText_statement_131 : decode y_MText_statement.2.1 131 = .ok (.aload_n 0, 1) := by decide +kernel
theorem d_MText_statement_132 : decode y_MText_statement.2.1 132 = .ok (.invokevirtual 320, 3) := by decide +kernel
theorem d_MText_statement_135 : decode y_MText_statement.2.1 135 = .ok (.istore 4, 2) := by decide +kernel
theorem d_MText_statement_137 : decode y_MText_statement.2.1 137 = .ok (.aload_n 0, 1) := by decide +kernel
theorem d_MText_statement_138 : decode y_MText_statement.2.1 138 = .ok (.iload_n 3, 1) := by decide +kernel
theorem d_MText_statement_139 : decode y_MText_statement.2.1 139 = .ok (.iload 4, 2) := by decide +kernel
theorem d_MText_statement_141 : decode y_MText_statement.2.1 141 = .ok (.iconst 0, 1) := by decide +kernel
theorem d_MText_statement_142 : decode y_MText_statement.2.1 142 = .ok (.invokevirtual 323, 3) := by decide +kernel
theorem d_MText_statement_145 : decode y_MText_statement.2.1 145 = .ok (.aload_n 0, 1) := by decide +kernel
theorem d_MText_statement_146 : decode y_MText_statement.2.1 146 = .ok (.bipush 59, 2) := by decide +kernel
theorem d_MText_statement_148 : decode y_MText_statement.2.1 148 = .ok (.invokevirtual 204, 3) := by decide +kernel
theorem d_MText_statement_151 : decode y_MText_statement.2.1 151 = .ok (.goto 100, 3) := by decide +kernel
theorem d_MText_statement_154 : decode y_MText_statement.2.1 154 = .ok (.aload_n 0, 1) := by decide +kernel
theorem d_MText_statement_155 : decode y_MText_statement.2.1 155 = .ok (.iconst 3, 1) := by decide +kernel
theorem d_MText_statement_156 : decode y_MText_statement.2.1 156 = .ok (.invokevirtual 327, 3) := by decide +kernel
theorem d_MText_statement_159 : decode y_MText_statement.2.1 159 = .ok (.aload_n 0, 1) := by decide +kernel
theorem d_MText_statement_160 : decode y_MText_statement.2.1 160 = .ok (.invokevirtual 330, 3) := by decide +kernel
theorem d_MText_statement_163 : decode y_MText_statement.2.1 163 = .ok (.aload_n 0, 1) := by decide +kernel
theorem d_MText_statement_164 : decode y_MText_statement.2.1 164 = .ok (.sipush 216, 3) := by decide +kernel
theorem d_MText_statement_167 : decode y_MText_statement.2.1 167 = .ok (.invokevirtual 197, 3) := by decide +kernel
theorem d_MText_statement_170 : decode y_MText_statement.2.1 170 = .ok (.ifCond .eq 81, 3) := by decide +kernel
theorem d_MText_statement_173 : decode y_MText_statement.2.1 173 = .ok (.aload_n 0, 1) := by decide +kernel
theorem d_MText_statement_174 : decode y_MText_statement.2.1 174 = .ok (.invokevirtual 330, 3) := by decide +kernel
theorem d_MText_statement_177 : decode y_MText_statement.2.1 177 = .ok (.goto 74, 3) := by decide +kernel
theorem d_MText_statement_180 : decode y_MText_statement.2.1 180 = .ok (.aload_n 0, 1) := by decide +kernel
theorem d_MText_statement_181 : decode y_MText_statement.2.1 181 = .ok (.iconst 3, 1) := by decide +kernel
theorem d_MText_statement_182 : decode y_MText_statement.2.1 182 = .ok (.invokevirtual 327, 3) := by decide +kernel
theorem d_MText_statement_185 : decode y_MText_statement.2.1 185 = .ok (.aload_n 0, 1) := by decide +kernel
theorem d_MText_statement_186 : decode y_MText_statement.2.1 186 = .ok (.invokevirtual 330, 3) := by decide +kernel
theorem d_MText_statement_189 : decode y_MText_statement.2.1 189 = .ok (.goto 62, 3) := by decide +kernel
theorem d_MText_statement_192 : decode y_MText_statement.2.1 192 = .ok (.aload_n 0, 1) := by decide +kernel
theorem d_MText_statement_193 : decode y_MText_statement.2.1 193 = .ok (.invokevirtual 333, 3) := by decide +kernel
theorem d_MText_statement_196 : decode y_MText_statement.2.1 196 = .ok (.goto 55, 3) := by decide +kernel
theorem d_MText_statement_199 : decode y_MText_statement.2.1 199 = .ok (.aload_n 0, 1) := by decide +kernel
theorem d_MText_statement_200 : decode y_MText_statement.2.1 200 = .ok (.invokevirtual 336, 3) := by decide +kernel
theorem d_MText_statement_203 : decode y_MText_statement.2.1 203 = .ok (.goto 48, 3) := by decide +kernel
theorem d_MText_statement_206 : decode y_MText_statement.2.1 206 = .ok (.aload_n 0, 1) := by decide +kernel
theorem d_MText_statement_207 : decode y_MText_statement.2.1 207 = .ok (.invokevirtual 339, 3) := by decide +kernel
theorem d_MText_statement_210 : decode y_MText_statement.2.1 210 = .ok (.goto 41, 3) := by decide +kernel
theorem d_MText_statement_213 : decode y_MText_statement.2.1 213 = .ok (.aload_n 0, 1) := by decide +kernel
theorem d_MText_statement_214 : decode y_MText_statement.2.1 214 = .ok (.invokevirtual 342, 3) := by decide +kernel
theorem d_MText_statement_217 : decode y_MText_statement.2.1 217 = .ok (.goto 34, 3) := by decide +kernel
theorem d_MText_statement_220 : decode y_MText_statement.2.1 220 = .ok (.aload_n 0, 1) := by decide +kernel
theorem d_MText_statement_221 : decode y_MText_statement.2.1 221 = .ok (.iload_n 1, 1) := by decide +kernel
theorem d_MText_statement_222 : decode y_MText_statement.2.1 222 = .ok (.invokevirtual 345, 3) := by decide +kernel
theorem d_MText_statement_225 : decode y_MText_statement.2.1 225 = .ok (.goto 26, 3) := by decide +kernel
theorem d_MText_statement_228 : decode y_MText_statement.2.1 228 = .ok (.aload_n 0, 1) := by decide +kernel
theorem d_MText_statement_229 : decode y_MText_statement.2.1 229 = .ok (.bipush 59, 2) := by decide +kernel
theorem d_MText_statement_231 : decode y_MText_statement.2.1 231 = .ok (.invokevirtual 204, 3) := by decide +kernel
theorem d_MText_statement_234 : decode y_MText_statement.2.1 234 = .ok (.goto 17, 3) := by decide +kernel
theorem d_MText_statement_237 : decode y_MText_statement.2.1 237 = .ok (.aload_n 0, 1) := by decide +kernel
theorem d_MText_statement_238 : decode y_MText_statement.2.1 238 = .ok (.iload_n 2, 1) := by decide +kernel
theorem d_MText_statement_239 : decode y_MText_statement.2.1 239 = .ok (.putfield 191, 3) := by decide +kernel
theorem d_MText_statement_242 : decode y_MText_statement.2.1 242 = .ok (.aload_n 0, 1) := by decide +kernel
theorem d_MText_statement_243 : decode y_MText_statement.2.1 243 = .ok (.iconst 1, 1) := by decide +kernel
theorem d_MText_statement_244 : decode y_MText_statement.2.1 244 = .ok (.aload_n 0, 1) := by decide +kernel
theorem d_MText_statement_245 : decode y_MText_statement.2.1 245 = .ok (.getfield 191, 3) := by decide +kernel
theorem d_MText_statement_248 : decode y_MText_statement.2.1 248 = .ok (.invokevirtual 200, 3) := by decide +kernel
theorem d_MText_statement_251 : decode y_MText_statement.2.1 251 = .ok (.return_, 1) := by decide +kernel
theorem s_MText_statement : ab_Stat y_MText_statement 0 := ⟨(k11 30 rfl rfl), (k1 20 rfl rfl), ⟨by decide, by decide⟩, by decide +kernel⟩
theorem i_MText_statement : Cond.instanceMethod y_MText_statement.1 ∈ ab_T := (k11 29 rfl rfl)
theorem v_MText_statement : Cond.selects "WorldEngineModel$Text" y_MText_statement.1 y_MText_statement.1 ∈ ab_T := ab_s (List.mem_of_getElem? (i := 139) rfl) rfl
def F_MText_statement (N : Nat) (o : Orc_TextS) (p0 : Nat) (H : Hp) : Option (Unit × Hp) :=
    ck (H.sh[p0]? = some (14, 0)) <|
    rf (H.P p0 3) fun a2 =>
    bnd ((H.D p0 11)) fun x4 =>
    ar H 100 a2 fun n5 =>
    ck (inb x4 n5) <|
    bnd ((H.D a2 (x4).toNatClampNeg)) fun x8 =>
    if x8 = (1 : Int32) then
    bC (F_MText_assigns N p0 H) fun v100 H101 =>
    some ((), H101)
    else
    bnd ((H.D p0 11)) fun x10 =>
    bnd ((H.D p0 11)) fun x11 =>
    bnd (H.sD p0 11 (x11 + (1 : Int32))) fun H12 =>
    if x8 = 214 then
    bC (F_MText_localName N p0 H12) fun v15 H16 =>
    bC (F_MText_takes N p0 (61 : Int32) H16) fun v18 H19 =>
    bC ((X_TextE N 50).1 p0 H19) fun v21 H22 =>
    bC (F_MText_tells N p0 v15 v21 (0 : Int32) H22) fun v24 H25 =>
    bC (F_MText_takes N p0 (59 : Int32) H25) fun v27 H28 =>
    some ((), H28)
    else if x8 = 215 then
    bC (F_MText_wants N (X_TextE N 50) p0 (3 : Int32) H12) fun v31 H32 =>
    bC (F_MText_block N o p0 H32) fun v34 H35 =>
    bC (F_MText_accepts N p0 (216 : Int32) H35) fun v37 H38 =>
    if v37 = (0 : Int32) then
    some ((), H38)
    else
    bC (F_MText_block N o p0 H38) fun v41 H42 =>
    some ((), H42)
    else if x8 = 217 then
    bC (F_MText_wants N (X_TextE N 50) p0 (3 : Int32) H12) fun v45 H46 =>
    bC (F_MText_block N o p0 H46) fun v48 H49 =>
    some ((), H49)
    else if x8 = 218 then
    bC (F_MText_goes N o p0 H12) fun v52 H53 =>
    some ((), H53)
    else if x8 = 221 then
    bC (F_MText_hears N o p0 H12) fun v56 H57 =>
    some ((), H57)
    else if x8 = 222 then
    bC (F_MText_spawns N p0 H12) fun v60 H61 =>
    some ((), H61)
    else if x8 = 223 then
    bC (F_MText_commands N p0 x8 H12) fun v64 H65 =>
    some ((), H65)
    else if x8 = 224 then
    bC (F_MText_commands N p0 x8 H12) fun v68 H69 =>
    some ((), H69)
    else if x8 = 225 then
    bC (F_MText_commands N p0 x8 H12) fun v72 H73 =>
    some ((), H73)
    else if x8 = 226 then
    bC (F_MText_commands N p0 x8 H12) fun v76 H77 =>
    some ((), H77)
    else if x8 = 227 then
    bC (F_MText_emits N p0 H12) fun v80 H81 =>
    some ((), H81)
    else if x8 = 229 then
    bC (F_MText_commands N p0 x8 H12) fun v84 H85 =>
    some ((), H85)
    else if x8 = 230 then
    bC (F_MText_takes N p0 (59 : Int32) H12) fun v88 H89 =>
    some ((), H89)
    else bnd (H12.sD p0 11 x10) fun H94 =>
    bnd ((H94.D p0 11)) fun x95 =>
    bC (F_MText_fails N p0 (1 : Int32) x95 H94) fun v97 H98 =>
    some ((), H98)
set_option maxRecDepth 20000 in
set_option maxHeartbeats 2000000 in
theorem m_MText_statement {N : Nat} {o : Orc_TextS} (hmo : mo_TextS o) {p0 : Nat} {H : Hp} {r : Unit × Hp} (hF : F_MText_statement N o p0 H = some r) : Sa H r.2 := by
  unfold F_MText_statement at hF
  have hm := Sa.rf H
  obtain ⟨q102, hG⟩ := ck_s hF; clear hF
  obtain ⟨a103, e104, hF⟩ := rf_s hG; clear hG
  obtain ⟨x105, -, hG⟩ := bnd_g hF; clear hF
  obtain ⟨n106, q107, hF⟩ := ar_s hG; clear hG
  obtain ⟨q108, hG⟩ := ck_s hF; clear hF
  obtain ⟨x109, -, hF⟩ := bnd_g hG; clear hG
  rcases ite_s hF with ⟨q_34, hG⟩ | ⟨q_34, hG⟩
  · clear hF
    obtain ⟨v112, H113, z111, hF⟩ := bC_s hG; clear hG
    replace hm : Sa H H113 := hm.tr (m_MText_assigns z111)
    have hr := Option.some.inj hF; subst hr
    exact hm
  · clear hF
    obtain ⟨x114, -, hF⟩ := bnd_g hG; clear hG
    obtain ⟨x115, -, hG⟩ := bnd_g hF; clear hF
    obtain ⟨H116, eH116, hF⟩ := bnd_g hG; clear hG
    replace hm : Sa H H116 := by rw [eH116]; exact hm
    rcases ite_s hF with ⟨q_37, hG⟩ | ⟨q_37, hG⟩
    · clear hF
      obtain ⟨v119, H120, z118, hF⟩ := bC_s hG; clear hG
      replace hm : Sa H H120 := hm.tr (m_MText_localName z118)
      obtain ⟨v122, H123, z121, hG⟩ := bC_s hF; clear hF
      replace hm : Sa H H123 := hm.tr (m_MText_takes z121)
      obtain ⟨v125, H126, z124, hF⟩ := bC_s hG; clear hG
      replace hm : Sa H H126 := hm.tr ((moX_TextE 50).1 _ _ _ z124)
      obtain ⟨v128, H129, z127, hG⟩ := bC_s hF; clear hF
      replace hm : Sa H H129 := hm.tr (m_MText_tells z127)
      obtain ⟨v131, H132, z130, hF⟩ := bC_s hG; clear hG
      replace hm : Sa H H132 := hm.tr (m_MText_takes z130)
      have hr := Option.some.inj hF; subst hr
      exact hm
    clear hF
    rcases ite_s hG with ⟨q_43, hF⟩ | ⟨q_43, hF⟩
    · clear hG
      obtain ⟨v135, H136, z134, hG⟩ := bC_s hF; clear hF
      replace hm : Sa H H136 := hm.tr (m_MText_wants (moX_TextE 50) z134)
      obtain ⟨v138, H139, z137, hF⟩ := bC_s hG; clear hG
      replace hm : Sa H H139 := hm.tr (m_MText_block hmo z137)
      obtain ⟨v141, H142, z140, hG⟩ := bC_s hF; clear hF
      replace hm : Sa H H142 := hm.tr (m_MText_accepts z140)
      rcases ite_s hG with ⟨q_47, hF⟩ | ⟨q_47, hF⟩
      · clear hG
        have hr := Option.some.inj hF; subst hr
        exact hm
      · clear hG
        obtain ⟨v145, H146, z144, hG⟩ := bC_s hF; clear hF
        replace hm : Sa H H146 := hm.tr (m_MText_block hmo z144)
        have hr := Option.some.inj hG; subst hr
        exact hm
    clear hG
    rcases ite_s hF with ⟨q_49, hG⟩ | ⟨q_49, hG⟩
    · clear hF
      obtain ⟨v149, H150, z148, hF⟩ := bC_s hG; clear hG
      replace hm : Sa H H150 := hm.tr (m_MText_wants (moX_TextE 50) z148)
      obtain ⟨v152, H153, z151, hG⟩ := bC_s hF; clear hF
      replace hm : Sa H H153 := hm.tr (m_MText_block hmo z151)
      have hr := Option.some.inj hG; subst hr
      exact hm
    clear hF
    rcases ite_s hG with ⟨q_52, hF⟩ | ⟨q_52, hF⟩
    · clear hG
      obtain ⟨v156, H157, z155, hG⟩ := bC_s hF; clear hF
      replace hm : Sa H H157 := hm.tr (m_MText_goes hmo z155)
      have hr := Option.some.inj hG; subst hr
      exact hm
    clear hG
    rcases ite_s hF with ⟨q_54, hG⟩ | ⟨q_54, hG⟩
    · clear hF
      obtain ⟨v160, H161, z159, hF⟩ := bC_s hG; clear hG
      replace hm : Sa H H161 := hm.tr (m_MText_hears hmo z159)
      have hr := Option.some.inj hF; subst hr
      exact hm
    clear hF
    rcases ite_s hG with ⟨q_56, hF⟩ | ⟨q_56, hF⟩
    · clear hG
      obtain ⟨v164, H165, z163, hG⟩ := bC_s hF; clear hF
      replace hm : Sa H H165 := hm.tr (m_MText_spawns z163)
      have hr := Option.some.inj hG; subst hr
      exact hm
    clear hG
    rcases ite_s hF with ⟨q_58, hG⟩ | ⟨q_58, hG⟩
    · clear hF
      obtain ⟨v168, H169, z167, hF⟩ := bC_s hG; clear hG
      replace hm : Sa H H169 := hm.tr (m_MText_commands z167)
      have hr := Option.some.inj hF; subst hr
      exact hm
    clear hF
    rcases ite_s hG with ⟨q_60, hF⟩ | ⟨q_60, hF⟩
    · clear hG
      obtain ⟨v172, H173, z171, hG⟩ := bC_s hF; clear hF
      replace hm : Sa H H173 := hm.tr (m_MText_commands z171)
      have hr := Option.some.inj hG; subst hr
      exact hm
    clear hG
    rcases ite_s hF with ⟨q_62, hG⟩ | ⟨q_62, hG⟩
    · clear hF
      obtain ⟨v176, H177, z175, hF⟩ := bC_s hG; clear hG
      replace hm : Sa H H177 := hm.tr (m_MText_commands z175)
      have hr := Option.some.inj hF; subst hr
      exact hm
    clear hF
    rcases ite_s hG with ⟨q_64, hF⟩ | ⟨q_64, hF⟩
    · clear hG
      obtain ⟨v180, H181, z179, hG⟩ := bC_s hF; clear hF
      replace hm : Sa H H181 := hm.tr (m_MText_commands z179)
      have hr := Option.some.inj hG; subst hr
      exact hm
    clear hG
    rcases ite_s hF with ⟨q_66, hG⟩ | ⟨q_66, hG⟩
    · clear hF
      obtain ⟨v184, H185, z183, hF⟩ := bC_s hG; clear hG
      replace hm : Sa H H185 := hm.tr (m_MText_emits z183)
      have hr := Option.some.inj hF; subst hr
      exact hm
    clear hF
    rcases ite_s hG with ⟨q_68, hF⟩ | ⟨q_68, hF⟩
    · clear hG
      obtain ⟨v188, H189, z187, hG⟩ := bC_s hF; clear hF
      replace hm : Sa H H189 := hm.tr (m_MText_commands z187)
      have hr := Option.some.inj hG; subst hr
      exact hm
    clear hG
    rcases ite_s hF with ⟨q_70, hG⟩ | ⟨q_70, hG⟩
    · clear hF
      obtain ⟨v192, H193, z191, hF⟩ := bC_s hG; clear hG
      replace hm : Sa H H193 := hm.tr (m_MText_takes z191)
      have hr := Option.some.inj hF; subst hr
      exact hm
    clear hF
    obtain ⟨H194, eH194, hF⟩ := bnd_g hG; clear hG
    replace hm : Sa H H194 := by rw [eH194]; exact hm
    obtain ⟨x195, -, hG⟩ := bnd_g hF; clear hF
    obtain ⟨v197, H198, z196, hF⟩ := bC_s hG; clear hG
    replace hm : Sa H H198 := hm.tr (m_MText_fails z196)
    have hr := Option.some.inj hF; subst hr
    exact hm
set_option maxRecDepth 20000 in
set_option maxHeartbeats 2000000 in
theorem k_MText_statement {N : Nat} {o : Orc_TextS} {fr lo : Nat} (ho : ok_TextS o fr lo) (hmo : mo_TextS o) {p0 : Nat} {H : Hp} {r : Unit × Hp} (hF : F_MText_statement N o p0 H = some r) : ab_M y_MText_statement { frames := fr + 3, cells := 0, slots := 0, locals := lo + 65 } [.ref p0] (hpw H) (po (.returned none) r.2) := by
  unfold F_MText_statement at hF
  refine ab_of2 (lv := [some (.ref p0), none, none, none, none]) 4 rfl rfl (Nat.le_of_ble_eq_true rfl) ?_
  refine ab_aload_n d_MText_statement_0 rfl rfl rfl ?_
  obtain ⟨q1, hG⟩ := ck_s hF; clear hF
  obtain ⟨a2, e3, hF⟩ := rf_s hG; clear hG
  refine hp_getR (f := 3) d_MText_statement_1 q1 (by decide) rfl (by decide) (k8 162 rfl rfl) rfl e3 ?_
  refine ab_aload_n d_MText_statement_4 rfl rfl rfl ?_
  refine hp_getI (f := 11) d_MText_statement_5 q1 (by decide) rfl (by decide) (k8 175 rfl rfl) rfl ?_
  refine ab_topi (fun x4 ex4 => ?_)
  replace hF := bnd_s ex4 hF
  obtain ⟨n5, q6, hG⟩ := ar_s hF; clear hF
  obtain ⟨q7, hF⟩ := ck_s hG; clear hG
  refine hp_iald d_MText_statement_8 tI q6 q7 ?_
  refine ab_topi (fun x8 ex8 => ?_)
  replace hF := bnd_s ex8 hF
  refine ab_istore_n (lv' := [some (.ref p0), some (.int x8), none, none, none]) d_MText_statement_9 rfl (by decide) rfl ?_
  refine ab_iload_n d_MText_statement_10 rfl rfl ?_
  refine ab_iconst (v := 1) d_MText_statement_11 (by decide) ?_
  refine ab_icmp_ne (tgt := 20) d_MText_statement_12 (by decide) (fun q9 => ?_) (fun q9 => ?_)
  · rw [if_neg q9] at hF
    refine ab_aload_n d_MText_statement_20 rfl rfl rfl ?_
    refine hp_getI (f := 11) d_MText_statement_21 q1 (by decide) rfl (by decide) (k8 175 rfl rfl) rfl ?_
    refine ab_topi (fun x10 ex10 => ?_)
    replace hF := bnd_s ex10 hF
    refine ab_istore_n (lv' := [some (.ref p0), some (.int x8), some (.int x10), none, none]) d_MText_statement_24 rfl (by decide) rfl ?_
    refine ab_aload_n d_MText_statement_25 rfl rfl rfl ?_
    refine ab_dup d_MText_statement_26 rfl ?_
    refine hp_getI (f := 11) d_MText_statement_27 q1 (by decide) rfl (by decide) (k8 175 rfl rfl) rfl ?_
    refine ab_topi (fun x11 ex11 => ?_)
    replace hF := bnd_s ex11 hF
    refine ab_iconst (v := 1) d_MText_statement_30 (by decide) ?_
    refine ab_iadd d_MText_statement_31 ?_
    refine hp_putI (v := x11 + (1 : Int32)) (f := 11) d_MText_statement_32 q1 (by decide) rfl (by decide) (k8 175 rfl rfl) rfl rfl (fun _ => rfl) (fun _ => rfl) rfl ?_
    refine hp_gen (fun H12 eH12 => ?_)
    replace hF := bnd_s eH12 hF
    have s_1 : Sa H H12 := by rw [eH12]; exact Sa.rf _
    refine ab_iload_n d_MText_statement_35 rfl rfl ?_
    by_cases t13 : x8 = 214
    · rw [if_pos t13] at hF
      refine ab_tableIn (off := 84) (tgt := 120) d_MText_statement_36 (by rw [t13]; decide) (by rw [t13]; decide) (by rw [t13]; decide) (by decide) ?_
      refine ab_aload_n d_MText_statement_120 rfl rfl rfl ?_
      obtain ⟨v15, H16, z14, hG⟩ := bC_s hF; clear hF
      refine hp_callV_a (v := .int v15) (H1 := H16) (As := []) (rest := []) d_MText_statement_121 (k_MText_localName z14) (ab_mkC s_MText_localName (show 4 + 1 ≤ fr + 3 from by have := ho.1; omega) (show 8 + (2 + 11) + 85 ≤ lo + 65 from by have := ho.2.1; omega) (Nat.le_refl 0) (Nat.le_refl 0)) (k11 105 rfl rfl) i_MText_localName v_MText_localName (by rw [(s_1).1]; exact q1) (by decide) rfl rfl (Nat.le_of_ble_eq_true rfl) ?_
      have s_2 : Sa H H16 := (s_1).tr (m_MText_localName z14)
      refine ab_istore_n (lv' := [some (.ref p0), some (.int x8), some (.int x10), some (.int v15), none]) d_MText_statement_124 rfl (by decide) rfl ?_
      refine ab_aload_n d_MText_statement_125 rfl rfl rfl ?_
      refine ab_bipush (v := 61) d_MText_statement_126 (by decide) ?_
      obtain ⟨v18, H19, z17, hF⟩ := bC_s hG; clear hG
      refine hp_callV_v (H1 := H19) (As := [.int 61]) (rest := []) d_MText_statement_128 (k_MText_takes z17) (ab_mkC s_MText_takes (show 2 + 1 ≤ fr + 3 from by have := ho.1; omega) (show 8 + (2 + 11) + 43 ≤ lo + 65 from by have := ho.2.1; omega) (Nat.le_refl 0) (Nat.le_refl 0)) (k10 172 rfl rfl) i_MText_takes v_MText_takes (by rw [(s_2).1]; exact q1) (by decide) rfl rfl (Nat.le_of_ble_eq_true rfl) ?_
      have s_3 : Sa H H19 := (s_2).tr (m_MText_takes z17)
      refine ab_aload_n d_MText_statement_131 rfl rfl rfl ?_
      obtain ⟨v21, H22, z20, hG⟩ := bC_s hF; clear hF
      refine hp_callV_a (v := .int v21) (H1 := H22) (As := []) (rest := []) d_MText_statement_132 ((okX_TextE 50).2.2.1 _ _ _ z20) (ab_mkC s_MText_value (show (5 + 5 * 50) + 1 ≤ fr + 3 from by have := ho.1; omega) (show 8 + (3 + 11) + (108 + 114 * 50) ≤ lo + 65 from by have := ho.2.1; omega) (Nat.le_refl 0) (Nat.le_refl 0)) (k11 39 rfl rfl) i_MText_value v_MText_value (by rw [(s_3).1]; exact q1) (by decide) rfl rfl (Nat.le_of_ble_eq_true rfl) ?_
      have s_4 : Sa H H22 := (s_3).tr ((moX_TextE 50).1 _ _ _ z20)
      refine ab_istore (lv' := [some (.ref p0), some (.int x8), some (.int x10), some (.int v15), some (.int v21)]) d_MText_statement_135 (by decide) rfl ?_
      refine ab_aload_n d_MText_statement_137 rfl rfl rfl ?_
      refine ab_iload_n d_MText_statement_138 rfl rfl ?_
      refine ab_iload d_MText_statement_139 rfl ?_
      refine ab_iconst (v := 0) d_MText_statement_141 (by decide) ?_
      obtain ⟨v24, H25, z23, hF⟩ := bC_s hG; clear hG
      refine hp_callV_v (H1 := H25) (As := [.int v15, .int v21, .int 0]) (rest := []) d_MText_statement_142 (k_MText_tells z23) (ab_mkC s_MText_tells (show 0 + 1 ≤ fr + 3 from by have := ho.1; omega) (show 8 + (4 + 11) + 0 ≤ lo + 65 from by have := ho.2.1; omega) (Nat.le_refl 0) (Nat.le_refl 0)) (k11 109 rfl rfl) i_MText_tells v_MText_tells (by rw [(s_4).1]; exact q1) (by decide) rfl rfl (Nat.le_of_ble_eq_true rfl) ?_
      have s_5 : Sa H H25 := (s_4).tr (m_MText_tells z23)
      refine ab_aload_n d_MText_statement_145 rfl rfl rfl ?_
      refine ab_bipush (v := 59) d_MText_statement_146 (by decide) ?_
      obtain ⟨v27, H28, z26, hG⟩ := bC_s hF; clear hF
      refine hp_callV_v (H1 := H28) (As := [.int 59]) (rest := []) d_MText_statement_148 (k_MText_takes z26) (ab_mkC s_MText_takes (show 2 + 1 ≤ fr + 3 from by have := ho.1; omega) (show 8 + (2 + 11) + 43 ≤ lo + 65 from by have := ho.2.1; omega) (Nat.le_refl 0) (Nat.le_refl 0)) (k10 172 rfl rfl) i_MText_takes v_MText_takes (by rw [(s_5).1]; exact q1) (by decide) rfl rfl (Nat.le_of_ble_eq_true rfl) ?_
      have s_6 : Sa H H28 := (s_5).tr (m_MText_takes z26)
      refine ab_goto (tgt := 251) d_MText_statement_151 (by decide) ?_
      exact ab_vret d_MText_statement_251 rfl (Nat.le_refl _) (Nat.le_refl _) (by have hr := Option.some.inj hG; subst hr; exact ⟨rfl, rfl⟩)
    rw [if_neg t13] at hF
    have ut13 : ¬ (214 : Int) = (x8).toInt := fun z => t13 (Int32.toInt_inj.mp (z.symm.trans (by decide)))
    by_cases t29 : x8 = 215
    · rw [if_pos t29] at hF
      refine ab_tableIn (off := 118) (tgt := 154) d_MText_statement_36 (by rw [t29]; decide) (by rw [t29]; decide) (by rw [t29]; decide) (by decide) ?_
      refine ab_aload_n d_MText_statement_154 rfl rfl rfl ?_
      refine ab_iconst (v := 3) d_MText_statement_155 (by decide) ?_
      obtain ⟨v31, H32, z30, hG⟩ := bC_s hF; clear hF
      refine hp_callV_v (H1 := H32) (As := [.int 3]) (rest := []) d_MText_statement_156 (k_MText_wants (okX_TextE 50) (moX_TextE 50) z30) (ab_mkC s_MText_wants (show (5 + 5 * 50 + 1) + 1 ≤ fr + 3 from by have := ho.1; omega) (show 8 + (4 + 11) + (108 + 114 * 50 + 22) ≤ lo + 65 from by have := ho.2.1; omega) (Nat.le_refl 0) (Nat.le_refl 0)) (k11 35 rfl rfl) i_MText_wants v_MText_wants (by rw [(s_1).1]; exact q1) (by decide) rfl rfl (Nat.le_of_ble_eq_true rfl) ?_
      have s_7 : Sa H H32 := (s_1).tr (m_MText_wants (moX_TextE 50) z30)
      refine ab_aload_n d_MText_statement_159 rfl rfl rfl ?_
      obtain ⟨v34, H35, z33, hF⟩ := bC_s hG; clear hG
      refine hp_callV_v (H1 := H35) (As := []) (rest := []) d_MText_statement_160 (k_MText_block ho hmo z33) (ab_mkC s_MText_block (show (fr + 1) + 1 ≤ fr + 3 from by have := ho.1; omega) (show 8 + (1 + 11) + (lo + 22) ≤ lo + 65 from by have := ho.2.1; omega) (Nat.le_refl 0) (Nat.le_refl 0)) (k11 113 rfl rfl) i_MText_block v_MText_block (by rw [(s_7).1]; exact q1) (by decide) rfl rfl (Nat.le_of_ble_eq_true rfl) ?_
      have s_8 : Sa H H35 := (s_7).tr (m_MText_block hmo z33)
      refine ab_aload_n d_MText_statement_163 rfl rfl rfl ?_
      refine ab_sipush (v := 216) d_MText_statement_164 (by decide) ?_
      obtain ⟨v37, H38, z36, hG⟩ := bC_s hF; clear hF
      refine hp_callV_a (v := .int v37) (H1 := H38) (As := [.int 216]) (rest := []) d_MText_statement_167 (k_MText_accepts z36) (ab_mkC s_MText_accepts (show 1 + 1 ≤ fr + 3 from by have := ho.1; omega) (show 8 + (3 + 11) + 21 ≤ lo + 65 from by have := ho.2.1; omega) (Nat.le_refl 0) (Nat.le_refl 0)) (k10 176 rfl rfl) i_MText_accepts v_MText_accepts (by rw [(s_8).1]; exact q1) (by decide) rfl rfl (Nat.le_of_ble_eq_true rfl) ?_
      have s_9 : Sa H H38 := (s_8).tr (m_MText_accepts z36)
      refine ab_if_eq (tgt := 251) d_MText_statement_170 (by decide) (fun q39 => ?_) (fun q39 => ?_)
      · rw [if_pos q39] at hG
        exact ab_vret d_MText_statement_251 rfl (Nat.le_refl _) (Nat.le_refl _) (by have hr := Option.some.inj hG; subst hr; exact ⟨rfl, rfl⟩)
      · rw [if_neg q39] at hG
        refine ab_aload_n d_MText_statement_173 rfl rfl rfl ?_
        obtain ⟨v41, H42, z40, hF⟩ := bC_s hG; clear hG
        refine hp_callV_v (H1 := H42) (As := []) (rest := []) d_MText_statement_174 (k_MText_block ho hmo z40) (ab_mkC s_MText_block (show (fr + 1) + 1 ≤ fr + 3 from by have := ho.1; omega) (show 8 + (1 + 11) + (lo + 22) ≤ lo + 65 from by have := ho.2.1; omega) (Nat.le_refl 0) (Nat.le_refl 0)) (k11 113 rfl rfl) i_MText_block v_MText_block (by rw [(s_9).1]; exact q1) (by decide) rfl rfl (Nat.le_of_ble_eq_true rfl) ?_
        have s_10 : Sa H H42 := (s_9).tr (m_MText_block hmo z40)
        refine ab_goto (tgt := 251) d_MText_statement_177 (by decide) ?_
        exact ab_vret d_MText_statement_251 rfl (Nat.le_refl _) (Nat.le_refl _) (by have hr := Option.some.inj hF; subst hr; exact ⟨rfl, rfl⟩)
    rw [if_neg t29] at hF
    have ut29 : ¬ (215 : Int) = (x8).toInt := fun z => t29 (Int32.toInt_inj.mp (z.symm.trans (by decide)))
    by_cases t43 : x8 = 217
    · rw [if_pos t43] at hF
      refine ab_tableIn (off := 144) (tgt := 180) d_MText_statement_36 (by rw [t43]; decide) (by rw [t43]; decide) (by rw [t43]; decide) (by decide) ?_
      refine ab_aload_n d_MText_statement_180 rfl rfl rfl ?_
      refine ab_iconst (v := 3) d_MText_statement_181 (by decide) ?_
      obtain ⟨v45, H46, z44, hG⟩ := bC_s hF; clear hF
      refine hp_callV_v (H1 := H46) (As := [.int 3]) (rest := []) d_MText_statement_182 (k_MText_wants (okX_TextE 50) (moX_TextE 50) z44) (ab_mkC s_MText_wants (show (5 + 5 * 50 + 1) + 1 ≤ fr + 3 from by have := ho.1; omega) (show 8 + (4 + 11) + (108 + 114 * 50 + 22) ≤ lo + 65 from by have := ho.2.1; omega) (Nat.le_refl 0) (Nat.le_refl 0)) (k11 35 rfl rfl) i_MText_wants v_MText_wants (by rw [(s_1).1]; exact q1) (by decide) rfl rfl (Nat.le_of_ble_eq_true rfl) ?_
      have s_11 : Sa H H46 := (s_1).tr (m_MText_wants (moX_TextE 50) z44)
      refine ab_aload_n d_MText_statement_185 rfl rfl rfl ?_
      obtain ⟨v48, H49, z47, hF⟩ := bC_s hG; clear hG
      refine hp_callV_v (H1 := H49) (As := []) (rest := []) d_MText_statement_186 (k_MText_block ho hmo z47) (ab_mkC s_MText_block (show (fr + 1) + 1 ≤ fr + 3 from by have := ho.1; omega) (show 8 + (1 + 11) + (lo + 22) ≤ lo + 65 from by have := ho.2.1; omega) (Nat.le_refl 0) (Nat.le_refl 0)) (k11 113 rfl rfl) i_MText_block v_MText_block (by rw [(s_11).1]; exact q1) (by decide) rfl rfl (Nat.le_of_ble_eq_true rfl) ?_
      have s_12 : Sa H H49 := (s_11).tr (m_MText_block hmo z47)
      refine ab_goto (tgt := 251) d_MText_statement_189 (by decide) ?_
      exact ab_vret d_MText_statement_251 rfl (Nat.le_refl _) (Nat.le_refl _) (by have hr := Option.some.inj hF; subst hr; exact ⟨rfl, rfl⟩)
    rw [if_neg t43] at hF
    have ut43 : ¬ (217 : Int) = (x8).toInt := fun z => t43 (Int32.toInt_inj.mp (z.symm.trans (by decide)))
    by_cases t50 : x8 = 218
    · rw [if_pos t50] at hF
      refine ab_tableIn (off := 156) (tgt := 192) d_MText_statement_36 (by rw [t50]; decide) (by rw [t50]; decide) (by rw [t50]; decide) (by decide) ?_
      refine ab_aload_n d_MText_statement_192 rfl rfl rfl ?_
      obtain ⟨v52, H53, z51, hG⟩ := bC_s hF; clear hF
      refine hp_callV_v (H1 := H53) (As := []) (rest := []) d_MText_statement_193 (k_MText_goes ho hmo z51) (ab_mkC s_MText_goes (show (fr + 2) + 1 ≤ fr + 3 from by have := ho.1; omega) (show 8 + (4 + 11) + (lo + 42) ≤ lo + 65 from by have := ho.2.1; omega) (Nat.le_refl 0) (Nat.le_refl 0)) (k11 117 rfl rfl) i_MText_goes v_MText_goes (by rw [(s_1).1]; exact q1) (by decide) rfl rfl (Nat.le_of_ble_eq_true rfl) ?_
      have s_13 : Sa H H53 := (s_1).tr (m_MText_goes hmo z51)
      refine ab_goto (tgt := 251) d_MText_statement_196 (by decide) ?_
      exact ab_vret d_MText_statement_251 rfl (Nat.le_refl _) (Nat.le_refl _) (by have hr := Option.some.inj hG; subst hr; exact ⟨rfl, rfl⟩)
    rw [if_neg t50] at hF
    have ut50 : ¬ (218 : Int) = (x8).toInt := fun z => t50 (Int32.toInt_inj.mp (z.symm.trans (by decide)))
    by_cases t54 : x8 = 221
    · rw [if_pos t54] at hF
      refine ab_tableIn (off := 163) (tgt := 199) d_MText_statement_36 (by rw [t54]; decide) (by rw [t54]; decide) (by rw [t54]; decide) (by decide) ?_
      refine ab_aload_n d_MText_statement_199 rfl rfl rfl ?_
      obtain ⟨v56, H57, z55, hG⟩ := bC_s hF; clear hF
      refine hp_callV_v (H1 := H57) (As := []) (rest := []) d_MText_statement_200 (k_MText_hears ho hmo z55) (ab_mkC s_MText_hears (show (fr + 2) + 1 ≤ fr + 3 from by have := ho.1; omega) (show 8 + (3 + 11) + (lo + 42) ≤ lo + 65 from by have := ho.2.1; omega) (Nat.le_refl 0) (Nat.le_refl 0)) (k11 121 rfl rfl) i_MText_hears v_MText_hears (by rw [(s_1).1]; exact q1) (by decide) rfl rfl (Nat.le_of_ble_eq_true rfl) ?_
      have s_14 : Sa H H57 := (s_1).tr (m_MText_hears hmo z55)
      refine ab_goto (tgt := 251) d_MText_statement_203 (by decide) ?_
      exact ab_vret d_MText_statement_251 rfl (Nat.le_refl _) (Nat.le_refl _) (by have hr := Option.some.inj hG; subst hr; exact ⟨rfl, rfl⟩)
    rw [if_neg t54] at hF
    have ut54 : ¬ (221 : Int) = (x8).toInt := fun z => t54 (Int32.toInt_inj.mp (z.symm.trans (by decide)))
    by_cases t58 : x8 = 222
    · rw [if_pos t58] at hF
      refine ab_tableIn (off := 170) (tgt := 206) d_MText_statement_36 (by rw [t58]; decide) (by rw [t58]; decide) (by rw [t58]; decide) (by decide) ?_
      refine ab_aload_n d_MText_statement_206 rfl rfl rfl ?_
      obtain ⟨v60, H61, z59, hG⟩ := bC_s hF; clear hF
      refine hp_callV_v (H1 := H61) (As := []) (rest := []) d_MText_statement_207 (k_MText_spawns z59) (ab_mkC s_MText_spawns (show 257 + 1 ≤ fr + 3 from by have := ho.1; omega) (show 8 + (7 + 11) + 5853 ≤ lo + 65 from by have := ho.2.1; omega) (Nat.le_refl 0) (Nat.le_refl 0)) (k11 125 rfl rfl) i_MText_spawns v_MText_spawns (by rw [(s_1).1]; exact q1) (by decide) rfl rfl (Nat.le_of_ble_eq_true rfl) ?_
      have s_15 : Sa H H61 := (s_1).tr (m_MText_spawns z59)
      refine ab_goto (tgt := 251) d_MText_statement_210 (by decide) ?_
      exact ab_vret d_MText_statement_251 rfl (Nat.le_refl _) (Nat.le_refl _) (by have hr := Option.some.inj hG; subst hr; exact ⟨rfl, rfl⟩)
    rw [if_neg t58] at hF
    have ut58 : ¬ (222 : Int) = (x8).toInt := fun z => t58 (Int32.toInt_inj.mp (z.symm.trans (by decide)))
    by_cases t62 : x8 = 223
    · rw [if_pos t62] at hF
      refine ab_tableIn (off := 184) (tgt := 220) d_MText_statement_36 (by rw [t62]; decide) (by rw [t62]; decide) (by rw [t62]; decide) (by decide) ?_
      refine ab_aload_n d_MText_statement_220 rfl rfl rfl ?_
      refine ab_iload_n d_MText_statement_221 rfl rfl ?_
      obtain ⟨v64, H65, z63, hG⟩ := bC_s hF; clear hF
      refine hp_callV_v (H1 := H65) (As := [.int x8]) (rest := []) d_MText_statement_222 (k_MText_commands z63) (ab_mkC s_MText_commands (show 258 + 1 ≤ fr + 3 from by have := ho.1; omega) (show 8 + (4 + 11) + 5874 ≤ lo + 65 from by have := ho.2.1; omega) (Nat.le_refl 0) (Nat.le_refl 0)) (k11 133 rfl rfl) i_MText_commands v_MText_commands (by rw [(s_1).1]; exact q1) (by decide) rfl rfl (Nat.le_of_ble_eq_true rfl) ?_
      have s_16 : Sa H H65 := (s_1).tr (m_MText_commands z63)
      refine ab_goto (tgt := 251) d_MText_statement_225 (by decide) ?_
      exact ab_vret d_MText_statement_251 rfl (Nat.le_refl _) (Nat.le_refl _) (by have hr := Option.some.inj hG; subst hr; exact ⟨rfl, rfl⟩)
    rw [if_neg t62] at hF
    have ut62 : ¬ (223 : Int) = (x8).toInt := fun z => t62 (Int32.toInt_inj.mp (z.symm.trans (by decide)))
    by_cases t66 : x8 = 224
    · rw [if_pos t66] at hF
      refine ab_tableIn (off := 184) (tgt := 220) d_MText_statement_36 (by rw [t66]; decide) (by rw [t66]; decide) (by rw [t66]; decide) (by decide) ?_
      refine ab_aload_n d_MText_statement_220 rfl rfl rfl ?_
      refine ab_iload_n d_MText_statement_221 rfl rfl ?_
      obtain ⟨v68, H69, z67, hG⟩ := bC_s hF; clear hF
      refine hp_callV_v (H1 := H69) (As := [.int x8]) (rest := []) d_MText_statement_222 (k_MText_commands z67) (ab_mkC s_MText_commands (show 258 + 1 ≤ fr + 3 from by have := ho.1; omega) (show 8 + (4 + 11) + 5874 ≤ lo + 65 from by have := ho.2.1; omega) (Nat.le_refl 0) (Nat.le_refl 0)) (k11 133 rfl rfl) i_MText_commands v_MText_commands (by rw [(s_1).1]; exact q1) (by decide) rfl rfl (Nat.le_of_ble_eq_true rfl) ?_
      have s_17 : Sa H H69 := (s_1).tr (m_MText_commands z67)
      refine ab_goto (tgt := 251) d_MText_statement_225 (by decide) ?_
      exact ab_vret d_MText_statement_251 rfl (Nat.le_refl _) (Nat.le_refl _) (by have hr := Option.some.inj hG; subst hr; exact ⟨rfl, rfl⟩)
    rw [if_neg t66] at hF
    have ut66 : ¬ (224 : Int) = (x8).toInt := fun z => t66 (Int32.toInt_inj.mp (z.symm.trans (by decide)))
    by_cases t70 : x8 = 225
    · rw [if_pos t70] at hF
      refine ab_tableIn (off := 184) (tgt := 220) d_MText_statement_36 (by rw [t70]; decide) (by rw [t70]; decide) (by rw [t70]; decide) (by decide) ?_
      refine ab_aload_n d_MText_statement_220 rfl rfl rfl ?_
      refine ab_iload_n d_MText_statement_221 rfl rfl ?_
      obtain ⟨v72, H73, z71, hG⟩ := bC_s hF; clear hF
      refine hp_callV_v (H1 := H73) (As := [.int x8]) (rest := []) d_MText_statement_222 (k_MText_commands z71) (ab_mkC s_MText_commands (show 258 + 1 ≤ fr + 3 from by have := ho.1; omega) (show 8 + (4 + 11) + 5874 ≤ lo + 65 from by have := ho.2.1; omega) (Nat.le_refl 0) (Nat.le_refl 0)) (k11 133 rfl rfl) i_MText_commands v_MText_commands (by rw [(s_1).1]; exact q1) (by decide) rfl rfl (Nat.le_of_ble_eq_true rfl) ?_
      have s_18 : Sa H H73 := (s_1).tr (m_MText_commands z71)
      refine ab_goto (tgt := 251) d_MText_statement_225 (by decide) ?_
      exact ab_vret d_MText_statement_251 rfl (Nat.le_refl _) (Nat.le_refl _) (by have hr := Option.some.inj hG; subst hr; exact ⟨rfl, rfl⟩)
    rw [if_neg t70] at hF
    have ut70 : ¬ (225 : Int) = (x8).toInt := fun z => t70 (Int32.toInt_inj.mp (z.symm.trans (by decide)))
    by_cases t74 : x8 = 226
    · rw [if_pos t74] at hF
      refine ab_tableIn (off := 184) (tgt := 220) d_MText_statement_36 (by rw [t74]; decide) (by rw [t74]; decide) (by rw [t74]; decide) (by decide) ?_
      refine ab_aload_n d_MText_statement_220 rfl rfl rfl ?_
      refine ab_iload_n d_MText_statement_221 rfl rfl ?_
      obtain ⟨v76, H77, z75, hG⟩ := bC_s hF; clear hF
      refine hp_callV_v (H1 := H77) (As := [.int x8]) (rest := []) d_MText_statement_222 (k_MText_commands z75) (ab_mkC s_MText_commands (show 258 + 1 ≤ fr + 3 from by have := ho.1; omega) (show 8 + (4 + 11) + 5874 ≤ lo + 65 from by have := ho.2.1; omega) (Nat.le_refl 0) (Nat.le_refl 0)) (k11 133 rfl rfl) i_MText_commands v_MText_commands (by rw [(s_1).1]; exact q1) (by decide) rfl rfl (Nat.le_of_ble_eq_true rfl) ?_
      have s_19 : Sa H H77 := (s_1).tr (m_MText_commands z75)
      refine ab_goto (tgt := 251) d_MText_statement_225 (by decide) ?_
      exact ab_vret d_MText_statement_251 rfl (Nat.le_refl _) (Nat.le_refl _) (by have hr := Option.some.inj hG; subst hr; exact ⟨rfl, rfl⟩)
    rw [if_neg t74] at hF
    have ut74 : ¬ (226 : Int) = (x8).toInt := fun z => t74 (Int32.toInt_inj.mp (z.symm.trans (by decide)))
    by_cases t78 : x8 = 227
    · rw [if_pos t78] at hF
      refine ab_tableIn (off := 177) (tgt := 213) d_MText_statement_36 (by rw [t78]; decide) (by rw [t78]; decide) (by rw [t78]; decide) (by decide) ?_
      refine ab_aload_n d_MText_statement_213 rfl rfl rfl ?_
      obtain ⟨v80, H81, z79, hG⟩ := bC_s hF; clear hF
      refine hp_callV_v (H1 := H81) (As := []) (rest := []) d_MText_statement_214 (k_MText_emits z79) (ab_mkC s_MText_emits (show 258 + 1 ≤ fr + 3 from by have := ho.1; omega) (show 8 + (4 + 11) + 5874 ≤ lo + 65 from by have := ho.2.1; omega) (Nat.le_refl 0) (Nat.le_refl 0)) (k11 129 rfl rfl) i_MText_emits v_MText_emits (by rw [(s_1).1]; exact q1) (by decide) rfl rfl (Nat.le_of_ble_eq_true rfl) ?_
      have s_20 : Sa H H81 := (s_1).tr (m_MText_emits z79)
      refine ab_goto (tgt := 251) d_MText_statement_217 (by decide) ?_
      exact ab_vret d_MText_statement_251 rfl (Nat.le_refl _) (Nat.le_refl _) (by have hr := Option.some.inj hG; subst hr; exact ⟨rfl, rfl⟩)
    rw [if_neg t78] at hF
    have ut78 : ¬ (227 : Int) = (x8).toInt := fun z => t78 (Int32.toInt_inj.mp (z.symm.trans (by decide)))
    by_cases t82 : x8 = 229
    · rw [if_pos t82] at hF
      refine ab_tableIn (off := 184) (tgt := 220) d_MText_statement_36 (by rw [t82]; decide) (by rw [t82]; decide) (by rw [t82]; decide) (by decide) ?_
      refine ab_aload_n d_MText_statement_220 rfl rfl rfl ?_
      refine ab_iload_n d_MText_statement_221 rfl rfl ?_
      obtain ⟨v84, H85, z83, hG⟩ := bC_s hF; clear hF
      refine hp_callV_v (H1 := H85) (As := [.int x8]) (rest := []) d_MText_statement_222 (k_MText_commands z83) (ab_mkC s_MText_commands (show 258 + 1 ≤ fr + 3 from by have := ho.1; omega) (show 8 + (4 + 11) + 5874 ≤ lo + 65 from by have := ho.2.1; omega) (Nat.le_refl 0) (Nat.le_refl 0)) (k11 133 rfl rfl) i_MText_commands v_MText_commands (by rw [(s_1).1]; exact q1) (by decide) rfl rfl (Nat.le_of_ble_eq_true rfl) ?_
      have s_21 : Sa H H85 := (s_1).tr (m_MText_commands z83)
      refine ab_goto (tgt := 251) d_MText_statement_225 (by decide) ?_
      exact ab_vret d_MText_statement_251 rfl (Nat.le_refl _) (Nat.le_refl _) (by have hr := Option.some.inj hG; subst hr; exact ⟨rfl, rfl⟩)
    rw [if_neg t82] at hF
    have ut82 : ¬ (229 : Int) = (x8).toInt := fun z => t82 (Int32.toInt_inj.mp (z.symm.trans (by decide)))
    by_cases t86 : x8 = 230
    · rw [if_pos t86] at hF
      refine ab_tableIn (off := 192) (tgt := 228) d_MText_statement_36 (by rw [t86]; decide) (by rw [t86]; decide) (by rw [t86]; decide) (by decide) ?_
      refine ab_aload_n d_MText_statement_228 rfl rfl rfl ?_
      refine ab_bipush (v := 59) d_MText_statement_229 (by decide) ?_
      obtain ⟨v88, H89, z87, hG⟩ := bC_s hF; clear hF
      refine hp_callV_v (H1 := H89) (As := [.int 59]) (rest := []) d_MText_statement_231 (k_MText_takes z87) (ab_mkC s_MText_takes (show 2 + 1 ≤ fr + 3 from by have := ho.1; omega) (show 8 + (2 + 11) + 43 ≤ lo + 65 from by have := ho.2.1; omega) (Nat.le_refl 0) (Nat.le_refl 0)) (k10 172 rfl rfl) i_MText_takes v_MText_takes (by rw [(s_1).1]; exact q1) (by decide) rfl rfl (Nat.le_of_ble_eq_true rfl) ?_
      have s_22 : Sa H H89 := (s_1).tr (m_MText_takes z87)
      refine ab_goto (tgt := 251) d_MText_statement_234 (by decide) ?_
      exact ab_vret d_MText_statement_251 rfl (Nat.le_refl _) (Nat.le_refl _) (by have hr := Option.some.inj hG; subst hr; exact ⟨rfl, rfl⟩)
    rw [if_neg t86] at hF
    have ut86 : ¬ (230 : Int) = (x8).toInt := fun z => t86 (Int32.toInt_inj.mp (z.symm.trans (by decide)))
    by_cases t90 : x8 = 216
    · skip
      refine ab_tableIn (off := 201) (tgt := 237) d_MText_statement_36 (by rw [t90]; decide) (by rw [t90]; decide) (by rw [t90]; decide) (by decide) ?_
      refine ab_aload_n d_MText_statement_237 rfl rfl rfl ?_
      refine ab_iload_n d_MText_statement_238 rfl rfl ?_
      refine hp_putI (v := x10) (f := 11) d_MText_statement_239 (by rw [(s_1).1]; exact q1) (by decide) rfl (by decide) (k8 175 rfl rfl) rfl rfl (fun _ => rfl) (fun _ => rfl) rfl ?_
      refine hp_gen (fun H91 eH91 => ?_)
      replace hF := bnd_s eH91 hF
      have s_23 : Sa H H91 := by rw [eH91]; exact s_1
      refine ab_aload_n d_MText_statement_242 rfl rfl rfl ?_
      refine ab_iconst (v := 1) d_MText_statement_243 (by decide) ?_
      refine ab_aload_n d_MText_statement_244 rfl rfl rfl ?_
      refine hp_getI (f := 11) d_MText_statement_245 (by rw [(s_23).1]; exact q1) (by decide) rfl (by decide) (k8 175 rfl rfl) rfl ?_
      refine ab_topi (fun x92 ex92 => ?_)
      replace hF := bnd_s ex92 hF
      obtain ⟨v94, H95, z93, hG⟩ := bC_s hF; clear hF
      refine hp_callV_v (H1 := H95) (As := [.int 1, .int x92]) (rest := []) d_MText_statement_248 (k_MText_fails z93) (ab_mkC s_MText_fails (show 0 + 1 ≤ fr + 3 from by have := ho.1; omega) (show 8 + (3 + 11) + 0 ≤ lo + 65 from by have := ho.2.1; omega) (Nat.le_refl 0) (Nat.le_refl 0)) (k10 160 rfl rfl) i_MText_fails v_MText_fails (by rw [(s_23).1]; exact q1) (by decide) rfl rfl (Nat.le_of_ble_eq_true rfl) ?_
      have s_24 : Sa H H95 := (s_23).tr (m_MText_fails z93)
      exact ab_vret d_MText_statement_251 rfl (Nat.le_refl _) (Nat.le_refl _) (by have hr := Option.some.inj hG; subst hr; exact ⟨rfl, rfl⟩)
    have ut90 : ¬ (216 : Int) = (x8).toInt := fun z => t90 (Int32.toInt_inj.mp (z.symm.trans (by decide)))
    by_cases t91 : x8 = 219
    · skip
      refine ab_tableIn (off := 201) (tgt := 237) d_MText_statement_36 (by rw [t91]; decide) (by rw [t91]; decide) (by rw [t91]; decide) (by decide) ?_
      refine ab_aload_n d_MText_statement_237 rfl rfl rfl ?_
      refine ab_iload_n d_MText_statement_238 rfl rfl ?_
      refine hp_putI (v := x10) (f := 11) d_MText_statement_239 (by rw [(s_1).1]; exact q1) (by decide) rfl (by decide) (k8 175 rfl rfl) rfl rfl (fun _ => rfl) (fun _ => rfl) rfl ?_
      refine hp_gen (fun H92 eH92 => ?_)
      replace hF := bnd_s eH92 hF
      have s_25 : Sa H H92 := by rw [eH92]; exact s_1
      refine ab_aload_n d_MText_statement_242 rfl rfl rfl ?_
      refine ab_iconst (v := 1) d_MText_statement_243 (by decide) ?_
      refine ab_aload_n d_MText_statement_244 rfl rfl rfl ?_
      refine hp_getI (f := 11) d_MText_statement_245 (by rw [(s_25).1]; exact q1) (by decide) rfl (by decide) (k8 175 rfl rfl) rfl ?_
      refine ab_topi (fun x93 ex93 => ?_)
      replace hF := bnd_s ex93 hF
      obtain ⟨v95, H96, z94, hG⟩ := bC_s hF; clear hF
      refine hp_callV_v (H1 := H96) (As := [.int 1, .int x93]) (rest := []) d_MText_statement_248 (k_MText_fails z94) (ab_mkC s_MText_fails (show 0 + 1 ≤ fr + 3 from by have := ho.1; omega) (show 8 + (3 + 11) + 0 ≤ lo + 65 from by have := ho.2.1; omega) (Nat.le_refl 0) (Nat.le_refl 0)) (k10 160 rfl rfl) i_MText_fails v_MText_fails (by rw [(s_25).1]; exact q1) (by decide) rfl rfl (Nat.le_of_ble_eq_true rfl) ?_
      have s_26 : Sa H H96 := (s_25).tr (m_MText_fails z94)
      exact ab_vret d_MText_statement_251 rfl (Nat.le_refl _) (Nat.le_refl _) (by have hr := Option.some.inj hG; subst hr; exact ⟨rfl, rfl⟩)
    have ut91 : ¬ (219 : Int) = (x8).toInt := fun z => t91 (Int32.toInt_inj.mp (z.symm.trans (by decide)))
    by_cases t92 : x8 = 220
    · skip
      refine ab_tableIn (off := 201) (tgt := 237) d_MText_statement_36 (by rw [t92]; decide) (by rw [t92]; decide) (by rw [t92]; decide) (by decide) ?_
      refine ab_aload_n d_MText_statement_237 rfl rfl rfl ?_
      refine ab_iload_n d_MText_statement_238 rfl rfl ?_
      refine hp_putI (v := x10) (f := 11) d_MText_statement_239 (by rw [(s_1).1]; exact q1) (by decide) rfl (by decide) (k8 175 rfl rfl) rfl rfl (fun _ => rfl) (fun _ => rfl) rfl ?_
      refine hp_gen (fun H93 eH93 => ?_)
      replace hF := bnd_s eH93 hF
      have s_27 : Sa H H93 := by rw [eH93]; exact s_1
      refine ab_aload_n d_MText_statement_242 rfl rfl rfl ?_
      refine ab_iconst (v := 1) d_MText_statement_243 (by decide) ?_
      refine ab_aload_n d_MText_statement_244 rfl rfl rfl ?_
      refine hp_getI (f := 11) d_MText_statement_245 (by rw [(s_27).1]; exact q1) (by decide) rfl (by decide) (k8 175 rfl rfl) rfl ?_
      refine ab_topi (fun x94 ex94 => ?_)
      replace hF := bnd_s ex94 hF
      obtain ⟨v96, H97, z95, hG⟩ := bC_s hF; clear hF
      refine hp_callV_v (H1 := H97) (As := [.int 1, .int x94]) (rest := []) d_MText_statement_248 (k_MText_fails z95) (ab_mkC s_MText_fails (show 0 + 1 ≤ fr + 3 from by have := ho.1; omega) (show 8 + (3 + 11) + 0 ≤ lo + 65 from by have := ho.2.1; omega) (Nat.le_refl 0) (Nat.le_refl 0)) (k10 160 rfl rfl) i_MText_fails v_MText_fails (by rw [(s_27).1]; exact q1) (by decide) rfl rfl (Nat.le_of_ble_eq_true rfl) ?_
      have s_28 : Sa H H97 := (s_27).tr (m_MText_fails z95)
      exact ab_vret d_MText_statement_251 rfl (Nat.le_refl _) (Nat.le_refl _) (by have hr := Option.some.inj hG; subst hr; exact ⟨rfl, rfl⟩)
    have ut92 : ¬ (220 : Int) = (x8).toInt := fun z => t92 (Int32.toInt_inj.mp (z.symm.trans (by decide)))
    by_cases t93 : x8 = 228
    · skip
      refine ab_tableIn (off := 201) (tgt := 237) d_MText_statement_36 (by rw [t93]; decide) (by rw [t93]; decide) (by rw [t93]; decide) (by decide) ?_
      refine ab_aload_n d_MText_statement_237 rfl rfl rfl ?_
      refine ab_iload_n d_MText_statement_238 rfl rfl ?_
      refine hp_putI (v := x10) (f := 11) d_MText_statement_239 (by rw [(s_1).1]; exact q1) (by decide) rfl (by decide) (k8 175 rfl rfl) rfl rfl (fun _ => rfl) (fun _ => rfl) rfl ?_
      refine hp_gen (fun H94 eH94 => ?_)
      replace hF := bnd_s eH94 hF
      have s_29 : Sa H H94 := by rw [eH94]; exact s_1
      refine ab_aload_n d_MText_statement_242 rfl rfl rfl ?_
      refine ab_iconst (v := 1) d_MText_statement_243 (by decide) ?_
      refine ab_aload_n d_MText_statement_244 rfl rfl rfl ?_
      refine hp_getI (f := 11) d_MText_statement_245 (by rw [(s_29).1]; exact q1) (by decide) rfl (by decide) (k8 175 rfl rfl) rfl ?_
      refine ab_topi (fun x95 ex95 => ?_)
      replace hF := bnd_s ex95 hF
      obtain ⟨v97, H98, z96, hG⟩ := bC_s hF; clear hF
      refine hp_callV_v (H1 := H98) (As := [.int 1, .int x95]) (rest := []) d_MText_statement_248 (k_MText_fails z96) (ab_mkC s_MText_fails (show 0 + 1 ≤ fr + 3 from by have := ho.1; omega) (show 8 + (3 + 11) + 0 ≤ lo + 65 from by have := ho.2.1; omega) (Nat.le_refl 0) (Nat.le_refl 0)) (k10 160 rfl rfl) i_MText_fails v_MText_fails (by rw [(s_29).1]; exact q1) (by decide) rfl rfl (Nat.le_of_ble_eq_true rfl) ?_
      have s_30 : Sa H H98 := (s_29).tr (m_MText_fails z96)
      exact ab_vret d_MText_statement_251 rfl (Nat.le_refl _) (Nat.le_refl _) (by have hr := Option.some.inj hG; subst hr; exact ⟨rfl, rfl⟩)
    have ut93 : ¬ (228 : Int) = (x8).toInt := fun z => t93 (Int32.toInt_inj.mp (z.symm.trans (by decide)))
    refine ab_tableOut (tgt := 237) d_MText_statement_36 (by omega) (by decide) ?_
    refine ab_aload_n d_MText_statement_237 rfl rfl rfl ?_
    refine ab_iload_n d_MText_statement_238 rfl rfl ?_
    refine hp_putI (v := x10) (f := 11) d_MText_statement_239 (by rw [(s_1).1]; exact q1) (by decide) rfl (by decide) (k8 175 rfl rfl) rfl rfl (fun _ => rfl) (fun _ => rfl) rfl ?_
    refine hp_gen (fun H94 eH94 => ?_)
    replace hF := bnd_s eH94 hF
    have s_31 : Sa H H94 := by rw [eH94]; exact s_1
    refine ab_aload_n d_MText_statement_242 rfl rfl rfl ?_
    refine ab_iconst (v := 1) d_MText_statement_243 (by decide) ?_
    refine ab_aload_n d_MText_statement_244 rfl rfl rfl ?_
    refine hp_getI (f := 11) d_MText_statement_245 (by rw [(s_31).1]; exact q1) (by decide) rfl (by decide) (k8 175 rfl rfl) rfl ?_
    refine ab_topi (fun x95 ex95 => ?_)
    replace hF := bnd_s ex95 hF
    obtain ⟨v97, H98, z96, hG⟩ := bC_s hF; clear hF
    refine hp_callV_v (H1 := H98) (As := [.int 1, .int x95]) (rest := []) d_MText_statement_248 (k_MText_fails z96) (ab_mkC s_MText_fails (show 0 + 1 ≤ fr + 3 from by have := ho.1; omega) (show 8 + (3 + 11) + 0 ≤ lo + 65 from by have := ho.2.1; omega) (Nat.le_refl 0) (Nat.le_refl 0)) (k10 160 rfl rfl) i_MText_fails v_MText_fails (by rw [(s_31).1]; exact q1) (by decide) rfl rfl (Nat.le_of_ble_eq_true rfl) ?_
    have s_32 : Sa H H98 := (s_31).tr (m_MText_fails z96)
    exact ab_vret d_MText_statement_251 rfl (Nat.le_refl _) (Nat.le_refl _) (by have hr := Option.some.inj hG; subst hr; exact ⟨rfl, rfl⟩)
  · rw [if_pos q9] at hF
    refine ab_aload_n d_MText_statement_15 rfl rfl rfl ?_
    obtain ⟨v100, H101, z99, hG⟩ := bC_s hF; clear hF
    refine hp_callV_v (H1 := H101) (As := []) (rest := []) d_MText_statement_16 (k_MText_assigns z99) (ab_mkC s_MText_assigns (show 257 + 1 ≤ fr + 3 from by have := ho.1; omega) (show 8 + (5 + 11) + 5853 ≤ lo + 65 from by have := ho.2.1; omega) (Nat.le_refl 0) (Nat.le_refl 0)) (k11 31 rfl rfl) i_MText_assigns v_MText_assigns q1 (by decide) rfl rfl (Nat.le_of_ble_eq_true rfl) ?_
    have s_33 : Sa H H101 := (m_MText_assigns z99)
    exact ab_vret d_MText_statement_19 rfl (Nat.le_refl _) (Nat.le_refl _) (by have hr := Option.some.inj hG; subst hr; exact ⟨rfl, rfl⟩)
def B_MText_statements_39 (N : Nat) (o : Orc_TextS) (p0 : Nat) (l1 : Int32) (l2 : Int32) (H : Hp) : Option (Unit × Hp) :=
    ck (H.sh[p0]? = some (14, 0)) <|
    rf (H.P p0 8) fun a11 =>
    bnd ((H.D p0 11)) fun x13 =>
    ar H 100 a11 fun n14 =>
    ck (inb l1 n14) <|
    bnd (H.sD a11 (l1).toNatClampNeg x13) fun H17 =>
    bC (F_MText_takes N p0 (125 : Int32) H17) fun v19 H20 =>
    bnd (H20.sD p0 37 l2) fun H21 =>
    some ((), H21)
set_option maxRecDepth 20000 in
set_option maxHeartbeats 2000000 in
theorem mB_MText_statements_39 {N : Nat} {o : Orc_TextS} (hmo : mo_TextS o) {p0 : Nat} {l1 : Int32} {l2 : Int32} {H : Hp} {r : Unit × Hp} (hF : B_MText_statements_39 N o p0 l1 l2 H = some r) : Sa H r.2 := by
  unfold B_MText_statements_39 at hF
  have hm := Sa.rf H
  obtain ⟨q22, hG⟩ := ck_s hF; clear hF
  obtain ⟨a23, e24, hF⟩ := rf_s hG; clear hG
  obtain ⟨x25, -, hG⟩ := bnd_g hF; clear hF
  obtain ⟨n26, q27, hF⟩ := ar_s hG; clear hG
  obtain ⟨q28, hG⟩ := ck_s hF; clear hF
  obtain ⟨H29, eH29, hF⟩ := bnd_g hG; clear hG
  replace hm : Sa H H29 := by rw [eH29]; exact hm
  obtain ⟨v31, H32, z30, hG⟩ := bC_s hF; clear hF
  replace hm : Sa H H32 := hm.tr (m_MText_takes z30)
  obtain ⟨H33, eH33, hF⟩ := bnd_g hG; clear hG
  replace hm : Sa H H33 := by rw [eH33]; exact hm
  have hr := Option.some.inj hF; subst hr
  exact hm
set_option maxRecDepth 20000 in
set_option maxHeartbeats 2000000 in
theorem kB_MText_statements_39 {N : Nat} {o : Orc_TextS} {fr lo : Nat} (ho : ok_TextS o fr lo) (hmo : mo_TextS o) {p0 : Nat} {l1 : Int32} {l2 : Int32} {H : Hp} {r : Unit × Hp} (hF : B_MText_statements_39 N o p0 l1 l2 H = some r) : ab_V y_MText_statements { frames := fr + 4, cells := 0, slots := 0, locals := lo + 89 } (po (.returned none) r.2) 0 0 0 0 39 [some (.ref p0), some (.int l1), some (.int l2)] [] (hpw H) := by
  unfold B_MText_statements_39 at hF
  refine ab_aload_n d_MText_statements_39 rfl rfl rfl ?_
  obtain ⟨q10, hG⟩ := ck_s hF; clear hF
  obtain ⟨a11, e12, hF⟩ := rf_s hG; clear hG
  refine hp_getR (f := 8) d_MText_statements_40 q10 (by decide) rfl (by decide) (k8 169 rfl rfl) rfl e12 ?_
  refine ab_iload_n d_MText_statements_43 rfl rfl ?_
  refine ab_aload_n d_MText_statements_44 rfl rfl rfl ?_
  refine hp_getI (f := 11) d_MText_statements_45 q10 (by decide) rfl (by decide) (k8 175 rfl rfl) rfl ?_
  refine ab_topi (fun x13 ex13 => ?_)
  replace hF := bnd_s ex13 hF
  obtain ⟨n14, q15, hG⟩ := ar_s hF; clear hF
  obtain ⟨q16, hF⟩ := ck_s hG; clear hG
  refine hp_iast d_MText_statements_48 tI q15 q16 ?_
  refine hp_gen (fun H17 eH17 => ?_)
  replace hF := bnd_s eH17 hF
  have s_2 : Sa H H17 := by rw [eH17]; exact Sa.rf _
  refine ab_aload_n d_MText_statements_49 rfl rfl rfl ?_
  refine ab_bipush (v := 125) d_MText_statements_50 (by decide) ?_
  obtain ⟨v19, H20, z18, hG⟩ := bC_s hF; clear hF
  refine hp_callV_v (H1 := H20) (As := [.int 125]) (rest := []) d_MText_statements_52 (k_MText_takes z18) (ab_mkC s_MText_takes (show 2 + 1 ≤ fr + 4 from by have := ho.1; omega) (show 8 + (2 + 11) + 43 ≤ lo + 89 from by have := ho.2.1; omega) (Nat.le_refl 0) (Nat.le_refl 0)) (k10 172 rfl rfl) i_MText_takes v_MText_takes (by rw [(s_2).1]; exact q10) (by decide) rfl rfl (Nat.le_of_ble_eq_true rfl) ?_
  have s_3 : Sa H H20 := (s_2).tr (m_MText_takes z18)
  refine ab_aload_n d_MText_statements_55 rfl rfl rfl ?_
  refine ab_iload_n d_MText_statements_56 rfl rfl ?_
  refine hp_putI (v := l2) (f := 37) d_MText_statements_57 (by rw [(s_3).1]; exact q10) (by decide) rfl (by decide) (k8 224 rfl rfl) rfl rfl (fun _ => rfl) (fun _ => rfl) rfl ?_
  refine hp_gen (fun H21 eH21 => ?_)
  replace hG := bnd_s eH21 hG
  have s_4 : Sa H H21 := by rw [eH21]; exact s_3
  exact ab_vret d_MText_statements_60 rfl (Nat.le_refl _) (Nat.le_refl _) (by have hr := Option.some.inj hG; subst hr; exact ⟨rfl, rfl⟩)
def B_MText_statements_16 (N : Nat) (o : Orc_TextS) (p0 : Nat) : Nat → Int32 → Int32 → Hp → Option (Unit × Hp)
  | 0, _, _, _ => none
  | n + 1, l1, l2, H =>
    ck (H.sh[p0]? = some (14, 0)) <|
    bnd ((H.D p0 9)) fun x8 =>
    if x8 = (0 : Int32) then
    bC (F_MText_is N p0 (125 : Int32) H) fun v35 H36 =>
    if v35 = (0 : Int32) then
    bC (F_MText_statement N o p0 H36) fun v39 H40 =>
    B_MText_statements_16 N o p0 n l1 l2 H40
    else
    B_MText_statements_39 N o p0 l1 l2 H36
    else
    B_MText_statements_39 N o p0 l1 l2 H
termination_by structural n => n
set_option maxRecDepth 20000 in
set_option maxHeartbeats 2000000 in
theorem mB_MText_statements_16 {N : Nat} {o : Orc_TextS} (hmo : mo_TextS o) {p0 : Nat} : ∀ (n : Nat) (l1 : Int32) (l2 : Int32) (H : Hp) (r : Unit × Hp), B_MText_statements_16 N o p0 n l1 l2 H = some r → Sa H r.2 := by
  intro n
  induction n with
  | zero => intro l1 l2 H r hF; rw [B_MText_statements_16] at hF; cases hF
  | succ n ih =>
    intro l1 l2 H r hF
    rw [B_MText_statements_16] at hF
    have hm := Sa.rf H
    obtain ⟨q41, hG⟩ := ck_s hF; clear hF
    obtain ⟨x42, -, hF⟩ := bnd_g hG; clear hG
    rcases ite_s hF with ⟨q_10, hG⟩ | ⟨q_10, hG⟩
    · clear hF
      obtain ⟨v45, H46, z44, hF⟩ := bC_s hG; clear hG
      replace hm : Sa H H46 := hm.tr (m_MText_is z44)
      rcases ite_s hF with ⟨q_12, hG⟩ | ⟨q_12, hG⟩
      · clear hF
        obtain ⟨v49, H50, z48, hF⟩ := bC_s hG; clear hG
        replace hm : Sa H H50 := hm.tr (m_MText_statement hmo z48)
        exact hm.tr (ih l1 l2 H50 r hF)
      · clear hF
        exact hm.tr (mB_MText_statements_39 hmo hG)
    · clear hF
      exact hm.tr (mB_MText_statements_39 hmo hG)
set_option maxRecDepth 20000 in
set_option maxHeartbeats 2000000 in
theorem kB_MText_statements_16 {N : Nat} {o : Orc_TextS} {fr lo : Nat} (ho : ok_TextS o fr lo) (hmo : mo_TextS o) {p0 : Nat} : ∀ (n : Nat) (l1 : Int32) (l2 : Int32) (H : Hp) (r : Unit × Hp), B_MText_statements_16 N o p0 n l1 l2 H = some r → ab_V y_MText_statements { frames := fr + 4, cells := 0, slots := 0, locals := lo + 89 } (po (.returned none) r.2) 0 0 0 0 16 [some (.ref p0), some (.int l1), some (.int l2)] [] (hpw H) := by
  intro n
  induction n with
  | zero => intro l1 l2 H r hF; rw [B_MText_statements_16] at hF; cases hF
  | succ n ih =>
    intro l1 l2 H r hF
    rw [B_MText_statements_16] at hF
    refine ab_aload_n d_MText_statements_16 rfl rfl rfl ?_
    obtain ⟨q7, hG⟩ := ck_s hF; clear hF
    refine hp_getI (f := 9) d_MText_statements_17 q7 (by decide) rfl (by decide) (k8 172 rfl rfl) rfl ?_
    refine ab_topi (fun x8 ex8 => ?_)
    replace hG := bnd_s ex8 hG
    refine ab_if_ne (tgt := 39) d_MText_statements_20 (by decide) (fun q9 => ?_) (fun q9 => ?_)
    · rw [if_neg q9] at hG
      exact kB_MText_statements_39 ho hmo hG
    · rw [if_pos q9] at hG
      refine ab_aload_n d_MText_statements_23 rfl rfl rfl ?_
      refine ab_bipush (v := 125) d_MText_statements_24 (by decide) ?_
      obtain ⟨v35, H36, z34, hF⟩ := bC_s hG; clear hG
      refine hp_callV_a (v := .int v35) (H1 := H36) (As := [.int 125]) (rest := []) d_MText_statements_26 (k_MText_is z34) (ab_mkC s_MText_is (show 0 + 1 ≤ fr + 4 from by have := ho.1; omega) (show 8 + (2 + 11) + 0 ≤ lo + 89 from by have := ho.2.1; omega) (Nat.le_refl 0) (Nat.le_refl 0)) (k10 180 rfl rfl) i_MText_is v_MText_is q7 (by decide) rfl rfl (Nat.le_of_ble_eq_true rfl) ?_
      have s_8 : Sa H H36 := (m_MText_is z34)
      refine ab_if_ne (tgt := 39) d_MText_statements_29 (by decide) (fun q37 => ?_) (fun q37 => ?_)
      · rw [if_neg q37] at hF
        exact kB_MText_statements_39 ho hmo hF
      · rw [if_pos q37] at hF
        refine ab_aload_n d_MText_statements_32 rfl rfl rfl ?_
        obtain ⟨v39, H40, z38, hG⟩ := bC_s hF; clear hF
        refine hp_callV_v (H1 := H40) (As := []) (rest := []) d_MText_statements_33 (k_MText_statement ho hmo z38) (ab_mkC s_MText_statement (show (fr + 3) + 1 ≤ fr + 4 from by have := ho.1; omega) (show 8 + (5 + 11) + (lo + 65) ≤ lo + 89 from by have := ho.2.1; omega) (Nat.le_refl 0) (Nat.le_refl 0)) (k11 27 rfl rfl) i_MText_statement v_MText_statement (by rw [(s_8).1]; exact q7) (by decide) rfl rfl (Nat.le_of_ble_eq_true rfl) ?_
        have s_9 : Sa H H40 := (s_8).tr (m_MText_statement hmo z38)
        refine ab_goto (tgt := 16) d_MText_statements_36 (by decide) ?_
        exact ih l1 l2 H40 r hG
def F_MText_statements (N : Nat) (o : Orc_TextS) (p0 : Nat) (H : Hp) : Option (Unit × Hp) :=
    ck (H.sh[p0]? = some (14, 0)) <|
    bnd ((H.D p0 11)) fun x2 =>
    bnd ((H.D p0 37)) fun x3 =>
    bC (F_MText_takes N p0 (123 : Int32) H) fun v5 H6 =>
    B_MText_statements_16 N o p0 N x2 x3 H6
set_option maxRecDepth 20000 in
set_option maxHeartbeats 2000000 in
theorem m_MText_statements {N : Nat} {o : Orc_TextS} (hmo : mo_TextS o) {p0 : Nat} {H : Hp} {r : Unit × Hp} (hF : F_MText_statements N o p0 H = some r) : Sa H r.2 := by
  unfold F_MText_statements at hF
  have hm := Sa.rf H
  obtain ⟨q51, hG⟩ := ck_s hF; clear hF
  obtain ⟨x52, -, hF⟩ := bnd_g hG; clear hG
  obtain ⟨x53, -, hG⟩ := bnd_g hF; clear hF
  obtain ⟨v55, H56, z54, hF⟩ := bC_s hG; clear hG
  replace hm : Sa H H56 := hm.tr (m_MText_takes z54)
  exact hm.tr (mB_MText_statements_16 hmo N x52 x53 H56 r hF)
set_option maxRecDepth 20000 in
set_option maxHeartbeats 2000000 in
theorem k_MText_statements {N : Nat} {o : Orc_TextS} {fr lo : Nat} (ho : ok_TextS o fr lo) (hmo : mo_TextS o) {p0 : Nat} {H : Hp} {r : Unit × Hp} (hF : F_MText_statements N o p0 H = some r) : ab_M y_MText_statements { frames := fr + 4, cells := 0, slots := 0, locals := lo + 89 } [.ref p0] (hpw H) (po (.returned none) r.2) := by
  unfold F_MText_statements at hF
  refine ab_of2 (lv := [some (.ref p0), none, none]) 2 rfl rfl (Nat.le_of_ble_eq_true rfl) ?_
  refine ab_aload_n d_MText_statements_0 rfl rfl rfl ?_
  obtain ⟨q1, hG⟩ := ck_s hF; clear hF
  refine hp_getI (f := 11) d_MText_statements_1 q1 (by decide) rfl (by decide) (k8 175 rfl rfl) rfl ?_
  refine ab_topi (fun x2 ex2 => ?_)
  replace hG := bnd_s ex2 hG
  refine ab_istore_n (lv' := [some (.ref p0), some (.int x2), none]) d_MText_statements_4 rfl (by decide) rfl ?_
  refine ab_aload_n d_MText_statements_5 rfl rfl rfl ?_
  refine hp_getI (f := 37) d_MText_statements_6 q1 (by decide) rfl (by decide) (k8 224 rfl rfl) rfl ?_
  refine ab_topi (fun x3 ex3 => ?_)
  replace hG := bnd_s ex3 hG
  refine ab_istore_n (lv' := [some (.ref p0), some (.int x2), some (.int x3)]) d_MText_statements_9 rfl (by decide) rfl ?_
  refine ab_aload_n d_MText_statements_10 rfl rfl rfl ?_
  refine ab_bipush (v := 123) d_MText_statements_11 (by decide) ?_
  obtain ⟨v5, H6, z4, hF⟩ := bC_s hG; clear hG
  refine hp_callV_v (H1 := H6) (As := [.int 123]) (rest := []) d_MText_statements_13 (k_MText_takes z4) (ab_mkC s_MText_takes (show 2 + 1 ≤ fr + 4 from by have := ho.1; omega) (show 8 + (2 + 11) + 43 ≤ lo + 89 from by have := ho.2.1; omega) (Nat.le_refl 0) (Nat.le_refl 0)) (k10 172 rfl rfl) i_MText_takes v_MText_takes q1 (by decide) rfl rfl (Nat.le_of_ble_eq_true rfl) ?_
  have s_1 : Sa H H6 := (m_MText_takes z4)
  exact kB_MText_statements_16 ho hmo N x2 x3 H6 r hF
def X_TextS (N : Nat) : Nat → Orc_TextS
  | 0 => (fun _ _ => none)
  | d + 1 => (fun a0 H => F_MText_statements N (X_TextS N d) a0 H)
termination_by structural d => d
theorem moX_TextS {N : Nat} : ∀ d, mo_TextS (X_TextS N d) := by
  intro d
  induction d with
  | zero => exact (fun _ _ _ hz => absurd (show none = some _ from hz) (by simp))
  | succ d ih => exact (fun _ _ _ hz => m_MText_statements ih hz)
theorem okX_TextS {N : Nat} : ∀ d, ok_TextS (X_TextS N d) (258 + 4 * d) (5874 + 89 * d) := by
  intro d
  induction d with
  | zero => exact ⟨Nat.le_refl _, Nat.le_refl _, (fun _ _ _ hz => absurd (show none = some _ from hz) (by simp))⟩
  | succ d ih => exact ⟨by omega, by omega, (fun _ _ _ hz => k_MText_statements ih (moX_TextS d) hz)⟩
