def y_MRunner_block : ab_Y := (⟨"WorldEngineModel$Runner", "block", "()V"⟩, prog_15_method_6_code, 2, none, [])
theorem d_MRunner_block_0 : decode y_MRunner_block.2.1 0 = .ok (.aload_n 0, 1) := by decide +kernel
theorem d_MRunner_block_1 : decode y_MRunner_block.2.1 1 = .ok (.getfield 108, 3) := by decide +kernel
theorem d_MRunner_block_4 : decode y_MRunner_block.2.1 4 = .ok (.istore_n 1, 1) := by decide +kernel
theorem d_MRunner_block_5 : decode y_MRunner_block.2.1 5 = .ok (.aload_n 0, 1) := by decide +kernel
theorem d_MRunner_block_6 : decode y_MRunner_block.2.1 6 = .ok (.dup, 1) := by decide +kernel
theorem d_MRunner_block_7 : decode y_MRunner_block.2.1 7 = .ok (.getfield 108, 3) := by decide +kernel
theorem d_MRunner_block_10 : decode y_MRunner_block.2.1 10 = .ok (.iconst 1, 1) := by decide +kernel
theorem d_MRunner_block_11 : decode y_MRunner_block.2.1 11 = .ok (.iadd, 1) := by decide +kernel
theorem d_MRunner_block_12 : decode y_MRunner_block.2.1 12 = .ok (.putfield 108, 3) := by decide +kernel
theorem d_MRunner_block_15 : decode y_MRunner_block.2.1 15 = .ok (.aload_n 0, 1) := by decide +kernel
theorem d_MRunner_block_16 : decode y_MRunner_block.2.1 16 = .ok (.getfield 96, 3) := by decide +kernel
theorem d_MRunner_block_19 : decode y_MRunner_block.2.1 19 = .ok (.ifCond .ne 26, 3) := by decide +kernel
theorem d_MRunner_block_22 : decode y_MRunner_block.2.1 22 = .ok (.aload_n 0, 1) := by decide +kernel
theorem d_MRunner_block_23 : decode y_MRunner_block.2.1 23 = .ok (.getfield 108, 3) := by decide +kernel
theorem d_MRunner_block_26 : decode y_MRunner_block.2.1 26 = .ok (.aload_n 0, 1) := by decide +kernel
theorem d_MRunner_block_27 : decode y_MRunner_block.2.1 27 = .ok (.getfield 25, 3) := by decide +kernel
theorem d_MRunner_block_30 : decode y_MRunner_block.2.1 30 = .ok (.getfield 122, 3) := by decide +kernel
theorem d_MRunner_block_33 : decode y_MRunner_block.2.1 33 = .ok (.iload_n 1, 1) := by decide +kernel
theorem d_MRunner_block_34 : decode y_MRunner_block.2.1 34 = .ok (.iaload, 1) := by decide +kernel
theorem d_MRunner_block_35 : decode y_MRunner_block.2.1 35 = .ok (.if_icmp .ge 10, 3) := by decide +kernel
theorem d_MRunner_block_38 : decode y_MRunner_block.2.1 38 = .ok (.aload_n 0, 1) := by decide +kernel
theorem d_MRunner_block_39 : decode y_MRunner_block.2.1 39 = .ok (.invokevirtual 125, 3) := by decide +kernel
theorem d_MRunner_block_42 : decode y_MRunner_block.2.1 42 = .ok (.goto (-27), 3) := by decide +kernel
theorem d_MRunner_block_45 : decode y_MRunner_block.2.1 45 = .ok (.aload_n 0, 1) := by decide +kernel
theorem d_MRunner_block_46 : decode y_MRunner_block.2.1 46 = .ok (.aload_n 0, 1) := by decide +kernel
theorem d_MRunner_block_47 : decode y_MRunner_block.2.1 47 = .ok (.getfield 25, 3) := by decide +kernel
theorem d_MRunner_block_50 : decode y_MRunner_block.2.1 50 = .ok (.getfield 122, 3) := by decide +kernel
theorem d_MRunner_block_53 : decode y_MRunner_block.2.1 53 = .ok (.iload_n 1, 1) := by decide +kernel
theorem d_MRunner_block_54 : decode y_MRunner_block.2.1 54 = .ok (.iaload, 1) := by decide +kernel
theorem d_MRunner_block_55 : decode y_MRunner_block.2.1 55 = .ok (.iconst 1, 1) := by decide +kernel
theorem d_MRunner_block_56 : decode y_MRunner_block.2.1 56 = .ok (.iadd, 1) := by decide +kernel
theorem d_MRunner_block_57 : decode y_MRunner_block.2.1 57 = .ok (.putfield 108, 3) := by decide +kernel
theorem d_MRunner_block_60 : decode y_MRunner_block.2.1 60 = .ok (.return_, 1) := by decide +kernel
theorem s_MRunner_block : ab_Stat y_MRunner_block 0 := ⟨(k11 233 rfl rfl), (k1 22 rfl rfl), ⟨by decide, by decide⟩, by decide +kernel⟩
theorem i_MRunner_block : Cond.instanceMethod y_MRunner_block.1 ∈ ab_T := (k11 232 rfl rfl)
theorem v_MRunner_block : Cond.selects "WorldEngineModel$Runner" y_MRunner_block.1 y_MRunner_block.1 ∈ ab_T := ab_s (List.mem_of_getElem? (i := 176) rfl) rfl
def y_MRunner_hears : ab_Y := (⟨"WorldEngineModel$Runner", "hears", "()V"⟩, prog_15_method_15_code, 5, none, [])
theorem d_MRunner_hears_0 : decode y_MRunner_hears.2.1 0 = .ok (.aload_n 0, 1) := by decide +kernel
theorem d_MRunner_hears_1 : decode y_MRunner_hears.2.1 1 = .ok (.getfield 25, 3) := by decide +kernel
theorem d_MRunner_hears_4 : decode y_MRunner_hears.2.1 4 = .ok (.getfield 122, 3) := by decide +kernel
theorem d_MRunner_hears_7 : decode y_MRunner_hears.2.1 7 = .ok (.aload_n 0, 1) := by decide +kernel
theorem d_MRunner_hears_8 : decode y_MRunner_hears.2.1 8 = .ok (.getfield 108, 3) := by decide +kernel
theorem d_MRunner_hears_11 : decode y_MRunner_hears.2.1 11 = .ok (.iaload, 1) := by decide +kernel
theorem d_MRunner_hears_12 : decode y_MRunner_hears.2.1 12 = .ok (.istore_n 1, 1) := by decide +kernel
theorem d_MRunner_hears_13 : decode y_MRunner_hears.2.1 13 = .ok (.aload_n 0, 1) := by decide +kernel
theorem d_MRunner_hears_14 : decode y_MRunner_hears.2.1 14 = .ok (.dup, 1) := by decide +kernel
theorem d_MRunner_hears_15 : decode y_MRunner_hears.2.1 15 = .ok (.getfield 108, 3) := by decide +kernel
theorem d_MRunner_hears_18 : decode y_MRunner_hears.2.1 18 = .ok (.iconst 1, 1) := by decide +kernel
theorem d_MRunner_hears_19 : decode y_MRunner_hears.2.1 19 = .ok (.iadd, 1) := by decide +kernel
theorem d_MRunner_hears_20 : decode y_MRunner_hears.2.1 20 = .ok (.putfield 108, 3) := by decide +kernel
theorem d_MRunner_hears_23 : decode y_MRunner_hears.2.1 23 = .ok (.aload_n 0, 1) := by decide +kernel
theorem d_MRunner_hears_24 : decode y_MRunner_hears.2.1 24 = .ok (.getfield 108, 3) := by decide +kernel
theorem d_MRunner_hears_27 : decode y_MRunner_hears.2.1 27 = .ok (.istore_n 2, 1) := by decide +kernel
theorem d_MRunner_hears_28 : decode y_MRunner_hears.2.1 28 = .ok (.aload_n 0, 1) := by decide +kernel
theorem d_MRunner_hears_29 : decode y_MRunner_hears.2.1 29 = .ok (.getfield 22, 3) := by decide +kernel
theorem d_MRunner_hears_32 : decode y_MRunner_hears.2.1 32 = .ok (.iload_n 1, 1) := by decide +kernel
theorem d_MRunner_hears_33 : decode y_MRunner_hears.2.1 33 = .ok (.iaload, 1) := by decide +kernel
theorem d_MRunner_hears_34 : decode y_MRunner_hears.2.1 34 = .ok (.istore_n 3, 1) := by decide +kernel
theorem d_MRunner_hears_35 : decode y_MRunner_hears.2.1 35 = .ok (.iconst 0, 1) := by decide +kernel
theorem d_MRunner_hears_36 : decode y_MRunner_hears.2.1 36 = .ok (.istore 4, 2) := by decide +kernel
theorem d_MRunner_hears_38 : decode y_MRunner_hears.2.1 38 = .ok (.iload 4, 2) := by decide +kernel
theorem d_MRunner_hears_40 : decode y_MRunner_hears.2.1 40 = .ok (.aload_n 0, 1) := by decide +kernel
theorem d_MRunner_hears_41 : decode y_MRunner_hears.2.1 41 = .ok (.getfield 29, 3) := by decide +kernel
theorem d_MRunner_hears_44 : decode y_MRunner_hears.2.1 44 = .ok (.getfield 188, 3) := by decide +kernel
theorem d_MRunner_hears_47 : decode y_MRunner_hears.2.1 47 = .ok (.if_icmp .ge 98, 3) := by decide +kernel
theorem d_MRunner_hears_50 : decode y_MRunner_hears.2.1 50 = .ok (.aload_n 0, 1) := by decide +kernel
theorem d_MRunner_hears_51 : decode y_MRunner_hears.2.1 51 = .ok (.getfield 96, 3) := by decide +kernel
theorem d_MRunner_hears_54 : decode y_MRunner_hears.2.1 54 = .ok (.ifCond .ne 91, 3) := by decide +kernel
theorem d_MRunner_hears_57 : decode y_MRunner_hears.2.1 57 = .ok (.aload_n 0, 1) := by decide +kernel
theorem d_MRunner_hears_58 : decode y_MRunner_hears.2.1 58 = .ok (.getfield 29, 3) := by decide +kernel
theorem d_MRunner_hears_61 : decode y_MRunner_hears.2.1 61 = .ok (.getfield 191, 3) := by decide +kernel
theorem d_MRunner_hears_64 : decode y_MRunner_hears.2.1 64 = .ok (.iload 4, 2) := by decide +kernel
theorem d_MRunner_hears_66 : decode y_MRunner_hears.2.1 66 = .ok (.iaload, 1) := by decide +kernel
theorem d_MRunner_hears_67 : decode y_MRunner_hears.2.1 67 = .ok (.iload_n 1, 1) := by decide +kernel
theorem d_MRunner_hears_68 : decode y_MRunner_hears.2.1 68 = .ok (.if_icmp .ne 71, 3) := by decide +kernel
theorem d_MRunner_hears_71 : decode y_MRunner_hears.2.1 71 = .ok (.aload_n 0, 1) := by decide +kernel
theorem d_MRunner_hears_72 : decode y_MRunner_hears.2.1 72 = .ok (.getfield 29, 3) := by decide +kernel
theorem d_MRunner_hears_75 : decode y_MRunner_hears.2.1 75 = .ok (.getfield 194, 3) := by decide +kernel
theorem d_MRunner_hears_78 : decode y_MRunner_hears.2.1 78 = .ok (.iload 4, 2) := by decide +kernel
theorem d_MRunner_hears_80 : decode y_MRunner_hears.2.1 80 = .ok (.iaload, 1) := by decide +kernel
theorem d_MRunner_hears_81 : decode y_MRunner_hears.2.1 81 = .ok (.aload_n 0, 1) := by decide +kernel
theorem d_MRunner_hears_82 : decode y_MRunner_hears.2.1 82 = .ok (.getfield 29, 3) := by decide +kernel
theorem d_MRunner_hears_85 : decode y_MRunner_hears.2.1 85 = .ok (.getfield 36, 3) := by decide +kernel
theorem d_MRunner_hears_88 : decode y_MRunner_hears.2.1 88 = .ok (.if_icmp .ne 51, 3) := by decide +kernel
theorem d_MRunner_hears_91 : decode y_MRunner_hears.2.1 91 = .ok (.aload_n 0, 1) := by decide +kernel
theorem d_MRunner_hears_92 : decode y_MRunner_hears.2.1 92 = .ok (.getfield 29, 3) := by decide +kernel
theorem d_MRunner_hears_95 : decode y_MRunner_hears.2.1 95 = .ok (.getfield 197, 3) := by decide +kernel
theorem d_MRunner_hears_98 : decode y_MRunner_hears.2.1 98 = .ok (.iload 4, 2) := by decide +kernel
theorem d_MRunner_hears_100 : decode y_MRunner_hears.2.1 100 = .ok (.iaload, 1) := by decide +kernel
theorem d_MRunner_hears_101 : decode y_MRunner_hears.2.1 101 = .ok (.aload_n 0, 1) := by decide +kernel
theorem d_MRunner_hears_102 : decode y_MRunner_hears.2.1 102 = .ok (.getfield 84, 3) := by decide +kernel
theorem d_MRunner_hears_105 : decode y_MRunner_hears.2.1 105 = .ok (.if_icmp .eq 6, 3) := by decide +kernel
theorem d_MRunner_hears_108 : decode y_MRunner_hears.2.1 108 = .ok (.goto 31, 3) := by decide +kernel
theorem d_MRunner_hears_111 : decode y_MRunner_hears.2.1 111 = .ok (.aload_n 0, 1) := by decide +kernel
theorem d_MRunner_hears_112 : decode y_MRunner_hears.2.1 112 = .ok (.invokevirtual 128, 3) := by decide +kernel
theorem d_MRunner_hears_115 : decode y_MRunner_hears.2.1 115 = .ok (.aload_n 0, 1) := by decide +kernel
theorem d_MRunner_hears_116 : decode y_MRunner_hears.2.1 116 = .ok (.getfield 22, 3) := by decide +kernel
theorem d_MRunner_hears_119 : decode y_MRunner_hears.2.1 119 = .ok (.iload_n 1, 1) := by decide +kernel
theorem d_MRunner_hears_120 : decode y_MRunner_hears.2.1 120 = .ok (.iload 4, 2) := by decide +kernel
theorem d_MRunner_hears_122 : decode y_MRunner_hears.2.1 122 = .ok (.iastore, 1) := by decide +kernel
theorem d_MRunner_hears_123 : decode y_MRunner_hears.2.1 123 = .ok (.aload_n 0, 1) := by decide +kernel
theorem d_MRunner_hears_124 : decode y_MRunner_hears.2.1 124 = .ok (.iload_n 2, 1) := by decide +kernel
theorem d_MRunner_hears_125 : decode y_MRunner_hears.2.1 125 = .ok (.putfield 108, 3) := by decide +kernel
theorem d_MRunner_hears_128 : decode y_MRunner_hears.2.1 128 = .ok (.aload_n 0, 1) := by decide +kernel
theorem d_MRunner_hears_129 : decode y_MRunner_hears.2.1 129 = .ok (.getfield 96, 3) := by decide +kernel
theorem d_MRunner_hears_132 : decode y_MRunner_hears.2.1 132 = .ok (.ifCond .ne 7, 3) := by decide +kernel
theorem d_MRunner_hears_135 : decode y_MRunner_hears.2.1 135 = .ok (.aload_n 0, 1) := by decide +kernel
theorem d_MRunner_hears_136 : decode y_MRunner_hears.2.1 136 = .ok (.invokevirtual 111, 3) := by decide +kernel
theorem d_MRunner_hears_139 : decode y_MRunner_hears.2.1 139 = .ok (.iinc 4 1, 3) := by decide +kernel
theorem d_MRunner_hears_142 : decode y_MRunner_hears.2.1 142 = .ok (.goto (-104), 3) := by decide +kernel
theorem d_MRunner_hears_145 : decode y_MRunner_hears.2.1 145 = .ok (.aload_n 0, 1) := by decide +kernel
theorem d_MRunner_hears_146 : decode y_MRunner_hears.2.1 146 = .ok (.getfield 22, 3) := by decide +kernel
theorem d_MRunner_hears_149 : decode y_MRunner_hears.2.1 149 = .ok (.iload_n 1, 1) := by decide +kernel
theorem d_MRunner_hears_150 : decode y_MRunner_hears.2.1 150 = .ok (.iload_n 3, 1) := by decide +kernel
theorem d_MRunner_hears_151 : decode y_MRunner_hears.2.1 151 = .ok (.iastore, 1) := by decide +kernel
theorem d_MRunner_hears_152 : decode y_MRunner_hears.2.1 152 = .ok (.aload_n 0, 1) := by decide +kernel
theorem d_MRunner_hears_153 : decode y_MRunner_hears.2.1 153 = .ok (.iload_n 2, 1) := by decide +kernel
theorem d_MRunner_hears_154 : decode y_MRunner_hears.2.1 154 = .ok (.putfield 108, 3) := by decide +kernel
theorem d_MRunner_hears_157 : decode y_MRunner_hears.2.1 157 = .ok (.aload_n 0, 1) := by decide +kernel
theorem d_MRunner_hears_158 : decode y_MRunner_hears.2.1 158 = .ok (.invokevirtual 171, 3) := by decide +kernel
theorem d_MRunner_hears_161 : decode y_MRunner_hears.2.1 161 = .ok (.return_, 1) := by decide +kernel
theorem s_MRunner_hears : ab_Stat y_MRunner_hears 0 := ⟨(k12 111 rfl rfl), (k1 22 rfl rfl), ⟨by decide, by decide⟩, by decide +kernel⟩
theorem i_MRunner_hears : Cond.instanceMethod y_MRunner_hears.1 ∈ ab_T := (k12 110 rfl rfl)
theorem v_MRunner_hears : Cond.selects "WorldEngineModel$Runner" y_MRunner_hears.1 y_MRunner_hears.1 ∈ ab_T := ab_s (List.mem_of_getElem? (i := 199) rfl) rfl
abbrev Orc_RunS : Type := (Nat → Hp → Option (Unit × Hp))
def ok_RunS (o : Orc_RunS) (fr lo : Nat) : Prop :=
  254 ≤ fr ∧ 6237 ≤ lo ∧
  (∀ (a0 : Nat) (H : Hp) (r : Unit × Hp), o a0 H = some r → ab_M y_MRunner_block { frames := fr, cells := 0, slots := 0, locals := lo } [.ref a0] (hpw H) (po (.returned none) r.2))
def mo_RunS (o : Orc_RunS) : Prop :=
  (∀ (a0 : Nat) (H : Hp) (r : Unit × Hp), o a0 H = some r → Sa H r.2)
def B_MRunner_hears_145 (N : Nat) (o : Orc_RunS) (p0 : Nat) (l1 : Int32) (l2 : Int32) (l3 : Int32) (H : Hp) : Option (Unit × Hp) :=
    ck (H.sh[p0]? = some (15, 0)) <|
    rf (H.P p0 15) fun a28 =>
    ar H 100 a28 fun n30 =>
    ck (inb l1 n30) <|
    bnd (H.sD a28 (l1).toNatClampNeg l3) fun H33 =>
    bnd (H33.sD p0 11 l2) fun H34 =>
    bC (F_MRunner_skips N p0 H34) fun v36 H37 =>
    some ((), H37)
set_option maxRecDepth 20000 in
set_option maxHeartbeats 2000000 in
theorem mB_MRunner_hears_145 {N : Nat} {o : Orc_RunS} (hmo : mo_RunS o) {p0 : Nat} {l1 : Int32} {l2 : Int32} {l3 : Int32} {H : Hp} {r : Unit × Hp} (hF : B_MRunner_hears_145 N o p0 l1 l2 l3 H = some r) : Sa H r.2 := by
  unfold B_MRunner_hears_145 at hF
  have hm := Sa.rf H
  obtain ⟨q38, hG⟩ := ck_s hF; clear hF
  obtain ⟨a39, e40, hF⟩ := rf_s hG; clear hG
  obtain ⟨n41, q42, hG⟩ := ar_s hF; clear hF
  obtain ⟨q43, hF⟩ := ck_s hG; clear hG
  obtain ⟨H44, eH44, hG⟩ := bnd_g hF; clear hF
  replace hm : Sa H H44 := by rw [eH44]; exact hm
  obtain ⟨H45, eH45, hF⟩ := bnd_g hG; clear hG
  replace hm : Sa H H45 := by rw [eH45]; exact hm
  obtain ⟨v47, H48, z46, hG⟩ := bC_s hF; clear hF
  replace hm : Sa H H48 := hm.tr (m_MRunner_skips z46)
  have hr := Option.some.inj hG; subst hr
  exact hm
set_option maxRecDepth 20000 in
set_option maxHeartbeats 2000000 in
theorem kB_MRunner_hears_145 {N : Nat} {o : Orc_RunS} {fr lo : Nat} (ho : ok_RunS o fr lo) (hmo : mo_RunS o) {p0 : Nat} {l1 : Int32} {l2 : Int32} {l3 : Int32} {H : Hp} {r : Unit × Hp} (hF : B_MRunner_hears_145 N o p0 l1 l2 l3 H = some r) : ab_V y_MRunner_hears { frames := fr + 1, cells := 0, slots := 0, locals := lo + 21 } (po (.returned none) r.2) 0 0 0 0 145 [some (.ref p0), some (.int l1), some (.int l2), some (.int l3), none] [] (hpw H) := by
  unfold B_MRunner_hears_145 at hF
  refine ab_aload_n d_MRunner_hears_145 rfl rfl rfl ?_
  obtain ⟨q27, hG⟩ := ck_s hF; clear hF
  obtain ⟨a28, e29, hF⟩ := rf_s hG; clear hG
  refine hp_getR (f := 15) d_MRunner_hears_146 q27 (by decide) rfl (by decide) (k9 198 rfl rfl) rfl e29 ?_
  refine ab_iload_n d_MRunner_hears_149 rfl rfl ?_
  refine ab_iload_n d_MRunner_hears_150 rfl rfl ?_
  obtain ⟨n30, q31, hG⟩ := ar_s hF; clear hF
  obtain ⟨q32, hF⟩ := ck_s hG; clear hG
  refine hp_iast d_MRunner_hears_151 tI q31 q32 ?_
  refine hp_gen (fun H33 eH33 => ?_)
  replace hF := bnd_s eH33 hF
  have s_2 : Sa H H33 := by rw [eH33]; exact Sa.rf _
  refine ab_aload_n d_MRunner_hears_152 rfl rfl rfl ?_
  refine ab_iload_n d_MRunner_hears_153 rfl rfl ?_
  refine hp_putI (v := l2) (f := 11) d_MRunner_hears_154 (by rw [(s_2).1]; exact q27) (by decide) rfl (by decide) (k9 194 rfl rfl) rfl rfl (fun _ => rfl) (fun _ => rfl) rfl ?_
  refine hp_gen (fun H34 eH34 => ?_)
  replace hF := bnd_s eH34 hF
  have s_3 : Sa H H34 := by rw [eH34]; exact s_2
  refine ab_aload_n d_MRunner_hears_157 rfl rfl rfl ?_
  obtain ⟨v36, H37, z35, hG⟩ := bC_s hF; clear hF
  refine hp_callV_v (H1 := H37) (As := []) (rest := []) d_MRunner_hears_158 (k_MRunner_skips z35) (ab_mkC s_MRunner_skips (show 0 + 1 ≤ fr + 1 from by have := ho.1; omega) (show 8 + (1 + 11) + 0 ≤ lo + 21 from by have := ho.2.1; omega) (Nat.le_refl 0) (Nat.le_refl 0)) (k12 92 rfl rfl) i_MRunner_skips v_MRunner_skips (by rw [(s_3).1]; exact q27) (by decide) rfl rfl (Nat.le_of_ble_eq_true rfl) ?_
  have s_4 : Sa H H37 := (s_3).tr (m_MRunner_skips z35)
  exact ab_vret d_MRunner_hears_161 rfl (Nat.le_refl _) (Nat.le_refl _) (by have hr := Option.some.inj hG; subst hr; exact ⟨rfl, rfl⟩)
def B_MRunner_hears_139 (N : Nat) (o : Orc_RunS) (p0 : Nat) (kq38 : Int32 → Int32 → Int32 → Int32 → Hp → Option (Unit × Hp)) (l1 : Int32) (l2 : Int32) (l3 : Int32) (l4 : Int32) (H : Hp) : Option (Unit × Hp) :=
    kq38 l1 l2 l3 (l4 + 1) H
set_option maxRecDepth 20000 in
set_option maxHeartbeats 2000000 in
theorem mB_MRunner_hears_139 {N : Nat} {o : Orc_RunS} (hmo : mo_RunS o) {p0 : Nat} {kq38 : Int32 → Int32 → Int32 → Int32 → Hp → Option (Unit × Hp)} (hm38 : ∀ (l1 : Int32) (l2 : Int32) (l3 : Int32) (l4 : Int32) (H : Hp) (r : Unit × Hp), kq38 l1 l2 l3 l4 H = some r → Sa H r.2) {l1 : Int32} {l2 : Int32} {l3 : Int32} {l4 : Int32} {H : Hp} {r : Unit × Hp} (hF : B_MRunner_hears_139 N o p0 kq38 l1 l2 l3 l4 H = some r) : Sa H r.2 := by
  unfold B_MRunner_hears_139 at hF
  have hm := Sa.rf H
  exact hm.tr (hm38 l1 l2 l3 (l4 + 1) H r hF)
set_option maxRecDepth 20000 in
set_option maxHeartbeats 2000000 in
theorem kB_MRunner_hears_139 {N : Nat} {o : Orc_RunS} {fr lo : Nat} (ho : ok_RunS o fr lo) (hmo : mo_RunS o) {p0 : Nat} {kq38 : Int32 → Int32 → Int32 → Int32 → Hp → Option (Unit × Hp)} (hm38 : ∀ (l1 : Int32) (l2 : Int32) (l3 : Int32) (l4 : Int32) (H : Hp) (r : Unit × Hp), kq38 l1 l2 l3 l4 H = some r → Sa H r.2) (hk38 : ∀ (l1 : Int32) (l2 : Int32) (l3 : Int32) (l4 : Int32) (H : Hp) (r : Unit × Hp), kq38 l1 l2 l3 l4 H = some r → ab_V y_MRunner_hears { frames := fr + 1, cells := 0, slots := 0, locals := lo + 21 } (po (.returned none) r.2) 0 0 0 0 38 [some (.ref p0), some (.int l1), some (.int l2), some (.int l3), some (.int l4)] [] (hpw H)) {l1 : Int32} {l2 : Int32} {l3 : Int32} {l4 : Int32} {H : Hp} {r : Unit × Hp} (hF : B_MRunner_hears_139 N o p0 kq38 l1 l2 l3 l4 H = some r) : ab_V y_MRunner_hears { frames := fr + 1, cells := 0, slots := 0, locals := lo + 21 } (po (.returned none) r.2) 0 0 0 0 139 [some (.ref p0), some (.int l1), some (.int l2), some (.int l3), some (.int l4)] [] (hpw H) := by
  unfold B_MRunner_hears_139 at hF
  refine ab_iinc (v := l4 + 1) (lv' := [some (.ref p0), some (.int l1), some (.int l2), some (.int l3), some (.int (l4 + 1))]) d_MRunner_hears_139 rfl rfl (by decide) rfl ?_
  refine ab_goto (tgt := 38) d_MRunner_hears_142 (by decide) ?_
  exact hk38 l1 l2 l3 (l4 + 1) H r hF
def B_MRunner_hears_38 (N : Nat) (o : Orc_RunS) (p0 : Nat) : Nat → Int32 → Int32 → Int32 → Int32 → Hp → Option (Unit × Hp)
  | 0, _, _, _, _, _ => none
  | n + 1, l1, l2, l3, l4, H =>
    ck (H.sh[p0]? = some (15, 0)) <|
    rf (H.P p0 1) fun a22 =>
    ck (H.sh[a22]? = some (13, 0)) <|
    bnd ((H.D a22 8)) fun x25 =>
    if x25 ≤ l4 then
    B_MRunner_hears_145 N o p0 l1 l2 l3 H
    else
    bnd ((H.D p0 10)) fun x49 =>
    if x49 = (0 : Int32) then
    rf (H.P p0 1) fun a51 =>
    ck (H.sh[a51]? = some (13, 0)) <|
    rf (H.P a51 9) fun a54 =>
    ar H 100 a54 fun n56 =>
    ck (inb l4 n56) <|
    bnd ((H.D a54 (l4).toNatClampNeg)) fun x59 =>
    if x59 = l1 then
    rf (H.P p0 1) fun a61 =>
    ck (H.sh[a61]? = some (13, 0)) <|
    rf (H.P a61 10) fun a64 =>
    ar H 100 a64 fun n66 =>
    ck (inb l4 n66) <|
    bnd ((H.D a64 (l4).toNatClampNeg)) fun x69 =>
    rf (H.P p0 1) fun a70 =>
    ck (H.sh[a70]? = some (13, 0)) <|
    bnd ((H.D a70 0)) fun x73 =>
    if x69 = x73 then
    rf (H.P p0 1) fun a75 =>
    ck (H.sh[a75]? = some (13, 0)) <|
    rf (H.P a75 11) fun a78 =>
    ar H 100 a78 fun n80 =>
    ck (inb l4 n80) <|
    bnd ((H.D a78 (l4).toNatClampNeg)) fun x83 =>
    bnd ((H.D p0 6)) fun x84 =>
    if x83 = x84 then
    bC (F_MRunner_counts N p0 H) fun v87 H88 =>
    rf (H88.P p0 15) fun a89 =>
    ar H88 100 a89 fun n91 =>
    ck (inb l1 n91) <|
    bnd (H88.sD a89 (l1).toNatClampNeg l4) fun H94 =>
    bnd (H94.sD p0 11 l2) fun H95 =>
    bnd ((H95.D p0 10)) fun x96 =>
    if x96 = (0 : Int32) then
    bC (o p0 H95) fun v99 H100 =>
    B_MRunner_hears_139 N o p0 (fun l1 l2 l3 l4 H => B_MRunner_hears_38 N o p0 n l1 l2 l3 l4 H) l1 l2 l3 l4 H100
    else
    B_MRunner_hears_139 N o p0 (fun l1 l2 l3 l4 H => B_MRunner_hears_38 N o p0 n l1 l2 l3 l4 H) l1 l2 l3 l4 H95
    else
    B_MRunner_hears_139 N o p0 (fun l1 l2 l3 l4 H => B_MRunner_hears_38 N o p0 n l1 l2 l3 l4 H) l1 l2 l3 l4 H
    else
    B_MRunner_hears_139 N o p0 (fun l1 l2 l3 l4 H => B_MRunner_hears_38 N o p0 n l1 l2 l3 l4 H) l1 l2 l3 l4 H
    else
    B_MRunner_hears_139 N o p0 (fun l1 l2 l3 l4 H => B_MRunner_hears_38 N o p0 n l1 l2 l3 l4 H) l1 l2 l3 l4 H
    else
    B_MRunner_hears_145 N o p0 l1 l2 l3 H
termination_by structural n => n
set_option maxRecDepth 20000 in
set_option maxHeartbeats 2000000 in
theorem mB_MRunner_hears_38 {N : Nat} {o : Orc_RunS} (hmo : mo_RunS o) {p0 : Nat} : ∀ (n : Nat) (l1 : Int32) (l2 : Int32) (l3 : Int32) (l4 : Int32) (H : Hp) (r : Unit × Hp), B_MRunner_hears_38 N o p0 n l1 l2 l3 l4 H = some r → Sa H r.2 := by
  intro n
  induction n with
  | zero => intro l1 l2 l3 l4 H r hF; rw [B_MRunner_hears_38] at hF; cases hF
  | succ n ih =>
    intro l1 l2 l3 l4 H r hF
    rw [B_MRunner_hears_38] at hF
    have hm := Sa.rf H
    obtain ⟨q101, hG⟩ := ck_s hF; clear hF
    obtain ⟨a102, e103, hF⟩ := rf_s hG; clear hG
    obtain ⟨q104, hG⟩ := ck_s hF; clear hF
    obtain ⟨x105, -, hF⟩ := bnd_g hG; clear hG
    rcases ite_s hF with ⟨q_12, hG⟩ | ⟨q_12, hG⟩
    · clear hF
      exact hm.tr (mB_MRunner_hears_145 hmo hG)
    · clear hF
      obtain ⟨x107, -, hF⟩ := bnd_g hG; clear hG
      rcases ite_s hF with ⟨q_13, hG⟩ | ⟨q_13, hG⟩
      · clear hF
        obtain ⟨a109, e110, hF⟩ := rf_s hG; clear hG
        obtain ⟨q111, hG⟩ := ck_s hF; clear hF
        obtain ⟨a112, e113, hF⟩ := rf_s hG; clear hG
        obtain ⟨n114, q115, hG⟩ := ar_s hF; clear hF
        obtain ⟨q116, hF⟩ := ck_s hG; clear hG
        obtain ⟨x117, -, hG⟩ := bnd_g hF; clear hF
        rcases ite_s hG with ⟨q_14, hF⟩ | ⟨q_14, hF⟩
        · clear hG
          obtain ⟨a119, e120, hG⟩ := rf_s hF; clear hF
          obtain ⟨q121, hF⟩ := ck_s hG; clear hG
          obtain ⟨a122, e123, hG⟩ := rf_s hF; clear hF
          obtain ⟨n124, q125, hF⟩ := ar_s hG; clear hG
          obtain ⟨q126, hG⟩ := ck_s hF; clear hF
          obtain ⟨x127, -, hF⟩ := bnd_g hG; clear hG
          obtain ⟨a128, e129, hG⟩ := rf_s hF; clear hF
          obtain ⟨q130, hF⟩ := ck_s hG; clear hG
          obtain ⟨x131, -, hG⟩ := bnd_g hF; clear hF
          rcases ite_s hG with ⟨q_15, hF⟩ | ⟨q_15, hF⟩
          · clear hG
            obtain ⟨a133, e134, hG⟩ := rf_s hF; clear hF
            obtain ⟨q135, hF⟩ := ck_s hG; clear hG
            obtain ⟨a136, e137, hG⟩ := rf_s hF; clear hF
            obtain ⟨n138, q139, hF⟩ := ar_s hG; clear hG
            obtain ⟨q140, hG⟩ := ck_s hF; clear hF
            obtain ⟨x141, -, hF⟩ := bnd_g hG; clear hG
            obtain ⟨x142, -, hG⟩ := bnd_g hF; clear hF
            rcases ite_s hG with ⟨q_16, hF⟩ | ⟨q_16, hF⟩
            · clear hG
              obtain ⟨v145, H146, z144, hG⟩ := bC_s hF; clear hF
              replace hm : Sa H H146 := hm.tr (m_MRunner_counts z144)
              obtain ⟨a147, e148, hF⟩ := rf_s hG; clear hG
              obtain ⟨n149, q150, hG⟩ := ar_s hF; clear hF
              obtain ⟨q151, hF⟩ := ck_s hG; clear hG
              obtain ⟨H152, eH152, hG⟩ := bnd_g hF; clear hF
              replace hm : Sa H H152 := by rw [eH152]; exact hm
              obtain ⟨H153, eH153, hF⟩ := bnd_g hG; clear hG
              replace hm : Sa H H153 := by rw [eH153]; exact hm
              obtain ⟨x154, -, hG⟩ := bnd_g hF; clear hF
              rcases ite_s hG with ⟨q_20, hF⟩ | ⟨q_20, hF⟩
              · clear hG
                obtain ⟨v157, H158, z156, hG⟩ := bC_s hF; clear hF
                replace hm : Sa H H158 := hm.tr (hmo _ _ _ z156)
                exact hm.tr (mB_MRunner_hears_139 hmo ih hG)
              · clear hG
                exact hm.tr (mB_MRunner_hears_139 hmo ih hF)
            · clear hG
              exact hm.tr (mB_MRunner_hears_139 hmo ih hF)
          · clear hG
            exact hm.tr (mB_MRunner_hears_139 hmo ih hF)
        · clear hG
          exact hm.tr (mB_MRunner_hears_139 hmo ih hF)
      · clear hF
        exact hm.tr (mB_MRunner_hears_145 hmo hG)
set_option maxRecDepth 20000 in
set_option maxHeartbeats 2000000 in
theorem kB_MRunner_hears_38 {N : Nat} {o : Orc_RunS} {fr lo : Nat} (ho : ok_RunS o fr lo) (hmo : mo_RunS o) {p0 : Nat} : ∀ (n : Nat) (l1 : Int32) (l2 : Int32) (l3 : Int32) (l4 : Int32) (H : Hp) (r : Unit × Hp), B_MRunner_hears_38 N o p0 n l1 l2 l3 l4 H = some r → ab_V y_MRunner_hears { frames := fr + 1, cells := 0, slots := 0, locals := lo + 21 } (po (.returned none) r.2) 0 0 0 0 38 [some (.ref p0), some (.int l1), some (.int l2), some (.int l3), some (.int l4)] [] (hpw H) := by
  intro n
  induction n with
  | zero => intro l1 l2 l3 l4 H r hF; rw [B_MRunner_hears_38] at hF; cases hF
  | succ n ih =>
    intro l1 l2 l3 l4 H r hF
    rw [B_MRunner_hears_38] at hF
    refine ab_iload d_MRunner_hears_38 rfl ?_
    refine ab_aload_n d_MRunner_hears_40 rfl rfl rfl ?_
    obtain ⟨q21, hG⟩ := ck_s hF; clear hF
    obtain ⟨a22, e23, hF⟩ := rf_s hG; clear hG
    refine hp_getR (f := 1) d_MRunner_hears_41 q21 (by decide) rfl (by decide) (k9 184 rfl rfl) rfl e23 ?_
    obtain ⟨q24, hG⟩ := ck_s hF; clear hF
    refine hp_getIN (f := 8) d_MRunner_hears_44 q24 (by decide) rfl (by decide) (k9 113 rfl rfl) rfl ?_
    refine ab_topi (fun x25 ex25 => ?_)
    replace hG := bnd_s ex25 hG
    refine ab_icmp_ge (tgt := 145) d_MRunner_hears_47 (by decide) (fun q26 => ?_) (fun q26 => ?_)
    · rw [if_pos q26] at hG
      refine ab_le (lv' := [some (.ref p0), some (.int l1), some (.int l2), some (.int l3), none]) ⟨rfl, ⟨rfl, ⟨rfl, ⟨rfl, trivial⟩⟩⟩⟩ ?_
      exact kB_MRunner_hears_145 ho hmo hG
    · rw [if_neg q26] at hG
      refine ab_aload_n d_MRunner_hears_50 rfl rfl rfl ?_
      refine hp_getI (f := 10) d_MRunner_hears_51 q21 (by decide) rfl (by decide) (k9 193 rfl rfl) rfl ?_
      refine ab_topi (fun x49 ex49 => ?_)
      replace hG := bnd_s ex49 hG
      refine ab_if_ne (tgt := 145) d_MRunner_hears_54 (by decide) (fun q50 => ?_) (fun q50 => ?_)
      · rw [if_neg q50] at hG
        refine ab_le (lv' := [some (.ref p0), some (.int l1), some (.int l2), some (.int l3), none]) ⟨rfl, ⟨rfl, ⟨rfl, ⟨rfl, trivial⟩⟩⟩⟩ ?_
        exact kB_MRunner_hears_145 ho hmo hG
      · rw [if_pos q50] at hG
        refine ab_aload_n d_MRunner_hears_57 rfl rfl rfl ?_
        obtain ⟨a51, e52, hF⟩ := rf_s hG; clear hG
        refine hp_getR (f := 1) d_MRunner_hears_58 q21 (by decide) rfl (by decide) (k9 184 rfl rfl) rfl e52 ?_
        obtain ⟨q53, hG⟩ := ck_s hF; clear hF
        obtain ⟨a54, e55, hF⟩ := rf_s hG; clear hG
        refine hp_getRN (f := 9) d_MRunner_hears_61 q53 (by decide) rfl (by decide) (k9 116 rfl rfl) rfl e55 ?_
        refine ab_iload d_MRunner_hears_64 rfl ?_
        obtain ⟨n56, q57, hG⟩ := ar_s hF; clear hF
        obtain ⟨q58, hF⟩ := ck_s hG; clear hG
        refine hp_iald d_MRunner_hears_66 tI q57 q58 ?_
        refine ab_topi (fun x59 ex59 => ?_)
        replace hF := bnd_s ex59 hF
        refine ab_iload_n d_MRunner_hears_67 rfl rfl ?_
        refine ab_icmp_ne (tgt := 139) d_MRunner_hears_68 (by decide) (fun q60 => ?_) (fun q60 => ?_)
        · rw [if_neg q60] at hF
          exact kB_MRunner_hears_139 ho hmo (mB_MRunner_hears_38 hmo n) ih hF
        · rw [if_pos q60] at hF
          refine ab_aload_n d_MRunner_hears_71 rfl rfl rfl ?_
          obtain ⟨a61, e62, hG⟩ := rf_s hF; clear hF
          refine hp_getR (f := 1) d_MRunner_hears_72 q21 (by decide) rfl (by decide) (k9 184 rfl rfl) rfl e62 ?_
          obtain ⟨q63, hF⟩ := ck_s hG; clear hG
          obtain ⟨a64, e65, hG⟩ := rf_s hF; clear hF
          refine hp_getRN (f := 10) d_MRunner_hears_75 q63 (by decide) rfl (by decide) (k9 119 rfl rfl) rfl e65 ?_
          refine ab_iload d_MRunner_hears_78 rfl ?_
          obtain ⟨n66, q67, hF⟩ := ar_s hG; clear hG
          obtain ⟨q68, hG⟩ := ck_s hF; clear hF
          refine hp_iald d_MRunner_hears_80 tI q67 q68 ?_
          refine ab_topi (fun x69 ex69 => ?_)
          replace hG := bnd_s ex69 hG
          refine ab_aload_n d_MRunner_hears_81 rfl rfl rfl ?_
          obtain ⟨a70, e71, hF⟩ := rf_s hG; clear hG
          refine hp_getR (f := 1) d_MRunner_hears_82 q21 (by decide) rfl (by decide) (k9 184 rfl rfl) rfl e71 ?_
          obtain ⟨q72, hG⟩ := ck_s hF; clear hF
          refine hp_getIN (f := 0) d_MRunner_hears_85 q72 (by decide) rfl (by decide) (k9 88 rfl rfl) rfl ?_
          refine ab_topi (fun x73 ex73 => ?_)
          replace hG := bnd_s ex73 hG
          refine ab_icmp_ne (tgt := 139) d_MRunner_hears_88 (by decide) (fun q74 => ?_) (fun q74 => ?_)
          · rw [if_neg q74] at hG
            exact kB_MRunner_hears_139 ho hmo (mB_MRunner_hears_38 hmo n) ih hG
          · rw [if_pos q74] at hG
            refine ab_aload_n d_MRunner_hears_91 rfl rfl rfl ?_
            obtain ⟨a75, e76, hF⟩ := rf_s hG; clear hG
            refine hp_getR (f := 1) d_MRunner_hears_92 q21 (by decide) rfl (by decide) (k9 184 rfl rfl) rfl e76 ?_
            obtain ⟨q77, hG⟩ := ck_s hF; clear hF
            obtain ⟨a78, e79, hF⟩ := rf_s hG; clear hG
            refine hp_getRN (f := 11) d_MRunner_hears_95 q77 (by decide) rfl (by decide) (k9 122 rfl rfl) rfl e79 ?_
            refine ab_iload d_MRunner_hears_98 rfl ?_
            obtain ⟨n80, q81, hG⟩ := ar_s hF; clear hF
            obtain ⟨q82, hF⟩ := ck_s hG; clear hG
            refine hp_iald d_MRunner_hears_100 tI q81 q82 ?_
            refine ab_topi (fun x83 ex83 => ?_)
            replace hF := bnd_s ex83 hF
            refine ab_aload_n d_MRunner_hears_101 rfl rfl rfl ?_
            refine hp_getI (f := 6) d_MRunner_hears_102 q21 (by decide) rfl (by decide) (k9 189 rfl rfl) rfl ?_
            refine ab_topi (fun x84 ex84 => ?_)
            replace hF := bnd_s ex84 hF
            refine ab_icmp_eq (tgt := 111) d_MRunner_hears_105 (by decide) (fun q85 => ?_) (fun q85 => ?_)
            · rw [if_pos q85] at hF
              refine ab_aload_n d_MRunner_hears_111 rfl rfl rfl ?_
              obtain ⟨v87, H88, z86, hG⟩ := bC_s hF; clear hF
              refine hp_callV_v (H1 := H88) (As := []) (rest := []) d_MRunner_hears_112 (k_MRunner_counts z86) (ab_mkC s_MRunner_counts (show 1 + 1 ≤ fr + 1 from by have := ho.1; omega) (show 8 + (1 + 11) + 21 ≤ lo + 21 from by have := ho.2.1; omega) (Nat.le_refl 0) (Nat.le_refl 0)) (k11 238 rfl rfl) i_MRunner_counts v_MRunner_counts q21 (by decide) rfl rfl (Nat.le_of_ble_eq_true rfl) ?_
              have s_8 : Sa H H88 := (m_MRunner_counts z86)
              refine ab_aload_n d_MRunner_hears_115 rfl rfl rfl ?_
              obtain ⟨a89, e90, hF⟩ := rf_s hG; clear hG
              refine hp_getR (f := 15) d_MRunner_hears_116 (by rw [(s_8).1]; exact q21) (by decide) rfl (by decide) (k9 198 rfl rfl) rfl e90 ?_
              refine ab_iload_n d_MRunner_hears_119 rfl rfl ?_
              refine ab_iload d_MRunner_hears_120 rfl ?_
              obtain ⟨n91, q92, hG⟩ := ar_s hF; clear hF
              rw [(s_8).1] at q92
              obtain ⟨q93, hF⟩ := ck_s hG; clear hG
              refine hp_iast d_MRunner_hears_122 tI (by rw [(s_8).1]; exact q92) q93 ?_
              refine hp_gen (fun H94 eH94 => ?_)
              replace hF := bnd_s eH94 hF
              have s_9 : Sa H H94 := by rw [eH94]; exact s_8
              refine ab_aload_n d_MRunner_hears_123 rfl rfl rfl ?_
              refine ab_iload_n d_MRunner_hears_124 rfl rfl ?_
              refine hp_putI (v := l2) (f := 11) d_MRunner_hears_125 (by rw [(s_9).1]; exact q21) (by decide) rfl (by decide) (k9 194 rfl rfl) rfl rfl (fun _ => rfl) (fun _ => rfl) rfl ?_
              refine hp_gen (fun H95 eH95 => ?_)
              replace hF := bnd_s eH95 hF
              have s_10 : Sa H H95 := by rw [eH95]; exact s_9
              refine ab_aload_n d_MRunner_hears_128 rfl rfl rfl ?_
              refine hp_getI (f := 10) d_MRunner_hears_129 (by rw [(s_10).1]; exact q21) (by decide) rfl (by decide) (k9 193 rfl rfl) rfl ?_
              refine ab_topi (fun x96 ex96 => ?_)
              replace hF := bnd_s ex96 hF
              refine ab_if_ne (tgt := 139) d_MRunner_hears_132 (by decide) (fun q97 => ?_) (fun q97 => ?_)
              · rw [if_neg q97] at hF
                exact kB_MRunner_hears_139 ho hmo (mB_MRunner_hears_38 hmo n) ih hF
              · rw [if_pos q97] at hF
                refine ab_aload_n d_MRunner_hears_135 rfl rfl rfl ?_
                obtain ⟨v99, H100, z98, hG⟩ := bC_s hF; clear hF
                refine hp_callV_v (H1 := H100) (As := []) (rest := []) d_MRunner_hears_136 (ho.2.2 _ _ _ z98) (ab_mkC s_MRunner_block (show fr + 1 ≤ fr + 1 from by have := ho.1; omega) (show 8 + (2 + 11) + lo ≤ lo + 21 from by have := ho.2.1; omega) (Nat.le_refl 0) (Nat.le_refl 0)) (k11 230 rfl rfl) i_MRunner_block v_MRunner_block (by rw [(s_10).1]; exact q21) (by decide) rfl rfl (Nat.le_of_ble_eq_true rfl) ?_
                have s_11 : Sa H H100 := (s_10).tr (hmo _ _ _ z98)
                exact kB_MRunner_hears_139 ho hmo (mB_MRunner_hears_38 hmo n) ih hG
            · rw [if_neg q85] at hF
              refine ab_goto (tgt := 139) d_MRunner_hears_108 (by decide) ?_
              exact kB_MRunner_hears_139 ho hmo (mB_MRunner_hears_38 hmo n) ih hF
def F_MRunner_hears (N : Nat) (o : Orc_RunS) (p0 : Nat) (H : Hp) : Option (Unit × Hp) :=
    ck (H.sh[p0]? = some (15, 0)) <|
    rf (H.P p0 0) fun a2 =>
    ck (H.sh[a2]? = some (14, 0)) <|
    rf (H.P a2 8) fun a5 =>
    bnd ((H.D p0 11)) fun x7 =>
    ar H 100 a5 fun n8 =>
    ck (inb x7 n8) <|
    bnd ((H.D a5 (x7).toNatClampNeg)) fun x11 =>
    bnd ((H.D p0 11)) fun x12 =>
    bnd (H.sD p0 11 (x12 + (1 : Int32))) fun H13 =>
    bnd ((H13.D p0 11)) fun x14 =>
    rf (H13.P p0 15) fun a15 =>
    ar H13 100 a15 fun n17 =>
    ck (inb x11 n17) <|
    bnd ((H13.D a15 (x11).toNatClampNeg)) fun x20 =>
    B_MRunner_hears_38 N o p0 N x11 x14 x20 0 H13
set_option maxRecDepth 20000 in
set_option maxHeartbeats 2000000 in
theorem m_MRunner_hears {N : Nat} {o : Orc_RunS} (hmo : mo_RunS o) {p0 : Nat} {H : Hp} {r : Unit × Hp} (hF : F_MRunner_hears N o p0 H = some r) : Sa H r.2 := by
  unfold F_MRunner_hears at hF
  have hm := Sa.rf H
  obtain ⟨q159, hG⟩ := ck_s hF; clear hF
  obtain ⟨a160, e161, hF⟩ := rf_s hG; clear hG
  obtain ⟨q162, hG⟩ := ck_s hF; clear hF
  obtain ⟨a163, e164, hF⟩ := rf_s hG; clear hG
  obtain ⟨x165, -, hG⟩ := bnd_g hF; clear hF
  obtain ⟨n166, q167, hF⟩ := ar_s hG; clear hG
  obtain ⟨q168, hG⟩ := ck_s hF; clear hF
  obtain ⟨x169, -, hF⟩ := bnd_g hG; clear hG
  obtain ⟨x170, -, hG⟩ := bnd_g hF; clear hF
  obtain ⟨H171, eH171, hF⟩ := bnd_g hG; clear hG
  replace hm : Sa H H171 := by rw [eH171]; exact hm
  obtain ⟨x172, -, hG⟩ := bnd_g hF; clear hF
  obtain ⟨a173, e174, hF⟩ := rf_s hG; clear hG
  obtain ⟨n175, q176, hG⟩ := ar_s hF; clear hF
  obtain ⟨q177, hF⟩ := ck_s hG; clear hG
  obtain ⟨x178, -, hG⟩ := bnd_g hF; clear hF
  exact hm.tr (mB_MRunner_hears_38 hmo N x169 x172 x178 0 H171 r hG)
set_option maxRecDepth 20000 in
set_option maxHeartbeats 2000000 in
theorem k_MRunner_hears {N : Nat} {o : Orc_RunS} {fr lo : Nat} (ho : ok_RunS o fr lo) (hmo : mo_RunS o) {p0 : Nat} {H : Hp} {r : Unit × Hp} (hF : F_MRunner_hears N o p0 H = some r) : ab_M y_MRunner_hears { frames := fr + 1, cells := 0, slots := 0, locals := lo + 21 } [.ref p0] (hpw H) (po (.returned none) r.2) := by
  unfold F_MRunner_hears at hF
  refine ab_of2 (lv := [some (.ref p0), none, none, none, none]) 4 rfl rfl (Nat.le_of_ble_eq_true rfl) ?_
  refine ab_aload_n d_MRunner_hears_0 rfl rfl rfl ?_
  obtain ⟨q1, hG⟩ := ck_s hF; clear hF
  obtain ⟨a2, e3, hF⟩ := rf_s hG; clear hG
  refine hp_getR (f := 0) d_MRunner_hears_1 q1 (by decide) rfl (by decide) (k9 183 rfl rfl) rfl e3 ?_
  obtain ⟨q4, hG⟩ := ck_s hF; clear hF
  obtain ⟨a5, e6, hF⟩ := rf_s hG; clear hG
  refine hp_getRN (f := 8) d_MRunner_hears_4 q4 (by decide) rfl (by decide) (k8 170 rfl rfl) rfl e6 ?_
  refine ab_aload_n d_MRunner_hears_7 rfl rfl rfl ?_
  refine hp_getI (f := 11) d_MRunner_hears_8 q1 (by decide) rfl (by decide) (k9 194 rfl rfl) rfl ?_
  refine ab_topi (fun x7 ex7 => ?_)
  replace hF := bnd_s ex7 hF
  obtain ⟨n8, q9, hG⟩ := ar_s hF; clear hF
  obtain ⟨q10, hF⟩ := ck_s hG; clear hG
  refine hp_iald d_MRunner_hears_11 tI q9 q10 ?_
  refine ab_topi (fun x11 ex11 => ?_)
  replace hF := bnd_s ex11 hF
  refine ab_istore_n (lv' := [some (.ref p0), some (.int x11), none, none, none]) d_MRunner_hears_12 rfl (by decide) rfl ?_
  refine ab_aload_n d_MRunner_hears_13 rfl rfl rfl ?_
  refine ab_dup d_MRunner_hears_14 rfl ?_
  refine hp_getI (f := 11) d_MRunner_hears_15 q1 (by decide) rfl (by decide) (k9 194 rfl rfl) rfl ?_
  refine ab_topi (fun x12 ex12 => ?_)
  replace hF := bnd_s ex12 hF
  refine ab_iconst (v := 1) d_MRunner_hears_18 (by decide) ?_
  refine ab_iadd d_MRunner_hears_19 ?_
  refine hp_putI (v := x12 + (1 : Int32)) (f := 11) d_MRunner_hears_20 q1 (by decide) rfl (by decide) (k9 194 rfl rfl) rfl rfl (fun _ => rfl) (fun _ => rfl) rfl ?_
  refine hp_gen (fun H13 eH13 => ?_)
  replace hF := bnd_s eH13 hF
  have s_1 : Sa H H13 := by rw [eH13]; exact Sa.rf _
  refine ab_aload_n d_MRunner_hears_23 rfl rfl rfl ?_
  refine hp_getI (f := 11) d_MRunner_hears_24 (by rw [(s_1).1]; exact q1) (by decide) rfl (by decide) (k9 194 rfl rfl) rfl ?_
  refine ab_topi (fun x14 ex14 => ?_)
  replace hF := bnd_s ex14 hF
  refine ab_istore_n (lv' := [some (.ref p0), some (.int x11), some (.int x14), none, none]) d_MRunner_hears_27 rfl (by decide) rfl ?_
  refine ab_aload_n d_MRunner_hears_28 rfl rfl rfl ?_
  obtain ⟨a15, e16, hG⟩ := rf_s hF; clear hF
  refine hp_getR (f := 15) d_MRunner_hears_29 (by rw [(s_1).1]; exact q1) (by decide) rfl (by decide) (k9 198 rfl rfl) rfl e16 ?_
  refine ab_iload_n d_MRunner_hears_32 rfl rfl ?_
  obtain ⟨n17, q18, hF⟩ := ar_s hG; clear hG
  rw [(s_1).1] at q18
  obtain ⟨q19, hG⟩ := ck_s hF; clear hF
  refine hp_iald d_MRunner_hears_33 tI (by rw [(s_1).1]; exact q18) q19 ?_
  refine ab_topi (fun x20 ex20 => ?_)
  replace hG := bnd_s ex20 hG
  refine ab_istore_n (lv' := [some (.ref p0), some (.int x11), some (.int x14), some (.int x20), none]) d_MRunner_hears_34 rfl (by decide) rfl ?_
  refine ab_iconst (v := 0) d_MRunner_hears_35 (by decide) ?_
  refine ab_istore (lv' := [some (.ref p0), some (.int x11), some (.int x14), some (.int x20), some (.int 0)]) d_MRunner_hears_36 (by decide) rfl ?_
  exact kB_MRunner_hears_38 ho hmo N x11 x14 x20 0 H13 r hG
def y_MRunner_goes : ab_Y := (⟨"WorldEngineModel$Runner", "goes", "()V"⟩, prog_15_method_13_code, 7, none, [])
theorem d_MRunner_goes_0 : decode y_MRunner_goes.2.1 0 = .ok (.aload_n 0, 1) := by decide +kernel
theorem d_MRunner_goes_1 : decode y_MRunner_goes.2.1 1 = .ok (.getfield 25, 3) := by decide +kernel
theorem d_MRunner_goes_4 : decode y_MRunner_goes.2.1 4 = .ok (.getfield 122, 3) := by decide +kernel
theorem d_MRunner_goes_7 : decode y_MRunner_goes.2.1 7 = .ok (.aload_n 0, 1) := by decide +kernel
theorem d_MRunner_goes_8 : decode y_MRunner_goes.2.1 8 = .ok (.getfield 108, 3) := by decide +kernel
theorem d_MRunner_goes_11 : decode y_MRunner_goes.2.1 11 = .ok (.iaload, 1) := by decide +kernel
theorem d_MRunner_goes_12 : decode y_MRunner_goes.2.1 12 = .ok (.istore_n 1, 1) := by decide +kernel
theorem d_MRunner_goes_13 : decode y_MRunner_goes.2.1 13 = .ok (.aload_n 0, 1) := by decide +kernel
theorem d_MRunner_goes_14 : decode y_MRunner_goes.2.1 14 = .ok (.getfield 25, 3) := by decide +kernel
theorem d_MRunner_goes_17 : decode y_MRunner_goes.2.1 17 = .ok (.getfield 122, 3) := by decide +kernel
theorem d_MRunner_goes_20 : decode y_MRunner_goes.2.1 20 = .ok (.aload_n 0, 1) := by decide +kernel
theorem d_MRunner_goes_21 : decode y_MRunner_goes.2.1 21 = .ok (.getfield 108, 3) := by decide +kernel
theorem d_MRunner_goes_24 : decode y_MRunner_goes.2.1 24 = .ok (.iconst 2, 1) := by decide +kernel
theorem d_MRunner_goes_25 : decode y_MRunner_goes.2.1 25 = .ok (.iadd, 1) := by decide +kernel
theorem d_MRunner_goes_26 : decode y_MRunner_goes.2.1 26 = .ok (.iaload, 1) := by decide +kernel
theorem d_MRunner_goes_27 : decode y_MRunner_goes.2.1 27 = .ok (.istore_n 2, 1) := by decide +kernel
theorem d_MRunner_goes_28 : decode y_MRunner_goes.2.1 28 = .ok (.aload_n 0, 1) := by decide +kernel
theorem d_MRunner_goes_29 : decode y_MRunner_goes.2.1 29 = .ok (.dup, 1) := by decide +kernel
theorem d_MRunner_goes_30 : decode y_MRunner_goes.2.1 30 = .ok (.getfield 108, 3) := by decide +kernel
theorem d_MRunner_goes_33 : decode y_MRunner_goes.2.1 33 = .ok (.iconst 3, 1) := by decide +kernel
theorem d_MRunner_goes_34 : decode y_MRunner_goes.2.1 34 = .ok (.iadd, 1) := by decide +kernel
theorem d_MRunner_goes_35 : decode y_MRunner_goes.2.1 35 = .ok (.putfield 108, 3) := by decide +kernel
theorem d_MRunner_goes_38 : decode y_MRunner_goes.2.1 38 = .ok (.aload_n 0, 1) := by decide +kernel
theorem d_MRunner_goes_39 : decode y_MRunner_goes.2.1 39 = .ok (.getfield 25, 3) := by decide +kernel
theorem d_MRunner_goes_42 : decode y_MRunner_goes.2.1 42 = .ok (.getfield 131, 3) := by decide +kernel
theorem d_MRunner_goes_45 : decode y_MRunner_goes.2.1 45 = .ok (.aload_n 0, 1) := by decide +kernel
theorem d_MRunner_goes_46 : decode y_MRunner_goes.2.1 46 = .ok (.getfield 108, 3) := by decide +kernel
theorem d_MRunner_goes_49 : decode y_MRunner_goes.2.1 49 = .ok (.iaload, 1) := by decide +kernel
theorem d_MRunner_goes_50 : decode y_MRunner_goes.2.1 50 = .ok (.sipush 220, 3) := by decide +kernel
theorem d_MRunner_goes_53 : decode y_MRunner_goes.2.1 53 = .ok (.if_icmp .ne 7, 3) := by decide +kernel
theorem d_MRunner_goes_56 : decode y_MRunner_goes.2.1 56 = .ok (.iconst 1, 1) := by decide +kernel
theorem d_MRunner_goes_57 : decode y_MRunner_goes.2.1 57 = .ok (.goto 4, 3) := by decide +kernel
theorem d_MRunner_goes_60 : decode y_MRunner_goes.2.1 60 = .ok (.iconst 0, 1) := by decide +kernel
theorem d_MRunner_goes_61 : decode y_MRunner_goes.2.1 61 = .ok (.istore_n 3, 1) := by decide +kernel
theorem d_MRunner_goes_62 : decode y_MRunner_goes.2.1 62 = .ok (.iconst 0, 1) := by decide +kernel
theorem d_MRunner_goes_63 : decode y_MRunner_goes.2.1 63 = .ok (.istore 4, 2) := by decide +kernel
theorem d_MRunner_goes_65 : decode y_MRunner_goes.2.1 65 = .ok (.iload_n 3, 1) := by decide +kernel
theorem d_MRunner_goes_66 : decode y_MRunner_goes.2.1 66 = .ok (.ifCond .eq 29, 3) := by decide +kernel
theorem d_MRunner_goes_69 : decode y_MRunner_goes.2.1 69 = .ok (.aload_n 0, 1) := by decide +kernel
theorem d_MRunner_goes_70 : decode y_MRunner_goes.2.1 70 = .ok (.dup, 1) := by decide +kernel
theorem d_MRunner_goes_71 : decode y_MRunner_goes.2.1 71 = .ok (.getfield 108, 3) := by decide +kernel
theorem d_MRunner_goes_74 : decode y_MRunner_goes.2.1 74 = .ok (.iconst 2, 1) := by decide +kernel
theorem d_MRunner_goes_75 : decode y_MRunner_goes.2.1 75 = .ok (.iadd, 1) := by decide +kernel
theorem d_MRunner_goes_76 : decode y_MRunner_goes.2.1 76 = .ok (.putfield 108, 3) := by decide +kernel
theorem d_MRunner_goes_79 : decode y_MRunner_goes.2.1 79 = .ok (.aload_n 0, 1) := by decide +kernel
theorem d_MRunner_goes_80 : decode y_MRunner_goes.2.1 80 = .ok (.invokevirtual 137, 3) := by decide +kernel
theorem d_MRunner_goes_83 : decode y_MRunner_goes.2.1 83 = .ok (.istore 4, 2) := by decide +kernel
theorem d_MRunner_goes_85 : decode y_MRunner_goes.2.1 85 = .ok (.aload_n 0, 1) := by decide +kernel
theorem d_MRunner_goes_86 : decode y_MRunner_goes.2.1 86 = .ok (.dup, 1) := by decide +kernel
theorem d_MRunner_goes_87 : decode y_MRunner_goes.2.1 87 = .ok (.getfield 108, 3) := by decide +kernel
theorem d_MRunner_goes_90 : decode y_MRunner_goes.2.1 90 = .ok (.iconst 1, 1) := by decide +kernel
theorem d_MRunner_goes_91 : decode y_MRunner_goes.2.1 91 = .ok (.iadd, 1) := by decide +kernel
theorem d_MRunner_goes_92 : decode y_MRunner_goes.2.1 92 = .ok (.putfield 108, 3) := by decide +kernel
theorem d_MRunner_goes_95 : decode y_MRunner_goes.2.1 95 = .ok (.aload_n 0, 1) := by decide +kernel
theorem d_MRunner_goes_96 : decode y_MRunner_goes.2.1 96 = .ok (.getfield 108, 3) := by decide +kernel
theorem d_MRunner_goes_99 : decode y_MRunner_goes.2.1 99 = .ok (.istore 5, 2) := by decide +kernel
theorem d_MRunner_goes_101 : decode y_MRunner_goes.2.1 101 = .ok (.iconst 0, 1) := by decide +kernel
theorem d_MRunner_goes_102 : decode y_MRunner_goes.2.1 102 = .ok (.istore 6, 2) := by decide +kernel
theorem d_MRunner_goes_104 : decode y_MRunner_goes.2.1 104 = .ok (.iload 6, 2) := by decide +kernel
theorem d_MRunner_goes_106 : decode y_MRunner_goes.2.1 106 = .ok (.sipush 256, 3) := by decide +kernel
theorem d_MRunner_goes_109 : decode y_MRunner_goes.2.1 109 = .ok (.if_icmp .ge 125, 3) := by decide +kernel
theorem d_MRunner_goes_112 : decode y_MRunner_goes.2.1 112 = .ok (.aload_n 0, 1) := by decide +kernel
theorem d_MRunner_goes_113 : decode y_MRunner_goes.2.1 113 = .ok (.getfield 96, 3) := by decide +kernel
theorem d_MRunner_goes_116 : decode y_MRunner_goes.2.1 116 = .ok (.ifCond .ne 118, 3) := by decide +kernel
theorem d_MRunner_goes_119 : decode y_MRunner_goes.2.1 119 = .ok (.aload_n 0, 1) := by decide +kernel
theorem d_MRunner_goes_120 : decode y_MRunner_goes.2.1 120 = .ok (.getfield 29, 3) := by decide +kernel
theorem d_MRunner_goes_123 : decode y_MRunner_goes.2.1 123 = .ok (.getfield 174, 3) := by decide +kernel
theorem d_MRunner_goes_126 : decode y_MRunner_goes.2.1 126 = .ok (.iload 6, 2) := by decide +kernel
theorem d_MRunner_goes_128 : decode y_MRunner_goes.2.1 128 = .ok (.baload, 1) := by decide +kernel
theorem d_MRunner_goes_129 : decode y_MRunner_goes.2.1 129 = .ok (.ifCond .eq 99, 3) := by decide +kernel
theorem d_MRunner_goes_132 : decode y_MRunner_goes.2.1 132 = .ok (.aload_n 0, 1) := by decide +kernel
theorem d_MRunner_goes_133 : decode y_MRunner_goes.2.1 133 = .ok (.getfield 29, 3) := by decide +kernel
theorem d_MRunner_goes_136 : decode y_MRunner_goes.2.1 136 = .ok (.getfield 178, 3) := by decide +kernel
theorem d_MRunner_goes_139 : decode y_MRunner_goes.2.1 139 = .ok (.iload 6, 2) := by decide +kernel
theorem d_MRunner_goes_141 : decode y_MRunner_goes.2.1 141 = .ok (.iaload, 1) := by decide +kernel
theorem d_MRunner_goes_142 : decode y_MRunner_goes.2.1 142 = .ok (.iload_n 2, 1) := by decide +kernel
theorem d_MRunner_goes_143 : decode y_MRunner_goes.2.1 143 = .ok (.ishr, 1) := by decide +kernel
theorem d_MRunner_goes_144 : decode y_MRunner_goes.2.1 144 = .ok (.iconst 1, 1) := by decide +kernel
theorem d_MRunner_goes_145 : decode y_MRunner_goes.2.1 145 = .ok (.iand, 1) := by decide +kernel
theorem d_MRunner_goes_146 : decode y_MRunner_goes.2.1 146 = .ok (.ifCond .eq 82, 3) := by decide +kernel
theorem d_MRunner_goes_149 : decode y_MRunner_goes.2.1 149 = .ok (.aload_n 0, 1) := by decide +kernel
theorem d_MRunner_goes_150 : decode y_MRunner_goes.2.1 150 = .ok (.getfield 29, 3) := by decide +kernel
theorem d_MRunner_goes_153 : decode y_MRunner_goes.2.1 153 = .ok (.iload 6, 2) := by decide +kernel
theorem d_MRunner_goes_155 : decode y_MRunner_goes.2.1 155 = .ok (.invokevirtual 80, 3) := by decide +kernel
theorem d_MRunner_goes_158 : decode y_MRunner_goes.2.1 158 = .ok (.aload_n 0, 1) := by decide +kernel
theorem d_MRunner_goes_159 : decode y_MRunner_goes.2.1 159 = .ok (.getfield 84, 3) := by decide +kernel
theorem d_MRunner_goes_162 : decode y_MRunner_goes.2.1 162 = .ok (.if_icmp .eq 66, 3) := by decide +kernel
theorem d_MRunner_goes_165 : decode y_MRunner_goes.2.1 165 = .ok (.iload_n 3, 1) := by decide +kernel
theorem d_MRunner_goes_166 : decode y_MRunner_goes.2.1 166 = .ok (.ifCond .eq 26, 3) := by decide +kernel
theorem d_MRunner_goes_169 : decode y_MRunner_goes.2.1 169 = .ok (.aload_n 0, 1) := by decide +kernel
theorem d_MRunner_goes_170 : decode y_MRunner_goes.2.1 170 = .ok (.iload 6, 2) := by decide +kernel
theorem d_MRunner_goes_172 : decode y_MRunner_goes.2.1 172 = .ok (.aload_n 0, 1) := by decide +kernel
theorem d_MRunner_goes_173 : decode y_MRunner_goes.2.1 173 = .ok (.getfield 25, 3) := by decide +kernel
theorem d_MRunner_goes_176 : decode y_MRunner_goes.2.1 176 = .ok (.getfield 181, 3) := by decide +kernel
theorem d_MRunner_goes_179 : decode y_MRunner_goes.2.1 179 = .ok (.iload_n 2, 1) := by decide +kernel
theorem d_MRunner_goes_180 : decode y_MRunner_goes.2.1 180 = .ok (.iaload, 1) := by decide +kernel
theorem d_MRunner_goes_181 : decode y_MRunner_goes.2.1 181 = .ok (.iload 4, 2) := by decide +kernel
theorem d_MRunner_goes_183 : decode y_MRunner_goes.2.1 183 = .ok (.invokevirtual 184, 3) := by decide +kernel
theorem d_MRunner_goes_186 : decode y_MRunner_goes.2.1 186 = .ok (.ifCond .ne 6, 3) := by decide +kernel
theorem d_MRunner_goes_189 : decode y_MRunner_goes.2.1 189 = .ok (.goto 39, 3) := by decide +kernel
theorem d_MRunner_goes_192 : decode y_MRunner_goes.2.1 192 = .ok (.aload_n 0, 1) := by decide +kernel
theorem d_MRunner_goes_193 : decode y_MRunner_goes.2.1 193 = .ok (.invokevirtual 128, 3) := by decide +kernel
theorem d_MRunner_goes_196 : decode y_MRunner_goes.2.1 196 = .ok (.aload_n 0, 1) := by decide +kernel
theorem d_MRunner_goes_197 : decode y_MRunner_goes.2.1 197 = .ok (.getfield 19, 3) := by decide +kernel
theorem d_MRunner_goes_200 : decode y_MRunner_goes.2.1 200 = .ok (.iload_n 1, 1) := by decide +kernel
theorem d_MRunner_goes_201 : decode y_MRunner_goes.2.1 201 = .ok (.aload_n 0, 1) := by decide +kernel
theorem d_MRunner_goes_202 : decode y_MRunner_goes.2.1 202 = .ok (.getfield 29, 3) := by decide +kernel
theorem d_MRunner_goes_205 : decode y_MRunner_goes.2.1 205 = .ok (.iload 6, 2) := by decide +kernel
theorem d_MRunner_goes_207 : decode y_MRunner_goes.2.1 207 = .ok (.invokevirtual 80, 3) := by decide +kernel
theorem d_MRunner_goes_210 : decode y_MRunner_goes.2.1 210 = .ok (.iastore, 1) := by decide +kernel
theorem d_MRunner_goes_211 : decode y_MRunner_goes.2.1 211 = .ok (.aload_n 0, 1) := by decide +kernel
theorem d_MRunner_goes_212 : decode y_MRunner_goes.2.1 212 = .ok (.iload 5, 2) := by decide +kernel
theorem d_MRunner_goes_214 : decode y_MRunner_goes.2.1 214 = .ok (.putfield 108, 3) := by decide +kernel
theorem d_MRunner_goes_217 : decode y_MRunner_goes.2.1 217 = .ok (.aload_n 0, 1) := by decide +kernel
theorem d_MRunner_goes_218 : decode y_MRunner_goes.2.1 218 = .ok (.getfield 96, 3) := by decide +kernel
theorem d_MRunner_goes_221 : decode y_MRunner_goes.2.1 221 = .ok (.ifCond .ne 7, 3) := by decide +kernel
theorem d_MRunner_goes_224 : decode y_MRunner_goes.2.1 224 = .ok (.aload_n 0, 1) := by decide +kernel
theorem d_MRunner_goes_225 : decode y_MRunner_goes.2.1 225 = .ok (.invokevirtual 111, 3) := by decide +kernel
theorem d_MRunner_goes_228 : decode y_MRunner_goes.2.1 228 = .ok (.iinc 6 1, 3) := by decide +kernel
theorem d_MRunner_goes_231 : decode y_MRunner_goes.2.1 231 = .ok (.goto (-127), 3) := by decide +kernel
theorem d_MRunner_goes_234 : decode y_MRunner_goes.2.1 234 = .ok (.aload_n 0, 1) := by decide +kernel
theorem d_MRunner_goes_235 : decode y_MRunner_goes.2.1 235 = .ok (.iload 5, 2) := by decide +kernel
theorem d_MRunner_goes_237 : decode y_MRunner_goes.2.1 237 = .ok (.putfield 108, 3) := by decide +kernel
theorem d_MRunner_goes_240 : decode y_MRunner_goes.2.1 240 = .ok (.aload_n 0, 1) := by decide +kernel
theorem d_MRunner_goes_241 : decode y_MRunner_goes.2.1 241 = .ok (.invokevirtual 171, 3) := by decide +kernel
theorem d_MRunner_goes_244 : decode y_MRunner_goes.2.1 244 = .ok (.return_, 1) := by decide +kernel
theorem s_MRunner_goes : ab_Stat y_MRunner_goes 0 := ⟨(k12 103 rfl rfl), (k1 22 rfl rfl), ⟨by decide, by decide⟩, by decide +kernel⟩
theorem i_MRunner_goes : Cond.instanceMethod y_MRunner_goes.1 ∈ ab_T := (k12 102 rfl rfl)
theorem v_MRunner_goes : Cond.selects "WorldEngineModel$Runner" y_MRunner_goes.1 y_MRunner_goes.1 ∈ ab_T := ab_s (List.mem_of_getElem? (i := 197) rfl) rfl
def B_MRunner_goes_234 (N : Nat) (o : Orc_RunS) (p0 : Nat) (l5 : Int32) (H : Hp) : Option (Unit × Hp) :=
    ck (H.sh[p0]? = some (15, 0)) <|
    bnd (H.sD p0 11 l5) fun H40 =>
    bC (F_MRunner_skips N p0 H40) fun v42 H43 =>
    some ((), H43)
set_option maxRecDepth 20000 in
set_option maxHeartbeats 2000000 in
theorem mB_MRunner_goes_234 {N : Nat} {o : Orc_RunS} (hmo : mo_RunS o) {p0 : Nat} {l5 : Int32} {H : Hp} {r : Unit × Hp} (hF : B_MRunner_goes_234 N o p0 l5 H = some r) : Sa H r.2 := by
  unfold B_MRunner_goes_234 at hF
  have hm := Sa.rf H
  obtain ⟨q44, hG⟩ := ck_s hF; clear hF
  obtain ⟨H45, eH45, hF⟩ := bnd_g hG; clear hG
  replace hm : Sa H H45 := by rw [eH45]; exact hm
  obtain ⟨v47, H48, z46, hG⟩ := bC_s hF; clear hF
  replace hm : Sa H H48 := hm.tr (m_MRunner_skips z46)
  have hr := Option.some.inj hG; subst hr
  exact hm
set_option maxRecDepth 20000 in
set_option maxHeartbeats 2000000 in
theorem kB_MRunner_goes_234 {N : Nat} {o : Orc_RunS} {fr lo : Nat} (ho : ok_RunS o fr lo) (hmo : mo_RunS o) {p0 : Nat} {l5 : Int32} {H : Hp} {r : Unit × Hp} (hF : B_MRunner_goes_234 N o p0 l5 H = some r) : ab_V y_MRunner_goes { frames := fr + 1, cells := 0, slots := 0, locals := lo + 27 } (po (.returned none) r.2) 0 0 0 0 234 [some (.ref p0), none, none, none, none, some (.int l5), none] [] (hpw H) := by
  unfold B_MRunner_goes_234 at hF
  refine ab_aload_n d_MRunner_goes_234 rfl rfl rfl ?_
  refine ab_iload d_MRunner_goes_235 rfl ?_
  obtain ⟨q39, hG⟩ := ck_s hF; clear hF
  refine hp_putI (v := l5) (f := 11) d_MRunner_goes_237 q39 (by decide) rfl (by decide) (k9 194 rfl rfl) rfl rfl (fun _ => rfl) (fun _ => rfl) rfl ?_
  refine hp_gen (fun H40 eH40 => ?_)
  replace hG := bnd_s eH40 hG
  have s_2 : Sa H H40 := by rw [eH40]; exact Sa.rf _
  refine ab_aload_n d_MRunner_goes_240 rfl rfl rfl ?_
  obtain ⟨v42, H43, z41, hF⟩ := bC_s hG; clear hG
  refine hp_callV_v (H1 := H43) (As := []) (rest := []) d_MRunner_goes_241 (k_MRunner_skips z41) (ab_mkC s_MRunner_skips (show 0 + 1 ≤ fr + 1 from by have := ho.1; omega) (show 8 + (1 + 11) + 0 ≤ lo + 27 from by have := ho.2.1; omega) (Nat.le_refl 0) (Nat.le_refl 0)) (k12 92 rfl rfl) i_MRunner_skips v_MRunner_skips (by rw [(s_2).1]; exact q39) (by decide) rfl rfl (Nat.le_of_ble_eq_true rfl) ?_
  have s_3 : Sa H H43 := (s_2).tr (m_MRunner_skips z41)
  exact ab_vret d_MRunner_goes_244 rfl (Nat.le_refl _) (Nat.le_refl _) (by have hr := Option.some.inj hF; subst hr; exact ⟨rfl, rfl⟩)
def B_MRunner_goes_228 (N : Nat) (o : Orc_RunS) (p0 : Nat) (kq104 : Int32 → Int32 → Int32 → Int32 → Int32 → Int32 → Hp → Option (Unit × Hp)) (l1 : Int32) (l2 : Int32) (l3 : Int32) (l4 : Int32) (l5 : Int32) (l6 : Int32) (H : Hp) : Option (Unit × Hp) :=
    kq104 l1 l2 l3 l4 l5 (l6 + 1) H
set_option maxRecDepth 20000 in
set_option maxHeartbeats 2000000 in
theorem mB_MRunner_goes_228 {N : Nat} {o : Orc_RunS} (hmo : mo_RunS o) {p0 : Nat} {kq104 : Int32 → Int32 → Int32 → Int32 → Int32 → Int32 → Hp → Option (Unit × Hp)} (hm104 : ∀ (l1 : Int32) (l2 : Int32) (l3 : Int32) (l4 : Int32) (l5 : Int32) (l6 : Int32) (H : Hp) (r : Unit × Hp), kq104 l1 l2 l3 l4 l5 l6 H = some r → Sa H r.2) {l1 : Int32} {l2 : Int32} {l3 : Int32} {l4 : Int32} {l5 : Int32} {l6 : Int32} {H : Hp} {r : Unit × Hp} (hF : B_MRunner_goes_228 N o p0 kq104 l1 l2 l3 l4 l5 l6 H = some r) : Sa H r.2 := by
  unfold B_MRunner_goes_228 at hF
  have hm := Sa.rf H
  exact hm.tr (hm104 l1 l2 l3 l4 l5 (l6 + 1) H r hF)
set_option maxRecDepth 20000 in
set_option maxHeartbeats 2000000 in
theorem kB_MRunner_goes_228 {N : Nat} {o : Orc_RunS} {fr lo : Nat} (ho : ok_RunS o fr lo) (hmo : mo_RunS o) {p0 : Nat} {kq104 : Int32 → Int32 → Int32 → Int32 → Int32 → Int32 → Hp → Option (Unit × Hp)} (hm104 : ∀ (l1 : Int32) (l2 : Int32) (l3 : Int32) (l4 : Int32) (l5 : Int32) (l6 : Int32) (H : Hp) (r : Unit × Hp), kq104 l1 l2 l3 l4 l5 l6 H = some r → Sa H r.2) (hk104 : ∀ (l1 : Int32) (l2 : Int32) (l3 : Int32) (l4 : Int32) (l5 : Int32) (l6 : Int32) (H : Hp) (r : Unit × Hp), kq104 l1 l2 l3 l4 l5 l6 H = some r → ab_V y_MRunner_goes { frames := fr + 1, cells := 0, slots := 0, locals := lo + 27 } (po (.returned none) r.2) 0 0 0 0 104 [some (.ref p0), some (.int l1), some (.int l2), some (.int l3), some (.int l4), some (.int l5), some (.int l6)] [] (hpw H)) {l1 : Int32} {l2 : Int32} {l3 : Int32} {l4 : Int32} {l5 : Int32} {l6 : Int32} {H : Hp} {r : Unit × Hp} (hF : B_MRunner_goes_228 N o p0 kq104 l1 l2 l3 l4 l5 l6 H = some r) : ab_V y_MRunner_goes { frames := fr + 1, cells := 0, slots := 0, locals := lo + 27 } (po (.returned none) r.2) 0 0 0 0 228 [some (.ref p0), some (.int l1), some (.int l2), some (.int l3), some (.int l4), some (.int l5), some (.int l6)] [] (hpw H) := by
  unfold B_MRunner_goes_228 at hF
  refine ab_iinc (v := l6 + 1) (lv' := [some (.ref p0), some (.int l1), some (.int l2), some (.int l3), some (.int l4), some (.int l5), some (.int (l6 + 1))]) d_MRunner_goes_228 rfl rfl (by decide) rfl ?_
  refine ab_goto (tgt := 104) d_MRunner_goes_231 (by decide) ?_
  exact hk104 l1 l2 l3 l4 l5 (l6 + 1) H r hF
def B_MRunner_goes_192 (N : Nat) (o : Orc_RunS) (p0 : Nat) (kq104 : Int32 → Int32 → Int32 → Int32 → Int32 → Int32 → Hp → Option (Unit × Hp)) (l1 : Int32) (l2 : Int32) (l3 : Int32) (l4 : Int32) (l5 : Int32) (l6 : Int32) (H : Hp) : Option (Unit × Hp) :=
    ck (H.sh[p0]? = some (15, 0)) <|
    bC (F_MRunner_counts N p0 H) fun v83 H84 =>
    rf (H84.P p0 14) fun a85 =>
    rf (H84.P p0 1) fun a87 =>
    ck (H84.sh[a87]? = some (13, 0)) <|
    bC (F_MWorld_number N a87 l6 H84) fun v91 H92 =>
    ar H92 100 a85 fun n93 =>
    ck (inb l1 n93) <|
    bnd (H92.sD a85 (l1).toNatClampNeg v91) fun H96 =>
    bnd (H96.sD p0 11 l5) fun H97 =>
    bnd ((H97.D p0 10)) fun x98 =>
    if x98 = (0 : Int32) then
    bC (o p0 H97) fun v101 H102 =>
    B_MRunner_goes_228 N o p0 kq104 l1 l2 l3 l4 l5 l6 H102
    else
    B_MRunner_goes_228 N o p0 kq104 l1 l2 l3 l4 l5 l6 H97
set_option maxRecDepth 20000 in
set_option maxHeartbeats 2000000 in
theorem mB_MRunner_goes_192 {N : Nat} {o : Orc_RunS} (hmo : mo_RunS o) {p0 : Nat} {kq104 : Int32 → Int32 → Int32 → Int32 → Int32 → Int32 → Hp → Option (Unit × Hp)} (hm104 : ∀ (l1 : Int32) (l2 : Int32) (l3 : Int32) (l4 : Int32) (l5 : Int32) (l6 : Int32) (H : Hp) (r : Unit × Hp), kq104 l1 l2 l3 l4 l5 l6 H = some r → Sa H r.2) {l1 : Int32} {l2 : Int32} {l3 : Int32} {l4 : Int32} {l5 : Int32} {l6 : Int32} {H : Hp} {r : Unit × Hp} (hF : B_MRunner_goes_192 N o p0 kq104 l1 l2 l3 l4 l5 l6 H = some r) : Sa H r.2 := by
  unfold B_MRunner_goes_192 at hF
  have hm := Sa.rf H
  obtain ⟨q103, hG⟩ := ck_s hF; clear hF
  obtain ⟨v105, H106, z104, hF⟩ := bC_s hG; clear hG
  replace hm : Sa H H106 := hm.tr (m_MRunner_counts z104)
  obtain ⟨a107, e108, hG⟩ := rf_s hF; clear hF
  obtain ⟨a109, e110, hF⟩ := rf_s hG; clear hG
  obtain ⟨q111, hG⟩ := ck_s hF; clear hF
  obtain ⟨v113, H114, z112, hF⟩ := bC_s hG; clear hG
  replace hm : Sa H H114 := hm.tr (m_MWorld_number z112)
  obtain ⟨n115, q116, hG⟩ := ar_s hF; clear hF
  obtain ⟨q117, hF⟩ := ck_s hG; clear hG
  obtain ⟨H118, eH118, hG⟩ := bnd_g hF; clear hF
  replace hm : Sa H H118 := by rw [eH118]; exact hm
  obtain ⟨H119, eH119, hF⟩ := bnd_g hG; clear hG
  replace hm : Sa H H119 := by rw [eH119]; exact hm
  obtain ⟨x120, -, hG⟩ := bnd_g hF; clear hF
  rcases ite_s hG with ⟨q_16, hF⟩ | ⟨q_16, hF⟩
  · clear hG
    obtain ⟨v123, H124, z122, hG⟩ := bC_s hF; clear hF
    replace hm : Sa H H124 := hm.tr (hmo _ _ _ z122)
    exact hm.tr (mB_MRunner_goes_228 hmo hm104 hG)
  · clear hG
    exact hm.tr (mB_MRunner_goes_228 hmo hm104 hF)
set_option maxRecDepth 20000 in
set_option maxHeartbeats 2000000 in
theorem kB_MRunner_goes_192 {N : Nat} {o : Orc_RunS} {fr lo : Nat} (ho : ok_RunS o fr lo) (hmo : mo_RunS o) {p0 : Nat} {kq104 : Int32 → Int32 → Int32 → Int32 → Int32 → Int32 → Hp → Option (Unit × Hp)} (hm104 : ∀ (l1 : Int32) (l2 : Int32) (l3 : Int32) (l4 : Int32) (l5 : Int32) (l6 : Int32) (H : Hp) (r : Unit × Hp), kq104 l1 l2 l3 l4 l5 l6 H = some r → Sa H r.2) (hk104 : ∀ (l1 : Int32) (l2 : Int32) (l3 : Int32) (l4 : Int32) (l5 : Int32) (l6 : Int32) (H : Hp) (r : Unit × Hp), kq104 l1 l2 l3 l4 l5 l6 H = some r → ab_V y_MRunner_goes { frames := fr + 1, cells := 0, slots := 0, locals := lo + 27 } (po (.returned none) r.2) 0 0 0 0 104 [some (.ref p0), some (.int l1), some (.int l2), some (.int l3), some (.int l4), some (.int l5), some (.int l6)] [] (hpw H)) {l1 : Int32} {l2 : Int32} {l3 : Int32} {l4 : Int32} {l5 : Int32} {l6 : Int32} {H : Hp} {r : Unit × Hp} (hF : B_MRunner_goes_192 N o p0 kq104 l1 l2 l3 l4 l5 l6 H = some r) : ab_V y_MRunner_goes { frames := fr + 1, cells := 0, slots := 0, locals := lo + 27 } (po (.returned none) r.2) 0 0 0 0 192 [some (.ref p0), some (.int l1), some (.int l2), some (.int l3), some (.int l4), some (.int l5), some (.int l6)] [] (hpw H) := by
  unfold B_MRunner_goes_192 at hF
  refine ab_aload_n d_MRunner_goes_192 rfl rfl rfl ?_
  obtain ⟨q81, hG⟩ := ck_s hF; clear hF
  obtain ⟨v83, H84, z82, hF⟩ := bC_s hG; clear hG
  refine hp_callV_v (H1 := H84) (As := []) (rest := []) d_MRunner_goes_193 (k_MRunner_counts z82) (ab_mkC s_MRunner_counts (show 1 + 1 ≤ fr + 1 from by have := ho.1; omega) (show 8 + (1 + 11) + 21 ≤ lo + 27 from by have := ho.2.1; omega) (Nat.le_refl 0) (Nat.le_refl 0)) (k11 238 rfl rfl) i_MRunner_counts v_MRunner_counts q81 (by decide) rfl rfl (Nat.le_of_ble_eq_true rfl) ?_
  have s_7 : Sa H H84 := (m_MRunner_counts z82)
  refine ab_aload_n d_MRunner_goes_196 rfl rfl rfl ?_
  obtain ⟨a85, e86, hG⟩ := rf_s hF; clear hF
  refine hp_getR (f := 14) d_MRunner_goes_197 (by rw [(s_7).1]; exact q81) (by decide) rfl (by decide) (k9 197 rfl rfl) rfl e86 ?_
  refine ab_iload_n d_MRunner_goes_200 rfl rfl ?_
  refine ab_aload_n d_MRunner_goes_201 rfl rfl rfl ?_
  obtain ⟨a87, e88, hF⟩ := rf_s hG; clear hG
  refine hp_getR (f := 1) d_MRunner_goes_202 (by rw [(s_7).1]; exact q81) (by decide) rfl (by decide) (k9 184 rfl rfl) rfl e88 ?_
  refine ab_iload d_MRunner_goes_205 rfl ?_
  obtain ⟨q89, hG⟩ := ck_s hF; clear hF
  rw [(s_7).1] at q89
  obtain ⟨v91, H92, z90, hF⟩ := bC_s hG; clear hG
  refine hp_callV_a (v := .int v91) (H1 := H92) (As := [.int l6]) (rest := [.int l1, .ref a85]) d_MRunner_goes_207 (k_MWorld_number z90) (ab_mkC s_MWorld_number (show 0 + 1 ≤ fr + 1 from by have := ho.1; omega) (show 8 + (2 + 11) + 0 ≤ lo + 27 from by have := ho.2.1; omega) (Nat.le_refl 0) (Nat.le_refl 0)) (k11 226 rfl rfl) i_MWorld_number v_MWorld_number (by rw [(s_7).1]; exact q89) (by decide) rfl rfl (Nat.le_of_ble_eq_true rfl) ?_
  have s_8 : Sa H H92 := (s_7).tr (m_MWorld_number z90)
  obtain ⟨n93, q94, hG⟩ := ar_s hF; clear hF
  rw [(s_8).1] at q94
  obtain ⟨q95, hF⟩ := ck_s hG; clear hG
  refine hp_iast d_MRunner_goes_210 tI (by rw [(s_8).1]; exact q94) q95 ?_
  refine hp_gen (fun H96 eH96 => ?_)
  replace hF := bnd_s eH96 hF
  have s_9 : Sa H H96 := by rw [eH96]; exact s_8
  refine ab_aload_n d_MRunner_goes_211 rfl rfl rfl ?_
  refine ab_iload d_MRunner_goes_212 rfl ?_
  refine hp_putI (v := l5) (f := 11) d_MRunner_goes_214 (by rw [(s_9).1]; exact q81) (by decide) rfl (by decide) (k9 194 rfl rfl) rfl rfl (fun _ => rfl) (fun _ => rfl) rfl ?_
  refine hp_gen (fun H97 eH97 => ?_)
  replace hF := bnd_s eH97 hF
  have s_10 : Sa H H97 := by rw [eH97]; exact s_9
  refine ab_aload_n d_MRunner_goes_217 rfl rfl rfl ?_
  refine hp_getI (f := 10) d_MRunner_goes_218 (by rw [(s_10).1]; exact q81) (by decide) rfl (by decide) (k9 193 rfl rfl) rfl ?_
  refine ab_topi (fun x98 ex98 => ?_)
  replace hF := bnd_s ex98 hF
  refine ab_if_ne (tgt := 228) d_MRunner_goes_221 (by decide) (fun q99 => ?_) (fun q99 => ?_)
  · rw [if_neg q99] at hF
    exact kB_MRunner_goes_228 ho hmo hm104 hk104 hF
  · rw [if_pos q99] at hF
    refine ab_aload_n d_MRunner_goes_224 rfl rfl rfl ?_
    obtain ⟨v101, H102, z100, hG⟩ := bC_s hF; clear hF
    refine hp_callV_v (H1 := H102) (As := []) (rest := []) d_MRunner_goes_225 (ho.2.2 _ _ _ z100) (ab_mkC s_MRunner_block (show fr + 1 ≤ fr + 1 from by have := ho.1; omega) (show 8 + (2 + 11) + lo ≤ lo + 27 from by have := ho.2.1; omega) (Nat.le_refl 0) (Nat.le_refl 0)) (k11 230 rfl rfl) i_MRunner_block v_MRunner_block (by rw [(s_10).1]; exact q81) (by decide) rfl rfl (Nat.le_of_ble_eq_true rfl) ?_
    have s_11 : Sa H H102 := (s_10).tr (hmo _ _ _ z100)
    exact kB_MRunner_goes_228 ho hmo hm104 hk104 hG
def B_MRunner_goes_104 (N : Nat) (o : Orc_RunS) (p0 : Nat) : Nat → Int32 → Int32 → Int32 → Int32 → Int32 → Int32 → Hp → Option (Unit × Hp)
  | 0, _, _, _, _, _, _, _ => none
  | n + 1, l1, l2, l3, l4, l5, l6, H =>
    if (256 : Int32) ≤ l6 then
    B_MRunner_goes_234 N o p0 l5 H
    else
    ck (H.sh[p0]? = some (15, 0)) <|
    bnd ((H.D p0 10)) fun x50 =>
    if x50 = (0 : Int32) then
    rf (H.P p0 1) fun a52 =>
    ck (H.sh[a52]? = some (13, 0)) <|
    rf (H.P a52 5) fun a55 =>
    ar H 102 a55 fun n57 =>
    ck (inb l6 n57) <|
    bnd ((H.D a55 (l6).toNatClampNeg)) fun x60 =>
    if x60 = (0 : Int32) then
    B_MRunner_goes_228 N o p0 (fun l1 l2 l3 l4 l5 l6 H => B_MRunner_goes_104 N o p0 n l1 l2 l3 l4 l5 l6 H) l1 l2 l3 l4 l5 l6 H
    else
    rf (H.P p0 1) fun a62 =>
    ck (H.sh[a62]? = some (13, 0)) <|
    rf (H.P a62 6) fun a65 =>
    ar H 100 a65 fun n67 =>
    ck (inb l6 n67) <|
    bnd ((H.D a65 (l6).toNatClampNeg)) fun x70 =>
    if ((x70 >>> (l2 &&& 31)) &&& (1 : Int32)) = (0 : Int32) then
    B_MRunner_goes_228 N o p0 (fun l1 l2 l3 l4 l5 l6 H => B_MRunner_goes_104 N o p0 n l1 l2 l3 l4 l5 l6 H) l1 l2 l3 l4 l5 l6 H
    else
    rf (H.P p0 1) fun a72 =>
    ck (H.sh[a72]? = some (13, 0)) <|
    bC (F_MWorld_number N a72 l6 H) fun v76 H77 =>
    bnd ((H77.D p0 6)) fun x78 =>
    if v76 = x78 then
    B_MRunner_goes_228 N o p0 (fun l1 l2 l3 l4 l5 l6 H => B_MRunner_goes_104 N o p0 n l1 l2 l3 l4 l5 l6 H) l1 l2 l3 l4 l5 l6 H77
    else
    if l3 = (0 : Int32) then
    B_MRunner_goes_192 N o p0 (fun l1 l2 l3 l4 l5 l6 H => B_MRunner_goes_104 N o p0 n l1 l2 l3 l4 l5 l6 H) l1 l2 l3 l4 l5 l6 H77
    else
    rf (H77.P p0 0) fun a125 =>
    ck (H77.sh[a125]? = some (14, 0)) <|
    rf (H77.P a125 18) fun a128 =>
    ar H77 100 a128 fun n130 =>
    ck (inb l2 n130) <|
    bnd ((H77.D a128 (l2).toNatClampNeg)) fun x133 =>
    bC (F_MRunner_isNear N p0 l6 x133 l4 H77) fun v135 H136 =>
    if v135 = (0 : Int32) then
    B_MRunner_goes_228 N o p0 (fun l1 l2 l3 l4 l5 l6 H => B_MRunner_goes_104 N o p0 n l1 l2 l3 l4 l5 l6 H) l1 l2 l3 l4 l5 l6 H136
    else
    B_MRunner_goes_192 N o p0 (fun l1 l2 l3 l4 l5 l6 H => B_MRunner_goes_104 N o p0 n l1 l2 l3 l4 l5 l6 H) l1 l2 l3 l4 l5 l6 H136
    else
    B_MRunner_goes_234 N o p0 l5 H
termination_by structural n => n
set_option maxRecDepth 20000 in
set_option maxHeartbeats 2000000 in
theorem mB_MRunner_goes_104 {N : Nat} {o : Orc_RunS} (hmo : mo_RunS o) {p0 : Nat} : ∀ (n : Nat) (l1 : Int32) (l2 : Int32) (l3 : Int32) (l4 : Int32) (l5 : Int32) (l6 : Int32) (H : Hp) (r : Unit × Hp), B_MRunner_goes_104 N o p0 n l1 l2 l3 l4 l5 l6 H = some r → Sa H r.2 := by
  intro n
  induction n with
  | zero => intro l1 l2 l3 l4 l5 l6 H r hF; rw [B_MRunner_goes_104] at hF; cases hF
  | succ n ih =>
    intro l1 l2 l3 l4 l5 l6 H r hF
    rw [B_MRunner_goes_104] at hF
    have hm := Sa.rf H
    rcases ite_s hF with ⟨q_19, hG⟩ | ⟨q_19, hG⟩
    · clear hF
      exact hm.tr (mB_MRunner_goes_234 hmo hG)
    · clear hF
      obtain ⟨q139, hF⟩ := ck_s hG; clear hG
      obtain ⟨x140, -, hG⟩ := bnd_g hF; clear hF
      rcases ite_s hG with ⟨q_20, hF⟩ | ⟨q_20, hF⟩
      · clear hG
        obtain ⟨a142, e143, hG⟩ := rf_s hF; clear hF
        obtain ⟨q144, hF⟩ := ck_s hG; clear hG
        obtain ⟨a145, e146, hG⟩ := rf_s hF; clear hF
        obtain ⟨n147, q148, hF⟩ := ar_s hG; clear hG
        obtain ⟨q149, hG⟩ := ck_s hF; clear hF
        obtain ⟨x150, -, hF⟩ := bnd_g hG; clear hG
        rcases ite_s hF with ⟨q_21, hG⟩ | ⟨q_21, hG⟩
        · clear hF
          exact hm.tr (mB_MRunner_goes_228 hmo ih hG)
        · clear hF
          obtain ⟨a152, e153, hF⟩ := rf_s hG; clear hG
          obtain ⟨q154, hG⟩ := ck_s hF; clear hF
          obtain ⟨a155, e156, hF⟩ := rf_s hG; clear hG
          obtain ⟨n157, q158, hG⟩ := ar_s hF; clear hF
          obtain ⟨q159, hF⟩ := ck_s hG; clear hG
          obtain ⟨x160, -, hG⟩ := bnd_g hF; clear hF
          rcases ite_s hG with ⟨q_22, hF⟩ | ⟨q_22, hF⟩
          · clear hG
            exact hm.tr (mB_MRunner_goes_228 hmo ih hF)
          · clear hG
            obtain ⟨a162, e163, hG⟩ := rf_s hF; clear hF
            obtain ⟨q164, hF⟩ := ck_s hG; clear hG
            obtain ⟨v166, H167, z165, hG⟩ := bC_s hF; clear hF
            replace hm : Sa H H167 := hm.tr (m_MWorld_number z165)
            obtain ⟨x168, -, hF⟩ := bnd_g hG; clear hG
            rcases ite_s hF with ⟨q_24, hG⟩ | ⟨q_24, hG⟩
            · clear hF
              exact hm.tr (mB_MRunner_goes_228 hmo ih hG)
            · clear hF
              rcases ite_s hG with ⟨q_25, hF⟩ | ⟨q_25, hF⟩
              · clear hG
                exact hm.tr (mB_MRunner_goes_192 hmo ih hF)
              · clear hG
                obtain ⟨a171, e172, hG⟩ := rf_s hF; clear hF
                obtain ⟨q173, hF⟩ := ck_s hG; clear hG
                obtain ⟨a174, e175, hG⟩ := rf_s hF; clear hF
                obtain ⟨n176, q177, hF⟩ := ar_s hG; clear hG
                obtain ⟨q178, hG⟩ := ck_s hF; clear hF
                obtain ⟨x179, -, hF⟩ := bnd_g hG; clear hG
                obtain ⟨v181, H182, z180, hG⟩ := bC_s hF; clear hF
                replace hm : Sa H H182 := hm.tr (m_MRunner_isNear z180)
                rcases ite_s hG with ⟨q_27, hF⟩ | ⟨q_27, hF⟩
                · clear hG
                  exact hm.tr (mB_MRunner_goes_228 hmo ih hF)
                · clear hG
                  exact hm.tr (mB_MRunner_goes_192 hmo ih hF)
      · clear hG
        exact hm.tr (mB_MRunner_goes_234 hmo hF)
set_option maxRecDepth 20000 in
set_option maxHeartbeats 2000000 in
theorem kB_MRunner_goes_104 {N : Nat} {o : Orc_RunS} {fr lo : Nat} (ho : ok_RunS o fr lo) (hmo : mo_RunS o) {p0 : Nat} : ∀ (n : Nat) (l1 : Int32) (l2 : Int32) (l3 : Int32) (l4 : Int32) (l5 : Int32) (l6 : Int32) (H : Hp) (r : Unit × Hp), B_MRunner_goes_104 N o p0 n l1 l2 l3 l4 l5 l6 H = some r → ab_V y_MRunner_goes { frames := fr + 1, cells := 0, slots := 0, locals := lo + 27 } (po (.returned none) r.2) 0 0 0 0 104 [some (.ref p0), some (.int l1), some (.int l2), some (.int l3), some (.int l4), some (.int l5), some (.int l6)] [] (hpw H) := by
  intro n
  induction n with
  | zero => intro l1 l2 l3 l4 l5 l6 H r hF; rw [B_MRunner_goes_104] at hF; cases hF
  | succ n ih =>
    intro l1 l2 l3 l4 l5 l6 H r hF
    rw [B_MRunner_goes_104] at hF
    refine ab_iload d_MRunner_goes_104 rfl ?_
    refine ab_sipush (v := 256) d_MRunner_goes_106 (by decide) ?_
    refine ab_icmp_ge (tgt := 234) d_MRunner_goes_109 (by decide) (fun q38 => ?_) (fun q38 => ?_)
    · rw [if_pos q38] at hF
      refine ab_le (lv' := [some (.ref p0), none, none, none, none, some (.int l5), none]) ⟨rfl, ⟨rfl, trivial⟩⟩ ?_
      exact kB_MRunner_goes_234 ho hmo hF
    · rw [if_neg q38] at hF
      refine ab_aload_n d_MRunner_goes_112 rfl rfl rfl ?_
      obtain ⟨q49, hG⟩ := ck_s hF; clear hF
      refine hp_getI (f := 10) d_MRunner_goes_113 q49 (by decide) rfl (by decide) (k9 193 rfl rfl) rfl ?_
      refine ab_topi (fun x50 ex50 => ?_)
      replace hG := bnd_s ex50 hG
      refine ab_if_ne (tgt := 234) d_MRunner_goes_116 (by decide) (fun q51 => ?_) (fun q51 => ?_)
      · rw [if_neg q51] at hG
        refine ab_le (lv' := [some (.ref p0), none, none, none, none, some (.int l5), none]) ⟨rfl, ⟨rfl, trivial⟩⟩ ?_
        exact kB_MRunner_goes_234 ho hmo hG
      · rw [if_pos q51] at hG
        refine ab_aload_n d_MRunner_goes_119 rfl rfl rfl ?_
        obtain ⟨a52, e53, hF⟩ := rf_s hG; clear hG
        refine hp_getR (f := 1) d_MRunner_goes_120 q49 (by decide) rfl (by decide) (k9 184 rfl rfl) rfl e53 ?_
        obtain ⟨q54, hG⟩ := ck_s hF; clear hF
        obtain ⟨a55, e56, hF⟩ := rf_s hG; clear hG
        refine hp_getRN (f := 5) d_MRunner_goes_123 q54 (by decide) rfl (by decide) (k9 101 rfl rfl) rfl e56 ?_
        refine ab_iload d_MRunner_goes_126 rfl ?_
        obtain ⟨n57, q58, hG⟩ := ar_s hF; clear hF
        obtain ⟨q59, hF⟩ := ck_s hG; clear hG
        refine hp_zald d_MRunner_goes_128 tZ q58 q59 ?_
        refine ab_topi (fun x60 ex60 => ?_)
        replace hF := bnd_s ex60 hF
        refine ab_if_eq (tgt := 228) d_MRunner_goes_129 (by decide) (fun q61 => ?_) (fun q61 => ?_)
        · rw [if_pos q61] at hF
          exact kB_MRunner_goes_228 ho hmo (mB_MRunner_goes_104 hmo n) ih hF
        · rw [if_neg q61] at hF
          refine ab_aload_n d_MRunner_goes_132 rfl rfl rfl ?_
          obtain ⟨a62, e63, hG⟩ := rf_s hF; clear hF
          refine hp_getR (f := 1) d_MRunner_goes_133 q49 (by decide) rfl (by decide) (k9 184 rfl rfl) rfl e63 ?_
          obtain ⟨q64, hF⟩ := ck_s hG; clear hG
          obtain ⟨a65, e66, hG⟩ := rf_s hF; clear hF
          refine hp_getRN (f := 6) d_MRunner_goes_136 q64 (by decide) rfl (by decide) (k9 105 rfl rfl) rfl e66 ?_
          refine ab_iload d_MRunner_goes_139 rfl ?_
          obtain ⟨n67, q68, hF⟩ := ar_s hG; clear hG
          obtain ⟨q69, hG⟩ := ck_s hF; clear hF
          refine hp_iald d_MRunner_goes_141 tI q68 q69 ?_
          refine ab_topi (fun x70 ex70 => ?_)
          replace hG := bnd_s ex70 hG
          refine ab_iload_n d_MRunner_goes_142 rfl rfl ?_
          refine ab_ishr d_MRunner_goes_143 ?_
          refine ab_iconst (v := 1) d_MRunner_goes_144 (by decide) ?_
          refine ab_iand d_MRunner_goes_145 ?_
          refine ab_if_eq (tgt := 228) d_MRunner_goes_146 (by decide) (fun q71 => ?_) (fun q71 => ?_)
          · rw [if_pos q71] at hG
            exact kB_MRunner_goes_228 ho hmo (mB_MRunner_goes_104 hmo n) ih hG
          · rw [if_neg q71] at hG
            refine ab_aload_n d_MRunner_goes_149 rfl rfl rfl ?_
            obtain ⟨a72, e73, hF⟩ := rf_s hG; clear hG
            refine hp_getR (f := 1) d_MRunner_goes_150 q49 (by decide) rfl (by decide) (k9 184 rfl rfl) rfl e73 ?_
            refine ab_iload d_MRunner_goes_153 rfl ?_
            obtain ⟨q74, hG⟩ := ck_s hF; clear hF
            obtain ⟨v76, H77, z75, hF⟩ := bC_s hG; clear hG
            refine hp_callV_a (v := .int v76) (H1 := H77) (As := [.int l6]) (rest := []) d_MRunner_goes_155 (k_MWorld_number z75) (ab_mkC s_MWorld_number (show 0 + 1 ≤ fr + 1 from by have := ho.1; omega) (show 8 + (2 + 11) + 0 ≤ lo + 27 from by have := ho.2.1; omega) (Nat.le_refl 0) (Nat.le_refl 0)) (k11 226 rfl rfl) i_MWorld_number v_MWorld_number q74 (by decide) rfl rfl (Nat.le_of_ble_eq_true rfl) ?_
            have s_6 : Sa H H77 := (m_MWorld_number z75)
            refine ab_aload_n d_MRunner_goes_158 rfl rfl rfl ?_
            refine hp_getI (f := 6) d_MRunner_goes_159 (by rw [(s_6).1]; exact q49) (by decide) rfl (by decide) (k9 189 rfl rfl) rfl ?_
            refine ab_topi (fun x78 ex78 => ?_)
            replace hF := bnd_s ex78 hF
            refine ab_icmp_eq (tgt := 228) d_MRunner_goes_162 (by decide) (fun q79 => ?_) (fun q79 => ?_)
            · rw [if_pos q79] at hF
              exact kB_MRunner_goes_228 ho hmo (mB_MRunner_goes_104 hmo n) ih hF
            · rw [if_neg q79] at hF
              refine ab_iload_n d_MRunner_goes_165 rfl rfl ?_
              refine ab_if_eq (tgt := 192) d_MRunner_goes_166 (by decide) (fun q80 => ?_) (fun q80 => ?_)
              · rw [if_pos q80] at hF
                exact kB_MRunner_goes_192 ho hmo (mB_MRunner_goes_104 hmo n) ih hF
              · rw [if_neg q80] at hF
                refine ab_aload_n d_MRunner_goes_169 rfl rfl rfl ?_
                refine ab_iload d_MRunner_goes_170 rfl ?_
                refine ab_aload_n d_MRunner_goes_172 rfl rfl rfl ?_
                obtain ⟨a125, e126, hG⟩ := rf_s hF; clear hF
                refine hp_getR (f := 0) d_MRunner_goes_173 (by rw [(s_6).1]; exact q49) (by decide) rfl (by decide) (k9 183 rfl rfl) rfl e126 ?_
                obtain ⟨q127, hF⟩ := ck_s hG; clear hG
                rw [(s_6).1] at q127
                obtain ⟨a128, e129, hG⟩ := rf_s hF; clear hF
                refine hp_getRN (f := 18) d_MRunner_goes_176 (by rw [(s_6).1]; exact q127) (by decide) rfl (by decide) (k8 186 rfl rfl) rfl e129 ?_
                refine ab_iload_n d_MRunner_goes_179 rfl rfl ?_
                obtain ⟨n130, q131, hF⟩ := ar_s hG; clear hG
                rw [(s_6).1] at q131
                obtain ⟨q132, hG⟩ := ck_s hF; clear hF
                refine hp_iald d_MRunner_goes_180 tI (by rw [(s_6).1]; exact q131) q132 ?_
                refine ab_topi (fun x133 ex133 => ?_)
                replace hG := bnd_s ex133 hG
                refine ab_iload d_MRunner_goes_181 rfl ?_
                obtain ⟨v135, H136, z134, hF⟩ := bC_s hG; clear hG
                refine hp_callV_a (v := .int v135) (H1 := H136) (As := [.int l6, .int x133, .int l4]) (rest := []) d_MRunner_goes_183 (k_MRunner_isNear z134) (ab_mkC s_MRunner_isNear (show 0 + 1 ≤ fr + 1 from by have := ho.1; omega) (show 8 + (8 + 11) + 0 ≤ lo + 27 from by have := ho.2.1; omega) (Nat.le_refl 0) (Nat.le_refl 0)) (k12 104 rfl rfl) i_MRunner_isNear v_MRunner_isNear (by rw [(s_6).1]; exact q49) (by decide) rfl rfl (Nat.le_of_ble_eq_true rfl) ?_
                have s_18 : Sa H H136 := (s_6).tr (m_MRunner_isNear z134)
                refine ab_if_ne (tgt := 192) d_MRunner_goes_186 (by decide) (fun q137 => ?_) (fun q137 => ?_)
                · rw [if_neg q137] at hF
                  exact kB_MRunner_goes_192 ho hmo (mB_MRunner_goes_104 hmo n) ih hF
                · rw [if_pos q137] at hF
                  refine ab_goto (tgt := 228) d_MRunner_goes_189 (by decide) ?_
                  exact kB_MRunner_goes_228 ho hmo (mB_MRunner_goes_104 hmo n) ih hF
def B_MRunner_goes_95 (N : Nat) (o : Orc_RunS) (p0 : Nat) (l1 : Int32) (l2 : Int32) (l3 : Int32) (l4 : Int32) (H : Hp) : Option (Unit × Hp) :=
    ck (H.sh[p0]? = some (15, 0)) <|
    bnd ((H.D p0 11)) fun x37 =>
    B_MRunner_goes_104 N o p0 N l1 l2 l3 l4 x37 0 H
set_option maxRecDepth 20000 in
set_option maxHeartbeats 2000000 in
theorem mB_MRunner_goes_95 {N : Nat} {o : Orc_RunS} (hmo : mo_RunS o) {p0 : Nat} {l1 : Int32} {l2 : Int32} {l3 : Int32} {l4 : Int32} {H : Hp} {r : Unit × Hp} (hF : B_MRunner_goes_95 N o p0 l1 l2 l3 l4 H = some r) : Sa H r.2 := by
  unfold B_MRunner_goes_95 at hF
  have hm := Sa.rf H
  obtain ⟨q184, hG⟩ := ck_s hF; clear hF
  obtain ⟨x185, -, hF⟩ := bnd_g hG; clear hG
  exact hm.tr (mB_MRunner_goes_104 hmo N l1 l2 l3 l4 x185 0 H r hF)
set_option maxRecDepth 20000 in
set_option maxHeartbeats 2000000 in
theorem kB_MRunner_goes_95 {N : Nat} {o : Orc_RunS} {fr lo : Nat} (ho : ok_RunS o fr lo) (hmo : mo_RunS o) {p0 : Nat} {l1 : Int32} {l2 : Int32} {l3 : Int32} {l4 : Int32} {H : Hp} {r : Unit × Hp} (hF : B_MRunner_goes_95 N o p0 l1 l2 l3 l4 H = some r) : ab_V y_MRunner_goes { frames := fr + 1, cells := 0, slots := 0, locals := lo + 27 } (po (.returned none) r.2) 0 0 0 0 95 [some (.ref p0), some (.int l1), some (.int l2), some (.int l3), some (.int l4), none, none] [] (hpw H) := by
  unfold B_MRunner_goes_95 at hF
  refine ab_aload_n d_MRunner_goes_95 rfl rfl rfl ?_
  obtain ⟨q36, hG⟩ := ck_s hF; clear hF
  refine hp_getI (f := 11) d_MRunner_goes_96 q36 (by decide) rfl (by decide) (k9 194 rfl rfl) rfl ?_
  refine ab_topi (fun x37 ex37 => ?_)
  replace hG := bnd_s ex37 hG
  refine ab_istore (lv' := [some (.ref p0), some (.int l1), some (.int l2), some (.int l3), some (.int l4), some (.int x37), none]) d_MRunner_goes_99 (by decide) rfl ?_
  refine ab_iconst (v := 0) d_MRunner_goes_101 (by decide) ?_
  refine ab_istore (lv' := [some (.ref p0), some (.int l1), some (.int l2), some (.int l3), some (.int l4), some (.int x37), some (.int 0)]) d_MRunner_goes_102 (by decide) rfl ?_
  exact kB_MRunner_goes_104 ho hmo N l1 l2 l3 l4 x37 0 H r hG
def B_MRunner_goes_61 (N : Nat) (o : Orc_RunS) (p0 : Nat) (l1 : Int32) (l2 : Int32) (w0 : Int32) (H : Hp) : Option (Unit × Hp) :=
    if w0 = (0 : Int32) then
    B_MRunner_goes_95 N o p0 l1 l2 w0 0 H
    else
    ck (H.sh[p0]? = some (15, 0)) <|
    bnd ((H.D p0 11)) fun x187 =>
    bnd (H.sD p0 11 (x187 + (2 : Int32))) fun H188 =>
    bC ((X_RunE N 50).1 p0 H188) fun v190 H191 =>
    bnd ((H191.D p0 11)) fun x192 =>
    bnd (H191.sD p0 11 (x192 + (1 : Int32))) fun H193 =>
    B_MRunner_goes_95 N o p0 l1 l2 w0 v190 H193
set_option maxRecDepth 20000 in
set_option maxHeartbeats 2000000 in
theorem mB_MRunner_goes_61 {N : Nat} {o : Orc_RunS} (hmo : mo_RunS o) {p0 : Nat} {l1 : Int32} {l2 : Int32} {w0 : Int32} {H : Hp} {r : Unit × Hp} (hF : B_MRunner_goes_61 N o p0 l1 l2 w0 H = some r) : Sa H r.2 := by
  unfold B_MRunner_goes_61 at hF
  have hm := Sa.rf H
  rcases ite_s hF with ⟨q_31, hG⟩ | ⟨q_31, hG⟩
  · clear hF
    exact hm.tr (mB_MRunner_goes_95 hmo hG)
  · clear hF
    obtain ⟨q195, hF⟩ := ck_s hG; clear hG
    obtain ⟨x196, -, hG⟩ := bnd_g hF; clear hF
    obtain ⟨H197, eH197, hF⟩ := bnd_g hG; clear hG
    replace hm : Sa H H197 := by rw [eH197]; exact hm
    obtain ⟨v199, H200, z198, hG⟩ := bC_s hF; clear hF
    replace hm : Sa H H200 := hm.tr ((moX_RunE 50).1 _ _ _ z198)
    obtain ⟨x201, -, hF⟩ := bnd_g hG; clear hG
    obtain ⟨H202, eH202, hG⟩ := bnd_g hF; clear hF
    replace hm : Sa H H202 := by rw [eH202]; exact hm
    exact hm.tr (mB_MRunner_goes_95 hmo hG)
set_option maxRecDepth 20000 in
set_option maxHeartbeats 2000000 in
theorem kB_MRunner_goes_61 {N : Nat} {o : Orc_RunS} {fr lo : Nat} (ho : ok_RunS o fr lo) (hmo : mo_RunS o) {p0 : Nat} {l1 : Int32} {l2 : Int32} {w0 : Int32} {H : Hp} {r : Unit × Hp} (hF : B_MRunner_goes_61 N o p0 l1 l2 w0 H = some r) : ab_V y_MRunner_goes { frames := fr + 1, cells := 0, slots := 0, locals := lo + 27 } (po (.returned none) r.2) 0 0 0 0 61 [some (.ref p0), some (.int l1), some (.int l2), none, none, none, none] [.int w0] (hpw H) := by
  unfold B_MRunner_goes_61 at hF
  refine ab_istore_n (lv' := [some (.ref p0), some (.int l1), some (.int l2), some (.int w0), none, none, none]) d_MRunner_goes_61 rfl (by decide) rfl ?_
  refine ab_iconst (v := 0) d_MRunner_goes_62 (by decide) ?_
  refine ab_istore (lv' := [some (.ref p0), some (.int l1), some (.int l2), some (.int w0), some (.int 0), none, none]) d_MRunner_goes_63 (by decide) rfl ?_
  refine ab_iload_n d_MRunner_goes_65 rfl rfl ?_
  refine ab_if_eq (tgt := 95) d_MRunner_goes_66 (by decide) (fun q35 => ?_) (fun q35 => ?_)
  · rw [if_pos q35] at hF
    exact kB_MRunner_goes_95 ho hmo hF
  · rw [if_neg q35] at hF
    refine ab_aload_n d_MRunner_goes_69 rfl rfl rfl ?_
    refine ab_dup d_MRunner_goes_70 rfl ?_
    obtain ⟨q186, hG⟩ := ck_s hF; clear hF
    refine hp_getI (f := 11) d_MRunner_goes_71 q186 (by decide) rfl (by decide) (k9 194 rfl rfl) rfl ?_
    refine ab_topi (fun x187 ex187 => ?_)
    replace hG := bnd_s ex187 hG
    refine ab_iconst (v := 2) d_MRunner_goes_74 (by decide) ?_
    refine ab_iadd d_MRunner_goes_75 ?_
    refine hp_putI (v := x187 + (2 : Int32)) (f := 11) d_MRunner_goes_76 q186 (by decide) rfl (by decide) (k9 194 rfl rfl) rfl rfl (fun _ => rfl) (fun _ => rfl) rfl ?_
    refine hp_gen (fun H188 eH188 => ?_)
    replace hG := bnd_s eH188 hG
    have s_28 : Sa H H188 := by rw [eH188]; exact Sa.rf _
    refine ab_aload_n d_MRunner_goes_79 rfl rfl rfl ?_
    obtain ⟨v190, H191, z189, hF⟩ := bC_s hG; clear hG
    refine hp_callV_a (v := .int v190) (H1 := H191) (As := []) (rest := []) d_MRunner_goes_80 ((okX_RunE 50).2.2.1 _ _ _ z189) (ab_mkC s_MRunner_value (show (3 + 5 * 50) + 1 ≤ fr + 1 from by have := ho.1; omega) (show 8 + (3 + 11) + (65 + 123 * 50) ≤ lo + 27 from by have := ho.2.1; omega) (Nat.le_refl 0) (Nat.le_refl 0)) (k12 10 rfl rfl) i_MRunner_value v_MRunner_value (by rw [(s_28).1]; exact q186) (by decide) rfl rfl (Nat.le_of_ble_eq_true rfl) ?_
    have s_29 : Sa H H191 := (s_28).tr ((moX_RunE 50).1 _ _ _ z189)
    refine ab_istore (lv' := [some (.ref p0), some (.int l1), some (.int l2), some (.int w0), some (.int v190), none, none]) d_MRunner_goes_83 (by decide) rfl ?_
    refine ab_aload_n d_MRunner_goes_85 rfl rfl rfl ?_
    refine ab_dup d_MRunner_goes_86 rfl ?_
    refine hp_getI (f := 11) d_MRunner_goes_87 (by rw [(s_29).1]; exact q186) (by decide) rfl (by decide) (k9 194 rfl rfl) rfl ?_
    refine ab_topi (fun x192 ex192 => ?_)
    replace hF := bnd_s ex192 hF
    refine ab_iconst (v := 1) d_MRunner_goes_90 (by decide) ?_
    refine ab_iadd d_MRunner_goes_91 ?_
    refine hp_putI (v := x192 + (1 : Int32)) (f := 11) d_MRunner_goes_92 (by rw [(s_29).1]; exact q186) (by decide) rfl (by decide) (k9 194 rfl rfl) rfl rfl (fun _ => rfl) (fun _ => rfl) rfl ?_
    refine hp_gen (fun H193 eH193 => ?_)
    replace hF := bnd_s eH193 hF
    have s_30 : Sa H H193 := by rw [eH193]; exact s_29
    exact kB_MRunner_goes_95 ho hmo hF
def F_MRunner_goes (N : Nat) (o : Orc_RunS) (p0 : Nat) (H : Hp) : Option (Unit × Hp) :=
    ck (H.sh[p0]? = some (15, 0)) <|
    rf (H.P p0 0) fun a2 =>
    ck (H.sh[a2]? = some (14, 0)) <|
    rf (H.P a2 8) fun a5 =>
    bnd ((H.D p0 11)) fun x7 =>
    ar H 100 a5 fun n8 =>
    ck (inb x7 n8) <|
    bnd ((H.D a5 (x7).toNatClampNeg)) fun x11 =>
    rf (H.P p0 0) fun a12 =>
    ck (H.sh[a12]? = some (14, 0)) <|
    rf (H.P a12 8) fun a15 =>
    bnd ((H.D p0 11)) fun x17 =>
    ar H 100 a15 fun n18 =>
    ck (inb (x17 + (2 : Int32)) n18) <|
    bnd ((H.D a15 ((x17 + (2 : Int32))).toNatClampNeg)) fun x21 =>
    bnd ((H.D p0 11)) fun x22 =>
    bnd (H.sD p0 11 (x22 + (3 : Int32))) fun H23 =>
    rf (H23.P p0 0) fun a24 =>
    ck (H23.sh[a24]? = some (14, 0)) <|
    rf (H23.P a24 3) fun a27 =>
    bnd ((H23.D p0 11)) fun x29 =>
    ar H23 100 a27 fun n30 =>
    ck (inb x29 n30) <|
    bnd ((H23.D a27 (x29).toNatClampNeg)) fun x33 =>
    if x33 = (220 : Int32) then
    B_MRunner_goes_61 N o p0 x11 x21 1 H23
    else
    B_MRunner_goes_61 N o p0 x11 x21 0 H23
set_option maxRecDepth 20000 in
set_option maxHeartbeats 2000000 in
theorem m_MRunner_goes {N : Nat} {o : Orc_RunS} (hmo : mo_RunS o) {p0 : Nat} {H : Hp} {r : Unit × Hp} (hF : F_MRunner_goes N o p0 H = some r) : Sa H r.2 := by
  unfold F_MRunner_goes at hF
  have hm := Sa.rf H
  obtain ⟨q203, hG⟩ := ck_s hF; clear hF
  obtain ⟨a204, e205, hF⟩ := rf_s hG; clear hG
  obtain ⟨q206, hG⟩ := ck_s hF; clear hF
  obtain ⟨a207, e208, hF⟩ := rf_s hG; clear hG
  obtain ⟨x209, -, hG⟩ := bnd_g hF; clear hF
  obtain ⟨n210, q211, hF⟩ := ar_s hG; clear hG
  obtain ⟨q212, hG⟩ := ck_s hF; clear hF
  obtain ⟨x213, -, hF⟩ := bnd_g hG; clear hG
  obtain ⟨a214, e215, hG⟩ := rf_s hF; clear hF
  obtain ⟨q216, hF⟩ := ck_s hG; clear hG
  obtain ⟨a217, e218, hG⟩ := rf_s hF; clear hF
  obtain ⟨x219, -, hF⟩ := bnd_g hG; clear hG
  obtain ⟨n220, q221, hG⟩ := ar_s hF; clear hF
  obtain ⟨q222, hF⟩ := ck_s hG; clear hG
  obtain ⟨x223, -, hG⟩ := bnd_g hF; clear hF
  obtain ⟨x224, -, hF⟩ := bnd_g hG; clear hG
  obtain ⟨H225, eH225, hG⟩ := bnd_g hF; clear hF
  replace hm : Sa H H225 := by rw [eH225]; exact hm
  obtain ⟨a226, e227, hF⟩ := rf_s hG; clear hG
  obtain ⟨q228, hG⟩ := ck_s hF; clear hF
  obtain ⟨a229, e230, hF⟩ := rf_s hG; clear hG
  obtain ⟨x231, -, hG⟩ := bnd_g hF; clear hF
  obtain ⟨n232, q233, hF⟩ := ar_s hG; clear hG
  obtain ⟨q234, hG⟩ := ck_s hF; clear hF
  obtain ⟨x235, -, hF⟩ := bnd_g hG; clear hG
  rcases ite_s hF with ⟨q_36, hG⟩ | ⟨q_36, hG⟩
  · clear hF
    exact hm.tr (mB_MRunner_goes_61 hmo hG)
  · clear hF
    exact hm.tr (mB_MRunner_goes_61 hmo hG)
set_option maxRecDepth 20000 in
set_option maxHeartbeats 2000000 in
theorem k_MRunner_goes {N : Nat} {o : Orc_RunS} {fr lo : Nat} (ho : ok_RunS o fr lo) (hmo : mo_RunS o) {p0 : Nat} {H : Hp} {r : Unit × Hp} (hF : F_MRunner_goes N o p0 H = some r) : ab_M y_MRunner_goes { frames := fr + 1, cells := 0, slots := 0, locals := lo + 27 } [.ref p0] (hpw H) (po (.returned none) r.2) := by
  unfold F_MRunner_goes at hF
  refine ab_of2 (lv := [some (.ref p0), none, none, none, none, none, none]) 6 rfl rfl (Nat.le_of_ble_eq_true rfl) ?_
  refine ab_aload_n d_MRunner_goes_0 rfl rfl rfl ?_
  obtain ⟨q1, hG⟩ := ck_s hF; clear hF
  obtain ⟨a2, e3, hF⟩ := rf_s hG; clear hG
  refine hp_getR (f := 0) d_MRunner_goes_1 q1 (by decide) rfl (by decide) (k9 183 rfl rfl) rfl e3 ?_
  obtain ⟨q4, hG⟩ := ck_s hF; clear hF
  obtain ⟨a5, e6, hF⟩ := rf_s hG; clear hG
  refine hp_getRN (f := 8) d_MRunner_goes_4 q4 (by decide) rfl (by decide) (k8 170 rfl rfl) rfl e6 ?_
  refine ab_aload_n d_MRunner_goes_7 rfl rfl rfl ?_
  refine hp_getI (f := 11) d_MRunner_goes_8 q1 (by decide) rfl (by decide) (k9 194 rfl rfl) rfl ?_
  refine ab_topi (fun x7 ex7 => ?_)
  replace hF := bnd_s ex7 hF
  obtain ⟨n8, q9, hG⟩ := ar_s hF; clear hF
  obtain ⟨q10, hF⟩ := ck_s hG; clear hG
  refine hp_iald d_MRunner_goes_11 tI q9 q10 ?_
  refine ab_topi (fun x11 ex11 => ?_)
  replace hF := bnd_s ex11 hF
  refine ab_istore_n (lv' := [some (.ref p0), some (.int x11), none, none, none, none, none]) d_MRunner_goes_12 rfl (by decide) rfl ?_
  refine ab_aload_n d_MRunner_goes_13 rfl rfl rfl ?_
  obtain ⟨a12, e13, hG⟩ := rf_s hF; clear hF
  refine hp_getR (f := 0) d_MRunner_goes_14 q1 (by decide) rfl (by decide) (k9 183 rfl rfl) rfl e13 ?_
  obtain ⟨q14, hF⟩ := ck_s hG; clear hG
  obtain ⟨a15, e16, hG⟩ := rf_s hF; clear hF
  refine hp_getRN (f := 8) d_MRunner_goes_17 q14 (by decide) rfl (by decide) (k8 170 rfl rfl) rfl e16 ?_
  refine ab_aload_n d_MRunner_goes_20 rfl rfl rfl ?_
  refine hp_getI (f := 11) d_MRunner_goes_21 q1 (by decide) rfl (by decide) (k9 194 rfl rfl) rfl ?_
  refine ab_topi (fun x17 ex17 => ?_)
  replace hG := bnd_s ex17 hG
  refine ab_iconst (v := 2) d_MRunner_goes_24 (by decide) ?_
  refine ab_iadd d_MRunner_goes_25 ?_
  obtain ⟨n18, q19, hF⟩ := ar_s hG; clear hG
  obtain ⟨q20, hG⟩ := ck_s hF; clear hF
  refine hp_iald d_MRunner_goes_26 tI q19 q20 ?_
  refine ab_topi (fun x21 ex21 => ?_)
  replace hG := bnd_s ex21 hG
  refine ab_istore_n (lv' := [some (.ref p0), some (.int x11), some (.int x21), none, none, none, none]) d_MRunner_goes_27 rfl (by decide) rfl ?_
  refine ab_aload_n d_MRunner_goes_28 rfl rfl rfl ?_
  refine ab_dup d_MRunner_goes_29 rfl ?_
  refine hp_getI (f := 11) d_MRunner_goes_30 q1 (by decide) rfl (by decide) (k9 194 rfl rfl) rfl ?_
  refine ab_topi (fun x22 ex22 => ?_)
  replace hG := bnd_s ex22 hG
  refine ab_iconst (v := 3) d_MRunner_goes_33 (by decide) ?_
  refine ab_iadd d_MRunner_goes_34 ?_
  refine hp_putI (v := x22 + (3 : Int32)) (f := 11) d_MRunner_goes_35 q1 (by decide) rfl (by decide) (k9 194 rfl rfl) rfl rfl (fun _ => rfl) (fun _ => rfl) rfl ?_
  refine hp_gen (fun H23 eH23 => ?_)
  replace hG := bnd_s eH23 hG
  have s_1 : Sa H H23 := by rw [eH23]; exact Sa.rf _
  refine ab_aload_n d_MRunner_goes_38 rfl rfl rfl ?_
  obtain ⟨a24, e25, hF⟩ := rf_s hG; clear hG
  refine hp_getR (f := 0) d_MRunner_goes_39 (by rw [(s_1).1]; exact q1) (by decide) rfl (by decide) (k9 183 rfl rfl) rfl e25 ?_
  obtain ⟨q26, hG⟩ := ck_s hF; clear hF
  rw [(s_1).1] at q26
  obtain ⟨a27, e28, hF⟩ := rf_s hG; clear hG
  refine hp_getRN (f := 3) d_MRunner_goes_42 (by rw [(s_1).1]; exact q26) (by decide) rfl (by decide) (k8 163 rfl rfl) rfl e28 ?_
  refine ab_aload_n d_MRunner_goes_45 rfl rfl rfl ?_
  refine hp_getI (f := 11) d_MRunner_goes_46 (by rw [(s_1).1]; exact q1) (by decide) rfl (by decide) (k9 194 rfl rfl) rfl ?_
  refine ab_topi (fun x29 ex29 => ?_)
  replace hF := bnd_s ex29 hF
  obtain ⟨n30, q31, hG⟩ := ar_s hF; clear hF
  rw [(s_1).1] at q31
  obtain ⟨q32, hF⟩ := ck_s hG; clear hG
  refine hp_iald d_MRunner_goes_49 tI (by rw [(s_1).1]; exact q31) q32 ?_
  refine ab_topi (fun x33 ex33 => ?_)
  replace hF := bnd_s ex33 hF
  refine ab_sipush (v := 220) d_MRunner_goes_50 (by decide) ?_
  refine ab_icmp_ne (tgt := 60) d_MRunner_goes_53 (by decide) (fun q34 => ?_) (fun q34 => ?_)
  · rw [if_neg q34] at hF
    refine ab_iconst (v := 0) d_MRunner_goes_60 (by decide) ?_
    exact kB_MRunner_goes_61 ho hmo hF
  · rw [if_pos q34] at hF
    refine ab_iconst (v := 1) d_MRunner_goes_56 (by decide) ?_
    refine ab_goto (tgt := 61) d_MRunner_goes_57 (by decide) ?_
    exact kB_MRunner_goes_61 ho hmo hF
def y_MRunner_repeats : ab_Y := (⟨"WorldEngineModel$Runner", "repeats", "()V"⟩, prog_15_method_12_code, 3, none, [])
theorem d_MRunner_repeats_0 : decode y_MRunner_repeats.2.1 0 = .ok (.aload_n 0, 1) := by decide +kernel
theorem d_MRunner_repeats_1 : decode y_MRunner_repeats.2.1 1 = .ok (.getfield 108, 3) := by decide +kernel
theorem d_MRunner_repeats_4 : decode y_MRunner_repeats.2.1 4 = .ok (.istore_n 1, 1) := by decide +kernel
theorem d_MRunner_repeats_5 : decode y_MRunner_repeats.2.1 5 = .ok (.iconst 1, 1) := by decide +kernel
theorem d_MRunner_repeats_6 : decode y_MRunner_repeats.2.1 6 = .ok (.istore_n 2, 1) := by decide +kernel
theorem d_MRunner_repeats_7 : decode y_MRunner_repeats.2.1 7 = .ok (.iload_n 2, 1) := by decide +kernel
theorem d_MRunner_repeats_8 : decode y_MRunner_repeats.2.1 8 = .ok (.ifCond .eq 79, 3) := by decide +kernel
theorem d_MRunner_repeats_11 : decode y_MRunner_repeats.2.1 11 = .ok (.aload_n 0, 1) := by decide +kernel
theorem d_MRunner_repeats_12 : decode y_MRunner_repeats.2.1 12 = .ok (.iload_n 1, 1) := by decide +kernel
theorem d_MRunner_repeats_13 : decode y_MRunner_repeats.2.1 13 = .ok (.putfield 108, 3) := by decide +kernel
theorem d_MRunner_repeats_16 : decode y_MRunner_repeats.2.1 16 = .ok (.aload_n 0, 1) := by decide +kernel
theorem d_MRunner_repeats_17 : decode y_MRunner_repeats.2.1 17 = .ok (.invokevirtual 137, 3) := by decide +kernel
theorem d_MRunner_repeats_20 : decode y_MRunner_repeats.2.1 20 = .ok (.ifCond .eq 14, 3) := by decide +kernel
theorem d_MRunner_repeats_23 : decode y_MRunner_repeats.2.1 23 = .ok (.aload_n 0, 1) := by decide +kernel
theorem d_MRunner_repeats_24 : decode y_MRunner_repeats.2.1 24 = .ok (.getfield 96, 3) := by decide +kernel
theorem d_MRunner_repeats_27 : decode y_MRunner_repeats.2.1 27 = .ok (.ifCond .ne 7, 3) := by decide +kernel
theorem d_MRunner_repeats_30 : decode y_MRunner_repeats.2.1 30 = .ok (.iconst 1, 1) := by decide +kernel
theorem d_MRunner_repeats_31 : decode y_MRunner_repeats.2.1 31 = .ok (.goto 4, 3) := by decide +kernel
theorem d_MRunner_repeats_34 : decode y_MRunner_repeats.2.1 34 = .ok (.iconst 0, 1) := by decide +kernel
theorem d_MRunner_repeats_35 : decode y_MRunner_repeats.2.1 35 = .ok (.istore_n 2, 1) := by decide +kernel
theorem d_MRunner_repeats_36 : decode y_MRunner_repeats.2.1 36 = .ok (.aload_n 0, 1) := by decide +kernel
theorem d_MRunner_repeats_37 : decode y_MRunner_repeats.2.1 37 = .ok (.getfield 96, 3) := by decide +kernel
theorem d_MRunner_repeats_40 : decode y_MRunner_repeats.2.1 40 = .ok (.ifCond .le 4, 3) := by decide +kernel
theorem d_MRunner_repeats_43 : decode y_MRunner_repeats.2.1 43 = .ok (.return_, 1) := by decide +kernel
theorem d_MRunner_repeats_44 : decode y_MRunner_repeats.2.1 44 = .ok (.iload_n 2, 1) := by decide +kernel
theorem d_MRunner_repeats_45 : decode y_MRunner_repeats.2.1 45 = .ok (.ifCond .eq 7, 3) := by decide +kernel
theorem d_MRunner_repeats_48 : decode y_MRunner_repeats.2.1 48 = .ok (.aload_n 0, 1) := by decide +kernel
theorem d_MRunner_repeats_49 : decode y_MRunner_repeats.2.1 49 = .ok (.invokevirtual 128, 3) := by decide +kernel
theorem d_MRunner_repeats_52 : decode y_MRunner_repeats.2.1 52 = .ok (.iload_n 2, 1) := by decide +kernel
theorem d_MRunner_repeats_53 : decode y_MRunner_repeats.2.1 53 = .ok (.ifCond .eq 14, 3) := by decide +kernel
theorem d_MRunner_repeats_56 : decode y_MRunner_repeats.2.1 56 = .ok (.aload_n 0, 1) := by decide +kernel
theorem d_MRunner_repeats_57 : decode y_MRunner_repeats.2.1 57 = .ok (.getfield 96, 3) := by decide +kernel
theorem d_MRunner_repeats_60 : decode y_MRunner_repeats.2.1 60 = .ok (.ifCond .ne 7, 3) := by decide +kernel
theorem d_MRunner_repeats_63 : decode y_MRunner_repeats.2.1 63 = .ok (.aload_n 0, 1) := by decide +kernel
theorem d_MRunner_repeats_64 : decode y_MRunner_repeats.2.1 64 = .ok (.invokevirtual 111, 3) := by decide +kernel
theorem d_MRunner_repeats_67 : decode y_MRunner_repeats.2.1 67 = .ok (.iload_n 2, 1) := by decide +kernel
theorem d_MRunner_repeats_68 : decode y_MRunner_repeats.2.1 68 = .ok (.ifCond .eq 14, 3) := by decide +kernel
theorem d_MRunner_repeats_71 : decode y_MRunner_repeats.2.1 71 = .ok (.aload_n 0, 1) := by decide +kernel
theorem d_MRunner_repeats_72 : decode y_MRunner_repeats.2.1 72 = .ok (.getfield 96, 3) := by decide +kernel
theorem d_MRunner_repeats_75 : decode y_MRunner_repeats.2.1 75 = .ok (.ifCond .ne 7, 3) := by decide +kernel
theorem d_MRunner_repeats_78 : decode y_MRunner_repeats.2.1 78 = .ok (.iconst 1, 1) := by decide +kernel
theorem d_MRunner_repeats_79 : decode y_MRunner_repeats.2.1 79 = .ok (.goto 4, 3) := by decide +kernel
theorem d_MRunner_repeats_82 : decode y_MRunner_repeats.2.1 82 = .ok (.iconst 0, 1) := by decide +kernel
theorem d_MRunner_repeats_83 : decode y_MRunner_repeats.2.1 83 = .ok (.istore_n 2, 1) := by decide +kernel
theorem d_MRunner_repeats_84 : decode y_MRunner_repeats.2.1 84 = .ok (.goto (-77), 3) := by decide +kernel
theorem d_MRunner_repeats_87 : decode y_MRunner_repeats.2.1 87 = .ok (.aload_n 0, 1) := by decide +kernel
theorem d_MRunner_repeats_88 : decode y_MRunner_repeats.2.1 88 = .ok (.getfield 96, 3) := by decide +kernel
theorem d_MRunner_repeats_91 : decode y_MRunner_repeats.2.1 91 = .ok (.ifCond .ne 7, 3) := by decide +kernel
theorem d_MRunner_repeats_94 : decode y_MRunner_repeats.2.1 94 = .ok (.aload_n 0, 1) := by decide +kernel
theorem d_MRunner_repeats_95 : decode y_MRunner_repeats.2.1 95 = .ok (.invokevirtual 171, 3) := by decide +kernel
theorem d_MRunner_repeats_98 : decode y_MRunner_repeats.2.1 98 = .ok (.return_, 1) := by decide +kernel
theorem s_MRunner_repeats : ab_Stat y_MRunner_repeats 0 := ⟨(k12 99 rfl rfl), (k1 22 rfl rfl), ⟨by decide, by decide⟩, by decide +kernel⟩
theorem i_MRunner_repeats : Cond.instanceMethod y_MRunner_repeats.1 ∈ ab_T := (k12 98 rfl rfl)
theorem v_MRunner_repeats : Cond.selects "WorldEngineModel$Runner" y_MRunner_repeats.1 y_MRunner_repeats.1 ∈ ab_T := ab_s (List.mem_of_getElem? (i := 196) rfl) rfl
def B_MRunner_repeats_83 (N : Nat) (o : Orc_RunS) (p0 : Nat) (kq7 : Int32 → Int32 → Hp → Option (Unit × Hp)) (l1 : Int32) (w0 : Int32) (H : Hp) : Option (Unit × Hp) :=
    kq7 l1 w0 H
set_option maxRecDepth 20000 in
set_option maxHeartbeats 2000000 in
theorem mB_MRunner_repeats_83 {N : Nat} {o : Orc_RunS} (hmo : mo_RunS o) {p0 : Nat} {kq7 : Int32 → Int32 → Hp → Option (Unit × Hp)} (hm7 : ∀ (l1 : Int32) (l2 : Int32) (H : Hp) (r : Unit × Hp), kq7 l1 l2 H = some r → Sa H r.2) {l1 : Int32} {w0 : Int32} {H : Hp} {r : Unit × Hp} (hF : B_MRunner_repeats_83 N o p0 kq7 l1 w0 H = some r) : Sa H r.2 := by
  unfold B_MRunner_repeats_83 at hF
  have hm := Sa.rf H
  exact hm.tr (hm7 l1 w0 H r hF)
set_option maxRecDepth 20000 in
set_option maxHeartbeats 2000000 in
theorem kB_MRunner_repeats_83 {N : Nat} {o : Orc_RunS} {fr lo : Nat} (ho : ok_RunS o fr lo) (hmo : mo_RunS o) {p0 : Nat} {kq7 : Int32 → Int32 → Hp → Option (Unit × Hp)} (hm7 : ∀ (l1 : Int32) (l2 : Int32) (H : Hp) (r : Unit × Hp), kq7 l1 l2 H = some r → Sa H r.2) (hk7 : ∀ (l1 : Int32) (l2 : Int32) (H : Hp) (r : Unit × Hp), kq7 l1 l2 H = some r → ab_V y_MRunner_repeats { frames := fr + 1, cells := 0, slots := 0, locals := lo + 22 } (po (.returned none) r.2) 0 0 0 0 7 [some (.ref p0), some (.int l1), some (.int l2)] [] (hpw H)) {l1 : Int32} {w0 : Int32} {H : Hp} {r : Unit × Hp} (hF : B_MRunner_repeats_83 N o p0 kq7 l1 w0 H = some r) : ab_V y_MRunner_repeats { frames := fr + 1, cells := 0, slots := 0, locals := lo + 22 } (po (.returned none) r.2) 0 0 0 0 83 [some (.ref p0), some (.int l1), none] [.int w0] (hpw H) := by
  unfold B_MRunner_repeats_83 at hF
  refine ab_istore_n (lv' := [some (.ref p0), some (.int l1), some (.int w0)]) d_MRunner_repeats_83 rfl (by decide) rfl ?_
  refine ab_goto (tgt := 7) d_MRunner_repeats_84 (by decide) ?_
  exact hk7 l1 w0 H r hF
def B_MRunner_repeats_82 (N : Nat) (o : Orc_RunS) (p0 : Nat) (kq7 : Int32 → Int32 → Hp → Option (Unit × Hp)) (l1 : Int32) (H : Hp) : Option (Unit × Hp) :=
    B_MRunner_repeats_83 N o p0 kq7 l1 0 H
set_option maxRecDepth 20000 in
set_option maxHeartbeats 2000000 in
theorem mB_MRunner_repeats_82 {N : Nat} {o : Orc_RunS} (hmo : mo_RunS o) {p0 : Nat} {kq7 : Int32 → Int32 → Hp → Option (Unit × Hp)} (hm7 : ∀ (l1 : Int32) (l2 : Int32) (H : Hp) (r : Unit × Hp), kq7 l1 l2 H = some r → Sa H r.2) {l1 : Int32} {H : Hp} {r : Unit × Hp} (hF : B_MRunner_repeats_82 N o p0 kq7 l1 H = some r) : Sa H r.2 := by
  unfold B_MRunner_repeats_82 at hF
  have hm := Sa.rf H
  exact hm.tr (mB_MRunner_repeats_83 hmo hm7 hF)
set_option maxRecDepth 20000 in
set_option maxHeartbeats 2000000 in
theorem kB_MRunner_repeats_82 {N : Nat} {o : Orc_RunS} {fr lo : Nat} (ho : ok_RunS o fr lo) (hmo : mo_RunS o) {p0 : Nat} {kq7 : Int32 → Int32 → Hp → Option (Unit × Hp)} (hm7 : ∀ (l1 : Int32) (l2 : Int32) (H : Hp) (r : Unit × Hp), kq7 l1 l2 H = some r → Sa H r.2) (hk7 : ∀ (l1 : Int32) (l2 : Int32) (H : Hp) (r : Unit × Hp), kq7 l1 l2 H = some r → ab_V y_MRunner_repeats { frames := fr + 1, cells := 0, slots := 0, locals := lo + 22 } (po (.returned none) r.2) 0 0 0 0 7 [some (.ref p0), some (.int l1), some (.int l2)] [] (hpw H)) {l1 : Int32} {H : Hp} {r : Unit × Hp} (hF : B_MRunner_repeats_82 N o p0 kq7 l1 H = some r) : ab_V y_MRunner_repeats { frames := fr + 1, cells := 0, slots := 0, locals := lo + 22 } (po (.returned none) r.2) 0 0 0 0 82 [some (.ref p0), some (.int l1), none] [] (hpw H) := by
  unfold B_MRunner_repeats_82 at hF
  refine ab_iconst (v := 0) d_MRunner_repeats_82 (by decide) ?_
  exact kB_MRunner_repeats_83 ho hmo hm7 hk7 hF
def B_MRunner_repeats_67 (N : Nat) (o : Orc_RunS) (p0 : Nat) (kq7 : Int32 → Int32 → Hp → Option (Unit × Hp)) (l1 : Int32) (l2 : Int32) (H : Hp) : Option (Unit × Hp) :=
    if l2 = (0 : Int32) then
    B_MRunner_repeats_82 N o p0 kq7 l1 H
    else
    ck (H.sh[p0]? = some (15, 0)) <|
    bnd ((H.D p0 10)) fun x23 =>
    if x23 = (0 : Int32) then
    B_MRunner_repeats_83 N o p0 kq7 l1 1 H
    else
    B_MRunner_repeats_82 N o p0 kq7 l1 H
set_option maxRecDepth 20000 in
set_option maxHeartbeats 2000000 in
theorem mB_MRunner_repeats_67 {N : Nat} {o : Orc_RunS} (hmo : mo_RunS o) {p0 : Nat} {kq7 : Int32 → Int32 → Hp → Option (Unit × Hp)} (hm7 : ∀ (l1 : Int32) (l2 : Int32) (H : Hp) (r : Unit × Hp), kq7 l1 l2 H = some r → Sa H r.2) {l1 : Int32} {l2 : Int32} {H : Hp} {r : Unit × Hp} (hF : B_MRunner_repeats_67 N o p0 kq7 l1 l2 H = some r) : Sa H r.2 := by
  unfold B_MRunner_repeats_67 at hF
  have hm := Sa.rf H
  rcases ite_s hF with ⟨q_4, hG⟩ | ⟨q_4, hG⟩
  · clear hF
    exact hm.tr (mB_MRunner_repeats_82 hmo hm7 hG)
  · clear hF
    obtain ⟨q26, hF⟩ := ck_s hG; clear hG
    obtain ⟨x27, -, hG⟩ := bnd_g hF; clear hF
    rcases ite_s hG with ⟨q_5, hF⟩ | ⟨q_5, hF⟩
    · clear hG
      exact hm.tr (mB_MRunner_repeats_83 hmo hm7 hF)
    · clear hG
      exact hm.tr (mB_MRunner_repeats_82 hmo hm7 hF)
set_option maxRecDepth 20000 in
set_option maxHeartbeats 2000000 in
theorem kB_MRunner_repeats_67 {N : Nat} {o : Orc_RunS} {fr lo : Nat} (ho : ok_RunS o fr lo) (hmo : mo_RunS o) {p0 : Nat} {kq7 : Int32 → Int32 → Hp → Option (Unit × Hp)} (hm7 : ∀ (l1 : Int32) (l2 : Int32) (H : Hp) (r : Unit × Hp), kq7 l1 l2 H = some r → Sa H r.2) (hk7 : ∀ (l1 : Int32) (l2 : Int32) (H : Hp) (r : Unit × Hp), kq7 l1 l2 H = some r → ab_V y_MRunner_repeats { frames := fr + 1, cells := 0, slots := 0, locals := lo + 22 } (po (.returned none) r.2) 0 0 0 0 7 [some (.ref p0), some (.int l1), some (.int l2)] [] (hpw H)) {l1 : Int32} {l2 : Int32} {H : Hp} {r : Unit × Hp} (hF : B_MRunner_repeats_67 N o p0 kq7 l1 l2 H = some r) : ab_V y_MRunner_repeats { frames := fr + 1, cells := 0, slots := 0, locals := lo + 22 } (po (.returned none) r.2) 0 0 0 0 67 [some (.ref p0), some (.int l1), some (.int l2)] [] (hpw H) := by
  unfold B_MRunner_repeats_67 at hF
  refine ab_iload_n d_MRunner_repeats_67 rfl rfl ?_
  refine ab_if_eq (tgt := 82) d_MRunner_repeats_68 (by decide) (fun q21 => ?_) (fun q21 => ?_)
  · rw [if_pos q21] at hF
    refine ab_le (lv' := [some (.ref p0), some (.int l1), none]) ⟨rfl, ⟨rfl, trivial⟩⟩ ?_
    exact kB_MRunner_repeats_82 ho hmo hm7 hk7 hF
  · rw [if_neg q21] at hF
    refine ab_aload_n d_MRunner_repeats_71 rfl rfl rfl ?_
    obtain ⟨q22, hG⟩ := ck_s hF; clear hF
    refine hp_getI (f := 10) d_MRunner_repeats_72 q22 (by decide) rfl (by decide) (k9 193 rfl rfl) rfl ?_
    refine ab_topi (fun x23 ex23 => ?_)
    replace hG := bnd_s ex23 hG
    refine ab_if_ne (tgt := 82) d_MRunner_repeats_75 (by decide) (fun q24 => ?_) (fun q24 => ?_)
    · rw [if_neg q24] at hG
      refine ab_le (lv' := [some (.ref p0), some (.int l1), none]) ⟨rfl, ⟨rfl, trivial⟩⟩ ?_
      exact kB_MRunner_repeats_82 ho hmo hm7 hk7 hG
    · rw [if_pos q24] at hG
      refine ab_iconst (v := 1) d_MRunner_repeats_78 (by decide) ?_
      refine ab_goto (tgt := 83) d_MRunner_repeats_79 (by decide) ?_
      refine ab_le (lv' := [some (.ref p0), some (.int l1), none]) ⟨rfl, ⟨rfl, trivial⟩⟩ ?_
      exact kB_MRunner_repeats_83 ho hmo hm7 hk7 hG
def B_MRunner_repeats_52 (N : Nat) (o : Orc_RunS) (p0 : Nat) (kq7 : Int32 → Int32 → Hp → Option (Unit × Hp)) (l1 : Int32) (l2 : Int32) (H : Hp) : Option (Unit × Hp) :=
    if l2 = (0 : Int32) then
    B_MRunner_repeats_67 N o p0 kq7 l1 l2 H
    else
    ck (H.sh[p0]? = some (15, 0)) <|
    bnd ((H.D p0 10)) fun x30 =>
    if x30 = (0 : Int32) then
    bC (o p0 H) fun v33 H34 =>
    B_MRunner_repeats_67 N o p0 kq7 l1 l2 H34
    else
    B_MRunner_repeats_67 N o p0 kq7 l1 l2 H
set_option maxRecDepth 20000 in
set_option maxHeartbeats 2000000 in
theorem mB_MRunner_repeats_52 {N : Nat} {o : Orc_RunS} (hmo : mo_RunS o) {p0 : Nat} {kq7 : Int32 → Int32 → Hp → Option (Unit × Hp)} (hm7 : ∀ (l1 : Int32) (l2 : Int32) (H : Hp) (r : Unit × Hp), kq7 l1 l2 H = some r → Sa H r.2) {l1 : Int32} {l2 : Int32} {H : Hp} {r : Unit × Hp} (hF : B_MRunner_repeats_52 N o p0 kq7 l1 l2 H = some r) : Sa H r.2 := by
  unfold B_MRunner_repeats_52 at hF
  have hm := Sa.rf H
  rcases ite_s hF with ⟨q_7, hG⟩ | ⟨q_7, hG⟩
  · clear hF
    exact hm.tr (mB_MRunner_repeats_67 hmo hm7 hG)
  · clear hF
    obtain ⟨q36, hF⟩ := ck_s hG; clear hG
    obtain ⟨x37, -, hG⟩ := bnd_g hF; clear hF
    rcases ite_s hG with ⟨q_8, hF⟩ | ⟨q_8, hF⟩
    · clear hG
      obtain ⟨v40, H41, z39, hG⟩ := bC_s hF; clear hF
      replace hm : Sa H H41 := hm.tr (hmo _ _ _ z39)
      exact hm.tr (mB_MRunner_repeats_67 hmo hm7 hG)
    · clear hG
      exact hm.tr (mB_MRunner_repeats_67 hmo hm7 hF)
set_option maxRecDepth 20000 in
set_option maxHeartbeats 2000000 in
theorem kB_MRunner_repeats_52 {N : Nat} {o : Orc_RunS} {fr lo : Nat} (ho : ok_RunS o fr lo) (hmo : mo_RunS o) {p0 : Nat} {kq7 : Int32 → Int32 → Hp → Option (Unit × Hp)} (hm7 : ∀ (l1 : Int32) (l2 : Int32) (H : Hp) (r : Unit × Hp), kq7 l1 l2 H = some r → Sa H r.2) (hk7 : ∀ (l1 : Int32) (l2 : Int32) (H : Hp) (r : Unit × Hp), kq7 l1 l2 H = some r → ab_V y_MRunner_repeats { frames := fr + 1, cells := 0, slots := 0, locals := lo + 22 } (po (.returned none) r.2) 0 0 0 0 7 [some (.ref p0), some (.int l1), some (.int l2)] [] (hpw H)) {l1 : Int32} {l2 : Int32} {H : Hp} {r : Unit × Hp} (hF : B_MRunner_repeats_52 N o p0 kq7 l1 l2 H = some r) : ab_V y_MRunner_repeats { frames := fr + 1, cells := 0, slots := 0, locals := lo + 22 } (po (.returned none) r.2) 0 0 0 0 52 [some (.ref p0), some (.int l1), some (.int l2)] [] (hpw H) := by
  unfold B_MRunner_repeats_52 at hF
  refine ab_iload_n d_MRunner_repeats_52 rfl rfl ?_
  refine ab_if_eq (tgt := 67) d_MRunner_repeats_53 (by decide) (fun q20 => ?_) (fun q20 => ?_)
  · rw [if_pos q20] at hF
    exact kB_MRunner_repeats_67 ho hmo hm7 hk7 hF
  · rw [if_neg q20] at hF
    refine ab_aload_n d_MRunner_repeats_56 rfl rfl rfl ?_
    obtain ⟨q29, hG⟩ := ck_s hF; clear hF
    refine hp_getI (f := 10) d_MRunner_repeats_57 q29 (by decide) rfl (by decide) (k9 193 rfl rfl) rfl ?_
    refine ab_topi (fun x30 ex30 => ?_)
    replace hG := bnd_s ex30 hG
    refine ab_if_ne (tgt := 67) d_MRunner_repeats_60 (by decide) (fun q31 => ?_) (fun q31 => ?_)
    · rw [if_neg q31] at hG
      exact kB_MRunner_repeats_67 ho hmo hm7 hk7 hG
    · rw [if_pos q31] at hG
      refine ab_aload_n d_MRunner_repeats_63 rfl rfl rfl ?_
      obtain ⟨v33, H34, z32, hF⟩ := bC_s hG; clear hG
      refine hp_callV_v (H1 := H34) (As := []) (rest := []) d_MRunner_repeats_64 (ho.2.2 _ _ _ z32) (ab_mkC s_MRunner_block (show fr + 1 ≤ fr + 1 from by have := ho.1; omega) (show 8 + (2 + 11) + lo ≤ lo + 22 from by have := ho.2.1; omega) (Nat.le_refl 0) (Nat.le_refl 0)) (k11 230 rfl rfl) i_MRunner_block v_MRunner_block q29 (by decide) rfl rfl (Nat.le_of_ble_eq_true rfl) ?_
      have s_6 : Sa H H34 := (hmo _ _ _ z32)
      exact kB_MRunner_repeats_67 ho hmo hm7 hk7 hF
def B_MRunner_repeats_35 (N : Nat) (o : Orc_RunS) (p0 : Nat) (kq7 : Int32 → Int32 → Hp → Option (Unit × Hp)) (l1 : Int32) (w0 : Int32) (H : Hp) : Option (Unit × Hp) :=
    ck (H.sh[p0]? = some (15, 0)) <|
    bnd ((H.D p0 10)) fun x17 =>
    if x17 ≤ (0 : Int32) then
    if w0 = (0 : Int32) then
    B_MRunner_repeats_52 N o p0 kq7 l1 w0 H
    else
    bC (F_MRunner_counts N p0 H) fun v43 H44 =>
    B_MRunner_repeats_52 N o p0 kq7 l1 w0 H44
    else
    some ((), H)
set_option maxRecDepth 20000 in
set_option maxHeartbeats 2000000 in
theorem mB_MRunner_repeats_35 {N : Nat} {o : Orc_RunS} (hmo : mo_RunS o) {p0 : Nat} {kq7 : Int32 → Int32 → Hp → Option (Unit × Hp)} (hm7 : ∀ (l1 : Int32) (l2 : Int32) (H : Hp) (r : Unit × Hp), kq7 l1 l2 H = some r → Sa H r.2) {l1 : Int32} {w0 : Int32} {H : Hp} {r : Unit × Hp} (hF : B_MRunner_repeats_35 N o p0 kq7 l1 w0 H = some r) : Sa H r.2 := by
  unfold B_MRunner_repeats_35 at hF
  have hm := Sa.rf H
  obtain ⟨q45, hG⟩ := ck_s hF; clear hF
  obtain ⟨x46, -, hF⟩ := bnd_g hG; clear hG
  rcases ite_s hF with ⟨q_11, hG⟩ | ⟨q_11, hG⟩
  · clear hF
    rcases ite_s hG with ⟨q_12, hF⟩ | ⟨q_12, hF⟩
    · clear hG
      exact hm.tr (mB_MRunner_repeats_52 hmo hm7 hF)
    · clear hG
      obtain ⟨v50, H51, z49, hG⟩ := bC_s hF; clear hF
      replace hm : Sa H H51 := hm.tr (m_MRunner_counts z49)
      exact hm.tr (mB_MRunner_repeats_52 hmo hm7 hG)
  · clear hF
    have hr := Option.some.inj hG; subst hr
    exact hm
set_option maxRecDepth 20000 in
set_option maxHeartbeats 2000000 in
theorem kB_MRunner_repeats_35 {N : Nat} {o : Orc_RunS} {fr lo : Nat} (ho : ok_RunS o fr lo) (hmo : mo_RunS o) {p0 : Nat} {kq7 : Int32 → Int32 → Hp → Option (Unit × Hp)} (hm7 : ∀ (l1 : Int32) (l2 : Int32) (H : Hp) (r : Unit × Hp), kq7 l1 l2 H = some r → Sa H r.2) (hk7 : ∀ (l1 : Int32) (l2 : Int32) (H : Hp) (r : Unit × Hp), kq7 l1 l2 H = some r → ab_V y_MRunner_repeats { frames := fr + 1, cells := 0, slots := 0, locals := lo + 22 } (po (.returned none) r.2) 0 0 0 0 7 [some (.ref p0), some (.int l1), some (.int l2)] [] (hpw H)) {l1 : Int32} {w0 : Int32} {H : Hp} {r : Unit × Hp} (hF : B_MRunner_repeats_35 N o p0 kq7 l1 w0 H = some r) : ab_V y_MRunner_repeats { frames := fr + 1, cells := 0, slots := 0, locals := lo + 22 } (po (.returned none) r.2) 0 0 0 0 35 [some (.ref p0), some (.int l1), none] [.int w0] (hpw H) := by
  unfold B_MRunner_repeats_35 at hF
  refine ab_istore_n (lv' := [some (.ref p0), some (.int l1), some (.int w0)]) d_MRunner_repeats_35 rfl (by decide) rfl ?_
  refine ab_aload_n d_MRunner_repeats_36 rfl rfl rfl ?_
  obtain ⟨q16, hG⟩ := ck_s hF; clear hF
  refine hp_getI (f := 10) d_MRunner_repeats_37 q16 (by decide) rfl (by decide) (k9 193 rfl rfl) rfl ?_
  refine ab_topi (fun x17 ex17 => ?_)
  replace hG := bnd_s ex17 hG
  refine ab_if_le (tgt := 44) d_MRunner_repeats_40 (by decide) (fun q18 => ?_) (fun q18 => ?_)
  · rw [if_pos q18] at hG
    refine ab_iload_n d_MRunner_repeats_44 rfl rfl ?_
    refine ab_if_eq (tgt := 52) d_MRunner_repeats_45 (by decide) (fun q19 => ?_) (fun q19 => ?_)
    · rw [if_pos q19] at hG
      exact kB_MRunner_repeats_52 ho hmo hm7 hk7 hG
    · rw [if_neg q19] at hG
      refine ab_aload_n d_MRunner_repeats_48 rfl rfl rfl ?_
      obtain ⟨v43, H44, z42, hF⟩ := bC_s hG; clear hG
      refine hp_callV_v (H1 := H44) (As := []) (rest := []) d_MRunner_repeats_49 (k_MRunner_counts z42) (ab_mkC s_MRunner_counts (show 1 + 1 ≤ fr + 1 from by have := ho.1; omega) (show 8 + (1 + 11) + 21 ≤ lo + 22 from by have := ho.2.1; omega) (Nat.le_refl 0) (Nat.le_refl 0)) (k11 238 rfl rfl) i_MRunner_counts v_MRunner_counts q16 (by decide) rfl rfl (Nat.le_of_ble_eq_true rfl) ?_
      have s_10 : Sa H H44 := (m_MRunner_counts z42)
      exact kB_MRunner_repeats_52 ho hmo hm7 hk7 hF
  · rw [if_neg q18] at hG
    exact ab_vret d_MRunner_repeats_43 rfl (Nat.le_refl _) (Nat.le_refl _) (by have hr := Option.some.inj hG; subst hr; exact ⟨rfl, rfl⟩)
def B_MRunner_repeats_34 (N : Nat) (o : Orc_RunS) (p0 : Nat) (kq7 : Int32 → Int32 → Hp → Option (Unit × Hp)) (l1 : Int32) (H : Hp) : Option (Unit × Hp) :=
    B_MRunner_repeats_35 N o p0 kq7 l1 0 H
set_option maxRecDepth 20000 in
set_option maxHeartbeats 2000000 in
theorem mB_MRunner_repeats_34 {N : Nat} {o : Orc_RunS} (hmo : mo_RunS o) {p0 : Nat} {kq7 : Int32 → Int32 → Hp → Option (Unit × Hp)} (hm7 : ∀ (l1 : Int32) (l2 : Int32) (H : Hp) (r : Unit × Hp), kq7 l1 l2 H = some r → Sa H r.2) {l1 : Int32} {H : Hp} {r : Unit × Hp} (hF : B_MRunner_repeats_34 N o p0 kq7 l1 H = some r) : Sa H r.2 := by
  unfold B_MRunner_repeats_34 at hF
  have hm := Sa.rf H
  exact hm.tr (mB_MRunner_repeats_35 hmo hm7 hF)
set_option maxRecDepth 20000 in
set_option maxHeartbeats 2000000 in
theorem kB_MRunner_repeats_34 {N : Nat} {o : Orc_RunS} {fr lo : Nat} (ho : ok_RunS o fr lo) (hmo : mo_RunS o) {p0 : Nat} {kq7 : Int32 → Int32 → Hp → Option (Unit × Hp)} (hm7 : ∀ (l1 : Int32) (l2 : Int32) (H : Hp) (r : Unit × Hp), kq7 l1 l2 H = some r → Sa H r.2) (hk7 : ∀ (l1 : Int32) (l2 : Int32) (H : Hp) (r : Unit × Hp), kq7 l1 l2 H = some r → ab_V y_MRunner_repeats { frames := fr + 1, cells := 0, slots := 0, locals := lo + 22 } (po (.returned none) r.2) 0 0 0 0 7 [some (.ref p0), some (.int l1), some (.int l2)] [] (hpw H)) {l1 : Int32} {H : Hp} {r : Unit × Hp} (hF : B_MRunner_repeats_34 N o p0 kq7 l1 H = some r) : ab_V y_MRunner_repeats { frames := fr + 1, cells := 0, slots := 0, locals := lo + 22 } (po (.returned none) r.2) 0 0 0 0 34 [some (.ref p0), some (.int l1), none] [] (hpw H) := by
  unfold B_MRunner_repeats_34 at hF
  refine ab_iconst (v := 0) d_MRunner_repeats_34 (by decide) ?_
  exact kB_MRunner_repeats_35 ho hmo hm7 hk7 hF
def B_MRunner_repeats_7 (N : Nat) (o : Orc_RunS) (p0 : Nat) : Nat → Int32 → Int32 → Hp → Option (Unit × Hp)
  | 0, _, _, _ => none
  | n + 1, l1, l2, H =>
    if l2 = (0 : Int32) then
    ck (H.sh[p0]? = some (15, 0)) <|
    bnd ((H.D p0 10)) fun x5 =>
    if x5 = (0 : Int32) then
    bC (F_MRunner_skips N p0 H) fun v8 H9 =>
    some ((), H9)
    else
    some ((), H)
    else
    ck (H.sh[p0]? = some (15, 0)) <|
    bnd (H.sD p0 11 l1) fun H11 =>
    bC ((X_RunE N 50).1 p0 H11) fun v13 H14 =>
    if v13 = (0 : Int32) then
    B_MRunner_repeats_34 N o p0 (fun l1 l2 H => B_MRunner_repeats_7 N o p0 n l1 l2 H) l1 H14
    else
    bnd ((H14.D p0 10)) fun x52 =>
    if x52 = (0 : Int32) then
    B_MRunner_repeats_35 N o p0 (fun l1 l2 H => B_MRunner_repeats_7 N o p0 n l1 l2 H) l1 1 H14
    else
    B_MRunner_repeats_34 N o p0 (fun l1 l2 H => B_MRunner_repeats_7 N o p0 n l1 l2 H) l1 H14
termination_by structural n => n
set_option maxRecDepth 20000 in
set_option maxHeartbeats 2000000 in
theorem mB_MRunner_repeats_7 {N : Nat} {o : Orc_RunS} (hmo : mo_RunS o) {p0 : Nat} : ∀ (n : Nat) (l1 : Int32) (l2 : Int32) (H : Hp) (r : Unit × Hp), B_MRunner_repeats_7 N o p0 n l1 l2 H = some r → Sa H r.2 := by
  intro n
  induction n with
  | zero => intro l1 l2 H r hF; rw [B_MRunner_repeats_7] at hF; cases hF
  | succ n ih =>
    intro l1 l2 H r hF
    rw [B_MRunner_repeats_7] at hF
    have hm := Sa.rf H
    rcases ite_s hF with ⟨q_14, hG⟩ | ⟨q_14, hG⟩
    · clear hF
      obtain ⟨q55, hF⟩ := ck_s hG; clear hG
      obtain ⟨x56, -, hG⟩ := bnd_g hF; clear hF
      rcases ite_s hG with ⟨q_15, hF⟩ | ⟨q_15, hF⟩
      · clear hG
        obtain ⟨v59, H60, z58, hG⟩ := bC_s hF; clear hF
        replace hm : Sa H H60 := hm.tr (m_MRunner_skips z58)
        have hr := Option.some.inj hG; subst hr
        exact hm
      · clear hG
        have hr := Option.some.inj hF; subst hr
        exact hm
    · clear hF
      obtain ⟨q61, hF⟩ := ck_s hG; clear hG
      obtain ⟨H62, eH62, hG⟩ := bnd_g hF; clear hF
      replace hm : Sa H H62 := by rw [eH62]; exact hm
      obtain ⟨v64, H65, z63, hF⟩ := bC_s hG; clear hG
      replace hm : Sa H H65 := hm.tr ((moX_RunE 50).1 _ _ _ z63)
      rcases ite_s hF with ⟨q_19, hG⟩ | ⟨q_19, hG⟩
      · clear hF
        exact hm.tr (mB_MRunner_repeats_34 hmo ih hG)
      · clear hF
        obtain ⟨x67, -, hF⟩ := bnd_g hG; clear hG
        rcases ite_s hF with ⟨q_20, hG⟩ | ⟨q_20, hG⟩
        · clear hF
          exact hm.tr (mB_MRunner_repeats_35 hmo ih hG)
        · clear hF
          exact hm.tr (mB_MRunner_repeats_34 hmo ih hG)
set_option maxRecDepth 20000 in
set_option maxHeartbeats 2000000 in
theorem kB_MRunner_repeats_7 {N : Nat} {o : Orc_RunS} {fr lo : Nat} (ho : ok_RunS o fr lo) (hmo : mo_RunS o) {p0 : Nat} : ∀ (n : Nat) (l1 : Int32) (l2 : Int32) (H : Hp) (r : Unit × Hp), B_MRunner_repeats_7 N o p0 n l1 l2 H = some r → ab_V y_MRunner_repeats { frames := fr + 1, cells := 0, slots := 0, locals := lo + 22 } (po (.returned none) r.2) 0 0 0 0 7 [some (.ref p0), some (.int l1), some (.int l2)] [] (hpw H) := by
  intro n
  induction n with
  | zero => intro l1 l2 H r hF; rw [B_MRunner_repeats_7] at hF; cases hF
  | succ n ih =>
    intro l1 l2 H r hF
    rw [B_MRunner_repeats_7] at hF
    refine ab_iload_n d_MRunner_repeats_7 rfl rfl ?_
    refine ab_if_eq (tgt := 87) d_MRunner_repeats_8 (by decide) (fun q3 => ?_) (fun q3 => ?_)
    · rw [if_pos q3] at hF
      refine ab_aload_n d_MRunner_repeats_87 rfl rfl rfl ?_
      obtain ⟨q4, hG⟩ := ck_s hF; clear hF
      refine hp_getI (f := 10) d_MRunner_repeats_88 q4 (by decide) rfl (by decide) (k9 193 rfl rfl) rfl ?_
      refine ab_topi (fun x5 ex5 => ?_)
      replace hG := bnd_s ex5 hG
      refine ab_if_ne (tgt := 98) d_MRunner_repeats_91 (by decide) (fun q6 => ?_) (fun q6 => ?_)
      · rw [if_neg q6] at hG
        exact ab_vret d_MRunner_repeats_98 rfl (Nat.le_refl _) (Nat.le_refl _) (by have hr := Option.some.inj hG; subst hr; exact ⟨rfl, rfl⟩)
      · rw [if_pos q6] at hG
        refine ab_aload_n d_MRunner_repeats_94 rfl rfl rfl ?_
        obtain ⟨v8, H9, z7, hF⟩ := bC_s hG; clear hG
        refine hp_callV_v (H1 := H9) (As := []) (rest := []) d_MRunner_repeats_95 (k_MRunner_skips z7) (ab_mkC s_MRunner_skips (show 0 + 1 ≤ fr + 1 from by have := ho.1; omega) (show 8 + (1 + 11) + 0 ≤ lo + 22 from by have := ho.2.1; omega) (Nat.le_refl 0) (Nat.le_refl 0)) (k12 92 rfl rfl) i_MRunner_skips v_MRunner_skips q4 (by decide) rfl rfl (Nat.le_of_ble_eq_true rfl) ?_
        have s_1 : Sa H H9 := (m_MRunner_skips z7)
        exact ab_vret d_MRunner_repeats_98 rfl (Nat.le_refl _) (Nat.le_refl _) (by have hr := Option.some.inj hF; subst hr; exact ⟨rfl, rfl⟩)
    · rw [if_neg q3] at hF
      refine ab_aload_n d_MRunner_repeats_11 rfl rfl rfl ?_
      refine ab_iload_n d_MRunner_repeats_12 rfl rfl ?_
      obtain ⟨q10, hG⟩ := ck_s hF; clear hF
      refine hp_putI (v := l1) (f := 11) d_MRunner_repeats_13 q10 (by decide) rfl (by decide) (k9 194 rfl rfl) rfl rfl (fun _ => rfl) (fun _ => rfl) rfl ?_
      refine hp_gen (fun H11 eH11 => ?_)
      replace hG := bnd_s eH11 hG
      have s_2 : Sa H H11 := by rw [eH11]; exact Sa.rf _
      refine ab_aload_n d_MRunner_repeats_16 rfl rfl rfl ?_
      obtain ⟨v13, H14, z12, hF⟩ := bC_s hG; clear hG
      refine hp_callV_a (v := .int v13) (H1 := H14) (As := []) (rest := []) d_MRunner_repeats_17 ((okX_RunE 50).2.2.1 _ _ _ z12) (ab_mkC s_MRunner_value (show (3 + 5 * 50) + 1 ≤ fr + 1 from by have := ho.1; omega) (show 8 + (3 + 11) + (65 + 123 * 50) ≤ lo + 22 from by have := ho.2.1; omega) (Nat.le_refl 0) (Nat.le_refl 0)) (k12 10 rfl rfl) i_MRunner_value v_MRunner_value (by rw [(s_2).1]; exact q10) (by decide) rfl rfl (Nat.le_of_ble_eq_true rfl) ?_
      have s_3 : Sa H H14 := (s_2).tr ((moX_RunE 50).1 _ _ _ z12)
      refine ab_if_eq (tgt := 34) d_MRunner_repeats_20 (by decide) (fun q15 => ?_) (fun q15 => ?_)
      · rw [if_pos q15] at hF
        refine ab_le (lv' := [some (.ref p0), some (.int l1), none]) ⟨rfl, ⟨rfl, trivial⟩⟩ ?_
        exact kB_MRunner_repeats_34 ho hmo (mB_MRunner_repeats_7 hmo n) ih hF
      · rw [if_neg q15] at hF
        refine ab_aload_n d_MRunner_repeats_23 rfl rfl rfl ?_
        refine hp_getI (f := 10) d_MRunner_repeats_24 (by rw [(s_3).1]; exact q10) (by decide) rfl (by decide) (k9 193 rfl rfl) rfl ?_
        refine ab_topi (fun x52 ex52 => ?_)
        replace hF := bnd_s ex52 hF
        refine ab_if_ne (tgt := 34) d_MRunner_repeats_27 (by decide) (fun q53 => ?_) (fun q53 => ?_)
        · rw [if_neg q53] at hF
          refine ab_le (lv' := [some (.ref p0), some (.int l1), none]) ⟨rfl, ⟨rfl, trivial⟩⟩ ?_
          exact kB_MRunner_repeats_34 ho hmo (mB_MRunner_repeats_7 hmo n) ih hF
        · rw [if_pos q53] at hF
          refine ab_iconst (v := 1) d_MRunner_repeats_30 (by decide) ?_
          refine ab_goto (tgt := 35) d_MRunner_repeats_31 (by decide) ?_
          refine ab_le (lv' := [some (.ref p0), some (.int l1), none]) ⟨rfl, ⟨rfl, trivial⟩⟩ ?_
          exact kB_MRunner_repeats_35 ho hmo (mB_MRunner_repeats_7 hmo n) ih hF
def F_MRunner_repeats (N : Nat) (o : Orc_RunS) (p0 : Nat) (H : Hp) : Option (Unit × Hp) :=
    ck (H.sh[p0]? = some (15, 0)) <|
    bnd ((H.D p0 11)) fun x2 =>
    B_MRunner_repeats_7 N o p0 N x2 1 H
set_option maxRecDepth 20000 in
set_option maxHeartbeats 2000000 in
theorem m_MRunner_repeats {N : Nat} {o : Orc_RunS} (hmo : mo_RunS o) {p0 : Nat} {H : Hp} {r : Unit × Hp} (hF : F_MRunner_repeats N o p0 H = some r) : Sa H r.2 := by
  unfold F_MRunner_repeats at hF
  have hm := Sa.rf H
  obtain ⟨q69, hG⟩ := ck_s hF; clear hF
  obtain ⟨x70, -, hF⟩ := bnd_g hG; clear hG
  exact hm.tr (mB_MRunner_repeats_7 hmo N x70 1 H r hF)
set_option maxRecDepth 20000 in
set_option maxHeartbeats 2000000 in
theorem k_MRunner_repeats {N : Nat} {o : Orc_RunS} {fr lo : Nat} (ho : ok_RunS o fr lo) (hmo : mo_RunS o) {p0 : Nat} {H : Hp} {r : Unit × Hp} (hF : F_MRunner_repeats N o p0 H = some r) : ab_M y_MRunner_repeats { frames := fr + 1, cells := 0, slots := 0, locals := lo + 22 } [.ref p0] (hpw H) (po (.returned none) r.2) := by
  unfold F_MRunner_repeats at hF
  refine ab_of2 (lv := [some (.ref p0), none, none]) 2 rfl rfl (Nat.le_of_ble_eq_true rfl) ?_
  refine ab_aload_n d_MRunner_repeats_0 rfl rfl rfl ?_
  obtain ⟨q1, hG⟩ := ck_s hF; clear hF
  refine hp_getI (f := 11) d_MRunner_repeats_1 q1 (by decide) rfl (by decide) (k9 194 rfl rfl) rfl ?_
  refine ab_topi (fun x2 ex2 => ?_)
  replace hG := bnd_s ex2 hG
  refine ab_istore_n (lv' := [some (.ref p0), some (.int x2), none]) d_MRunner_repeats_4 rfl (by decide) rfl ?_
  refine ab_iconst (v := 1) d_MRunner_repeats_5 (by decide) ?_
  refine ab_istore_n (lv' := [some (.ref p0), some (.int x2), some (.int 1)]) d_MRunner_repeats_6 rfl (by decide) rfl ?_
  exact kB_MRunner_repeats_7 ho hmo N x2 1 H r hG
