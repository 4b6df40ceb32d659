def y_MText_system : ab_Y := (⟨"WorldEngineModel$Text", "system", "()V"⟩, prog_16_method_40_code, 4, none, [])
theorem d_MText_system_0 : decode y_MText_system.2.1 0 = .ok (.aload_n 0, 1) := by decide +kernel
theorem d_MText_system_1 : decode y_MText_system.2.1 1 = .ok (.aload_n 0, 1) := by decide +kernel
theorem d_MText_system_2 : decode y_MText_system.2.1 2 = .ok (.getfield 182, 3) := by decide +kernel
theorem d_MText_system_5 : decode y_MText_system.2.1 5 = .ok (.bipush 16, 2) := by decide +kernel
theorem d_MText_system_7 : decode y_MText_system.2.1 7 = .ok (.invokevirtual 246, 3) := by decide +kernel
theorem d_MText_system_10 : decode y_MText_system.2.1 10 = .ok (.aload_n 0, 1) := by decide +kernel
theorem d_MText_system_11 : decode y_MText_system.2.1 11 = .ok (.getfield 182, 3) := by decide +kernel
theorem d_MText_system_14 : decode y_MText_system.2.1 14 = .ok (.istore_n 1, 1) := by decide +kernel
theorem d_MText_system_15 : decode y_MText_system.2.1 15 = .ok (.aload_n 0, 1) := by decide +kernel
theorem d_MText_system_16 : decode y_MText_system.2.1 16 = .ok (.iconst 5, 1) := by decide +kernel
theorem d_MText_system_17 : decode y_MText_system.2.1 17 = .ok (.iload_n 1, 1) := by decide +kernel
theorem d_MText_system_18 : decode y_MText_system.2.1 18 = .ok (.invokevirtual 249, 3) := by decide +kernel
theorem d_MText_system_21 : decode y_MText_system.2.1 21 = .ok (.istore_n 2, 1) := by decide +kernel
theorem d_MText_system_22 : decode y_MText_system.2.1 22 = .ok (.aload_n 0, 1) := by decide +kernel
theorem d_MText_system_23 : decode y_MText_system.2.1 23 = .ok (.getfield 185, 3) := by decide +kernel
theorem d_MText_system_26 : decode y_MText_system.2.1 26 = .ok (.ifCond .le 4, 3) := by decide +kernel
theorem d_MText_system_29 : decode y_MText_system.2.1 29 = .ok (.return_, 1) := by decide +kernel
theorem d_MText_system_30 : decode y_MText_system.2.1 30 = .ok (.aload_n 0, 1) := by decide +kernel
theorem d_MText_system_31 : decode y_MText_system.2.1 31 = .ok (.dup, 1) := by decide +kernel
theorem d_MText_system_32 : decode y_MText_system.2.1 32 = .ok (.getfield 182, 3) := by decide +kernel
theorem d_MText_system_35 : decode y_MText_system.2.1 35 = .ok (.iconst 1, 1) := by decide +kernel
theorem d_MText_system_36 : decode y_MText_system.2.1 36 = .ok (.iadd, 1) := by decide +kernel
theorem d_MText_system_37 : decode y_MText_system.2.1 37 = .ok (.putfield 182, 3) := by decide +kernel
theorem d_MText_system_40 : decode y_MText_system.2.1 40 = .ok (.aload_n 0, 1) := by decide +kernel
theorem d_MText_system_41 : decode y_MText_system.2.1 41 = .ok (.iconst 0, 1) := by decide +kernel
theorem d_MText_system_42 : decode y_MText_system.2.1 42 = .ok (.putfield 281, 3) := by decide +kernel
theorem d_MText_system_45 : decode y_MText_system.2.1 45 = .ok (.aload_n 0, 1) := by decide +kernel
theorem d_MText_system_46 : decode y_MText_system.2.1 46 = .ok (.iconst 0, 1) := by decide +kernel
theorem d_MText_system_47 : decode y_MText_system.2.1 47 = .ok (.putfield 293, 3) := by decide +kernel
theorem d_MText_system_50 : decode y_MText_system.2.1 50 = .ok (.aload_n 0, 1) := by decide +kernel
theorem d_MText_system_51 : decode y_MText_system.2.1 51 = .ok (.iconst 0, 1) := by decide +kernel
theorem d_MText_system_52 : decode y_MText_system.2.1 52 = .ok (.putfield 296, 3) := by decide +kernel
theorem d_MText_system_55 : decode y_MText_system.2.1 55 = .ok (.ldc_w 263, 3) := by decide +kernel
theorem d_MText_system_58 : decode y_MText_system.2.1 58 = .ok (.istore_n 3, 1) := by decide +kernel
theorem d_MText_system_59 : decode y_MText_system.2.1 59 = .ok (.aload_n 0, 1) := by decide +kernel
theorem d_MText_system_60 : decode y_MText_system.2.1 60 = .ok (.getfield 86, 3) := by decide +kernel
theorem d_MText_system_63 : decode y_MText_system.2.1 63 = .ok (.iload_n 1, 1) := by decide +kernel
theorem d_MText_system_64 : decode y_MText_system.2.1 64 = .ok (.aload_n 0, 1) := by decide +kernel
theorem d_MText_system_65 : decode y_MText_system.2.1 65 = .ok (.sipush 204, 3) := by decide +kernel
theorem d_MText_system_68 : decode y_MText_system.2.1 68 = .ok (.invokevirtual 197, 3) := by decide +kernel
theorem d_MText_system_71 : decode y_MText_system.2.1 71 = .ok (.ifCond .eq 10, 3) := by decide +kernel
theorem d_MText_system_74 : decode y_MText_system.2.1 74 = .ok (.aload_n 0, 1) := by decide +kernel
theorem d_MText_system_75 : decode y_MText_system.2.1 75 = .ok (.invokevirtual 299, 3) := by decide +kernel
theorem d_MText_system_78 : decode y_MText_system.2.1 78 = .ok (.goto 4, 3) := by decide +kernel
theorem d_MText_system_81 : decode y_MText_system.2.1 81 = .ok (.iconst 0, 1) := by decide +kernel
theorem d_MText_system_82 : decode y_MText_system.2.1 82 = .ok (.iastore, 1) := by decide +kernel
theorem d_MText_system_83 : decode y_MText_system.2.1 83 = .ok (.aload_n 0, 1) := by decide +kernel
theorem d_MText_system_84 : decode y_MText_system.2.1 84 = .ok (.sipush 205, 3) := by decide +kernel
theorem d_MText_system_87 : decode y_MText_system.2.1 87 = .ok (.invokevirtual 204, 3) := by decide +kernel
theorem d_MText_system_90 : decode y_MText_system.2.1 90 = .ok (.aload_n 0, 1) := by decide +kernel
theorem d_MText_system_91 : decode y_MText_system.2.1 91 = .ok (.getfield 74, 3) := by decide +kernel
theorem d_MText_system_94 : decode y_MText_system.2.1 94 = .ok (.iload_n 1, 1) := by decide +kernel
theorem d_MText_system_95 : decode y_MText_system.2.1 95 = .ok (.aload_n 0, 1) := by decide +kernel
theorem d_MText_system_96 : decode y_MText_system.2.1 96 = .ok (.iconst 0, 1) := by decide +kernel
theorem d_MText_system_97 : decode y_MText_system.2.1 97 = .ok (.iload_n 3, 1) := by decide +kernel
theorem d_MText_system_98 : decode y_MText_system.2.1 98 = .ok (.invokevirtual 302, 3) := by decide +kernel
theorem d_MText_system_101 : decode y_MText_system.2.1 101 = .ok (.iastore, 1) := by decide +kernel
theorem d_MText_system_102 : decode y_MText_system.2.1 102 = .ok (.aload_n 0, 1) := by decide +kernel
theorem d_MText_system_103 : decode y_MText_system.2.1 103 = .ok (.getfield 77, 3) := by decide +kernel
theorem d_MText_system_106 : decode y_MText_system.2.1 106 = .ok (.iload_n 1, 1) := by decide +kernel
theorem d_MText_system_107 : decode y_MText_system.2.1 107 = .ok (.aload_n 0, 1) := by decide +kernel
theorem d_MText_system_108 : decode y_MText_system.2.1 108 = .ok (.sipush 206, 3) := by decide +kernel
theorem d_MText_system_111 : decode y_MText_system.2.1 111 = .ok (.invokevirtual 197, 3) := by decide +kernel
theorem d_MText_system_114 : decode y_MText_system.2.1 114 = .ok (.ifCond .eq 17, 3) := by decide +kernel
theorem d_MText_system_117 : decode y_MText_system.2.1 117 = .ok (.aload_n 0, 1) := by decide +kernel
theorem d_MText_system_118 : decode y_MText_system.2.1 118 = .ok (.aload_n 0, 1) := by decide +kernel
theorem d_MText_system_119 : decode y_MText_system.2.1 119 = .ok (.getfield 74, 3) := by decide +kernel
theorem d_MText_system_122 : decode y_MText_system.2.1 122 = .ok (.iload_n 1, 1) := by decide +kernel
theorem d_MText_system_123 : decode y_MText_system.2.1 123 = .ok (.iaload, 1) := by decide +kernel
theorem d_MText_system_124 : decode y_MText_system.2.1 124 = .ok (.iload_n 3, 1) := by decide +kernel
theorem d_MText_system_125 : decode y_MText_system.2.1 125 = .ok (.invokevirtual 302, 3) := by decide +kernel
theorem d_MText_system_128 : decode y_MText_system.2.1 128 = .ok (.goto 4, 3) := by decide +kernel
theorem d_MText_system_131 : decode y_MText_system.2.1 131 = .ok (.iconst 0, 1) := by decide +kernel
theorem d_MText_system_132 : decode y_MText_system.2.1 132 = .ok (.iastore, 1) := by decide +kernel
theorem d_MText_system_133 : decode y_MText_system.2.1 133 = .ok (.aload_n 0, 1) := by decide +kernel
theorem d_MText_system_134 : decode y_MText_system.2.1 134 = .ok (.getfield 80, 3) := by decide +kernel
theorem d_MText_system_137 : decode y_MText_system.2.1 137 = .ok (.iload_n 1, 1) := by decide +kernel
theorem d_MText_system_138 : decode y_MText_system.2.1 138 = .ok (.aload_n 0, 1) := by decide +kernel
theorem d_MText_system_139 : decode y_MText_system.2.1 139 = .ok (.sipush 207, 3) := by decide +kernel
theorem d_MText_system_142 : decode y_MText_system.2.1 142 = .ok (.invokevirtual 197, 3) := by decide +kernel
theorem d_MText_system_145 : decode y_MText_system.2.1 145 = .ok (.ifCond .eq 17, 3) := by decide +kernel
theorem d_MText_system_148 : decode y_MText_system.2.1 148 = .ok (.aload_n 0, 1) := by decide +kernel
theorem d_MText_system_149 : decode y_MText_system.2.1 149 = .ok (.iconst 0, 1) := by decide +kernel
theorem d_MText_system_150 : decode y_MText_system.2.1 150 = .ok (.aload_n 0, 1) := by decide +kernel
theorem d_MText_system_151 : decode y_MText_system.2.1 151 = .ok (.getfield 74, 3) := by decide +kernel
theorem d_MText_system_154 : decode y_MText_system.2.1 154 = .ok (.iload_n 1, 1) := by decide +kernel
theorem d_MText_system_155 : decode y_MText_system.2.1 155 = .ok (.iaload, 1) := by decide +kernel
theorem d_MText_system_156 : decode y_MText_system.2.1 156 = .ok (.invokevirtual 302, 3) := by decide +kernel
theorem d_MText_system_159 : decode y_MText_system.2.1 159 = .ok (.goto 4, 3) := by decide +kernel
theorem d_MText_system_162 : decode y_MText_system.2.1 162 = .ok (.iconst 0, 1) := by decide +kernel
theorem d_MText_system_163 : decode y_MText_system.2.1 163 = .ok (.iastore, 1) := by decide +kernel
theorem d_MText_system_164 : decode y_MText_system.2.1 164 = .ok (.aload_n 0, 1) := by decide +kernel
theorem d_MText_system_165 : decode y_MText_system.2.1 165 = .ok (.getfield 83, 3) := by decide +kernel
theorem d_MText_system_168 : decode y_MText_system.2.1 168 = .ok (.iload_n 1, 1) := by decide +kernel
theorem d_MText_system_169 : decode y_MText_system.2.1 169 = .ok (.aload_n 0, 1) := by decide +kernel
theorem d_MText_system_170 : decode y_MText_system.2.1 170 = .ok (.sipush 208, 3) := by decide +kernel
theorem d_MText_system_173 : decode y_MText_system.2.1 173 = .ok (.invokevirtual 197, 3) := by decide +kernel
theorem d_MText_system_176 : decode y_MText_system.2.1 176 = .ok (.ifCond .eq 21, 3) := by decide +kernel
theorem d_MText_system_179 : decode y_MText_system.2.1 179 = .ok (.aload_n 0, 1) := by decide +kernel
theorem d_MText_system_180 : decode y_MText_system.2.1 180 = .ok (.iconst 0, 1) := by decide +kernel
theorem d_MText_system_181 : decode y_MText_system.2.1 181 = .ok (.iload_n 3, 1) := by decide +kernel
theorem d_MText_system_182 : decode y_MText_system.2.1 182 = .ok (.aload_n 0, 1) := by decide +kernel
theorem d_MText_system_183 : decode y_MText_system.2.1 183 = .ok (.getfield 80, 3) := by decide +kernel
theorem d_MText_system_186 : decode y_MText_system.2.1 186 = .ok (.iload_n 1, 1) := by decide +kernel
theorem d_MText_system_187 : decode y_MText_system.2.1 187 = .ok (.iaload, 1) := by decide +kernel
theorem d_MText_system_188 : decode y_MText_system.2.1 188 = .ok (.iconst (-1), 1) := by decide +kernel
theorem d_MText_system_189 : decode y_MText_system.2.1 189 = .ok (.ixor, 1) := by decide +kernel
theorem d_MText_system_190 : decode y_MText_system.2.1 190 = .ok (.iand, 1) := by decide +kernel
theorem d_MText_system_191 : decode y_MText_system.2.1 191 = .ok (.invokevirtual 302, 3) := by decide +kernel
theorem d_MText_system_194 : decode y_MText_system.2.1 194 = .ok (.goto 4, 3) := by decide +kernel
theorem d_MText_system_197 : decode y_MText_system.2.1 197 = .ok (.iconst 0, 1) := by decide +kernel
theorem d_MText_system_198 : decode y_MText_system.2.1 198 = .ok (.iastore, 1) := by decide +kernel
theorem d_MText_system_199 : decode y_MText_system.2.1 199 = .ok (.aload_n 0, 1) := by decide +kernel
theorem d_MText_system_200 : decode y_MText_system.2.1 200 = .ok (.getfield 89, 3) := by decide +kernel
theorem d_MText_system_203 : decode y_MText_system.2.1 203 = .ok (.iload_n 1, 1) := by decide +kernel
theorem d_MText_system_204 : decode y_MText_system.2.1 204 = .ok (.aload_n 0, 1) := by decide +kernel
theorem d_MText_system_205 : decode y_MText_system.2.1 205 = .ok (.getfield 191, 3) := by decide +kernel
theorem d_MText_system_208 : decode y_MText_system.2.1 208 = .ok (.iastore, 1) := by decide +kernel
theorem d_MText_system_209 : decode y_MText_system.2.1 209 = .ok (.aload_n 0, 1) := by decide +kernel
theorem d_MText_system_210 : decode y_MText_system.2.1 210 = .ok (.invokevirtual 305, 3) := by decide +kernel
theorem d_MText_system_213 : decode y_MText_system.2.1 213 = .ok (.return_, 1) := by decide +kernel
theorem s_MText_system : ab_Stat y_MText_system 0 := ⟨(k11 14 rfl rfl), (k1 20 rfl rfl), ⟨by decide, by decide⟩, by decide +kernel⟩
theorem i_MText_system : Cond.instanceMethod y_MText_system.1 ∈ ab_T := (k11 13 rfl rfl)
theorem v_MText_system : Cond.selects "WorldEngineModel$Text" y_MText_system.1 y_MText_system.1 ∈ ab_T := ab_s (List.mem_of_getElem? (i := 135) rfl) rfl
def B_MText_system_198 (N : Nat) (p0 : Nat) (l1 : Int32) (w0 : Nat) (w1 : Int32) (w2 : Int32) (H : Hp) : Option (Unit × Hp) :=
    ar H 100 w0 fun n68 =>
    ck (inb w1 n68) <|
    bnd (H.sD w0 (w1).toNatClampNeg w2) fun H71 =>
    ck (H71.sh[p0]? = some (14, 0)) <|
    rf (H71.P p0 35) fun a73 =>
    bnd ((H71.D p0 11)) fun x75 =>
    ar H71 100 a73 fun n76 =>
    ck (inb l1 n76) <|
    bnd (H71.sD a73 (l1).toNatClampNeg x75) fun H79 =>
    bC ((X_TextS N 24) p0 H79) fun v81 H82 =>
    some ((), H82)
set_option maxRecDepth 20000 in
set_option maxHeartbeats 2000000 in
theorem mB_MText_system_198 {N : Nat} {p0 : Nat} {l1 : Int32} {w0 : Nat} {w1 : Int32} {w2 : Int32} {H : Hp} {r : Unit × Hp} (hF : B_MText_system_198 N p0 l1 w0 w1 w2 H = some r) : Sa H r.2 := by
  unfold B_MText_system_198 at hF
  have hm := Sa.rf H
  obtain ⟨n83, q84, hG⟩ := ar_s hF; clear hF
  obtain ⟨q85, hF⟩ := ck_s hG; clear hG
  obtain ⟨H86, eH86, hG⟩ := bnd_g hF; clear hF
  replace hm : Sa H H86 := by rw [eH86]; exact hm
  obtain ⟨q87, hF⟩ := ck_s hG; clear hG
  obtain ⟨a88, e89, hG⟩ := rf_s hF; clear hF
  obtain ⟨x90, -, hF⟩ := bnd_g hG; clear hG
  obtain ⟨n91, q92, hG⟩ := ar_s hF; clear hF
  obtain ⟨q93, hF⟩ := ck_s hG; clear hG
  obtain ⟨H94, eH94, hG⟩ := bnd_g hF; clear hF
  replace hm : Sa H H94 := by rw [eH94]; exact hm
  obtain ⟨v96, H97, z95, hF⟩ := bC_s hG; clear hG
  replace hm : Sa H H97 := hm.tr ((moX_TextS 24) _ _ _ z95)
  have hr := Option.some.inj hF; subst hr
  exact hm
set_option maxRecDepth 20000 in
set_option maxHeartbeats 2000000 in
theorem kB_MText_system_198 {N : Nat} {p0 : Nat} {l1 : Int32} {w0 : Nat} {w1 : Int32} {w2 : Int32} {H : Hp} {r : Unit × Hp} (hF : B_MText_system_198 N p0 l1 w0 w1 w2 H = some r) : ab_V y_MText_system { frames := 355, cells := 0, slots := 0, locals := 8032 } (po (.returned none) r.2) 0 0 0 0 198 [some (.ref p0), some (.int l1), none, none] [.int w2, .int w1, .ref w0] (hpw H) := by
  unfold B_MText_system_198 at hF
  obtain ⟨n68, q69, hG⟩ := ar_s hF; clear hF
  obtain ⟨q70, hF⟩ := ck_s hG; clear hG
  refine hp_iast d_MText_system_198 tI q69 q70 ?_
  refine hp_gen (fun H71 eH71 => ?_)
  replace hF := bnd_s eH71 hF
  have s_17 : Sa H H71 := by rw [eH71]; exact Sa.rf _
  refine ab_aload_n d_MText_system_199 rfl rfl rfl ?_
  obtain ⟨q72, hG⟩ := ck_s hF; clear hF
  rw [(s_17).1] at q72
  obtain ⟨a73, e74, hF⟩ := rf_s hG; clear hG
  refine hp_getR (f := 35) d_MText_system_200 (by rw [(s_17).1]; exact q72) (by decide) rfl (by decide) (k8 219 rfl rfl) rfl e74 ?_
  refine ab_iload_n d_MText_system_203 rfl rfl ?_
  refine ab_aload_n d_MText_system_204 rfl rfl rfl ?_
  refine hp_getI (f := 11) d_MText_system_205 (by rw [(s_17).1]; exact q72) (by decide) rfl (by decide) (k8 175 rfl rfl) rfl ?_
  refine ab_topi (fun x75 ex75 => ?_)
  replace hF := bnd_s ex75 hF
  obtain ⟨n76, q77, hG⟩ := ar_s hF; clear hF
  rw [(s_17).1] at q77
  obtain ⟨q78, hF⟩ := ck_s hG; clear hG
  refine hp_iast d_MText_system_208 tI (by rw [(s_17).1]; exact q77) q78 ?_
  refine hp_gen (fun H79 eH79 => ?_)
  replace hF := bnd_s eH79 hF
  have s_18 : Sa H H79 := by rw [eH79]; exact s_17
  refine ab_aload_n d_MText_system_209 rfl rfl rfl ?_
  obtain ⟨v81, H82, z80, hG⟩ := bC_s hF; clear hF
  refine hp_callV_v (H1 := H82) (As := []) (rest := []) d_MText_system_210 ((okX_TextS 24).2.2 _ _ _ z80) (ab_mkC s_MText_statements (Nat.le_of_ble_eq_true rfl) (Nat.le_of_ble_eq_true rfl) (Nat.le_refl 0) (Nat.le_refl 0)) (k11 23 rfl rfl) i_MText_statements v_MText_statements (by rw [(s_18).1]; exact q72) (by decide) rfl rfl (Nat.le_of_ble_eq_true rfl) ?_
  have s_19 : Sa H H82 := (s_18).tr ((moX_TextS 24) _ _ _ z80)
  exact ab_vret d_MText_system_213 rfl (Nat.le_refl _) (Nat.le_refl _) (by have hr := Option.some.inj hG; subst hr; exact ⟨rfl, rfl⟩)
def B_MText_system_163 (N : Nat) (p0 : Nat) (l1 : Int32) (l3 : Int32) (w0 : Nat) (w1 : Int32) (w2 : Int32) (H : Hp) : Option (Unit × Hp) :=
    ar H 100 w0 fun n57 =>
    ck (inb w1 n57) <|
    bnd (H.sD w0 (w1).toNatClampNeg w2) fun H60 =>
    ck (H60.sh[p0]? = some (14, 0)) <|
    rf (H60.P p0 33) fun a62 =>
    bC (F_MText_accepts N p0 (208 : Int32) H60) fun v65 H66 =>
    if v65 = (0 : Int32) then
    B_MText_system_198 N p0 l1 a62 l1 0 H66
    else
    rf (H66.P p0 32) fun a98 =>
    ar H66 100 a98 fun n100 =>
    ck (inb l1 n100) <|
    bnd ((H66.D a98 (l1).toNatClampNeg)) fun x103 =>
    bC (F_MText_names N p0 (0 : Int32) (l3 &&& (x103 ^^^ ((-1) : Int32))) H66) fun v105 H106 =>
    B_MText_system_198 N p0 l1 a62 l1 v105 H106
set_option maxRecDepth 20000 in
set_option maxHeartbeats 2000000 in
theorem mB_MText_system_163 {N : Nat} {p0 : Nat} {l1 : Int32} {l3 : Int32} {w0 : Nat} {w1 : Int32} {w2 : Int32} {H : Hp} {r : Unit × Hp} (hF : B_MText_system_163 N p0 l1 l3 w0 w1 w2 H = some r) : Sa H r.2 := by
  unfold B_MText_system_163 at hF
  have hm := Sa.rf H
  obtain ⟨n107, q108, hG⟩ := ar_s hF; clear hF
  obtain ⟨q109, hF⟩ := ck_s hG; clear hG
  obtain ⟨H110, eH110, hG⟩ := bnd_g hF; clear hF
  replace hm : Sa H H110 := by rw [eH110]; exact hm
  obtain ⟨q111, hF⟩ := ck_s hG; clear hG
  obtain ⟨a112, e113, hG⟩ := rf_s hF; clear hF
  obtain ⟨v115, H116, z114, hF⟩ := bC_s hG; clear hG
  replace hm : Sa H H116 := hm.tr (m_MText_accepts z114)
  rcases ite_s hF with ⟨q_26, hG⟩ | ⟨q_26, hG⟩
  · clear hF
    exact hm.tr (mB_MText_system_198 hG)
  · clear hF
    obtain ⟨a118, e119, hF⟩ := rf_s hG; clear hG
    obtain ⟨n120, q121, hG⟩ := ar_s hF; clear hF
    obtain ⟨q122, hF⟩ := ck_s hG; clear hG
    obtain ⟨x123, -, hG⟩ := bnd_g hF; clear hF
    obtain ⟨v125, H126, z124, hF⟩ := bC_s hG; clear hG
    replace hm : Sa H H126 := hm.tr (m_MText_names z124)
    exact hm.tr (mB_MText_system_198 hF)
set_option maxRecDepth 20000 in
set_option maxHeartbeats 2000000 in
theorem kB_MText_system_163 {N : Nat} {p0 : Nat} {l1 : Int32} {l3 : Int32} {w0 : Nat} {w1 : Int32} {w2 : Int32} {H : Hp} {r : Unit × Hp} (hF : B_MText_system_163 N p0 l1 l3 w0 w1 w2 H = some r) : ab_V y_MText_system { frames := 355, cells := 0, slots := 0, locals := 8032 } (po (.returned none) r.2) 0 0 0 0 163 [some (.ref p0), some (.int l1), none, some (.int l3)] [.int w2, .int w1, .ref w0] (hpw H) := by
  unfold B_MText_system_163 at hF
  obtain ⟨n57, q58, hG⟩ := ar_s hF; clear hF
  obtain ⟨q59, hF⟩ := ck_s hG; clear hG
  refine hp_iast d_MText_system_163 tI q58 q59 ?_
  refine hp_gen (fun H60 eH60 => ?_)
  replace hF := bnd_s eH60 hF
  have s_15 : Sa H H60 := by rw [eH60]; exact Sa.rf _
  refine ab_aload_n d_MText_system_164 rfl rfl rfl ?_
  obtain ⟨q61, hG⟩ := ck_s hF; clear hF
  rw [(s_15).1] at q61
  obtain ⟨a62, e63, hF⟩ := rf_s hG; clear hG
  refine hp_getR (f := 33) d_MText_system_165 (by rw [(s_15).1]; exact q61) (by decide) rfl (by decide) (k8 217 rfl rfl) rfl e63 ?_
  refine ab_iload_n d_MText_system_168 rfl rfl ?_
  refine ab_aload_n d_MText_system_169 rfl rfl rfl ?_
  refine ab_sipush (v := 208) d_MText_system_170 (by decide) ?_
  obtain ⟨v65, H66, z64, hG⟩ := bC_s hF; clear hF
  refine hp_callV_a (v := .int v65) (H1 := H66) (As := [.int 208]) (rest := [.int l1, .ref a62]) d_MText_system_173 (k_MText_accepts z64) (ab_mkC s_MText_accepts (Nat.le_of_ble_eq_true rfl) (Nat.le_of_ble_eq_true rfl) (Nat.le_refl 0) (Nat.le_refl 0)) (k10 176 rfl rfl) i_MText_accepts v_MText_accepts (by rw [(s_15).1]; exact q61) (by decide) rfl rfl (Nat.le_of_ble_eq_true rfl) ?_
  have s_16 : Sa H H66 := (s_15).tr (m_MText_accepts z64)
  refine ab_if_eq (tgt := 197) d_MText_system_176 (by decide) (fun q67 => ?_) (fun q67 => ?_)
  · rw [if_pos q67] at hG
    refine ab_iconst (v := 0) d_MText_system_197 (by decide) ?_
    refine ab_le (lv' := [some (.ref p0), some (.int l1), none, none]) ⟨rfl, ⟨rfl, trivial⟩⟩ ?_
    exact kB_MText_system_198 hG
  · rw [if_neg q67] at hG
    refine ab_aload_n d_MText_system_179 rfl rfl rfl ?_
    refine ab_iconst (v := 0) d_MText_system_180 (by decide) ?_
    refine ab_iload_n d_MText_system_181 rfl rfl ?_
    refine ab_aload_n d_MText_system_182 rfl rfl rfl ?_
    obtain ⟨a98, e99, hF⟩ := rf_s hG; clear hG
    refine hp_getR (f := 32) d_MText_system_183 (by rw [(s_16).1]; exact q61) (by decide) rfl (by decide) (k8 216 rfl rfl) rfl e99 ?_
    refine ab_iload_n d_MText_system_186 rfl rfl ?_
    obtain ⟨n100, q101, hG⟩ := ar_s hF; clear hF
    rw [(s_16).1] at q101
    obtain ⟨q102, hF⟩ := ck_s hG; clear hG
    refine hp_iald d_MText_system_187 tI (by rw [(s_16).1]; exact q101) q102 ?_
    refine ab_topi (fun x103 ex103 => ?_)
    replace hF := bnd_s ex103 hF
    refine ab_iconst (v := (-1)) d_MText_system_188 (by decide) ?_
    refine ab_ixor d_MText_system_189 ?_
    refine ab_iand d_MText_system_190 ?_
    obtain ⟨v105, H106, z104, hG⟩ := bC_s hF; clear hF
    refine hp_callV_a (v := .int v105) (H1 := H106) (As := [.int 0, .int (l3 &&& (x103 ^^^ ((-1) : Int32)))]) (rest := [.int l1, .ref a62]) d_MText_system_191 (k_MText_names z104) (ab_mkC s_MText_names (Nat.le_of_ble_eq_true rfl) (Nat.le_of_ble_eq_true rfl) (Nat.le_refl 0) (Nat.le_refl 0)) (k11 19 rfl rfl) i_MText_names v_MText_names (by rw [(s_16).1]; exact q61) (by decide) rfl rfl (Nat.le_of_ble_eq_true rfl) ?_
    have s_23 : Sa H H106 := (s_16).tr (m_MText_names z104)
    refine ab_goto (tgt := 198) d_MText_system_194 (by decide) ?_
    refine ab_le (lv' := [some (.ref p0), some (.int l1), none, none]) ⟨rfl, ⟨rfl, trivial⟩⟩ ?_
    exact kB_MText_system_198 hG
def B_MText_system_132 (N : Nat) (p0 : Nat) (l1 : Int32) (l3 : Int32) (w0 : Nat) (w1 : Int32) (w2 : Int32) (H : Hp) : Option (Unit × Hp) :=
    ar H 100 w0 fun n46 =>
    ck (inb w1 n46) <|
    bnd (H.sD w0 (w1).toNatClampNeg w2) fun H49 =>
    ck (H49.sh[p0]? = some (14, 0)) <|
    rf (H49.P p0 32) fun a51 =>
    bC (F_MText_accepts N p0 (207 : Int32) H49) fun v54 H55 =>
    if v54 = (0 : Int32) then
    B_MText_system_163 N p0 l1 l3 a51 l1 0 H55
    else
    rf (H55.P p0 30) fun a127 =>
    ar H55 100 a127 fun n129 =>
    ck (inb l1 n129) <|
    bnd ((H55.D a127 (l1).toNatClampNeg)) fun x132 =>
    bC (F_MText_names N p0 (0 : Int32) x132 H55) fun v134 H135 =>
    B_MText_system_163 N p0 l1 l3 a51 l1 v134 H135
set_option maxRecDepth 20000 in
set_option maxHeartbeats 2000000 in
theorem mB_MText_system_132 {N : Nat} {p0 : Nat} {l1 : Int32} {l3 : Int32} {w0 : Nat} {w1 : Int32} {w2 : Int32} {H : Hp} {r : Unit × Hp} (hF : B_MText_system_132 N p0 l1 l3 w0 w1 w2 H = some r) : Sa H r.2 := by
  unfold B_MText_system_132 at hF
  have hm := Sa.rf H
  obtain ⟨n136, q137, hG⟩ := ar_s hF; clear hF
  obtain ⟨q138, hF⟩ := ck_s hG; clear hG
  obtain ⟨H139, eH139, hG⟩ := bnd_g hF; clear hF
  replace hm : Sa H H139 := by rw [eH139]; exact hm
  obtain ⟨q140, hF⟩ := ck_s hG; clear hG
  obtain ⟨a141, e142, hG⟩ := rf_s hF; clear hF
  obtain ⟨v144, H145, z143, hF⟩ := bC_s hG; clear hG
  replace hm : Sa H H145 := hm.tr (m_MText_accepts z143)
  rcases ite_s hF with ⟨q_31, hG⟩ | ⟨q_31, hG⟩
  · clear hF
    exact hm.tr (mB_MText_system_163 hG)
  · clear hF
    obtain ⟨a147, e148, hF⟩ := rf_s hG; clear hG
    obtain ⟨n149, q150, hG⟩ := ar_s hF; clear hF
    obtain ⟨q151, hF⟩ := ck_s hG; clear hG
    obtain ⟨x152, -, hG⟩ := bnd_g hF; clear hF
    obtain ⟨v154, H155, z153, hF⟩ := bC_s hG; clear hG
    replace hm : Sa H H155 := hm.tr (m_MText_names z153)
    exact hm.tr (mB_MText_system_163 hF)
set_option maxRecDepth 20000 in
set_option maxHeartbeats 2000000 in
theorem kB_MText_system_132 {N : Nat} {p0 : Nat} {l1 : Int32} {l3 : Int32} {w0 : Nat} {w1 : Int32} {w2 : Int32} {H : Hp} {r : Unit × Hp} (hF : B_MText_system_132 N p0 l1 l3 w0 w1 w2 H = some r) : ab_V y_MText_system { frames := 355, cells := 0, slots := 0, locals := 8032 } (po (.returned none) r.2) 0 0 0 0 132 [some (.ref p0), some (.int l1), none, some (.int l3)] [.int w2, .int w1, .ref w0] (hpw H) := by
  unfold B_MText_system_132 at hF
  obtain ⟨n46, q47, hG⟩ := ar_s hF; clear hF
  obtain ⟨q48, hF⟩ := ck_s hG; clear hG
  refine hp_iast d_MText_system_132 tI q47 q48 ?_
  refine hp_gen (fun H49 eH49 => ?_)
  replace hF := bnd_s eH49 hF
  have s_13 : Sa H H49 := by rw [eH49]; exact Sa.rf _
  refine ab_aload_n d_MText_system_133 rfl rfl rfl ?_
  obtain ⟨q50, hG⟩ := ck_s hF; clear hF
  rw [(s_13).1] at q50
  obtain ⟨a51, e52, hF⟩ := rf_s hG; clear hG
  refine hp_getR (f := 32) d_MText_system_134 (by rw [(s_13).1]; exact q50) (by decide) rfl (by decide) (k8 216 rfl rfl) rfl e52 ?_
  refine ab_iload_n d_MText_system_137 rfl rfl ?_
  refine ab_aload_n d_MText_system_138 rfl rfl rfl ?_
  refine ab_sipush (v := 207) d_MText_system_139 (by decide) ?_
  obtain ⟨v54, H55, z53, hG⟩ := bC_s hF; clear hF
  refine hp_callV_a (v := .int v54) (H1 := H55) (As := [.int 207]) (rest := [.int l1, .ref a51]) d_MText_system_142 (k_MText_accepts z53) (ab_mkC s_MText_accepts (Nat.le_of_ble_eq_true rfl) (Nat.le_of_ble_eq_true rfl) (Nat.le_refl 0) (Nat.le_refl 0)) (k10 176 rfl rfl) i_MText_accepts v_MText_accepts (by rw [(s_13).1]; exact q50) (by decide) rfl rfl (Nat.le_of_ble_eq_true rfl) ?_
  have s_14 : Sa H H55 := (s_13).tr (m_MText_accepts z53)
  refine ab_if_eq (tgt := 162) d_MText_system_145 (by decide) (fun q56 => ?_) (fun q56 => ?_)
  · rw [if_pos q56] at hG
    refine ab_iconst (v := 0) d_MText_system_162 (by decide) ?_
    exact kB_MText_system_163 hG
  · rw [if_neg q56] at hG
    refine ab_aload_n d_MText_system_148 rfl rfl rfl ?_
    refine ab_iconst (v := 0) d_MText_system_149 (by decide) ?_
    refine ab_aload_n d_MText_system_150 rfl rfl rfl ?_
    obtain ⟨a127, e128, hF⟩ := rf_s hG; clear hG
    refine hp_getR (f := 30) d_MText_system_151 (by rw [(s_14).1]; exact q50) (by decide) rfl (by decide) (k8 214 rfl rfl) rfl e128 ?_
    refine ab_iload_n d_MText_system_154 rfl rfl ?_
    obtain ⟨n129, q130, hG⟩ := ar_s hF; clear hF
    rw [(s_14).1] at q130
    obtain ⟨q131, hF⟩ := ck_s hG; clear hG
    refine hp_iald d_MText_system_155 tI (by rw [(s_14).1]; exact q130) q131 ?_
    refine ab_topi (fun x132 ex132 => ?_)
    replace hF := bnd_s ex132 hF
    obtain ⟨v134, H135, z133, hG⟩ := bC_s hF; clear hF
    refine hp_callV_a (v := .int v134) (H1 := H135) (As := [.int 0, .int x132]) (rest := [.int l1, .ref a51]) d_MText_system_156 (k_MText_names z133) (ab_mkC s_MText_names (Nat.le_of_ble_eq_true rfl) (Nat.le_of_ble_eq_true rfl) (Nat.le_refl 0) (Nat.le_refl 0)) (k11 19 rfl rfl) i_MText_names v_MText_names (by rw [(s_14).1]; exact q50) (by decide) rfl rfl (Nat.le_of_ble_eq_true rfl) ?_
    have s_28 : Sa H H135 := (s_14).tr (m_MText_names z133)
    refine ab_goto (tgt := 163) d_MText_system_159 (by decide) ?_
    exact kB_MText_system_163 hG
def B_MText_system_82 (N : Nat) (p0 : Nat) (l1 : Int32) (l3 : Int32) (w0 : Nat) (w1 : Int32) (w2 : Int32) (H : Hp) : Option (Unit × Hp) :=
    ar H 100 w0 fun n23 =>
    ck (inb w1 n23) <|
    bnd (H.sD w0 (w1).toNatClampNeg w2) fun H26 =>
    ck (H26.sh[p0]? = some (14, 0)) <|
    bC (F_MText_takes N p0 (205 : Int32) H26) fun v29 H30 =>
    rf (H30.P p0 30) fun a31 =>
    bC (F_MText_names N p0 (0 : Int32) l3 H30) fun v34 H35 =>
    ar H35 100 a31 fun n36 =>
    ck (inb l1 n36) <|
    bnd (H35.sD a31 (l1).toNatClampNeg v34) fun H39 =>
    rf (H39.P p0 31) fun a40 =>
    bC (F_MText_accepts N p0 (206 : Int32) H39) fun v43 H44 =>
    if v43 = (0 : Int32) then
    B_MText_system_132 N p0 l1 l3 a40 l1 0 H44
    else
    rf (H44.P p0 30) fun a156 =>
    ar H44 100 a156 fun n158 =>
    ck (inb l1 n158) <|
    bnd ((H44.D a156 (l1).toNatClampNeg)) fun x161 =>
    bC (F_MText_names N p0 x161 l3 H44) fun v163 H164 =>
    B_MText_system_132 N p0 l1 l3 a40 l1 v163 H164
set_option maxRecDepth 20000 in
set_option maxHeartbeats 2000000 in
theorem mB_MText_system_82 {N : Nat} {p0 : Nat} {l1 : Int32} {l3 : Int32} {w0 : Nat} {w1 : Int32} {w2 : Int32} {H : Hp} {r : Unit × Hp} (hF : B_MText_system_82 N p0 l1 l3 w0 w1 w2 H = some r) : Sa H r.2 := by
  unfold B_MText_system_82 at hF
  have hm := Sa.rf H
  obtain ⟨n165, q166, hG⟩ := ar_s hF; clear hF
  obtain ⟨q167, hF⟩ := ck_s hG; clear hG
  obtain ⟨H168, eH168, hG⟩ := bnd_g hF; clear hF
  replace hm : Sa H H168 := by rw [eH168]; exact hm
  obtain ⟨q169, hF⟩ := ck_s hG; clear hG
  obtain ⟨v171, H172, z170, hG⟩ := bC_s hF; clear hF
  replace hm : Sa H H172 := hm.tr (m_MText_takes z170)
  obtain ⟨a173, e174, hF⟩ := rf_s hG; clear hG
  obtain ⟨v176, H177, z175, hG⟩ := bC_s hF; clear hF
  replace hm : Sa H H177 := hm.tr (m_MText_names z175)
  obtain ⟨n178, q179, hF⟩ := ar_s hG; clear hG
  obtain ⟨q180, hG⟩ := ck_s hF; clear hF
  obtain ⟨H181, eH181, hF⟩ := bnd_g hG; clear hG
  replace hm : Sa H H181 := by rw [eH181]; exact hm
  obtain ⟨a182, e183, hG⟩ := rf_s hF; clear hF
  obtain ⟨v185, H186, z184, hF⟩ := bC_s hG; clear hG
  replace hm : Sa H H186 := hm.tr (m_MText_accepts z184)
  rcases ite_s hF with ⟨q_39, hG⟩ | ⟨q_39, hG⟩
  · clear hF
    exact hm.tr (mB_MText_system_132 hG)
  · clear hF
    obtain ⟨a188, e189, hF⟩ := rf_s hG; clear hG
    obtain ⟨n190, q191, hG⟩ := ar_s hF; clear hF
    obtain ⟨q192, hF⟩ := ck_s hG; clear hG
    obtain ⟨x193, -, hG⟩ := bnd_g hF; clear hF
    obtain ⟨v195, H196, z194, hF⟩ := bC_s hG; clear hG
    replace hm : Sa H H196 := hm.tr (m_MText_names z194)
    exact hm.tr (mB_MText_system_132 hF)
set_option maxRecDepth 20000 in
set_option maxHeartbeats 2000000 in
theorem kB_MText_system_82 {N : Nat} {p0 : Nat} {l1 : Int32} {l3 : Int32} {w0 : Nat} {w1 : Int32} {w2 : Int32} {H : Hp} {r : Unit × Hp} (hF : B_MText_system_82 N p0 l1 l3 w0 w1 w2 H = some r) : ab_V y_MText_system { frames := 355, cells := 0, slots := 0, locals := 8032 } (po (.returned none) r.2) 0 0 0 0 82 [some (.ref p0), some (.int l1), none, some (.int l3)] [.int w2, .int w1, .ref w0] (hpw H) := by
  unfold B_MText_system_82 at hF
  obtain ⟨n23, q24, hG⟩ := ar_s hF; clear hF
  obtain ⟨q25, hF⟩ := ck_s hG; clear hG
  refine hp_iast d_MText_system_82 tI q24 q25 ?_
  refine hp_gen (fun H26 eH26 => ?_)
  replace hF := bnd_s eH26 hF
  have s_8 : Sa H H26 := by rw [eH26]; exact Sa.rf _
  refine ab_aload_n d_MText_system_83 rfl rfl rfl ?_
  refine ab_sipush (v := 205) d_MText_system_84 (by decide) ?_
  obtain ⟨q27, hG⟩ := ck_s hF; clear hF
  rw [(s_8).1] at q27
  obtain ⟨v29, H30, z28, hF⟩ := bC_s hG; clear hG
  refine hp_callV_v (H1 := H30) (As := [.int 205]) (rest := []) d_MText_system_87 (k_MText_takes z28) (ab_mkC s_MText_takes (Nat.le_of_ble_eq_true rfl) (Nat.le_of_ble_eq_true rfl) (Nat.le_refl 0) (Nat.le_refl 0)) (k10 172 rfl rfl) i_MText_takes v_MText_takes (by rw [(s_8).1]; exact q27) (by decide) rfl rfl (Nat.le_of_ble_eq_true rfl) ?_
  have s_9 : Sa H H30 := (s_8).tr (m_MText_takes z28)
  refine ab_aload_n d_MText_system_90 rfl rfl rfl ?_
  obtain ⟨a31, e32, hG⟩ := rf_s hF; clear hF
  refine hp_getR (f := 30) d_MText_system_91 (by rw [(s_9).1]; exact q27) (by decide) rfl (by decide) (k8 214 rfl rfl) rfl e32 ?_
  refine ab_iload_n d_MText_system_94 rfl rfl ?_
  refine ab_aload_n d_MText_system_95 rfl rfl rfl ?_
  refine ab_iconst (v := 0) d_MText_system_96 (by decide) ?_
  refine ab_iload_n d_MText_system_97 rfl rfl ?_
  obtain ⟨v34, H35, z33, hF⟩ := bC_s hG; clear hG
  refine hp_callV_a (v := .int v34) (H1 := H35) (As := [.int 0, .int l3]) (rest := [.int l1, .ref a31]) d_MText_system_98 (k_MText_names z33) (ab_mkC s_MText_names (Nat.le_of_ble_eq_true rfl) (Nat.le_of_ble_eq_true rfl) (Nat.le_refl 0) (Nat.le_refl 0)) (k11 19 rfl rfl) i_MText_names v_MText_names (by rw [(s_9).1]; exact q27) (by decide) rfl rfl (Nat.le_of_ble_eq_true rfl) ?_
  have s_10 : Sa H H35 := (s_9).tr (m_MText_names z33)
  obtain ⟨n36, q37, hG⟩ := ar_s hF; clear hF
  rw [(s_10).1] at q37
  obtain ⟨q38, hF⟩ := ck_s hG; clear hG
  refine hp_iast d_MText_system_101 tI (by rw [(s_10).1]; exact q37) q38 ?_
  refine hp_gen (fun H39 eH39 => ?_)
  replace hF := bnd_s eH39 hF
  have s_11 : Sa H H39 := by rw [eH39]; exact s_10
  refine ab_aload_n d_MText_system_102 rfl rfl rfl ?_
  obtain ⟨a40, e41, hG⟩ := rf_s hF; clear hF
  refine hp_getR (f := 31) d_MText_system_103 (by rw [(s_11).1]; exact q27) (by decide) rfl (by decide) (k8 215 rfl rfl) rfl e41 ?_
  refine ab_iload_n d_MText_system_106 rfl rfl ?_
  refine ab_aload_n d_MText_system_107 rfl rfl rfl ?_
  refine ab_sipush (v := 206) d_MText_system_108 (by decide) ?_
  obtain ⟨v43, H44, z42, hF⟩ := bC_s hG; clear hG
  refine hp_callV_a (v := .int v43) (H1 := H44) (As := [.int 206]) (rest := [.int l1, .ref a40]) d_MText_system_111 (k_MText_accepts z42) (ab_mkC s_MText_accepts (Nat.le_of_ble_eq_true rfl) (Nat.le_of_ble_eq_true rfl) (Nat.le_refl 0) (Nat.le_refl 0)) (k10 176 rfl rfl) i_MText_accepts v_MText_accepts (by rw [(s_11).1]; exact q27) (by decide) rfl rfl (Nat.le_of_ble_eq_true rfl) ?_
  have s_12 : Sa H H44 := (s_11).tr (m_MText_accepts z42)
  refine ab_if_eq (tgt := 131) d_MText_system_114 (by decide) (fun q45 => ?_) (fun q45 => ?_)
  · rw [if_pos q45] at hF
    refine ab_iconst (v := 0) d_MText_system_131 (by decide) ?_
    exact kB_MText_system_132 hF
  · rw [if_neg q45] at hF
    refine ab_aload_n d_MText_system_117 rfl rfl rfl ?_
    refine ab_aload_n d_MText_system_118 rfl rfl rfl ?_
    obtain ⟨a156, e157, hG⟩ := rf_s hF; clear hF
    refine hp_getR (f := 30) d_MText_system_119 (by rw [(s_12).1]; exact q27) (by decide) rfl (by decide) (k8 214 rfl rfl) rfl e157 ?_
    refine ab_iload_n d_MText_system_122 rfl rfl ?_
    obtain ⟨n158, q159, hF⟩ := ar_s hG; clear hG
    rw [(s_12).1] at q159
    obtain ⟨q160, hG⟩ := ck_s hF; clear hF
    refine hp_iald d_MText_system_123 tI (by rw [(s_12).1]; exact q159) q160 ?_
    refine ab_topi (fun x161 ex161 => ?_)
    replace hG := bnd_s ex161 hG
    refine ab_iload_n d_MText_system_124 rfl rfl ?_
    obtain ⟨v163, H164, z162, hF⟩ := bC_s hG; clear hG
    refine hp_callV_a (v := .int v163) (H1 := H164) (As := [.int x161, .int l3]) (rest := [.int l1, .ref a40]) d_MText_system_125 (k_MText_names z162) (ab_mkC s_MText_names (Nat.le_of_ble_eq_true rfl) (Nat.le_of_ble_eq_true rfl) (Nat.le_refl 0) (Nat.le_refl 0)) (k11 19 rfl rfl) i_MText_names v_MText_names (by rw [(s_12).1]; exact q27) (by decide) rfl rfl (Nat.le_of_ble_eq_true rfl) ?_
    have s_33 : Sa H H164 := (s_12).tr (m_MText_names z162)
    refine ab_goto (tgt := 132) d_MText_system_128 (by decide) ?_
    exact kB_MText_system_132 hF
def F_MText_system (N : Nat) (p0 : Nat) (H : Hp) : Option (Unit × Hp) :=
    ck (H.sh[p0]? = some (14, 0)) <|
    bnd ((H.D p0 29)) fun x2 =>
    bC (F_MText_begins N p0 x2 (16 : Int32) H) fun v4 H5 =>
    bnd ((H5.D p0 29)) fun x6 =>
    bC (F_MText_told N p0 (5 : Int32) x6 H5) fun v8 H9 =>
    bnd ((H9.D p0 9)) fun x10 =>
    if x10 ≤ (0 : Int32) then
    bnd ((H9.D p0 29)) fun x12 =>
    bnd (H9.sD p0 29 (x12 + (1 : Int32))) fun H13 =>
    bnd (H13.sD p0 37 (0 : Int32)) fun H14 =>
    bnd (H14.sD p0 41 (0 : Int32)) fun H15 =>
    bnd (H15.sD p0 42 (0 : Int32)) fun H16 =>
    rf (H16.P p0 34) fun a17 =>
    bC (F_MText_accepts N p0 (204 : Int32) H16) fun v20 H21 =>
    if v20 = (0 : Int32) then
    B_MText_system_82 N p0 x6 65535 a17 x6 0 H21
    else
    bC (F_MText_systemNames N p0 H21) fun v198 H199 =>
    B_MText_system_82 N p0 x6 65535 a17 x6 v198 H199
    else
    some ((), H9)
set_option maxRecDepth 20000 in
set_option maxHeartbeats 2000000 in
theorem m_MText_system {N : Nat} {p0 : Nat} {H : Hp} {r : Unit × Hp} (hF : F_MText_system N p0 H = some r) : Sa H r.2 := by
  unfold F_MText_system at hF
  have hm := Sa.rf H
  obtain ⟨q200, hG⟩ := ck_s hF; clear hF
  obtain ⟨x201, -, hF⟩ := bnd_g hG; clear hG
  obtain ⟨v203, H204, z202, hG⟩ := bC_s hF; clear hF
  replace hm : Sa H H204 := hm.tr (m_MText_begins z202)
  obtain ⟨x205, -, hF⟩ := bnd_g hG; clear hG
  obtain ⟨v207, H208, z206, hG⟩ := bC_s hF; clear hF
  replace hm : Sa H H208 := hm.tr (m_MText_told z206)
  obtain ⟨x209, -, hF⟩ := bnd_g hG; clear hG
  rcases ite_s hF with ⟨q_44, hG⟩ | ⟨q_44, hG⟩
  · clear hF
    obtain ⟨x211, -, hF⟩ := bnd_g hG; clear hG
    obtain ⟨H212, eH212, hG⟩ := bnd_g hF; clear hF
    replace hm : Sa H H212 := by rw [eH212]; exact hm
    obtain ⟨H213, eH213, hF⟩ := bnd_g hG; clear hG
    replace hm : Sa H H213 := by rw [eH213]; exact hm
    obtain ⟨H214, eH214, hG⟩ := bnd_g hF; clear hF
    replace hm : Sa H H214 := by rw [eH214]; exact hm
    obtain ⟨H215, eH215, hF⟩ := bnd_g hG; clear hG
    replace hm : Sa H H215 := by rw [eH215]; exact hm
    obtain ⟨a216, e217, hG⟩ := rf_s hF; clear hF
    obtain ⟨v219, H220, z218, hF⟩ := bC_s hG; clear hG
    replace hm : Sa H H220 := hm.tr (m_MText_accepts z218)
    rcases ite_s hF with ⟨q_50, hG⟩ | ⟨q_50, hG⟩
    · clear hF
      exact hm.tr (mB_MText_system_82 hG)
    · clear hF
      obtain ⟨v223, H224, z222, hF⟩ := bC_s hG; clear hG
      replace hm : Sa H H224 := hm.tr (m_MText_systemNames z222)
      exact hm.tr (mB_MText_system_82 hF)
  · clear hF
    have hr := Option.some.inj hG; subst hr
    exact hm
set_option maxRecDepth 20000 in
set_option maxHeartbeats 2000000 in
theorem k_MText_system {N : Nat} {p0 : Nat} {H : Hp} {r : Unit × Hp} (hF : F_MText_system N p0 H = some r) : ab_M y_MText_system { frames := 355, cells := 0, slots := 0, locals := 8032 } [.ref p0] (hpw H) (po (.returned none) r.2) := by
  unfold F_MText_system at hF
  refine ab_of2 (lv := [some (.ref p0), none, none, none]) 3 rfl rfl (Nat.le_of_ble_eq_true rfl) ?_
  refine ab_aload_n d_MText_system_0 rfl rfl rfl ?_
  refine ab_aload_n d_MText_system_1 rfl rfl rfl ?_
  obtain ⟨q1, hG⟩ := ck_s hF; clear hF
  refine hp_getI (f := 29) d_MText_system_2 q1 (by decide) rfl (by decide) (k8 213 rfl rfl) rfl ?_
  refine ab_topi (fun x2 ex2 => ?_)
  replace hG := bnd_s ex2 hG
  refine ab_bipush (v := 16) d_MText_system_5 (by decide) ?_
  obtain ⟨v4, H5, z3, hF⟩ := bC_s hG; clear hG
  refine hp_callV_v (H1 := H5) (As := [.int x2, .int 16]) (rest := []) d_MText_system_7 (k_MText_begins z3) (ab_mkC s_MText_begins (Nat.le_of_ble_eq_true rfl) (Nat.le_of_ble_eq_true rfl) (Nat.le_refl 0) (Nat.le_refl 0)) (k10 156 rfl rfl) i_MText_begins v_MText_begins q1 (by decide) rfl rfl (Nat.le_of_ble_eq_true rfl) ?_
  have s_1 : Sa H H5 := (m_MText_begins z3)
  refine ab_aload_n d_MText_system_10 rfl rfl rfl ?_
  refine hp_getI (f := 29) d_MText_system_11 (by rw [(s_1).1]; exact q1) (by decide) rfl (by decide) (k8 213 rfl rfl) rfl ?_
  refine ab_topi (fun x6 ex6 => ?_)
  replace hF := bnd_s ex6 hF
  refine ab_istore_n (lv' := [some (.ref p0), some (.int x6), none, none]) d_MText_system_14 rfl (by decide) rfl ?_
  refine ab_aload_n d_MText_system_15 rfl rfl rfl ?_
  refine ab_iconst (v := 5) d_MText_system_16 (by decide) ?_
  refine ab_iload_n d_MText_system_17 rfl rfl ?_
  obtain ⟨v8, H9, z7, hG⟩ := bC_s hF; clear hF
  refine hp_callV_a (v := .int v8) (H1 := H9) (As := [.int 5, .int x6]) (rest := []) d_MText_system_18 (k_MText_told z7) (ab_mkC s_MText_told (Nat.le_of_ble_eq_true rfl) (Nat.le_of_ble_eq_true rfl) (Nat.le_refl 0) (Nat.le_refl 0)) (k10 164 rfl rfl) i_MText_told v_MText_told (by rw [(s_1).1]; exact q1) (by decide) rfl rfl (Nat.le_of_ble_eq_true rfl) ?_
  have s_2 : Sa H H9 := (s_1).tr (m_MText_told z7)
  refine ab_istore_n (lv' := [some (.ref p0), some (.int x6), some (.int v8), none]) d_MText_system_21 rfl (by decide) rfl ?_
  refine ab_aload_n d_MText_system_22 rfl rfl rfl ?_
  refine hp_getI (f := 9) d_MText_system_23 (by rw [(s_2).1]; exact q1) (by decide) rfl (by decide) (k8 172 rfl rfl) rfl ?_
  refine ab_topi (fun x10 ex10 => ?_)
  replace hG := bnd_s ex10 hG
  refine ab_if_le (tgt := 30) d_MText_system_26 (by decide) (fun q11 => ?_) (fun q11 => ?_)
  · rw [if_pos q11] at hG
    refine ab_aload_n d_MText_system_30 rfl rfl rfl ?_
    refine ab_dup d_MText_system_31 rfl ?_
    refine hp_getI (f := 29) d_MText_system_32 (by rw [(s_2).1]; exact q1) (by decide) rfl (by decide) (k8 213 rfl rfl) rfl ?_
    refine ab_topi (fun x12 ex12 => ?_)
    replace hG := bnd_s ex12 hG
    refine ab_iconst (v := 1) d_MText_system_35 (by decide) ?_
    refine ab_iadd d_MText_system_36 ?_
    refine hp_putI (v := x12 + (1 : Int32)) (f := 29) d_MText_system_37 (by rw [(s_2).1]; exact q1) (by decide) rfl (by decide) (k8 213 rfl rfl) rfl rfl (fun _ => rfl) (fun _ => rfl) rfl ?_
    refine hp_gen (fun H13 eH13 => ?_)
    replace hG := bnd_s eH13 hG
    have s_3 : Sa H H13 := by rw [eH13]; exact s_2
    refine ab_aload_n d_MText_system_40 rfl rfl rfl ?_
    refine ab_iconst (v := 0) d_MText_system_41 (by decide) ?_
    refine hp_putI (v := 0) (f := 37) d_MText_system_42 (by rw [(s_3).1]; exact q1) (by decide) rfl (by decide) (k8 224 rfl rfl) rfl rfl (fun _ => rfl) (fun _ => rfl) rfl ?_
    refine hp_gen (fun H14 eH14 => ?_)
    replace hG := bnd_s eH14 hG
    have s_4 : Sa H H14 := by rw [eH14]; exact s_3
    refine ab_aload_n d_MText_system_45 rfl rfl rfl ?_
    refine ab_iconst (v := 0) d_MText_system_46 (by decide) ?_
    refine hp_putI (v := 0) (f := 41) d_MText_system_47 (by rw [(s_4).1]; exact q1) (by decide) rfl (by decide) (k8 228 rfl rfl) rfl rfl (fun _ => rfl) (fun _ => rfl) rfl ?_
    refine hp_gen (fun H15 eH15 => ?_)
    replace hG := bnd_s eH15 hG
    have s_5 : Sa H H15 := by rw [eH15]; exact s_4
    refine ab_aload_n d_MText_system_50 rfl rfl rfl ?_
    refine ab_iconst (v := 0) d_MText_system_51 (by decide) ?_
    refine hp_putI (v := 0) (f := 42) d_MText_system_52 (by rw [(s_5).1]; exact q1) (by decide) rfl (by decide) (k8 229 rfl rfl) rfl rfl (fun _ => rfl) (fun _ => rfl) rfl ?_
    refine hp_gen (fun H16 eH16 => ?_)
    replace hG := bnd_s eH16 hG
    have s_6 : Sa H H16 := by rw [eH16]; exact s_5
    refine ab_ldcw d_MText_system_55 (k10 216 rfl rfl) ?_
    refine ab_istore_n (lv' := [some (.ref p0), some (.int x6), some (.int v8), some (.int 65535)]) d_MText_system_58 rfl (by decide) rfl ?_
    refine ab_aload_n d_MText_system_59 rfl rfl rfl ?_
    obtain ⟨a17, e18, hF⟩ := rf_s hG; clear hG
    refine hp_getR (f := 34) d_MText_system_60 (by rw [(s_6).1]; exact q1) (by decide) rfl (by decide) (k8 218 rfl rfl) rfl e18 ?_
    refine ab_iload_n d_MText_system_63 rfl rfl ?_
    refine ab_aload_n d_MText_system_64 rfl rfl rfl ?_
    refine ab_sipush (v := 204) d_MText_system_65 (by decide) ?_
    obtain ⟨v20, H21, z19, hG⟩ := bC_s hF; clear hF
    refine hp_callV_a (v := .int v20) (H1 := H21) (As := [.int 204]) (rest := [.int x6, .ref a17]) d_MText_system_68 (k_MText_accepts z19) (ab_mkC s_MText_accepts (Nat.le_of_ble_eq_true rfl) (Nat.le_of_ble_eq_true rfl) (Nat.le_refl 0) (Nat.le_refl 0)) (k10 176 rfl rfl) i_MText_accepts v_MText_accepts (by rw [(s_6).1]; exact q1) (by decide) rfl rfl (Nat.le_of_ble_eq_true rfl) ?_
    have s_7 : Sa H H21 := (s_6).tr (m_MText_accepts z19)
    refine ab_if_eq (tgt := 81) d_MText_system_71 (by decide) (fun q22 => ?_) (fun q22 => ?_)
    · rw [if_pos q22] at hG
      refine ab_iconst (v := 0) d_MText_system_81 (by decide) ?_
      refine ab_le (lv' := [some (.ref p0), some (.int x6), none, some (.int 65535)]) ⟨rfl, ⟨rfl, ⟨rfl, trivial⟩⟩⟩ ?_
      exact kB_MText_system_82 hG
    · rw [if_neg q22] at hG
      refine ab_aload_n d_MText_system_74 rfl rfl rfl ?_
      obtain ⟨v198, H199, z197, hF⟩ := bC_s hG; clear hG
      refine hp_callV_a (v := .int v198) (H1 := H199) (As := []) (rest := [.int x6, .ref a17]) d_MText_system_75 (k_MText_systemNames z197) (ab_mkC s_MText_systemNames (Nat.le_of_ble_eq_true rfl) (Nat.le_of_ble_eq_true rfl) (Nat.le_refl 0) (Nat.le_refl 0)) (k11 15 rfl rfl) i_MText_systemNames v_MText_systemNames (by rw [(s_7).1]; exact q1) (by decide) rfl rfl (Nat.le_of_ble_eq_true rfl) ?_
      have s_41 : Sa H H199 := (s_7).tr (m_MText_systemNames z197)
      refine ab_goto (tgt := 82) d_MText_system_78 (by decide) ?_
      refine ab_le (lv' := [some (.ref p0), some (.int x6), none, some (.int 65535)]) ⟨rfl, ⟨rfl, ⟨rfl, trivial⟩⟩⟩ ?_
      exact kB_MText_system_82 hF
  · rw [if_neg q11] at hG
    exact ab_vret d_MText_system_29 rfl (Nat.le_refl _) (Nat.le_refl _) (by have hr := Option.some.inj hG; subst hr; exact ⟨rfl, rfl⟩)
def y_MText_groupsThem : ab_Y := (⟨"WorldEngineModel$Text", "groupsThem", "()V"⟩, prog_16_method_41_code, 6, none, [])
theorem d_MText_groupsThem_0 : decode y_MText_groupsThem.2.1 0 = .ok (.iconst 0, 1) := by decide +kernel
theorem d_MText_groupsThem_1 : decode y_MText_groupsThem.2.1 1 = .ok (.istore_n 1, 1) := by decide +kernel
theorem d_MText_groupsThem_2 : decode y_MText_groupsThem.2.1 2 = .ok (.iconst 0, 1) := by decide +kernel
theorem d_MText_groupsThem_3 : decode y_MText_groupsThem.2.1 3 = .ok (.istore_n 2, 1) := by decide +kernel
theorem d_MText_groupsThem_4 : decode y_MText_groupsThem.2.1 4 = .ok (.iconst 0, 1) := by decide +kernel
theorem d_MText_groupsThem_5 : decode y_MText_groupsThem.2.1 5 = .ok (.istore_n 3, 1) := by decide +kernel
theorem d_MText_groupsThem_6 : decode y_MText_groupsThem.2.1 6 = .ok (.iload_n 3, 1) := by decide +kernel
theorem d_MText_groupsThem_7 : decode y_MText_groupsThem.2.1 7 = .ok (.aload_n 0, 1) := by decide +kernel
theorem d_MText_groupsThem_8 : decode y_MText_groupsThem.2.1 8 = .ok (.getfield 182, 3) := by decide +kernel
theorem d_MText_groupsThem_11 : decode y_MText_groupsThem.2.1 11 = .ok (.if_icmp .ge 134, 3) := by decide +kernel
theorem d_MText_groupsThem_14 : decode y_MText_groupsThem.2.1 14 = .ok (.iconst 1, 1) := by decide +kernel
theorem d_MText_groupsThem_15 : decode y_MText_groupsThem.2.1 15 = .ok (.istore 4, 2) := by decide +kernel
theorem d_MText_groupsThem_17 : decode y_MText_groupsThem.2.1 17 = .ok (.iload_n 2, 1) := by decide +kernel
theorem d_MText_groupsThem_18 : decode y_MText_groupsThem.2.1 18 = .ok (.istore 5, 2) := by decide +kernel
theorem d_MText_groupsThem_20 : decode y_MText_groupsThem.2.1 20 = .ok (.iload 5, 2) := by decide +kernel
theorem d_MText_groupsThem_22 : decode y_MText_groupsThem.2.1 22 = .ok (.iload_n 3, 1) := by decide +kernel
theorem d_MText_groupsThem_23 : decode y_MText_groupsThem.2.1 23 = .ok (.if_icmp .ge 99, 3) := by decide +kernel
theorem d_MText_groupsThem_26 : decode y_MText_groupsThem.2.1 26 = .ok (.iload 4, 2) := by decide +kernel
theorem d_MText_groupsThem_28 : decode y_MText_groupsThem.2.1 28 = .ok (.ifCond .eq 85, 3) := by decide +kernel
theorem d_MText_groupsThem_31 : decode y_MText_groupsThem.2.1 31 = .ok (.aload_n 0, 1) := by decide +kernel
theorem d_MText_groupsThem_32 : decode y_MText_groupsThem.2.1 32 = .ok (.getfield 86, 3) := by decide +kernel
theorem d_MText_groupsThem_35 : decode y_MText_groupsThem.2.1 35 = .ok (.iload_n 3, 1) := by decide +kernel
theorem d_MText_groupsThem_36 : decode y_MText_groupsThem.2.1 36 = .ok (.iaload, 1) := by decide +kernel
theorem d_MText_groupsThem_37 : decode y_MText_groupsThem.2.1 37 = .ok (.iload 5, 2) := by decide +kernel
theorem d_MText_groupsThem_39 : decode y_MText_groupsThem.2.1 39 = .ok (.ishr, 1) := by decide +kernel
theorem d_MText_groupsThem_40 : decode y_MText_groupsThem.2.1 40 = .ok (.iconst 1, 1) := by decide +kernel
theorem d_MText_groupsThem_41 : decode y_MText_groupsThem.2.1 41 = .ok (.iand, 1) := by decide +kernel
theorem d_MText_groupsThem_42 : decode y_MText_groupsThem.2.1 42 = .ok (.ifCond .ne 71, 3) := by decide +kernel
theorem d_MText_groupsThem_45 : decode y_MText_groupsThem.2.1 45 = .ok (.aload_n 0, 1) := by decide +kernel
theorem d_MText_groupsThem_46 : decode y_MText_groupsThem.2.1 46 = .ok (.getfield 80, 3) := by decide +kernel
theorem d_MText_groupsThem_49 : decode y_MText_groupsThem.2.1 49 = .ok (.iload_n 3, 1) := by decide +kernel
theorem d_MText_groupsThem_50 : decode y_MText_groupsThem.2.1 50 = .ok (.iaload, 1) := by decide +kernel
theorem d_MText_groupsThem_51 : decode y_MText_groupsThem.2.1 51 = .ok (.aload_n 0, 1) := by decide +kernel
theorem d_MText_groupsThem_52 : decode y_MText_groupsThem.2.1 52 = .ok (.getfield 74, 3) := by decide +kernel
theorem d_MText_groupsThem_55 : decode y_MText_groupsThem.2.1 55 = .ok (.iload 5, 2) := by decide +kernel
theorem d_MText_groupsThem_57 : decode y_MText_groupsThem.2.1 57 = .ok (.iaload, 1) := by decide +kernel
theorem d_MText_groupsThem_58 : decode y_MText_groupsThem.2.1 58 = .ok (.aload_n 0, 1) := by decide +kernel
theorem d_MText_groupsThem_59 : decode y_MText_groupsThem.2.1 59 = .ok (.getfield 80, 3) := by decide +kernel
theorem d_MText_groupsThem_62 : decode y_MText_groupsThem.2.1 62 = .ok (.iload 5, 2) := by decide +kernel
theorem d_MText_groupsThem_64 : decode y_MText_groupsThem.2.1 64 = .ok (.iaload, 1) := by decide +kernel
theorem d_MText_groupsThem_65 : decode y_MText_groupsThem.2.1 65 = .ok (.ior, 1) := by decide +kernel
theorem d_MText_groupsThem_66 : decode y_MText_groupsThem.2.1 66 = .ok (.aload_n 0, 1) := by decide +kernel
theorem d_MText_groupsThem_67 : decode y_MText_groupsThem.2.1 67 = .ok (.getfield 83, 3) := by decide +kernel
theorem d_MText_groupsThem_70 : decode y_MText_groupsThem.2.1 70 = .ok (.iload 5, 2) := by decide +kernel
theorem d_MText_groupsThem_72 : decode y_MText_groupsThem.2.1 72 = .ok (.iaload, 1) := by decide +kernel
theorem d_MText_groupsThem_73 : decode y_MText_groupsThem.2.1 73 = .ok (.ior, 1) := by decide +kernel
theorem d_MText_groupsThem_74 : decode y_MText_groupsThem.2.1 74 = .ok (.iand, 1) := by decide +kernel
theorem d_MText_groupsThem_75 : decode y_MText_groupsThem.2.1 75 = .ok (.ifCond .ne 38, 3) := by decide +kernel
theorem d_MText_groupsThem_78 : decode y_MText_groupsThem.2.1 78 = .ok (.aload_n 0, 1) := by decide +kernel
theorem d_MText_groupsThem_79 : decode y_MText_groupsThem.2.1 79 = .ok (.getfield 80, 3) := by decide +kernel
theorem d_MText_groupsThem_82 : decode y_MText_groupsThem.2.1 82 = .ok (.iload 5, 2) := by decide +kernel
theorem d_MText_groupsThem_84 : decode y_MText_groupsThem.2.1 84 = .ok (.iaload, 1) := by decide +kernel
theorem d_MText_groupsThem_85 : decode y_MText_groupsThem.2.1 85 = .ok (.aload_n 0, 1) := by decide +kernel
theorem d_MText_groupsThem_86 : decode y_MText_groupsThem.2.1 86 = .ok (.getfield 74, 3) := by decide +kernel
theorem d_MText_groupsThem_89 : decode y_MText_groupsThem.2.1 89 = .ok (.iload_n 3, 1) := by decide +kernel
theorem d_MText_groupsThem_90 : decode y_MText_groupsThem.2.1 90 = .ok (.iaload, 1) := by decide +kernel
theorem d_MText_groupsThem_91 : decode y_MText_groupsThem.2.1 91 = .ok (.aload_n 0, 1) := by decide +kernel
theorem d_MText_groupsThem_92 : decode y_MText_groupsThem.2.1 92 = .ok (.getfield 80, 3) := by decide +kernel
theorem d_MText_groupsThem_95 : decode y_MText_groupsThem.2.1 95 = .ok (.iload_n 3, 1) := by decide +kernel
theorem d_MText_groupsThem_96 : decode y_MText_groupsThem.2.1 96 = .ok (.iaload, 1) := by decide +kernel
theorem d_MText_groupsThem_97 : decode y_MText_groupsThem.2.1 97 = .ok (.ior, 1) := by decide +kernel
theorem d_MText_groupsThem_98 : decode y_MText_groupsThem.2.1 98 = .ok (.aload_n 0, 1) := by decide +kernel
theorem d_MText_groupsThem_99 : decode y_MText_groupsThem.2.1 99 = .ok (.getfield 83, 3) := by decide +kernel
theorem d_MText_groupsThem_102 : decode y_MText_groupsThem.2.1 102 = .ok (.iload_n 3, 1) := by decide +kernel
theorem d_MText_groupsThem_103 : decode y_MText_groupsThem.2.1 103 = .ok (.iaload, 1) := by decide +kernel
theorem d_MText_groupsThem_104 : decode y_MText_groupsThem.2.1 104 = .ok (.ior, 1) := by decide +kernel
theorem d_MText_groupsThem_105 : decode y_MText_groupsThem.2.1 105 = .ok (.iand, 1) := by decide +kernel
theorem d_MText_groupsThem_106 : decode y_MText_groupsThem.2.1 106 = .ok (.ifCond .ne 7, 3) := by decide +kernel
theorem d_MText_groupsThem_109 : decode y_MText_groupsThem.2.1 109 = .ok (.iconst 1, 1) := by decide +kernel
theorem d_MText_groupsThem_110 : decode y_MText_groupsThem.2.1 110 = .ok (.goto 4, 3) := by decide +kernel
theorem d_MText_groupsThem_113 : decode y_MText_groupsThem.2.1 113 = .ok (.iconst 0, 1) := by decide +kernel
theorem d_MText_groupsThem_114 : decode y_MText_groupsThem.2.1 114 = .ok (.istore 4, 2) := by decide +kernel
theorem d_MText_groupsThem_116 : decode y_MText_groupsThem.2.1 116 = .ok (.iinc 5 1, 3) := by decide +kernel
theorem d_MText_groupsThem_119 : decode y_MText_groupsThem.2.1 119 = .ok (.goto (-99), 3) := by decide +kernel
theorem d_MText_groupsThem_122 : decode y_MText_groupsThem.2.1 122 = .ok (.iload 4, 2) := by decide +kernel
theorem d_MText_groupsThem_124 : decode y_MText_groupsThem.2.1 124 = .ok (.ifCond .ne 8, 3) := by decide +kernel
theorem d_MText_groupsThem_127 : decode y_MText_groupsThem.2.1 127 = .ok (.iinc 1 1, 3) := by decide +kernel
theorem d_MText_groupsThem_130 : decode y_MText_groupsThem.2.1 130 = .ok (.iload_n 3, 1) := by decide +kernel
theorem d_MText_groupsThem_131 : decode y_MText_groupsThem.2.1 131 = .ok (.istore_n 2, 1) := by decide +kernel
theorem d_MText_groupsThem_132 : decode y_MText_groupsThem.2.1 132 = .ok (.aload_n 0, 1) := by decide +kernel
theorem d_MText_groupsThem_133 : decode y_MText_groupsThem.2.1 133 = .ok (.getfield 92, 3) := by decide +kernel
theorem d_MText_groupsThem_136 : decode y_MText_groupsThem.2.1 136 = .ok (.iload_n 3, 1) := by decide +kernel
theorem d_MText_groupsThem_137 : decode y_MText_groupsThem.2.1 137 = .ok (.iload_n 1, 1) := by decide +kernel
theorem d_MText_groupsThem_138 : decode y_MText_groupsThem.2.1 138 = .ok (.iastore, 1) := by decide +kernel
theorem d_MText_groupsThem_139 : decode y_MText_groupsThem.2.1 139 = .ok (.iinc 3 1, 3) := by decide +kernel
theorem d_MText_groupsThem_142 : decode y_MText_groupsThem.2.1 142 = .ok (.goto (-136), 3) := by decide +kernel
theorem d_MText_groupsThem_145 : decode y_MText_groupsThem.2.1 145 = .ok (.return_, 1) := by decide +kernel
theorem s_MText_groupsThem : ab_Stat y_MText_groupsThem 0 := ⟨(k11 140 rfl rfl), (k1 20 rfl rfl), ⟨by decide, by decide⟩, by decide +kernel⟩
theorem i_MText_groupsThem : Cond.instanceMethod y_MText_groupsThem.1 ∈ ab_T := (k11 139 rfl rfl)
theorem v_MText_groupsThem : Cond.selects "WorldEngineModel$Text" y_MText_groupsThem.1 y_MText_groupsThem.1 ∈ ab_T := ab_s (List.mem_of_getElem? (i := 165) rfl) rfl
def B_MText_groupsThem_132 (N : Nat) (p0 : Nat) (kq6 : Int32 → Int32 → Int32 → Hp → Option (Unit × Hp)) (l1 : Int32) (l2 : Int32) (l3 : Int32) (H : Hp) : Option (Unit × Hp) :=
    ck (H.sh[p0]? = some (14, 0)) <|
    rf (H.P p0 36) fun a7 =>
    ar H 100 a7 fun n9 =>
    ck (inb l3 n9) <|
    bnd (H.sD a7 (l3).toNatClampNeg l1) fun H12 =>
    kq6 l1 l2 (l3 + 1) H12
set_option maxRecDepth 20000 in
set_option maxHeartbeats 2000000 in
theorem mB_MText_groupsThem_132 {N : Nat} {p0 : Nat} {kq6 : Int32 → Int32 → Int32 → Hp → Option (Unit × Hp)} (hm6 : ∀ (l1 : Int32) (l2 : Int32) (l3 : Int32) (H : Hp) (r : Unit × Hp), kq6 l1 l2 l3 H = some r → Sa H r.2) {l1 : Int32} {l2 : Int32} {l3 : Int32} {H : Hp} {r : Unit × Hp} (hF : B_MText_groupsThem_132 N p0 kq6 l1 l2 l3 H = some r) : Sa H r.2 := by
  unfold B_MText_groupsThem_132 at hF
  have hm := Sa.rf H
  obtain ⟨q13, hG⟩ := ck_s hF; clear hF
  obtain ⟨a14, e15, hF⟩ := rf_s hG; clear hG
  obtain ⟨n16, q17, hG⟩ := ar_s hF; clear hF
  obtain ⟨q18, hF⟩ := ck_s hG; clear hG
  obtain ⟨H19, eH19, hG⟩ := bnd_g hF; clear hF
  replace hm : Sa H H19 := by rw [eH19]; exact hm
  exact hm.tr (hm6 l1 l2 (l3 + 1) H19 r hG)
set_option maxRecDepth 20000 in
set_option maxHeartbeats 2000000 in
theorem kB_MText_groupsThem_132 {N : Nat} {p0 : Nat} {kq6 : Int32 → Int32 → Int32 → Hp → Option (Unit × Hp)} (hm6 : ∀ (l1 : Int32) (l2 : Int32) (l3 : Int32) (H : Hp) (r : Unit × Hp), kq6 l1 l2 l3 H = some r → Sa H r.2) (hk6 : ∀ (l1 : Int32) (l2 : Int32) (l3 : Int32) (H : Hp) (r : Unit × Hp), kq6 l1 l2 l3 H = some r → ab_V y_MText_groupsThem { frames := 0, cells := 0, slots := 0, locals := 0 } (po (.returned none) r.2) 0 0 0 0 6 [some (.ref p0), some (.int l1), some (.int l2), some (.int l3), none, none] [] (hpw H)) {l1 : Int32} {l2 : Int32} {l3 : Int32} {H : Hp} {r : Unit × Hp} (hF : B_MText_groupsThem_132 N p0 kq6 l1 l2 l3 H = some r) : ab_V y_MText_groupsThem { frames := 0, cells := 0, slots := 0, locals := 0 } (po (.returned none) r.2) 0 0 0 0 132 [some (.ref p0), some (.int l1), some (.int l2), some (.int l3), none, none] [] (hpw H) := by
  unfold B_MText_groupsThem_132 at hF
  refine ab_aload_n d_MText_groupsThem_132 rfl rfl rfl ?_
  obtain ⟨q6, hG⟩ := ck_s hF; clear hF
  obtain ⟨a7, e8, hF⟩ := rf_s hG; clear hG
  refine hp_getR (f := 36) d_MText_groupsThem_133 q6 (by decide) rfl (by decide) (k8 221 rfl rfl) rfl e8 ?_
  refine ab_iload_n d_MText_groupsThem_136 rfl rfl ?_
  refine ab_iload_n d_MText_groupsThem_137 rfl rfl ?_
  obtain ⟨n9, q10, hG⟩ := ar_s hF; clear hF
  obtain ⟨q11, hF⟩ := ck_s hG; clear hG
  refine hp_iast d_MText_groupsThem_138 tI q10 q11 ?_
  refine hp_gen (fun H12 eH12 => ?_)
  replace hF := bnd_s eH12 hF
  have s_1 : Sa H H12 := by rw [eH12]; exact Sa.rf _
  refine ab_iinc (v := l3 + 1) (lv' := [some (.ref p0), some (.int l1), some (.int l2), some (.int (l3 + 1)), none, none]) d_MText_groupsThem_139 rfl rfl (by decide) rfl ?_
  refine ab_goto (tgt := 6) d_MText_groupsThem_142 (by decide) ?_
  exact hk6 l1 l2 (l3 + 1) H12 r hF
def B_MText_groupsThem_114 (N : Nat) (p0 : Nat) (kq6 : Int32 → Int32 → Int32 → Hp → Option (Unit × Hp)) (kq20 : Int32 → Int32 → Int32 → Int32 → Int32 → Hp → Option (Unit × Hp)) (l1 : Int32) (l2 : Int32) (l3 : Int32) (l5 : Int32) (w0 : Int32) (H : Hp) : Option (Unit × Hp) :=
    kq20 l1 l2 l3 w0 (l5 + 1) H
set_option maxRecDepth 20000 in
set_option maxHeartbeats 2000000 in
theorem mB_MText_groupsThem_114 {N : Nat} {p0 : Nat} {kq6 : Int32 → Int32 → Int32 → Hp → Option (Unit × Hp)} {kq20 : Int32 → Int32 → Int32 → Int32 → Int32 → Hp → Option (Unit × Hp)} (hm6 : ∀ (l1 : Int32) (l2 : Int32) (l3 : Int32) (H : Hp) (r : Unit × Hp), kq6 l1 l2 l3 H = some r → Sa H r.2) (hm20 : ∀ (l1 : Int32) (l2 : Int32) (l3 : Int32) (l4 : Int32) (l5 : Int32) (H : Hp) (r : Unit × Hp), kq20 l1 l2 l3 l4 l5 H = some r → Sa H r.2) {l1 : Int32} {l2 : Int32} {l3 : Int32} {l5 : Int32} {w0 : Int32} {H : Hp} {r : Unit × Hp} (hF : B_MText_groupsThem_114 N p0 kq6 kq20 l1 l2 l3 l5 w0 H = some r) : Sa H r.2 := by
  unfold B_MText_groupsThem_114 at hF
  have hm := Sa.rf H
  exact hm.tr (hm20 l1 l2 l3 w0 (l5 + 1) H r hF)
set_option maxRecDepth 20000 in
set_option maxHeartbeats 2000000 in
theorem kB_MText_groupsThem_114 {N : Nat} {p0 : Nat} {kq6 : Int32 → Int32 → Int32 → Hp → Option (Unit × Hp)} {kq20 : Int32 → Int32 → Int32 → Int32 → Int32 → Hp → Option (Unit × Hp)} (hm6 : ∀ (l1 : Int32) (l2 : Int32) (l3 : Int32) (H : Hp) (r : Unit × Hp), kq6 l1 l2 l3 H = some r → Sa H r.2) (hm20 : ∀ (l1 : Int32) (l2 : Int32) (l3 : Int32) (l4 : Int32) (l5 : Int32) (H : Hp) (r : Unit × Hp), kq20 l1 l2 l3 l4 l5 H = some r → Sa H r.2) (hk6 : ∀ (l1 : Int32) (l2 : Int32) (l3 : Int32) (H : Hp) (r : Unit × Hp), kq6 l1 l2 l3 H = some r → ab_V y_MText_groupsThem { frames := 0, cells := 0, slots := 0, locals := 0 } (po (.returned none) r.2) 0 0 0 0 6 [some (.ref p0), some (.int l1), some (.int l2), some (.int l3), none, none] [] (hpw H)) (hk20 : ∀ (l1 : Int32) (l2 : Int32) (l3 : Int32) (l4 : Int32) (l5 : Int32) (H : Hp) (r : Unit × Hp), kq20 l1 l2 l3 l4 l5 H = some r → ab_V y_MText_groupsThem { frames := 0, cells := 0, slots := 0, locals := 0 } (po (.returned none) r.2) 0 0 0 0 20 [some (.ref p0), some (.int l1), some (.int l2), some (.int l3), some (.int l4), some (.int l5)] [] (hpw H)) {l1 : Int32} {l2 : Int32} {l3 : Int32} {l5 : Int32} {w0 : Int32} {H : Hp} {r : Unit × Hp} (hF : B_MText_groupsThem_114 N p0 kq6 kq20 l1 l2 l3 l5 w0 H = some r) : ab_V y_MText_groupsThem { frames := 0, cells := 0, slots := 0, locals := 0 } (po (.returned none) r.2) 0 0 0 0 114 [some (.ref p0), some (.int l1), some (.int l2), some (.int l3), none, some (.int l5)] [.int w0] (hpw H) := by
  unfold B_MText_groupsThem_114 at hF
  refine ab_istore (lv' := [some (.ref p0), some (.int l1), some (.int l2), some (.int l3), some (.int w0), some (.int l5)]) d_MText_groupsThem_114 (by decide) rfl ?_
  refine ab_iinc (v := l5 + 1) (lv' := [some (.ref p0), some (.int l1), some (.int l2), some (.int l3), some (.int w0), some (.int (l5 + 1))]) d_MText_groupsThem_116 rfl rfl (by decide) rfl ?_
  refine ab_goto (tgt := 20) d_MText_groupsThem_119 (by decide) ?_
  exact hk20 l1 l2 l3 w0 (l5 + 1) H r hF
def B_MText_groupsThem_113 (N : Nat) (p0 : Nat) (kq6 : Int32 → Int32 → Int32 → Hp → Option (Unit × Hp)) (kq20 : Int32 → Int32 → Int32 → Int32 → Int32 → Hp → Option (Unit × Hp)) (l1 : Int32) (l2 : Int32) (l3 : Int32) (l5 : Int32) (H : Hp) : Option (Unit × Hp) :=
    B_MText_groupsThem_114 N p0 kq6 kq20 l1 l2 l3 l5 0 H
set_option maxRecDepth 20000 in
set_option maxHeartbeats 2000000 in
theorem mB_MText_groupsThem_113 {N : Nat} {p0 : Nat} {kq6 : Int32 → Int32 → Int32 → Hp → Option (Unit × Hp)} {kq20 : Int32 → Int32 → Int32 → Int32 → Int32 → Hp → Option (Unit × Hp)} (hm6 : ∀ (l1 : Int32) (l2 : Int32) (l3 : Int32) (H : Hp) (r : Unit × Hp), kq6 l1 l2 l3 H = some r → Sa H r.2) (hm20 : ∀ (l1 : Int32) (l2 : Int32) (l3 : Int32) (l4 : Int32) (l5 : Int32) (H : Hp) (r : Unit × Hp), kq20 l1 l2 l3 l4 l5 H = some r → Sa H r.2) {l1 : Int32} {l2 : Int32} {l3 : Int32} {l5 : Int32} {H : Hp} {r : Unit × Hp} (hF : B_MText_groupsThem_113 N p0 kq6 kq20 l1 l2 l3 l5 H = some r) : Sa H r.2 := by
  unfold B_MText_groupsThem_113 at hF
  have hm := Sa.rf H
  exact hm.tr (mB_MText_groupsThem_114 hm6 hm20 hF)
set_option maxRecDepth 20000 in
set_option maxHeartbeats 2000000 in
theorem kB_MText_groupsThem_113 {N : Nat} {p0 : Nat} {kq6 : Int32 → Int32 → Int32 → Hp → Option (Unit × Hp)} {kq20 : Int32 → Int32 → Int32 → Int32 → Int32 → Hp → Option (Unit × Hp)} (hm6 : ∀ (l1 : Int32) (l2 : Int32) (l3 : Int32) (H : Hp) (r : Unit × Hp), kq6 l1 l2 l3 H = some r → Sa H r.2) (hm20 : ∀ (l1 : Int32) (l2 : Int32) (l3 : Int32) (l4 : Int32) (l5 : Int32) (H : Hp) (r : Unit × Hp), kq20 l1 l2 l3 l4 l5 H = some r → Sa H r.2) (hk6 : ∀ (l1 : Int32) (l2 : Int32) (l3 : Int32) (H : Hp) (r : Unit × Hp), kq6 l1 l2 l3 H = some r → ab_V y_MText_groupsThem { frames := 0, cells := 0, slots := 0, locals := 0 } (po (.returned none) r.2) 0 0 0 0 6 [some (.ref p0), some (.int l1), some (.int l2), some (.int l3), none, none] [] (hpw H)) (hk20 : ∀ (l1 : Int32) (l2 : Int32) (l3 : Int32) (l4 : Int32) (l5 : Int32) (H : Hp) (r : Unit × Hp), kq20 l1 l2 l3 l4 l5 H = some r → ab_V y_MText_groupsThem { frames := 0, cells := 0, slots := 0, locals := 0 } (po (.returned none) r.2) 0 0 0 0 20 [some (.ref p0), some (.int l1), some (.int l2), some (.int l3), some (.int l4), some (.int l5)] [] (hpw H)) {l1 : Int32} {l2 : Int32} {l3 : Int32} {l5 : Int32} {H : Hp} {r : Unit × Hp} (hF : B_MText_groupsThem_113 N p0 kq6 kq20 l1 l2 l3 l5 H = some r) : ab_V y_MText_groupsThem { frames := 0, cells := 0, slots := 0, locals := 0 } (po (.returned none) r.2) 0 0 0 0 113 [some (.ref p0), some (.int l1), some (.int l2), some (.int l3), none, some (.int l5)] [] (hpw H) := by
  unfold B_MText_groupsThem_113 at hF
  refine ab_iconst (v := 0) d_MText_groupsThem_113 (by decide) ?_
  exact kB_MText_groupsThem_114 hm6 hm20 hk6 hk20 hF
def B_MText_groupsThem_20 (N : Nat) (p0 : Nat) (kq6 : Int32 → Int32 → Int32 → Hp → Option (Unit × Hp)) : Nat → Int32 → Int32 → Int32 → Int32 → Int32 → Hp → Option (Unit × Hp)
  | 0, _, _, _, _, _, _ => none
  | n + 1, l1, l2, l3, l4, l5, H =>
    if l3 ≤ l5 then
    if l4 = (0 : Int32) then
    B_MText_groupsThem_132 N p0 kq6 (l1 + 1) l3 l3 H
    else
    B_MText_groupsThem_132 N p0 kq6 l1 l2 l3 H
    else
    if l4 = (0 : Int32) then
    B_MText_groupsThem_113 N p0 kq6 (fun l1 l2 l3 l4 l5 H => B_MText_groupsThem_20 N p0 kq6 n l1 l2 l3 l4 l5 H) l1 l2 l3 l5 H
    else
    ck (H.sh[p0]? = some (14, 0)) <|
    rf (H.P p0 34) fun a22 =>
    ar H 100 a22 fun n24 =>
    ck (inb l3 n24) <|
    bnd ((H.D a22 (l3).toNatClampNeg)) fun x27 =>
    if ((x27 >>> (l5 &&& 31)) &&& (1 : Int32)) = (0 : Int32) then
    rf (H.P p0 32) fun a29 =>
    ar H 100 a29 fun n31 =>
    ck (inb l3 n31) <|
    bnd ((H.D a29 (l3).toNatClampNeg)) fun x34 =>
    rf (H.P p0 30) fun a35 =>
    ar H 100 a35 fun n37 =>
    ck (inb l5 n37) <|
    bnd ((H.D a35 (l5).toNatClampNeg)) fun x40 =>
    rf (H.P p0 32) fun a41 =>
    ar H 100 a41 fun n43 =>
    ck (inb l5 n43) <|
    bnd ((H.D a41 (l5).toNatClampNeg)) fun x46 =>
    rf (H.P p0 33) fun a47 =>
    ar H 100 a47 fun n49 =>
    ck (inb l5 n49) <|
    bnd ((H.D a47 (l5).toNatClampNeg)) fun x52 =>
    if (x34 &&& ((x40 ||| x46) ||| x52)) = (0 : Int32) then
    rf (H.P p0 32) fun a54 =>
    ar H 100 a54 fun n56 =>
    ck (inb l5 n56) <|
    bnd ((H.D a54 (l5).toNatClampNeg)) fun x59 =>
    rf (H.P p0 30) fun a60 =>
    ar H 100 a60 fun n62 =>
    ck (inb l3 n62) <|
    bnd ((H.D a60 (l3).toNatClampNeg)) fun x65 =>
    rf (H.P p0 32) fun a66 =>
    ar H 100 a66 fun n68 =>
    ck (inb l3 n68) <|
    bnd ((H.D a66 (l3).toNatClampNeg)) fun x71 =>
    rf (H.P p0 33) fun a72 =>
    ar H 100 a72 fun n74 =>
    ck (inb l3 n74) <|
    bnd ((H.D a72 (l3).toNatClampNeg)) fun x77 =>
    if (x59 &&& ((x65 ||| x71) ||| x77)) = (0 : Int32) then
    B_MText_groupsThem_114 N p0 kq6 (fun l1 l2 l3 l4 l5 H => B_MText_groupsThem_20 N p0 kq6 n l1 l2 l3 l4 l5 H) l1 l2 l3 l5 1 H
    else
    B_MText_groupsThem_113 N p0 kq6 (fun l1 l2 l3 l4 l5 H => B_MText_groupsThem_20 N p0 kq6 n l1 l2 l3 l4 l5 H) l1 l2 l3 l5 H
    else
    B_MText_groupsThem_113 N p0 kq6 (fun l1 l2 l3 l4 l5 H => B_MText_groupsThem_20 N p0 kq6 n l1 l2 l3 l4 l5 H) l1 l2 l3 l5 H
    else
    B_MText_groupsThem_113 N p0 kq6 (fun l1 l2 l3 l4 l5 H => B_MText_groupsThem_20 N p0 kq6 n l1 l2 l3 l4 l5 H) l1 l2 l3 l5 H
termination_by structural n => n
set_option maxRecDepth 20000 in
set_option maxHeartbeats 2000000 in
theorem mB_MText_groupsThem_20 {N : Nat} {p0 : Nat} {kq6 : Int32 → Int32 → Int32 → Hp → Option (Unit × Hp)} (hm6 : ∀ (l1 : Int32) (l2 : Int32) (l3 : Int32) (H : Hp) (r : Unit × Hp), kq6 l1 l2 l3 H = some r → Sa H r.2) : ∀ (n : Nat) (l1 : Int32) (l2 : Int32) (l3 : Int32) (l4 : Int32) (l5 : Int32) (H : Hp) (r : Unit × Hp), B_MText_groupsThem_20 N p0 kq6 n l1 l2 l3 l4 l5 H = some r → Sa H r.2 := by
  intro n
  induction n with
  | zero => intro l1 l2 l3 l4 l5 H r hF; rw [B_MText_groupsThem_20] at hF; cases hF
  | succ n ih =>
    intro l1 l2 l3 l4 l5 H r hF
    rw [B_MText_groupsThem_20] at hF
    have hm := Sa.rf H
    rcases ite_s hF with ⟨q_3, hG⟩ | ⟨q_3, hG⟩
    · clear hF
      rcases ite_s hG with ⟨q_4, hF⟩ | ⟨q_4, hF⟩
      · clear hG
        exact hm.tr (mB_MText_groupsThem_132 hm6 hF)
      · clear hG
        exact hm.tr (mB_MText_groupsThem_132 hm6 hF)
    · clear hF
      rcases ite_s hG with ⟨q_5, hF⟩ | ⟨q_5, hF⟩
      · clear hG
        exact hm.tr (mB_MText_groupsThem_113 hm6 ih hF)
      · clear hG
        obtain ⟨q82, hG⟩ := ck_s hF; clear hF
        obtain ⟨a83, e84, hF⟩ := rf_s hG; clear hG
        obtain ⟨n85, q86, hG⟩ := ar_s hF; clear hF
        obtain ⟨q87, hF⟩ := ck_s hG; clear hG
        obtain ⟨x88, -, hG⟩ := bnd_g hF; clear hF
        rcases ite_s hG with ⟨q_6, hF⟩ | ⟨q_6, hF⟩
        · clear hG
          obtain ⟨a90, e91, hG⟩ := rf_s hF; clear hF
          obtain ⟨n92, q93, hF⟩ := ar_s hG; clear hG
          obtain ⟨q94, hG⟩ := ck_s hF; clear hF
          obtain ⟨x95, -, hF⟩ := bnd_g hG; clear hG
          obtain ⟨a96, e97, hG⟩ := rf_s hF; clear hF
          obtain ⟨n98, q99, hF⟩ := ar_s hG; clear hG
          obtain ⟨q100, hG⟩ := ck_s hF; clear hF
          obtain ⟨x101, -, hF⟩ := bnd_g hG; clear hG
          obtain ⟨a102, e103, hG⟩ := rf_s hF; clear hF
          obtain ⟨n104, q105, hF⟩ := ar_s hG; clear hG
          obtain ⟨q106, hG⟩ := ck_s hF; clear hF
          obtain ⟨x107, -, hF⟩ := bnd_g hG; clear hG
          obtain ⟨a108, e109, hG⟩ := rf_s hF; clear hF
          obtain ⟨n110, q111, hF⟩ := ar_s hG; clear hG
          obtain ⟨q112, hG⟩ := ck_s hF; clear hF
          obtain ⟨x113, -, hF⟩ := bnd_g hG; clear hG
          rcases ite_s hF with ⟨q_7, hG⟩ | ⟨q_7, hG⟩
          · clear hF
            obtain ⟨a115, e116, hF⟩ := rf_s hG; clear hG
            obtain ⟨n117, q118, hG⟩ := ar_s hF; clear hF
            obtain ⟨q119, hF⟩ := ck_s hG; clear hG
            obtain ⟨x120, -, hG⟩ := bnd_g hF; clear hF
            obtain ⟨a121, e122, hF⟩ := rf_s hG; clear hG
            obtain ⟨n123, q124, hG⟩ := ar_s hF; clear hF
            obtain ⟨q125, hF⟩ := ck_s hG; clear hG
            obtain ⟨x126, -, hG⟩ := bnd_g hF; clear hF
            obtain ⟨a127, e128, hF⟩ := rf_s hG; clear hG
            obtain ⟨n129, q130, hG⟩ := ar_s hF; clear hF
            obtain ⟨q131, hF⟩ := ck_s hG; clear hG
            obtain ⟨x132, -, hG⟩ := bnd_g hF; clear hF
            obtain ⟨a133, e134, hF⟩ := rf_s hG; clear hG
            obtain ⟨n135, q136, hG⟩ := ar_s hF; clear hF
            obtain ⟨q137, hF⟩ := ck_s hG; clear hG
            obtain ⟨x138, -, hG⟩ := bnd_g hF; clear hF
            rcases ite_s hG with ⟨q_8, hF⟩ | ⟨q_8, hF⟩
            · clear hG
              exact hm.tr (mB_MText_groupsThem_114 hm6 ih hF)
            · clear hG
              exact hm.tr (mB_MText_groupsThem_113 hm6 ih hF)
          · clear hF
            exact hm.tr (mB_MText_groupsThem_113 hm6 ih hG)
        · clear hG
          exact hm.tr (mB_MText_groupsThem_113 hm6 ih hF)
set_option maxRecDepth 20000 in
set_option maxHeartbeats 2000000 in
theorem kB_MText_groupsThem_20 {N : Nat} {p0 : Nat} {kq6 : Int32 → Int32 → Int32 → Hp → Option (Unit × Hp)} (hm6 : ∀ (l1 : Int32) (l2 : Int32) (l3 : Int32) (H : Hp) (r : Unit × Hp), kq6 l1 l2 l3 H = some r → Sa H r.2) (hk6 : ∀ (l1 : Int32) (l2 : Int32) (l3 : Int32) (H : Hp) (r : Unit × Hp), kq6 l1 l2 l3 H = some r → ab_V y_MText_groupsThem { frames := 0, cells := 0, slots := 0, locals := 0 } (po (.returned none) r.2) 0 0 0 0 6 [some (.ref p0), some (.int l1), some (.int l2), some (.int l3), none, none] [] (hpw H)) : ∀ (n : Nat) (l1 : Int32) (l2 : Int32) (l3 : Int32) (l4 : Int32) (l5 : Int32) (H : Hp) (r : Unit × Hp), B_MText_groupsThem_20 N p0 kq6 n l1 l2 l3 l4 l5 H = some r → ab_V y_MText_groupsThem { frames := 0, cells := 0, slots := 0, locals := 0 } (po (.returned none) r.2) 0 0 0 0 20 [some (.ref p0), some (.int l1), some (.int l2), some (.int l3), some (.int l4), some (.int l5)] [] (hpw H) := by
  intro n
  induction n with
  | zero => intro l1 l2 l3 l4 l5 H r hF; rw [B_MText_groupsThem_20] at hF; cases hF
  | succ n ih =>
    intro l1 l2 l3 l4 l5 H r hF
    rw [B_MText_groupsThem_20] at hF
    refine ab_iload d_MText_groupsThem_20 rfl ?_
    refine ab_iload_n d_MText_groupsThem_22 rfl rfl ?_
    refine ab_icmp_ge (tgt := 122) d_MText_groupsThem_23 (by decide) (fun q4 => ?_) (fun q4 => ?_)
    · rw [if_pos q4] at hF
      refine ab_iload d_MText_groupsThem_122 rfl ?_
      refine ab_if_ne (tgt := 132) d_MText_groupsThem_124 (by decide) (fun q5 => ?_) (fun q5 => ?_)
      · rw [if_neg q5] at hF
        refine ab_le (lv' := [some (.ref p0), some (.int l1), some (.int l2), some (.int l3), none, none]) ⟨rfl, ⟨rfl, ⟨rfl, ⟨rfl, trivial⟩⟩⟩⟩ ?_
        exact kB_MText_groupsThem_132 hm6 hk6 hF
      · rw [if_pos q5] at hF
        refine ab_iinc (v := l1 + 1) (lv' := [some (.ref p0), some (.int (l1 + 1)), some (.int l2), some (.int l3), some (.int l4), some (.int l5)]) d_MText_groupsThem_127 rfl rfl (by decide) rfl ?_
        refine ab_iload_n d_MText_groupsThem_130 rfl rfl ?_
        refine ab_istore_n (lv' := [some (.ref p0), some (.int (l1 + 1)), some (.int l3), some (.int l3), some (.int l4), some (.int l5)]) d_MText_groupsThem_131 rfl (by decide) rfl ?_
        refine ab_le (lv' := [some (.ref p0), some (.int (l1 + 1)), some (.int l3), some (.int l3), none, none]) ⟨rfl, ⟨rfl, ⟨rfl, ⟨rfl, trivial⟩⟩⟩⟩ ?_
        exact kB_MText_groupsThem_132 hm6 hk6 hF
    · rw [if_neg q4] at hF
      refine ab_iload d_MText_groupsThem_26 rfl ?_
      refine ab_if_eq (tgt := 113) d_MText_groupsThem_28 (by decide) (fun q20 => ?_) (fun q20 => ?_)
      · rw [if_pos q20] at hF
        refine ab_le (lv' := [some (.ref p0), some (.int l1), some (.int l2), some (.int l3), none, some (.int l5)]) ⟨rfl, ⟨rfl, ⟨rfl, ⟨rfl, ⟨rfl, trivial⟩⟩⟩⟩⟩ ?_
        exact kB_MText_groupsThem_113 hm6 (mB_MText_groupsThem_20 hm6 n) hk6 ih hF
      · rw [if_neg q20] at hF
        refine ab_aload_n d_MText_groupsThem_31 rfl rfl rfl ?_
        obtain ⟨q21, hG⟩ := ck_s hF; clear hF
        obtain ⟨a22, e23, hF⟩ := rf_s hG; clear hG
        refine hp_getR (f := 34) d_MText_groupsThem_32 q21 (by decide) rfl (by decide) (k8 218 rfl rfl) rfl e23 ?_
        refine ab_iload_n d_MText_groupsThem_35 rfl rfl ?_
        obtain ⟨n24, q25, hG⟩ := ar_s hF; clear hF
        obtain ⟨q26, hF⟩ := ck_s hG; clear hG
        refine hp_iald d_MText_groupsThem_36 tI q25 q26 ?_
        refine ab_topi (fun x27 ex27 => ?_)
        replace hF := bnd_s ex27 hF
        refine ab_iload d_MText_groupsThem_37 rfl ?_
        refine ab_ishr d_MText_groupsThem_39 ?_
        refine ab_iconst (v := 1) d_MText_groupsThem_40 (by decide) ?_
        refine ab_iand d_MText_groupsThem_41 ?_
        refine ab_if_ne (tgt := 113) d_MText_groupsThem_42 (by decide) (fun q28 => ?_) (fun q28 => ?_)
        · rw [if_neg q28] at hF
          refine ab_le (lv' := [some (.ref p0), some (.int l1), some (.int l2), some (.int l3), none, some (.int l5)]) ⟨rfl, ⟨rfl, ⟨rfl, ⟨rfl, ⟨rfl, trivial⟩⟩⟩⟩⟩ ?_
          exact kB_MText_groupsThem_113 hm6 (mB_MText_groupsThem_20 hm6 n) hk6 ih hF
        · rw [if_pos q28] at hF
          refine ab_aload_n d_MText_groupsThem_45 rfl rfl rfl ?_
          obtain ⟨a29, e30, hG⟩ := rf_s hF; clear hF
          refine hp_getR (f := 32) d_MText_groupsThem_46 q21 (by decide) rfl (by decide) (k8 216 rfl rfl) rfl e30 ?_
          refine ab_iload_n d_MText_groupsThem_49 rfl rfl ?_
          obtain ⟨n31, q32, hF⟩ := ar_s hG; clear hG
          obtain ⟨q33, hG⟩ := ck_s hF; clear hF
          refine hp_iald d_MText_groupsThem_50 tI q32 q33 ?_
          refine ab_topi (fun x34 ex34 => ?_)
          replace hG := bnd_s ex34 hG
          refine ab_aload_n d_MText_groupsThem_51 rfl rfl rfl ?_
          obtain ⟨a35, e36, hF⟩ := rf_s hG; clear hG
          refine hp_getR (f := 30) d_MText_groupsThem_52 q21 (by decide) rfl (by decide) (k8 214 rfl rfl) rfl e36 ?_
          refine ab_iload d_MText_groupsThem_55 rfl ?_
          obtain ⟨n37, q38, hG⟩ := ar_s hF; clear hF
          obtain ⟨q39, hF⟩ := ck_s hG; clear hG
          refine hp_iald d_MText_groupsThem_57 tI q38 q39 ?_
          refine ab_topi (fun x40 ex40 => ?_)
          replace hF := bnd_s ex40 hF
          refine ab_aload_n d_MText_groupsThem_58 rfl rfl rfl ?_
          obtain ⟨a41, e42, hG⟩ := rf_s hF; clear hF
          refine hp_getR (f := 32) d_MText_groupsThem_59 q21 (by decide) rfl (by decide) (k8 216 rfl rfl) rfl e42 ?_
          refine ab_iload d_MText_groupsThem_62 rfl ?_
          obtain ⟨n43, q44, hF⟩ := ar_s hG; clear hG
          obtain ⟨q45, hG⟩ := ck_s hF; clear hF
          refine hp_iald d_MText_groupsThem_64 tI q44 q45 ?_
          refine ab_topi (fun x46 ex46 => ?_)
          replace hG := bnd_s ex46 hG
          refine ab_ior d_MText_groupsThem_65 ?_
          refine ab_aload_n d_MText_groupsThem_66 rfl rfl rfl ?_
          obtain ⟨a47, e48, hF⟩ := rf_s hG; clear hG
          refine hp_getR (f := 33) d_MText_groupsThem_67 q21 (by decide) rfl (by decide) (k8 217 rfl rfl) rfl e48 ?_
          refine ab_iload d_MText_groupsThem_70 rfl ?_
          obtain ⟨n49, q50, hG⟩ := ar_s hF; clear hF
          obtain ⟨q51, hF⟩ := ck_s hG; clear hG
          refine hp_iald d_MText_groupsThem_72 tI q50 q51 ?_
          refine ab_topi (fun x52 ex52 => ?_)
          replace hF := bnd_s ex52 hF
          refine ab_ior d_MText_groupsThem_73 ?_
          refine ab_iand d_MText_groupsThem_74 ?_
          refine ab_if_ne (tgt := 113) d_MText_groupsThem_75 (by decide) (fun q53 => ?_) (fun q53 => ?_)
          · rw [if_neg q53] at hF
            refine ab_le (lv' := [some (.ref p0), some (.int l1), some (.int l2), some (.int l3), none, some (.int l5)]) ⟨rfl, ⟨rfl, ⟨rfl, ⟨rfl, ⟨rfl, trivial⟩⟩⟩⟩⟩ ?_
            exact kB_MText_groupsThem_113 hm6 (mB_MText_groupsThem_20 hm6 n) hk6 ih hF
          · rw [if_pos q53] at hF
            refine ab_aload_n d_MText_groupsThem_78 rfl rfl rfl ?_
            obtain ⟨a54, e55, hG⟩ := rf_s hF; clear hF
            refine hp_getR (f := 32) d_MText_groupsThem_79 q21 (by decide) rfl (by decide) (k8 216 rfl rfl) rfl e55 ?_
            refine ab_iload d_MText_groupsThem_82 rfl ?_
            obtain ⟨n56, q57, hF⟩ := ar_s hG; clear hG
            obtain ⟨q58, hG⟩ := ck_s hF; clear hF
            refine hp_iald d_MText_groupsThem_84 tI q57 q58 ?_
            refine ab_topi (fun x59 ex59 => ?_)
            replace hG := bnd_s ex59 hG
            refine ab_aload_n d_MText_groupsThem_85 rfl rfl rfl ?_
            obtain ⟨a60, e61, hF⟩ := rf_s hG; clear hG
            refine hp_getR (f := 30) d_MText_groupsThem_86 q21 (by decide) rfl (by decide) (k8 214 rfl rfl) rfl e61 ?_
            refine ab_iload_n d_MText_groupsThem_89 rfl rfl ?_
            obtain ⟨n62, q63, hG⟩ := ar_s hF; clear hF
            obtain ⟨q64, hF⟩ := ck_s hG; clear hG
            refine hp_iald d_MText_groupsThem_90 tI q63 q64 ?_
            refine ab_topi (fun x65 ex65 => ?_)
            replace hF := bnd_s ex65 hF
            refine ab_aload_n d_MText_groupsThem_91 rfl rfl rfl ?_
            obtain ⟨a66, e67, hG⟩ := rf_s hF; clear hF
            refine hp_getR (f := 32) d_MText_groupsThem_92 q21 (by decide) rfl (by decide) (k8 216 rfl rfl) rfl e67 ?_
            refine ab_iload_n d_MText_groupsThem_95 rfl rfl ?_
            obtain ⟨n68, q69, hF⟩ := ar_s hG; clear hG
            obtain ⟨q70, hG⟩ := ck_s hF; clear hF
            refine hp_iald d_MText_groupsThem_96 tI q69 q70 ?_
            refine ab_topi (fun x71 ex71 => ?_)
            replace hG := bnd_s ex71 hG
            refine ab_ior d_MText_groupsThem_97 ?_
            refine ab_aload_n d_MText_groupsThem_98 rfl rfl rfl ?_
            obtain ⟨a72, e73, hF⟩ := rf_s hG; clear hG
            refine hp_getR (f := 33) d_MText_groupsThem_99 q21 (by decide) rfl (by decide) (k8 217 rfl rfl) rfl e73 ?_
            refine ab_iload_n d_MText_groupsThem_102 rfl rfl ?_
            obtain ⟨n74, q75, hG⟩ := ar_s hF; clear hF
            obtain ⟨q76, hF⟩ := ck_s hG; clear hG
            refine hp_iald d_MText_groupsThem_103 tI q75 q76 ?_
            refine ab_topi (fun x77 ex77 => ?_)
            replace hF := bnd_s ex77 hF
            refine ab_ior d_MText_groupsThem_104 ?_
            refine ab_iand d_MText_groupsThem_105 ?_
            refine ab_if_ne (tgt := 113) d_MText_groupsThem_106 (by decide) (fun q78 => ?_) (fun q78 => ?_)
            · rw [if_neg q78] at hF
              refine ab_le (lv' := [some (.ref p0), some (.int l1), some (.int l2), some (.int l3), none, some (.int l5)]) ⟨rfl, ⟨rfl, ⟨rfl, ⟨rfl, ⟨rfl, trivial⟩⟩⟩⟩⟩ ?_
              exact kB_MText_groupsThem_113 hm6 (mB_MText_groupsThem_20 hm6 n) hk6 ih hF
            · rw [if_pos q78] at hF
              refine ab_iconst (v := 1) d_MText_groupsThem_109 (by decide) ?_
              refine ab_goto (tgt := 114) d_MText_groupsThem_110 (by decide) ?_
              refine ab_le (lv' := [some (.ref p0), some (.int l1), some (.int l2), some (.int l3), none, some (.int l5)]) ⟨rfl, ⟨rfl, ⟨rfl, ⟨rfl, ⟨rfl, trivial⟩⟩⟩⟩⟩ ?_
              exact kB_MText_groupsThem_114 hm6 (mB_MText_groupsThem_20 hm6 n) hk6 ih hF
def B_MText_groupsThem_6 (N : Nat) (p0 : Nat) : Nat → Int32 → Int32 → Int32 → Hp → Option (Unit × Hp)
  | 0, _, _, _, _ => none
  | n + 1, l1, l2, l3, H =>
    ck (H.sh[p0]? = some (14, 0)) <|
    bnd ((H.D p0 29)) fun x2 =>
    if x2 ≤ l3 then
    some ((), H)
    else
    B_MText_groupsThem_20 N p0 (fun l1 l2 l3 H => B_MText_groupsThem_6 N p0 n l1 l2 l3 H) N l1 l2 l3 1 l2 H
termination_by structural n => n
set_option maxRecDepth 20000 in
set_option maxHeartbeats 2000000 in
theorem mB_MText_groupsThem_6 {N : Nat} {p0 : Nat} : ∀ (n : Nat) (l1 : Int32) (l2 : Int32) (l3 : Int32) (H : Hp) (r : Unit × Hp), B_MText_groupsThem_6 N p0 n l1 l2 l3 H = some r → Sa H r.2 := by
  intro n
  induction n with
  | zero => intro l1 l2 l3 H r hF; rw [B_MText_groupsThem_6] at hF; cases hF
  | succ n ih =>
    intro l1 l2 l3 H r hF
    rw [B_MText_groupsThem_6] at hF
    have hm := Sa.rf H
    obtain ⟨q140, hG⟩ := ck_s hF; clear hF
    obtain ⟨x141, -, hF⟩ := bnd_g hG; clear hG
    rcases ite_s hF with ⟨q_9, hG⟩ | ⟨q_9, hG⟩
    · clear hF
      have hr := Option.some.inj hG; subst hr
      exact hm
    · clear hF
      exact hm.tr (mB_MText_groupsThem_20 ih N l1 l2 l3 1 l2 H r hG)
set_option maxRecDepth 20000 in
set_option maxHeartbeats 2000000 in
theorem kB_MText_groupsThem_6 {N : Nat} {p0 : Nat} : ∀ (n : Nat) (l1 : Int32) (l2 : Int32) (l3 : Int32) (H : Hp) (r : Unit × Hp), B_MText_groupsThem_6 N p0 n l1 l2 l3 H = some r → ab_V y_MText_groupsThem { frames := 0, cells := 0, slots := 0, locals := 0 } (po (.returned none) r.2) 0 0 0 0 6 [some (.ref p0), some (.int l1), some (.int l2), some (.int l3), none, none] [] (hpw H) := by
  intro n
  induction n with
  | zero => intro l1 l2 l3 H r hF; rw [B_MText_groupsThem_6] at hF; cases hF
  | succ n ih =>
    intro l1 l2 l3 H r hF
    rw [B_MText_groupsThem_6] at hF
    refine ab_iload_n d_MText_groupsThem_6 rfl rfl ?_
    refine ab_aload_n d_MText_groupsThem_7 rfl rfl rfl ?_
    obtain ⟨q1, hG⟩ := ck_s hF; clear hF
    refine hp_getI (f := 29) d_MText_groupsThem_8 q1 (by decide) rfl (by decide) (k8 213 rfl rfl) rfl ?_
    refine ab_topi (fun x2 ex2 => ?_)
    replace hG := bnd_s ex2 hG
    refine ab_icmp_ge (tgt := 145) d_MText_groupsThem_11 (by decide) (fun q3 => ?_) (fun q3 => ?_)
    · rw [if_pos q3] at hG
      exact ab_vret d_MText_groupsThem_145 rfl (Nat.le_refl _) (Nat.le_refl _) (by have hr := Option.some.inj hG; subst hr; exact ⟨rfl, rfl⟩)
    · rw [if_neg q3] at hG
      refine ab_iconst (v := 1) d_MText_groupsThem_14 (by decide) ?_
      refine ab_istore (lv' := [some (.ref p0), some (.int l1), some (.int l2), some (.int l3), some (.int 1), none]) d_MText_groupsThem_15 (by decide) rfl ?_
      refine ab_iload_n d_MText_groupsThem_17 rfl rfl ?_
      refine ab_istore (lv' := [some (.ref p0), some (.int l1), some (.int l2), some (.int l3), some (.int 1), some (.int l2)]) d_MText_groupsThem_18 (by decide) rfl ?_
      exact kB_MText_groupsThem_20 (mB_MText_groupsThem_6 n) ih N l1 l2 l3 1 l2 H r hG
def F_MText_groupsThem (N : Nat) (p0 : Nat) (H : Hp) : Option (Unit × Hp) :=
    B_MText_groupsThem_6 N p0 N 0 0 0 H
set_option maxRecDepth 20000 in
set_option maxHeartbeats 2000000 in
theorem m_MText_groupsThem {N : Nat} {p0 : Nat} {H : Hp} {r : Unit × Hp} (hF : F_MText_groupsThem N p0 H = some r) : Sa H r.2 := by
  unfold F_MText_groupsThem at hF
  have hm := Sa.rf H
  exact hm.tr (mB_MText_groupsThem_6 N 0 0 0 H r hF)
set_option maxRecDepth 20000 in
set_option maxHeartbeats 2000000 in
theorem k_MText_groupsThem {N : Nat} {p0 : Nat} {H : Hp} {r : Unit × Hp} (hF : F_MText_groupsThem N p0 H = some r) : ab_M y_MText_groupsThem { frames := 0, cells := 0, slots := 0, locals := 0 } [.ref p0] (hpw H) (po (.returned none) r.2) := by
  unfold F_MText_groupsThem at hF
  refine ab_of2 (lv := [some (.ref p0), none, none, none, none, none]) 5 rfl rfl (Nat.le_of_ble_eq_true rfl) ?_
  refine ab_iconst (v := 0) d_MText_groupsThem_0 (by decide) ?_
  refine ab_istore_n (lv' := [some (.ref p0), some (.int 0), none, none, none, none]) d_MText_groupsThem_1 rfl (by decide) rfl ?_
  refine ab_iconst (v := 0) d_MText_groupsThem_2 (by decide) ?_
  refine ab_istore_n (lv' := [some (.ref p0), some (.int 0), some (.int 0), none, none, none]) d_MText_groupsThem_3 rfl (by decide) rfl ?_
  refine ab_iconst (v := 0) d_MText_groupsThem_4 (by decide) ?_
  refine ab_istore_n (lv' := [some (.ref p0), some (.int 0), some (.int 0), some (.int 0), none, none]) d_MText_groupsThem_5 rfl (by decide) rfl ?_
  exact kB_MText_groupsThem_6 N 0 0 0 H r hF
def y_MText_reads : ab_Y := (⟨"WorldEngineModel$Text", "reads", "([BI)V"⟩, prog_16_method_24_code, 4, none, [])
theorem d_MText_reads_0 : decode y_MText_reads.2.1 0 = .ok (.aload_n 0, 1) := by decide +kernel
theorem d_MText_reads_1 : decode y_MText_reads.2.1 1 = .ok (.aload_n 1, 1) := by decide +kernel
theorem d_MText_reads_2 : decode y_MText_reads.2.1 2 = .ok (.iload_n 2, 1) := by decide +kernel
theorem d_MText_reads_3 : decode y_MText_reads.2.1 3 = .ok (.invokevirtual 212, 3) := by decide +kernel
theorem d_MText_reads_6 : decode y_MText_reads.2.1 6 = .ok (.aload_n 0, 1) := by decide +kernel
theorem d_MText_reads_7 : decode y_MText_reads.2.1 7 = .ok (.iconst 0, 1) := by decide +kernel
theorem d_MText_reads_8 : decode y_MText_reads.2.1 8 = .ok (.putfield 185, 3) := by decide +kernel
theorem d_MText_reads_11 : decode y_MText_reads.2.1 11 = .ok (.aload_n 0, 1) := by decide +kernel
theorem d_MText_reads_12 : decode y_MText_reads.2.1 12 = .ok (.iconst 0, 1) := by decide +kernel
theorem d_MText_reads_13 : decode y_MText_reads.2.1 13 = .ok (.putfield 188, 3) := by decide +kernel
theorem d_MText_reads_16 : decode y_MText_reads.2.1 16 = .ok (.aload_n 0, 1) := by decide +kernel
theorem d_MText_reads_17 : decode y_MText_reads.2.1 17 = .ok (.iconst 0, 1) := by decide +kernel
theorem d_MText_reads_18 : decode y_MText_reads.2.1 18 = .ok (.putfield 191, 3) := by decide +kernel
theorem d_MText_reads_21 : decode y_MText_reads.2.1 21 = .ok (.aload_n 0, 1) := by decide +kernel
theorem d_MText_reads_22 : decode y_MText_reads.2.1 22 = .ok (.iconst 0, 1) := by decide +kernel
theorem d_MText_reads_23 : decode y_MText_reads.2.1 23 = .ok (.putfield 167, 3) := by decide +kernel
theorem d_MText_reads_26 : decode y_MText_reads.2.1 26 = .ok (.aload_n 0, 1) := by decide +kernel
theorem d_MText_reads_27 : decode y_MText_reads.2.1 27 = .ok (.iconst 0, 1) := by decide +kernel
theorem d_MText_reads_28 : decode y_MText_reads.2.1 28 = .ok (.putfield 216, 3) := by decide +kernel
theorem d_MText_reads_31 : decode y_MText_reads.2.1 31 = .ok (.aload_n 0, 1) := by decide +kernel
theorem d_MText_reads_32 : decode y_MText_reads.2.1 32 = .ok (.getfield 47, 3) := by decide +kernel
theorem d_MText_reads_35 : decode y_MText_reads.2.1 35 = .ok (.iconst 0, 1) := by decide +kernel
theorem d_MText_reads_36 : decode y_MText_reads.2.1 36 = .ok (.iconst 0, 1) := by decide +kernel
theorem d_MText_reads_37 : decode y_MText_reads.2.1 37 = .ok (.iastore, 1) := by decide +kernel
theorem d_MText_reads_38 : decode y_MText_reads.2.1 38 = .ok (.aload_n 0, 1) := by decide +kernel
theorem d_MText_reads_39 : decode y_MText_reads.2.1 39 = .ok (.iconst 0, 1) := by decide +kernel
theorem d_MText_reads_40 : decode y_MText_reads.2.1 40 = .ok (.putfield 219, 3) := by decide +kernel
theorem d_MText_reads_43 : decode y_MText_reads.2.1 43 = .ok (.aload_n 0, 1) := by decide +kernel
theorem d_MText_reads_44 : decode y_MText_reads.2.1 44 = .ok (.iconst 0, 1) := by decide +kernel
theorem d_MText_reads_45 : decode y_MText_reads.2.1 45 = .ok (.putfield 222, 3) := by decide +kernel
theorem d_MText_reads_48 : decode y_MText_reads.2.1 48 = .ok (.aload_n 0, 1) := by decide +kernel
theorem d_MText_reads_49 : decode y_MText_reads.2.1 49 = .ok (.iconst 0, 1) := by decide +kernel
theorem d_MText_reads_50 : decode y_MText_reads.2.1 50 = .ok (.putfield 182, 3) := by decide +kernel
theorem d_MText_reads_53 : decode y_MText_reads.2.1 53 = .ok (.aload_n 0, 1) := by decide +kernel
theorem d_MText_reads_54 : decode y_MText_reads.2.1 54 = .ok (.getfield 185, 3) := by decide +kernel
theorem d_MText_reads_57 : decode y_MText_reads.2.1 57 = .ok (.ifCond .ne 88, 3) := by decide +kernel
theorem d_MText_reads_60 : decode y_MText_reads.2.1 60 = .ok (.aload_n 0, 1) := by decide +kernel
theorem d_MText_reads_61 : decode y_MText_reads.2.1 61 = .ok (.getfield 15, 3) := by decide +kernel
theorem d_MText_reads_64 : decode y_MText_reads.2.1 64 = .ok (.aload_n 0, 1) := by decide +kernel
theorem d_MText_reads_65 : decode y_MText_reads.2.1 65 = .ok (.getfield 191, 3) := by decide +kernel
theorem d_MText_reads_68 : decode y_MText_reads.2.1 68 = .ok (.iaload, 1) := by decide +kernel
theorem d_MText_reads_69 : decode y_MText_reads.2.1 69 = .ok (.ifCond .eq 76, 3) := by decide +kernel
theorem d_MText_reads_72 : decode y_MText_reads.2.1 72 = .ok (.aload_n 0, 1) := by decide +kernel
theorem d_MText_reads_73 : decode y_MText_reads.2.1 73 = .ok (.getfield 15, 3) := by decide +kernel
theorem d_MText_reads_76 : decode y_MText_reads.2.1 76 = .ok (.aload_n 0, 1) := by decide +kernel
theorem d_MText_reads_77 : decode y_MText_reads.2.1 77 = .ok (.getfield 191, 3) := by decide +kernel
theorem d_MText_reads_80 : decode y_MText_reads.2.1 80 = .ok (.iaload, 1) := by decide +kernel
theorem d_MText_reads_81 : decode y_MText_reads.2.1 81 = .ok (.sipush 200, 3) := by decide +kernel
theorem d_MText_reads_84 : decode y_MText_reads.2.1 84 = .ok (.isub, 1) := by decide +kernel
theorem d_MText_reads_85 : decode y_MText_reads.2.1 85 = .ok (.istore_n 3, 1) := by decide +kernel
theorem d_MText_reads_86 : decode y_MText_reads.2.1 86 = .ok (.iload_n 3, 1) := by decide +kernel
theorem d_MText_reads_87 : decode y_MText_reads.2.1 87 = .ok (.ifCond .ne 10, 3) := by decide +kernel
theorem d_MText_reads_90 : decode y_MText_reads.2.1 90 = .ok (.aload_n 0, 1) := by decide +kernel
theorem d_MText_reads_91 : decode y_MText_reads.2.1 91 = .ok (.invokevirtual 225, 3) := by decide +kernel
theorem d_MText_reads_94 : decode y_MText_reads.2.1 94 = .ok (.goto 48, 3) := by decide +kernel
theorem d_MText_reads_97 : decode y_MText_reads.2.1 97 = .ok (.iload_n 3, 1) := by decide +kernel
theorem d_MText_reads_98 : decode y_MText_reads.2.1 98 = .ok (.iconst 1, 1) := by decide +kernel
theorem d_MText_reads_99 : decode y_MText_reads.2.1 99 = .ok (.if_icmp .ne 10, 3) := by decide +kernel
theorem d_MText_reads_102 : decode y_MText_reads.2.1 102 = .ok (.aload_n 0, 1) := by decide +kernel
theorem d_MText_reads_103 : decode y_MText_reads.2.1 103 = .ok (.invokevirtual 228, 3) := by decide +kernel
theorem d_MText_reads_106 : decode y_MText_reads.2.1 106 = .ok (.goto 36, 3) := by decide +kernel
theorem d_MText_reads_109 : decode y_MText_reads.2.1 109 = .ok (.iload_n 3, 1) := by decide +kernel
theorem d_MText_reads_110 : decode y_MText_reads.2.1 110 = .ok (.iconst 2, 1) := by decide +kernel
theorem d_MText_reads_111 : decode y_MText_reads.2.1 111 = .ok (.if_icmp .ne 10, 3) := by decide +kernel
theorem d_MText_reads_114 : decode y_MText_reads.2.1 114 = .ok (.aload_n 0, 1) := by decide +kernel
theorem d_MText_reads_115 : decode y_MText_reads.2.1 115 = .ok (.invokevirtual 231, 3) := by decide +kernel
theorem d_MText_reads_118 : decode y_MText_reads.2.1 118 = .ok (.goto 24, 3) := by decide +kernel
theorem d_MText_reads_121 : decode y_MText_reads.2.1 121 = .ok (.iload_n 3, 1) := by decide +kernel
theorem d_MText_reads_122 : decode y_MText_reads.2.1 122 = .ok (.iconst 3, 1) := by decide +kernel
theorem d_MText_reads_123 : decode y_MText_reads.2.1 123 = .ok (.if_icmp .ne 10, 3) := by decide +kernel
theorem d_MText_reads_126 : decode y_MText_reads.2.1 126 = .ok (.aload_n 0, 1) := by decide +kernel
theorem d_MText_reads_127 : decode y_MText_reads.2.1 127 = .ok (.invokevirtual 234, 3) := by decide +kernel
theorem d_MText_reads_130 : decode y_MText_reads.2.1 130 = .ok (.goto 12, 3) := by decide +kernel
theorem d_MText_reads_133 : decode y_MText_reads.2.1 133 = .ok (.aload_n 0, 1) := by decide +kernel
theorem d_MText_reads_134 : decode y_MText_reads.2.1 134 = .ok (.iconst 1, 1) := by decide +kernel
theorem d_MText_reads_135 : decode y_MText_reads.2.1 135 = .ok (.aload_n 0, 1) := by decide +kernel
theorem d_MText_reads_136 : decode y_MText_reads.2.1 136 = .ok (.getfield 191, 3) := by decide +kernel
theorem d_MText_reads_139 : decode y_MText_reads.2.1 139 = .ok (.invokevirtual 200, 3) := by decide +kernel
theorem d_MText_reads_142 : decode y_MText_reads.2.1 142 = .ok (.goto (-89), 3) := by decide +kernel
theorem d_MText_reads_145 : decode y_MText_reads.2.1 145 = .ok (.aload_n 0, 1) := by decide +kernel
theorem d_MText_reads_146 : decode y_MText_reads.2.1 146 = .ok (.getfield 185, 3) := by decide +kernel
theorem d_MText_reads_149 : decode y_MText_reads.2.1 149 = .ok (.ifCond .ne 7, 3) := by decide +kernel
theorem d_MText_reads_152 : decode y_MText_reads.2.1 152 = .ok (.aload_n 0, 1) := by decide +kernel
theorem d_MText_reads_153 : decode y_MText_reads.2.1 153 = .ok (.invokevirtual 237, 3) := by decide +kernel
theorem d_MText_reads_156 : decode y_MText_reads.2.1 156 = .ok (.return_, 1) := by decide +kernel
theorem s_MText_reads : ab_Stat y_MText_reads 2 := ⟨(k10 107 rfl rfl), (k1 20 rfl rfl), ⟨by decide, by decide⟩, by decide +kernel⟩
theorem i_MText_reads : Cond.instanceMethod y_MText_reads.1 ∈ ab_T := (k10 105 rfl rfl)
theorem v_MText_reads : Cond.selects "WorldEngineModel$Text" y_MText_reads.1 y_MText_reads.1 ∈ ab_T := (k10 106 rfl rfl)
def B_MText_reads_145 (N : Nat) (p0 : Nat) (p1 : Nat) (p2 : Int32)  (H : Hp) : Option (Unit × Hp) :=
    ck (H.sh[p0]? = some (14, 0)) <|
    bnd ((H.D p0 9)) fun x23 =>
    if x23 = (0 : Int32) then
    bC (F_MText_groupsThem N p0 H) fun v26 H27 =>
    some ((), H27)
    else
    some ((), H)
set_option maxRecDepth 20000 in
set_option maxHeartbeats 2000000 in
theorem mB_MText_reads_145 {N : Nat} {p0 : Nat} {p1 : Nat} {p2 : Int32}  {H : Hp} {r : Unit × Hp} (hF : B_MText_reads_145 N p0 p1 p2  H = some r) : Sa H r.2 := by
  unfold B_MText_reads_145 at hF
  have hm := Sa.rf H
  obtain ⟨q28, hG⟩ := ck_s hF; clear hF
  obtain ⟨x29, -, hF⟩ := bnd_g hG; clear hG
  rcases ite_s hF with ⟨q_12, hG⟩ | ⟨q_12, hG⟩
  · clear hF
    obtain ⟨v32, H33, z31, hF⟩ := bC_s hG; clear hG
    replace hm : Sa H H33 := hm.tr (m_MText_groupsThem z31)
    have hr := Option.some.inj hF; subst hr
    exact hm
  · clear hF
    have hr := Option.some.inj hG; subst hr
    exact hm
set_option maxRecDepth 20000 in
set_option maxHeartbeats 2000000 in
theorem kB_MText_reads_145 {N : Nat} {p0 : Nat} {p1 : Nat} {p2 : Int32}  {H : Hp} {r : Unit × Hp} (hF : B_MText_reads_145 N p0 p1 p2  H = some r) : ab_V y_MText_reads { frames := 356, cells := 0, slots := 0, locals := 8055 } (po (.returned none) r.2) 0 0 0 0 145 [some (.ref p0), some (.ref p1), some (.int p2), none] [] (hpw H) := by
  unfold B_MText_reads_145 at hF
  refine ab_aload_n d_MText_reads_145 rfl rfl rfl ?_
  obtain ⟨q22, hG⟩ := ck_s hF; clear hF
  refine hp_getI (f := 9) d_MText_reads_146 q22 (by decide) rfl (by decide) (k8 172 rfl rfl) rfl ?_
  refine ab_topi (fun x23 ex23 => ?_)
  replace hG := bnd_s ex23 hG
  refine ab_if_ne (tgt := 156) d_MText_reads_149 (by decide) (fun q24 => ?_) (fun q24 => ?_)
  · rw [if_neg q24] at hG
    exact ab_vret d_MText_reads_156 rfl (Nat.le_refl _) (Nat.le_refl _) (by have hr := Option.some.inj hG; subst hr; exact ⟨rfl, rfl⟩)
  · rw [if_pos q24] at hG
    refine ab_aload_n d_MText_reads_152 rfl rfl rfl ?_
    obtain ⟨v26, H27, z25, hF⟩ := bC_s hG; clear hG
    refine hp_callV_v (H1 := H27) (As := []) (rest := []) d_MText_reads_153 (k_MText_groupsThem z25) (ab_mkC s_MText_groupsThem (Nat.le_of_ble_eq_true rfl) (Nat.le_of_ble_eq_true rfl) (Nat.le_refl 0) (Nat.le_refl 0)) (k11 137 rfl rfl) i_MText_groupsThem v_MText_groupsThem q22 (by decide) rfl rfl (Nat.le_of_ble_eq_true rfl) ?_
    have s_11 : Sa H H27 := (m_MText_groupsThem z25)
    exact ab_vret d_MText_reads_156 rfl (Nat.le_refl _) (Nat.le_refl _) (by have hr := Option.some.inj hF; subst hr; exact ⟨rfl, rfl⟩)
def B_MText_reads_142 (N : Nat) (p0 : Nat) (p1 : Nat) (p2 : Int32) (kq53 : Hp → Option (Unit × Hp))  (H : Hp) : Option (Unit × Hp) :=
    kq53  H
set_option maxRecDepth 20000 in
set_option maxHeartbeats 2000000 in
theorem mB_MText_reads_142 {N : Nat} {p0 : Nat} {p1 : Nat} {p2 : Int32} {kq53 : Hp → Option (Unit × Hp)} (hm53 : ∀  (H : Hp) (r : Unit × Hp), kq53  H = some r → Sa H r.2)  {H : Hp} {r : Unit × Hp} (hF : B_MText_reads_142 N p0 p1 p2 kq53  H = some r) : Sa H r.2 := by
  unfold B_MText_reads_142 at hF
  have hm := Sa.rf H
  exact hm.tr (hm53  H r hF)
set_option maxRecDepth 20000 in
set_option maxHeartbeats 2000000 in
theorem kB_MText_reads_142 {N : Nat} {p0 : Nat} {p1 : Nat} {p2 : Int32} {kq53 : Hp → Option (Unit × Hp)} (hm53 : ∀  (H : Hp) (r : Unit × Hp), kq53  H = some r → Sa H r.2) (hk53 : ∀  (H : Hp) (r : Unit × Hp), kq53  H = some r → ab_V y_MText_reads { frames := 356, cells := 0, slots := 0, locals := 8055 } (po (.returned none) r.2) 0 0 0 0 53 [some (.ref p0), some (.ref p1), some (.int p2), none] [] (hpw H))  {H : Hp} {r : Unit × Hp} (hF : B_MText_reads_142 N p0 p1 p2 kq53  H = some r) : ab_V y_MText_reads { frames := 356, cells := 0, slots := 0, locals := 8055 } (po (.returned none) r.2) 0 0 0 0 142 [some (.ref p0), some (.ref p1), some (.int p2), none] [] (hpw H) := by
  unfold B_MText_reads_142 at hF
  refine ab_goto (tgt := 53) d_MText_reads_142 (by decide) ?_
  exact hk53  H r hF
def B_MText_reads_53 (N : Nat) (p0 : Nat) (p1 : Nat) (p2 : Int32) : Nat → Hp → Option (Unit × Hp)
  | 0, _ => none
  | n + 1, H =>
    ck (H.sh[p0]? = some (14, 0)) <|
    bnd ((H.D p0 9)) fun x20 =>
    if x20 = (0 : Int32) then
    rf (H.P p0 3) fun a34 =>
    bnd ((H.D p0 11)) fun x36 =>
    ar H 100 a34 fun n37 =>
    ck (inb x36 n37) <|
    bnd ((H.D a34 (x36).toNatClampNeg)) fun x40 =>
    if x40 = (0 : Int32) then
    B_MText_reads_145 N p0 p1 p2  H
    else
    rf (H.P p0 3) fun a42 =>
    bnd ((H.D p0 11)) fun x44 =>
    ar H 100 a42 fun n45 =>
    ck (inb x44 n45) <|
    bnd ((H.D a42 (x44).toNatClampNeg)) fun x48 =>
    bnd ((x48 - (200 : Int32))) fun x49 =>
    if x49 = (0 : Int32) then
    bC (F_MText_component N p0 H) fun v68 H69 =>
    B_MText_reads_142 N p0 p1 p2 (fun  H => B_MText_reads_53 N p0 p1 p2 n  H)  H69
    else
    if x49 = (1 : Int32) then
    bC (F_MText_event N p0 H) fun v65 H66 =>
    B_MText_reads_142 N p0 p1 p2 (fun  H => B_MText_reads_53 N p0 p1 p2 n  H)  H66
    else
    if x49 = (2 : Int32) then
    bC (F_MText_prefab N p0 H) fun v62 H63 =>
    B_MText_reads_142 N p0 p1 p2 (fun  H => B_MText_reads_53 N p0 p1 p2 n  H)  H63
    else
    if x49 = (3 : Int32) then
    bC (F_MText_system N p0 H) fun v59 H60 =>
    B_MText_reads_142 N p0 p1 p2 (fun  H => B_MText_reads_53 N p0 p1 p2 n  H)  H60
    else
    bnd ((H.D p0 11)) fun x54 =>
    bC (F_MText_fails N p0 (1 : Int32) x54 H) fun v56 H57 =>
    B_MText_reads_142 N p0 p1 p2 (fun  H => B_MText_reads_53 N p0 p1 p2 n  H)  H57
    else
    B_MText_reads_145 N p0 p1 p2  H
termination_by structural n => n
set_option maxRecDepth 20000 in
set_option maxHeartbeats 2000000 in
theorem mB_MText_reads_53 {N : Nat} {p0 : Nat} {p1 : Nat} {p2 : Int32} : ∀ (n : Nat)  (H : Hp) (r : Unit × Hp), B_MText_reads_53 N p0 p1 p2 n  H = some r → Sa H r.2 := by
  intro n
  induction n with
  | zero => intro  H r hF; rw [B_MText_reads_53] at hF; cases hF
  | succ n ih =>
    intro  H r hF
    rw [B_MText_reads_53] at hF
    have hm := Sa.rf H
    obtain ⟨q70, hG⟩ := ck_s hF; clear hF
    obtain ⟨x71, -, hF⟩ := bnd_g hG; clear hG
    rcases ite_s hF with ⟨q_19, hG⟩ | ⟨q_19, hG⟩
    · clear hF
      obtain ⟨a73, e74, hF⟩ := rf_s hG; clear hG
      obtain ⟨x75, -, hG⟩ := bnd_g hF; clear hF
      obtain ⟨n76, q77, hF⟩ := ar_s hG; clear hG
      obtain ⟨q78, hG⟩ := ck_s hF; clear hF
      obtain ⟨x79, -, hF⟩ := bnd_g hG; clear hG
      rcases ite_s hF with ⟨q_20, hG⟩ | ⟨q_20, hG⟩
      · clear hF
        exact hm.tr (mB_MText_reads_145 hG)
      · clear hF
        obtain ⟨a81, e82, hF⟩ := rf_s hG; clear hG
        obtain ⟨x83, -, hG⟩ := bnd_g hF; clear hF
        obtain ⟨n84, q85, hF⟩ := ar_s hG; clear hG
        obtain ⟨q86, hG⟩ := ck_s hF; clear hF
        obtain ⟨x87, -, hF⟩ := bnd_g hG; clear hG
        obtain ⟨x88, -, hG⟩ := bnd_g hF; clear hF
        rcases ite_s hG with ⟨q_21, hF⟩ | ⟨q_21, hF⟩
        · clear hG
          obtain ⟨v91, H92, z90, hG⟩ := bC_s hF; clear hF
          replace hm : Sa H H92 := hm.tr (m_MText_component z90)
          exact hm.tr (mB_MText_reads_142 ih hG)
        · clear hG
          rcases ite_s hF with ⟨q_23, hG⟩ | ⟨q_23, hG⟩
          · clear hF
            obtain ⟨v95, H96, z94, hF⟩ := bC_s hG; clear hG
            replace hm : Sa H H96 := hm.tr (m_MText_event z94)
            exact hm.tr (mB_MText_reads_142 ih hF)
          · clear hF
            rcases ite_s hG with ⟨q_25, hF⟩ | ⟨q_25, hF⟩
            · clear hG
              obtain ⟨v99, H100, z98, hG⟩ := bC_s hF; clear hF
              replace hm : Sa H H100 := hm.tr (m_MText_prefab z98)
              exact hm.tr (mB_MText_reads_142 ih hG)
            · clear hG
              rcases ite_s hF with ⟨q_27, hG⟩ | ⟨q_27, hG⟩
              · clear hF
                obtain ⟨v103, H104, z102, hF⟩ := bC_s hG; clear hG
                replace hm : Sa H H104 := hm.tr (m_MText_system z102)
                exact hm.tr (mB_MText_reads_142 ih hF)
              · clear hF
                obtain ⟨x105, -, hF⟩ := bnd_g hG; clear hG
                obtain ⟨v107, H108, z106, hG⟩ := bC_s hF; clear hF
                replace hm : Sa H H108 := hm.tr (m_MText_fails z106)
                exact hm.tr (mB_MText_reads_142 ih hG)
    · clear hF
      exact hm.tr (mB_MText_reads_145 hG)
set_option maxRecDepth 20000 in
set_option maxHeartbeats 2000000 in
theorem kB_MText_reads_53 {N : Nat} {p0 : Nat} {p1 : Nat} {p2 : Int32} : ∀ (n : Nat)  (H : Hp) (r : Unit × Hp), B_MText_reads_53 N p0 p1 p2 n  H = some r → ab_V y_MText_reads { frames := 356, cells := 0, slots := 0, locals := 8055 } (po (.returned none) r.2) 0 0 0 0 53 [some (.ref p0), some (.ref p1), some (.int p2), none] [] (hpw H) := by
  intro n
  induction n with
  | zero => intro  H r hF; rw [B_MText_reads_53] at hF; cases hF
  | succ n ih =>
    intro  H r hF
    rw [B_MText_reads_53] at hF
    refine ab_aload_n d_MText_reads_53 rfl rfl rfl ?_
    obtain ⟨q19, hG⟩ := ck_s hF; clear hF
    refine hp_getI (f := 9) d_MText_reads_54 q19 (by decide) rfl (by decide) (k8 172 rfl rfl) rfl ?_
    refine ab_topi (fun x20 ex20 => ?_)
    replace hG := bnd_s ex20 hG
    refine ab_if_ne (tgt := 145) d_MText_reads_57 (by decide) (fun q21 => ?_) (fun q21 => ?_)
    · rw [if_neg q21] at hG
      exact kB_MText_reads_145 hG
    · rw [if_pos q21] at hG
      refine ab_aload_n d_MText_reads_60 rfl rfl rfl ?_
      obtain ⟨a34, e35, hF⟩ := rf_s hG; clear hG
      refine hp_getR (f := 3) d_MText_reads_61 q19 (by decide) rfl (by decide) (k8 162 rfl rfl) rfl e35 ?_
      refine ab_aload_n d_MText_reads_64 rfl rfl rfl ?_
      refine hp_getI (f := 11) d_MText_reads_65 q19 (by decide) rfl (by decide) (k8 175 rfl rfl) rfl ?_
      refine ab_topi (fun x36 ex36 => ?_)
      replace hF := bnd_s ex36 hF
      obtain ⟨n37, q38, hG⟩ := ar_s hF; clear hF
      obtain ⟨q39, hF⟩ := ck_s hG; clear hG
      refine hp_iald d_MText_reads_68 tI q38 q39 ?_
      refine ab_topi (fun x40 ex40 => ?_)
      replace hF := bnd_s ex40 hF
      refine ab_if_eq (tgt := 145) d_MText_reads_69 (by decide) (fun q41 => ?_) (fun q41 => ?_)
      · rw [if_pos q41] at hF
        exact kB_MText_reads_145 hF
      · rw [if_neg q41] at hF
        refine ab_aload_n d_MText_reads_72 rfl rfl rfl ?_
        obtain ⟨a42, e43, hG⟩ := rf_s hF; clear hF
        refine hp_getR (f := 3) d_MText_reads_73 q19 (by decide) rfl (by decide) (k8 162 rfl rfl) rfl e43 ?_
        refine ab_aload_n d_MText_reads_76 rfl rfl rfl ?_
        refine hp_getI (f := 11) d_MText_reads_77 q19 (by decide) rfl (by decide) (k8 175 rfl rfl) rfl ?_
        refine ab_topi (fun x44 ex44 => ?_)
        replace hG := bnd_s ex44 hG
        obtain ⟨n45, q46, hF⟩ := ar_s hG; clear hG
        obtain ⟨q47, hG⟩ := ck_s hF; clear hF
        refine hp_iald d_MText_reads_80 tI q46 q47 ?_
        refine ab_topi (fun x48 ex48 => ?_)
        replace hG := bnd_s ex48 hG
        refine ab_sipush (v := 200) d_MText_reads_81 (by decide) ?_
        refine ab_isub d_MText_reads_84 ?_
        refine ab_topi (fun x49 ex49 => ?_)
        replace hG := bnd_s ex49 hG
        refine ab_istore_n (lv' := [some (.ref p0), some (.ref p1), some (.int p2), some (.int x49)]) d_MText_reads_85 rfl (by decide) rfl ?_
        refine ab_iload_n d_MText_reads_86 rfl rfl ?_
        refine ab_if_ne (tgt := 97) d_MText_reads_87 (by decide) (fun q50 => ?_) (fun q50 => ?_)
        · rw [if_neg q50] at hG
          refine ab_iload_n d_MText_reads_97 rfl rfl ?_
          refine ab_iconst (v := 1) d_MText_reads_98 (by decide) ?_
          refine ab_icmp_ne (tgt := 109) d_MText_reads_99 (by decide) (fun q51 => ?_) (fun q51 => ?_)
          · rw [if_neg q51] at hG
            refine ab_iload_n d_MText_reads_109 rfl rfl ?_
            refine ab_iconst (v := 2) d_MText_reads_110 (by decide) ?_
            refine ab_icmp_ne (tgt := 121) d_MText_reads_111 (by decide) (fun q52 => ?_) (fun q52 => ?_)
            · rw [if_neg q52] at hG
              refine ab_iload_n d_MText_reads_121 rfl rfl ?_
              refine ab_iconst (v := 3) d_MText_reads_122 (by decide) ?_
              refine ab_icmp_ne (tgt := 133) d_MText_reads_123 (by decide) (fun q53 => ?_) (fun q53 => ?_)
              · rw [if_neg q53] at hG
                refine ab_aload_n d_MText_reads_133 rfl rfl rfl ?_
                refine ab_iconst (v := 1) d_MText_reads_134 (by decide) ?_
                refine ab_aload_n d_MText_reads_135 rfl rfl rfl ?_
                refine hp_getI (f := 11) d_MText_reads_136 q19 (by decide) rfl (by decide) (k8 175 rfl rfl) rfl ?_
                refine ab_topi (fun x54 ex54 => ?_)
                replace hG := bnd_s ex54 hG
                obtain ⟨v56, H57, z55, hF⟩ := bC_s hG; clear hG
                refine hp_callV_v (H1 := H57) (As := [.int 1, .int x54]) (rest := []) d_MText_reads_139 (k_MText_fails z55) (ab_mkC s_MText_fails (Nat.le_of_ble_eq_true rfl) (Nat.le_of_ble_eq_true rfl) (Nat.le_refl 0) (Nat.le_refl 0)) (k10 160 rfl rfl) i_MText_fails v_MText_fails q19 (by decide) rfl rfl (Nat.le_of_ble_eq_true rfl) ?_
                have s_14 : Sa H H57 := (m_MText_fails z55)
                refine ab_le (lv' := [some (.ref p0), some (.ref p1), some (.int p2), none]) ⟨rfl, ⟨rfl, ⟨rfl, trivial⟩⟩⟩ ?_
                exact kB_MText_reads_142 (mB_MText_reads_53 n) ih hF
              · rw [if_pos q53] at hG
                refine ab_aload_n d_MText_reads_126 rfl rfl rfl ?_
                obtain ⟨v59, H60, z58, hF⟩ := bC_s hG; clear hG
                refine hp_callV_v (H1 := H60) (As := []) (rest := []) d_MText_reads_127 (k_MText_system z58) (ab_mkC s_MText_system (Nat.le_of_ble_eq_true rfl) (Nat.le_of_ble_eq_true rfl) (Nat.le_refl 0) (Nat.le_refl 0)) (k11 11 rfl rfl) i_MText_system v_MText_system q19 (by decide) rfl rfl (Nat.le_of_ble_eq_true rfl) ?_
                have s_15 : Sa H H60 := (m_MText_system z58)
                refine ab_goto (tgt := 142) d_MText_reads_130 (by decide) ?_
                refine ab_le (lv' := [some (.ref p0), some (.ref p1), some (.int p2), none]) ⟨rfl, ⟨rfl, ⟨rfl, trivial⟩⟩⟩ ?_
                exact kB_MText_reads_142 (mB_MText_reads_53 n) ih hF
            · rw [if_pos q52] at hG
              refine ab_aload_n d_MText_reads_114 rfl rfl rfl ?_
              obtain ⟨v62, H63, z61, hF⟩ := bC_s hG; clear hG
              refine hp_callV_v (H1 := H63) (As := []) (rest := []) d_MText_reads_115 (k_MText_prefab z61) (ab_mkC s_MText_prefab (Nat.le_of_ble_eq_true rfl) (Nat.le_of_ble_eq_true rfl) (Nat.le_refl 0) (Nat.le_refl 0)) (k10 212 rfl rfl) i_MText_prefab v_MText_prefab q19 (by decide) rfl rfl (Nat.le_of_ble_eq_true rfl) ?_
              have s_16 : Sa H H63 := (m_MText_prefab z61)
              refine ab_goto (tgt := 142) d_MText_reads_118 (by decide) ?_
              refine ab_le (lv' := [some (.ref p0), some (.ref p1), some (.int p2), none]) ⟨rfl, ⟨rfl, ⟨rfl, trivial⟩⟩⟩ ?_
              exact kB_MText_reads_142 (mB_MText_reads_53 n) ih hF
          · rw [if_pos q51] at hG
            refine ab_aload_n d_MText_reads_102 rfl rfl rfl ?_
            obtain ⟨v65, H66, z64, hF⟩ := bC_s hG; clear hG
            refine hp_callV_v (H1 := H66) (As := []) (rest := []) d_MText_reads_103 (k_MText_event z64) (ab_mkC s_MText_event (Nat.le_of_ble_eq_true rfl) (Nat.le_of_ble_eq_true rfl) (Nat.le_refl 0) (Nat.le_refl 0)) (k10 204 rfl rfl) i_MText_event v_MText_event q19 (by decide) rfl rfl (Nat.le_of_ble_eq_true rfl) ?_
            have s_17 : Sa H H66 := (m_MText_event z64)
            refine ab_goto (tgt := 142) d_MText_reads_106 (by decide) ?_
            refine ab_le (lv' := [some (.ref p0), some (.ref p1), some (.int p2), none]) ⟨rfl, ⟨rfl, ⟨rfl, trivial⟩⟩⟩ ?_
            exact kB_MText_reads_142 (mB_MText_reads_53 n) ih hF
        · rw [if_pos q50] at hG
          refine ab_aload_n d_MText_reads_90 rfl rfl rfl ?_
          obtain ⟨v68, H69, z67, hF⟩ := bC_s hG; clear hG
          refine hp_callV_v (H1 := H69) (As := []) (rest := []) d_MText_reads_91 (k_MText_component z67) (ab_mkC s_MText_component (Nat.le_of_ble_eq_true rfl) (Nat.le_of_ble_eq_true rfl) (Nat.le_refl 0) (Nat.le_refl 0)) (k10 152 rfl rfl) i_MText_component v_MText_component q19 (by decide) rfl rfl (Nat.le_of_ble_eq_true rfl) ?_
          have s_18 : Sa H H69 := (m_MText_component z67)
          refine ab_goto (tgt := 142) d_MText_reads_94 (by decide) ?_
          refine ab_le (lv' := [some (.ref p0), some (.ref p1), some (.int p2), none]) ⟨rfl, ⟨rfl, ⟨rfl, trivial⟩⟩⟩ ?_
          exact kB_MText_reads_142 (mB_MText_reads_53 n) ih hF
def F_MText_reads (N : Nat) (p0 : Nat) (p1 : Nat) (p2 : Int32) (H : Hp) : Option (Unit × Hp) :=
    ck (H.sh[p0]? = some (14, 0)) <|
    bC (F_MText_scans N p0 p1 p2 H) fun v3 H4 =>
    bnd (H4.sD p0 9 (0 : Int32)) fun H5 =>
    bnd (H5.sD p0 10 (0 : Int32)) fun H6 =>
    bnd (H6.sD p0 11 (0 : Int32)) fun H7 =>
    bnd (H7.sD p0 12 (0 : Int32)) fun H8 =>
    bnd (H8.sD p0 16 (0 : Int32)) fun H9 =>
    rf (H9.P p0 18) fun a10 =>
    ar H9 100 a10 fun n12 =>
    ck (inb (0 : Int32) n12) <|
    bnd (H9.sD a10 ((0 : Int32)).toNatClampNeg (0 : Int32)) fun H15 =>
    bnd (H15.sD p0 21 (0 : Int32)) fun H16 =>
    bnd (H16.sD p0 26 (0 : Int32)) fun H17 =>
    bnd (H17.sD p0 29 (0 : Int32)) fun H18 =>
    B_MText_reads_53 N p0 p1 p2 N  H18
set_option maxRecDepth 20000 in
set_option maxHeartbeats 2000000 in
theorem m_MText_reads {N : Nat} {p0 : Nat} {p1 : Nat} {p2 : Int32} {H : Hp} {r : Unit × Hp} (hF : F_MText_reads N p0 p1 p2 H = some r) : Sa H r.2 := by
  unfold F_MText_reads at hF
  have hm := Sa.rf H
  obtain ⟨q109, hG⟩ := ck_s hF; clear hF
  obtain ⟨v111, H112, z110, hF⟩ := bC_s hG; clear hG
  replace hm : Sa H H112 := hm.tr (m_MText_scans z110)
  obtain ⟨H113, eH113, hG⟩ := bnd_g hF; clear hF
  replace hm : Sa H H113 := by rw [eH113]; exact hm
  obtain ⟨H114, eH114, hF⟩ := bnd_g hG; clear hG
  replace hm : Sa H H114 := by rw [eH114]; exact hm
  obtain ⟨H115, eH115, hG⟩ := bnd_g hF; clear hF
  replace hm : Sa H H115 := by rw [eH115]; exact hm
  obtain ⟨H116, eH116, hF⟩ := bnd_g hG; clear hG
  replace hm : Sa H H116 := by rw [eH116]; exact hm
  obtain ⟨H117, eH117, hG⟩ := bnd_g hF; clear hF
  replace hm : Sa H H117 := by rw [eH117]; exact hm
  obtain ⟨a118, e119, hF⟩ := rf_s hG; clear hG
  obtain ⟨n120, q121, hG⟩ := ar_s hF; clear hF
  obtain ⟨q122, hF⟩ := ck_s hG; clear hG
  obtain ⟨H123, eH123, hG⟩ := bnd_g hF; clear hF
  replace hm : Sa H H123 := by rw [eH123]; exact hm
  obtain ⟨H124, eH124, hF⟩ := bnd_g hG; clear hG
  replace hm : Sa H H124 := by rw [eH124]; exact hm
  obtain ⟨H125, eH125, hG⟩ := bnd_g hF; clear hF
  replace hm : Sa H H125 := by rw [eH125]; exact hm
  obtain ⟨H126, eH126, hF⟩ := bnd_g hG; clear hG
  replace hm : Sa H H126 := by rw [eH126]; exact hm
  exact hm.tr (mB_MText_reads_53 N  H126 r hF)
set_option maxRecDepth 20000 in
set_option maxHeartbeats 2000000 in
theorem k_MText_reads {N : Nat} {p0 : Nat} {p1 : Nat} {p2 : Int32} {H : Hp} {r : Unit × Hp} (hF : F_MText_reads N p0 p1 p2 H = some r) : ab_M y_MText_reads { frames := 356, cells := 0, slots := 0, locals := 8055 } [.ref p0, .ref p1, .int p2] (hpw H) (po (.returned none) r.2) := by
  unfold F_MText_reads at hF
  refine ab_of2 (lv := [some (.ref p0), some (.ref p1), some (.int p2), none]) 1 rfl rfl (Nat.le_of_ble_eq_true rfl) ?_
  refine ab_aload_n d_MText_reads_0 rfl rfl rfl ?_
  refine ab_aload_n d_MText_reads_1 rfl rfl rfl ?_
  refine ab_iload_n d_MText_reads_2 rfl rfl ?_
  obtain ⟨q1, hG⟩ := ck_s hF; clear hF
  obtain ⟨v3, H4, z2, hF⟩ := bC_s hG; clear hG
  refine hp_callV_v (H1 := H4) (As := [.ref p1, .int p2]) (rest := []) d_MText_reads_3 (k_MText_scans z2) (ab_mkC s_MText_scans (Nat.le_of_ble_eq_true rfl) (Nat.le_of_ble_eq_true rfl) (Nat.le_refl 0) (Nat.le_refl 0)) (k10 108 rfl rfl) i_MText_scans v_MText_scans q1 (by decide) rfl rfl (Nat.le_of_ble_eq_true rfl) ?_
  have s_1 : Sa H H4 := (m_MText_scans z2)
  refine ab_aload_n d_MText_reads_6 rfl rfl rfl ?_
  refine ab_iconst (v := 0) d_MText_reads_7 (by decide) ?_
  refine hp_putI (v := 0) (f := 9) d_MText_reads_8 (by rw [(s_1).1]; exact q1) (by decide) rfl (by decide) (k8 172 rfl rfl) rfl rfl (fun _ => rfl) (fun _ => rfl) rfl ?_
  refine hp_gen (fun H5 eH5 => ?_)
  replace hF := bnd_s eH5 hF
  have s_2 : Sa H H5 := by rw [eH5]; exact s_1
  refine ab_aload_n d_MText_reads_11 rfl rfl rfl ?_
  refine ab_iconst (v := 0) d_MText_reads_12 (by decide) ?_
  refine hp_putI (v := 0) (f := 10) d_MText_reads_13 (by rw [(s_2).1]; exact q1) (by decide) rfl (by decide) (k8 174 rfl rfl) rfl rfl (fun _ => rfl) (fun _ => rfl) rfl ?_
  refine hp_gen (fun H6 eH6 => ?_)
  replace hF := bnd_s eH6 hF
  have s_3 : Sa H H6 := by rw [eH6]; exact s_2
  refine ab_aload_n d_MText_reads_16 rfl rfl rfl ?_
  refine ab_iconst (v := 0) d_MText_reads_17 (by decide) ?_
  refine hp_putI (v := 0) (f := 11) d_MText_reads_18 (by rw [(s_3).1]; exact q1) (by decide) rfl (by decide) (k8 175 rfl rfl) rfl rfl (fun _ => rfl) (fun _ => rfl) rfl ?_
  refine hp_gen (fun H7 eH7 => ?_)
  replace hF := bnd_s eH7 hF
  have s_4 : Sa H H7 := by rw [eH7]; exact s_3
  refine ab_aload_n d_MText_reads_21 rfl rfl rfl ?_
  refine ab_iconst (v := 0) d_MText_reads_22 (by decide) ?_
  refine hp_putI (v := 0) (f := 12) d_MText_reads_23 (by rw [(s_4).1]; exact q1) (by decide) rfl (by decide) (k8 176 rfl rfl) rfl rfl (fun _ => rfl) (fun _ => rfl) rfl ?_
  refine hp_gen (fun H8 eH8 => ?_)
  replace hF := bnd_s eH8 hF
  have s_5 : Sa H H8 := by rw [eH8]; exact s_4
  refine ab_aload_n d_MText_reads_26 rfl rfl rfl ?_
  refine ab_iconst (v := 0) d_MText_reads_27 (by decide) ?_
  refine hp_putI (v := 0) (f := 16) d_MText_reads_28 (by rw [(s_5).1]; exact q1) (by decide) rfl (by decide) (k8 181 rfl rfl) rfl rfl (fun _ => rfl) (fun _ => rfl) rfl ?_
  refine hp_gen (fun H9 eH9 => ?_)
  replace hF := bnd_s eH9 hF
  have s_6 : Sa H H9 := by rw [eH9]; exact s_5
  refine ab_aload_n d_MText_reads_31 rfl rfl rfl ?_
  obtain ⟨a10, e11, hG⟩ := rf_s hF; clear hF
  refine hp_getR (f := 18) d_MText_reads_32 (by rw [(s_6).1]; exact q1) (by decide) rfl (by decide) (k8 184 rfl rfl) rfl e11 ?_
  refine ab_iconst (v := 0) d_MText_reads_35 (by decide) ?_
  refine ab_iconst (v := 0) d_MText_reads_36 (by decide) ?_
  obtain ⟨n12, q13, hF⟩ := ar_s hG; clear hG
  rw [(s_6).1] at q13
  obtain ⟨q14, hG⟩ := ck_s hF; clear hF
  refine hp_iast d_MText_reads_37 tI (by rw [(s_6).1]; exact q13) q14 ?_
  refine hp_gen (fun H15 eH15 => ?_)
  replace hG := bnd_s eH15 hG
  have s_7 : Sa H H15 := by rw [eH15]; exact s_6
  refine ab_aload_n d_MText_reads_38 rfl rfl rfl ?_
  refine ab_iconst (v := 0) d_MText_reads_39 (by decide) ?_
  refine hp_putI (v := 0) (f := 21) d_MText_reads_40 (by rw [(s_7).1]; exact q1) (by decide) rfl (by decide) (k8 194 rfl rfl) rfl rfl (fun _ => rfl) (fun _ => rfl) rfl ?_
  refine hp_gen (fun H16 eH16 => ?_)
  replace hG := bnd_s eH16 hG
  have s_8 : Sa H H16 := by rw [eH16]; exact s_7
  refine ab_aload_n d_MText_reads_43 rfl rfl rfl ?_
  refine ab_iconst (v := 0) d_MText_reads_44 (by decide) ?_
  refine hp_putI (v := 0) (f := 26) d_MText_reads_45 (by rw [(s_8).1]; exact q1) (by decide) rfl (by decide) (k8 205 rfl rfl) rfl rfl (fun _ => rfl) (fun _ => rfl) rfl ?_
  refine hp_gen (fun H17 eH17 => ?_)
  replace hG := bnd_s eH17 hG
  have s_9 : Sa H H17 := by rw [eH17]; exact s_8
  refine ab_aload_n d_MText_reads_48 rfl rfl rfl ?_
  refine ab_iconst (v := 0) d_MText_reads_49 (by decide) ?_
  refine hp_putI (v := 0) (f := 29) d_MText_reads_50 (by rw [(s_9).1]; exact q1) (by decide) rfl (by decide) (k8 213 rfl rfl) rfl rfl (fun _ => rfl) (fun _ => rfl) rfl ?_
  refine hp_gen (fun H18 eH18 => ?_)
  replace hG := bnd_s eH18 hG
  have s_10 : Sa H H18 := by rw [eH18]; exact s_9
  exact kB_MText_reads_53 N  H18 r hG
