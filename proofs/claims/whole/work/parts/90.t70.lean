def y_M_step : ab_Y := (⟨"WorldEngineModel", "step", "()I"⟩, prog_14_method_22_code, 2, (some FieldType.int), [])
theorem d_M_step_0 : decode y_M_step.2.1 0 = .ok (.aload_n 0, 1) := by decide +kernel
theorem d_M_step_1 : decode y_M_step.2.1 1 = .ok (.iconst 0, 1) := by decide +kernel
theorem d_M_step_2 : decode y_M_step.2.1 2 = .ok (.putfield 83, 3) := by decide +kernel
theorem d_M_step_5 : decode y_M_step.2.1 5 = .ok (.aload_n 0, 1) := by decide +kernel
theorem d_M_step_6 : decode y_M_step.2.1 6 = .ok (.getfield 37, 3) := by decide +kernel
theorem d_M_step_9 : decode y_M_step.2.1 9 = .ok (.getfield 145, 3) := by decide +kernel
theorem d_M_step_12 : decode y_M_step.2.1 12 = .ok (.aload_n 0, 1) := by decide +kernel
theorem d_M_step_13 : decode y_M_step.2.1 13 = .ok (.getfield 33, 3) := by decide +kernel
theorem d_M_step_16 : decode y_M_step.2.1 16 = .ok (.getfield 145, 3) := by decide +kernel
theorem d_M_step_19 : decode y_M_step.2.1 19 = .ok (.isub, 1) := by decide +kernel
theorem d_M_step_20 : decode y_M_step.2.1 20 = .ok (.bipush 16, 2) := by decide +kernel
theorem d_M_step_22 : decode y_M_step.2.1 22 = .ok (.if_icmp .ne 5, 3) := by decide +kernel
theorem d_M_step_25 : decode y_M_step.2.1 25 = .ok (.iconst (-1), 1) := by decide +kernel
theorem d_M_step_26 : decode y_M_step.2.1 26 = .ok (.ireturn, 1) := by decide +kernel
theorem d_M_step_27 : decode y_M_step.2.1 27 = .ok (.aload_n 0, 1) := by decide +kernel
theorem d_M_step_28 : decode y_M_step.2.1 28 = .ok (.iconst 0, 1) := by decide +kernel
theorem d_M_step_29 : decode y_M_step.2.1 29 = .ok (.invokevirtual 247, 3) := by decide +kernel
theorem d_M_step_32 : decode y_M_step.2.1 32 = .ok (.ifCond .ne 6, 3) := by decide +kernel
theorem d_M_step_35 : decode y_M_step.2.1 35 = .ok (.bipush (-2), 2) := by decide +kernel
theorem d_M_step_37 : decode y_M_step.2.1 37 = .ok (.ireturn, 1) := by decide +kernel
theorem d_M_step_38 : decode y_M_step.2.1 38 = .ok (.aload_n 0, 1) := by decide +kernel
theorem d_M_step_39 : decode y_M_step.2.1 39 = .ok (.getfield 113, 3) := by decide +kernel
theorem d_M_step_42 : decode y_M_step.2.1 42 = .ok (.ifCond .ne 6, 3) := by decide +kernel
theorem d_M_step_45 : decode y_M_step.2.1 45 = .ok (.bipush (-3), 2) := by decide +kernel
theorem d_M_step_47 : decode y_M_step.2.1 47 = .ok (.ireturn, 1) := by decide +kernel
theorem d_M_step_48 : decode y_M_step.2.1 48 = .ok (.aload_n 0, 1) := by decide +kernel
theorem d_M_step_49 : decode y_M_step.2.1 49 = .ok (.getfield 37, 3) := by decide +kernel
theorem d_M_step_52 : decode y_M_step.2.1 52 = .ok (.getfield 145, 3) := by decide +kernel
theorem d_M_step_55 : decode y_M_step.2.1 55 = .ok (.ldc 251, 2) := by decide +kernel
theorem d_M_step_57 : decode y_M_step.2.1 57 = .ok (.if_icmp .ne 6, 3) := by decide +kernel
theorem d_M_step_60 : decode y_M_step.2.1 60 = .ok (.bipush (-4), 2) := by decide +kernel
theorem d_M_step_62 : decode y_M_step.2.1 62 = .ok (.ireturn, 1) := by decide +kernel
theorem d_M_step_63 : decode y_M_step.2.1 63 = .ok (.aload_n 0, 1) := by decide +kernel
theorem d_M_step_64 : decode y_M_step.2.1 64 = .ok (.getfield 61, 3) := by decide +kernel
theorem d_M_step_67 : decode y_M_step.2.1 67 = .ok (.aload_n 0, 1) := by decide +kernel
theorem d_M_step_68 : decode y_M_step.2.1 68 = .ok (.getfield 37, 3) := by decide +kernel
theorem d_M_step_71 : decode y_M_step.2.1 71 = .ok (.getfield 145, 3) := by decide +kernel
theorem d_M_step_74 : decode y_M_step.2.1 74 = .ok (.iconst 1, 1) := by decide +kernel
theorem d_M_step_75 : decode y_M_step.2.1 75 = .ok (.iadd, 1) := by decide +kernel
theorem d_M_step_76 : decode y_M_step.2.1 76 = .ok (.bipush 63, 2) := by decide +kernel
theorem d_M_step_78 : decode y_M_step.2.1 78 = .ok (.iand, 1) := by decide +kernel
theorem d_M_step_79 : decode y_M_step.2.1 79 = .ok (.aload_n 0, 1) := by decide +kernel
theorem d_M_step_80 : decode y_M_step.2.1 80 = .ok (.getfield 50, 3) := by decide +kernel
theorem d_M_step_83 : decode y_M_step.2.1 83 = .ok (.iastore, 1) := by decide +kernel
theorem d_M_step_84 : decode y_M_step.2.1 84 = .ok (.aload_n 0, 1) := by decide +kernel
theorem d_M_step_85 : decode y_M_step.2.1 85 = .ok (.aload_n 0, 1) := by decide +kernel
theorem d_M_step_86 : decode y_M_step.2.1 86 = .ok (.getfield 37, 3) := by decide +kernel
theorem d_M_step_89 : decode y_M_step.2.1 89 = .ok (.invokevirtual 238, 3) := by decide +kernel
theorem d_M_step_92 : decode y_M_step.2.1 92 = .ok (.iconst 0, 1) := by decide +kernel
theorem d_M_step_93 : decode y_M_step.2.1 93 = .ok (.istore_n 1, 1) := by decide +kernel
theorem d_M_step_94 : decode y_M_step.2.1 94 = .ok (.iload_n 1, 1) := by decide +kernel
theorem d_M_step_95 : decode y_M_step.2.1 95 = .ok (.bipush 8, 2) := by decide +kernel
theorem d_M_step_97 : decode y_M_step.2.1 97 = .ok (.if_icmp .ge 45, 3) := by decide +kernel
theorem d_M_step_100 : decode y_M_step.2.1 100 = .ok (.aload_n 0, 1) := by decide +kernel
theorem d_M_step_101 : decode y_M_step.2.1 101 = .ok (.getfield 77, 3) := by decide +kernel
theorem d_M_step_104 : decode y_M_step.2.1 104 = .ok (.iload_n 1, 1) := by decide +kernel
theorem d_M_step_105 : decode y_M_step.2.1 105 = .ok (.aload_n 0, 1) := by decide +kernel
theorem d_M_step_106 : decode y_M_step.2.1 106 = .ok (.getfield 77, 3) := by decide +kernel
theorem d_M_step_109 : decode y_M_step.2.1 109 = .ok (.iload_n 1, 1) := by decide +kernel
theorem d_M_step_110 : decode y_M_step.2.1 110 = .ok (.baload, 1) := by decide +kernel
theorem d_M_step_111 : decode y_M_step.2.1 111 = .ok (.ifCond .eq 16, 3) := by decide +kernel
theorem d_M_step_114 : decode y_M_step.2.1 114 = .ok (.aload_n 0, 1) := by decide +kernel
theorem d_M_step_115 : decode y_M_step.2.1 115 = .ok (.getfield 80, 3) := by decide +kernel
theorem d_M_step_118 : decode y_M_step.2.1 118 = .ok (.iload_n 1, 1) := by decide +kernel
theorem d_M_step_119 : decode y_M_step.2.1 119 = .ok (.baload, 1) := by decide +kernel
theorem d_M_step_120 : decode y_M_step.2.1 120 = .ok (.ifCond .ne 7, 3) := by decide +kernel
theorem d_M_step_123 : decode y_M_step.2.1 123 = .ok (.iconst 1, 1) := by decide +kernel
theorem d_M_step_124 : decode y_M_step.2.1 124 = .ok (.goto 4, 3) := by decide +kernel
theorem d_M_step_127 : decode y_M_step.2.1 127 = .ok (.iconst 0, 1) := by decide +kernel
theorem d_M_step_128 : decode y_M_step.2.1 128 = .ok (.bastore, 1) := by decide +kernel
theorem d_M_step_129 : decode y_M_step.2.1 129 = .ok (.aload_n 0, 1) := by decide +kernel
theorem d_M_step_130 : decode y_M_step.2.1 130 = .ok (.getfield 80, 3) := by decide +kernel
theorem d_M_step_133 : decode y_M_step.2.1 133 = .ok (.iload_n 1, 1) := by decide +kernel
theorem d_M_step_134 : decode y_M_step.2.1 134 = .ok (.iconst 0, 1) := by decide +kernel
theorem d_M_step_135 : decode y_M_step.2.1 135 = .ok (.bastore, 1) := by decide +kernel
theorem d_M_step_136 : decode y_M_step.2.1 136 = .ok (.iinc 1 1, 3) := by decide +kernel
theorem d_M_step_139 : decode y_M_step.2.1 139 = .ok (.goto (-45), 3) := by decide +kernel
theorem d_M_step_142 : decode y_M_step.2.1 142 = .ok (.aload_n 0, 1) := by decide +kernel
theorem d_M_step_143 : decode y_M_step.2.1 143 = .ok (.invokevirtual 252, 3) := by decide +kernel
theorem d_M_step_146 : decode y_M_step.2.1 146 = .ok (.aload_n 0, 1) := by decide +kernel
theorem d_M_step_147 : decode y_M_step.2.1 147 = .ok (.getfield 37, 3) := by decide +kernel
theorem d_M_step_150 : decode y_M_step.2.1 150 = .ok (.getfield 145, 3) := by decide +kernel
theorem d_M_step_153 : decode y_M_step.2.1 153 = .ok (.ireturn, 1) := by decide +kernel
theorem s_M_step : ab_Stat y_M_step 0 := ⟨(k11 196 rfl rfl), (k1 19 rfl rfl), ⟨by decide, by decide⟩, by decide +kernel⟩
theorem i_M_step : Cond.instanceMethod y_M_step.1 ∈ ab_T := (k11 194 rfl rfl)
theorem v_M_step : Cond.selects "WorldEngineModel" y_M_step.1 y_M_step.1 ∈ ab_T := (k11 195 rfl rfl)
def B_M_step_128 (N : Nat) (p0 : Nat) (kq94 : Int32 → Hp → Option (Int32 × Hp)) (l1 : Int32) (w0 : Nat) (w1 : Int32) (w2 : Int32) (H : Hp) : Option (Int32 × Hp) :=
    ar H 102 w0 fun n58 =>
    ck (inb w1 n58) <|
    bnd (H.sD w0 (w1).toNatClampNeg (vp_nar .boolean w2)) fun H61 =>
    ck (H61.sh[p0]? = some (12, 0)) <|
    rf (H61.P p0 26) fun a63 =>
    ar H61 102 a63 fun n65 =>
    ck (inb l1 n65) <|
    bnd (H61.sD a63 (l1).toNatClampNeg (vp_nar .boolean (0 : Int32))) fun H68 =>
    kq94 (l1 + 1) H68
set_option maxRecDepth 20000 in
set_option maxHeartbeats 2000000 in
theorem mB_M_step_128 {N : Nat} {p0 : Nat} {kq94 : Int32 → Hp → Option (Int32 × Hp)} (hm94 : ∀ (l1 : Int32) (H : Hp) (r : Int32 × Hp), kq94 l1 H = some r → Sa H r.2) {l1 : Int32} {w0 : Nat} {w1 : Int32} {w2 : Int32} {H : Hp} {r : Int32 × Hp} (hF : B_M_step_128 N p0 kq94 l1 w0 w1 w2 H = some r) : Sa H r.2 := by
  unfold B_M_step_128 at hF
  have hm := Sa.rf H
  obtain ⟨n69, q70, hG⟩ := ar_s hF; clear hF
  obtain ⟨q71, hF⟩ := ck_s hG; clear hG
  obtain ⟨H72, eH72, hG⟩ := bnd_g hF; clear hF
  replace hm : Sa H H72 := by rw [eH72]; exact hm
  obtain ⟨q73, hF⟩ := ck_s hG; clear hG
  obtain ⟨a74, e75, hG⟩ := rf_s hF; clear hF
  obtain ⟨n76, q77, hF⟩ := ar_s hG; clear hG
  obtain ⟨q78, hG⟩ := ck_s hF; clear hF
  obtain ⟨H79, eH79, hF⟩ := bnd_g hG; clear hG
  replace hm : Sa H H79 := by rw [eH79]; exact hm
  exact hm.tr (hm94 (l1 + 1) H79 r hF)
set_option maxRecDepth 20000 in
set_option maxHeartbeats 2000000 in
theorem kB_M_step_128 {N : Nat} {p0 : Nat} {kq94 : Int32 → Hp → Option (Int32 × Hp)} (hm94 : ∀ (l1 : Int32) (H : Hp) (r : Int32 × Hp), kq94 l1 H = some r → Sa H r.2) (hk94 : ∀ (l1 : Int32) (H : Hp) (r : Int32 × Hp), kq94 l1 H = some r → ab_V y_M_step { frames := 331, cells := 0, slots := 0, locals := 8151 } (po (.returned (some (.int r.1))) r.2) 0 0 0 0 94 [some (.ref p0), some (.int l1)] [] (hpw H)) {l1 : Int32} {w0 : Nat} {w1 : Int32} {w2 : Int32} {H : Hp} {r : Int32 × Hp} (hF : B_M_step_128 N p0 kq94 l1 w0 w1 w2 H = some r) : ab_V y_M_step { frames := 331, cells := 0, slots := 0, locals := 8151 } (po (.returned (some (.int r.1))) r.2) 0 0 0 0 128 [some (.ref p0), some (.int l1)] [.int w2, .int w1, .ref w0] (hpw H) := by
  unfold B_M_step_128 at hF
  obtain ⟨n58, q59, hG⟩ := ar_s hF; clear hF
  obtain ⟨q60, hF⟩ := ck_s hG; clear hG
  refine hp_zast d_M_step_128 tZ q59 q60 ?_
  refine hp_gen (fun H61 eH61 => ?_)
  replace hF := bnd_s eH61 hF
  have s_6 : Sa H H61 := by rw [eH61]; exact Sa.rf _
  refine ab_aload_n d_M_step_129 rfl rfl rfl ?_
  obtain ⟨q62, hG⟩ := ck_s hF; clear hF
  rw [(s_6).1] at q62
  obtain ⟨a63, e64, hF⟩ := rf_s hG; clear hG
  refine hp_getR (f := 26) d_M_step_130 (by rw [(s_6).1]; exact q62) (by decide) rfl (by decide) (k10 19 rfl rfl) rfl e64 ?_
  refine ab_iload_n d_M_step_133 rfl rfl ?_
  refine ab_iconst (v := 0) d_M_step_134 (by decide) ?_
  obtain ⟨n65, q66, hG⟩ := ar_s hF; clear hF
  rw [(s_6).1] at q66
  obtain ⟨q67, hF⟩ := ck_s hG; clear hG
  refine hp_zast d_M_step_135 tZ (by rw [(s_6).1]; exact q66) q67 ?_
  refine hp_gen (fun H68 eH68 => ?_)
  replace hF := bnd_s eH68 hF
  have s_7 : Sa H H68 := by rw [eH68]; exact s_6
  refine ab_iinc (v := l1 + 1) (lv' := [some (.ref p0), some (.int (l1 + 1))]) d_M_step_136 rfl rfl (by decide) rfl ?_
  refine ab_goto (tgt := 94) d_M_step_139 (by decide) ?_
  exact hk94 (l1 + 1) H68 r hF
def B_M_step_127 (N : Nat) (p0 : Nat) (kq94 : Int32 → Hp → Option (Int32 × Hp)) (l1 : Int32) (w0 : Nat) (w1 : Int32) (H : Hp) : Option (Int32 × Hp) :=
    B_M_step_128 N p0 kq94 l1 w0 w1 0 H
set_option maxRecDepth 20000 in
set_option maxHeartbeats 2000000 in
theorem mB_M_step_127 {N : Nat} {p0 : Nat} {kq94 : Int32 → Hp → Option (Int32 × Hp)} (hm94 : ∀ (l1 : Int32) (H : Hp) (r : Int32 × Hp), kq94 l1 H = some r → Sa H r.2) {l1 : Int32} {w0 : Nat} {w1 : Int32} {H : Hp} {r : Int32 × Hp} (hF : B_M_step_127 N p0 kq94 l1 w0 w1 H = some r) : Sa H r.2 := by
  unfold B_M_step_127 at hF
  have hm := Sa.rf H
  exact hm.tr (mB_M_step_128 hm94 hF)
set_option maxRecDepth 20000 in
set_option maxHeartbeats 2000000 in
theorem kB_M_step_127 {N : Nat} {p0 : Nat} {kq94 : Int32 → Hp → Option (Int32 × Hp)} (hm94 : ∀ (l1 : Int32) (H : Hp) (r : Int32 × Hp), kq94 l1 H = some r → Sa H r.2) (hk94 : ∀ (l1 : Int32) (H : Hp) (r : Int32 × Hp), kq94 l1 H = some r → ab_V y_M_step { frames := 331, cells := 0, slots := 0, locals := 8151 } (po (.returned (some (.int r.1))) r.2) 0 0 0 0 94 [some (.ref p0), some (.int l1)] [] (hpw H)) {l1 : Int32} {w0 : Nat} {w1 : Int32} {H : Hp} {r : Int32 × Hp} (hF : B_M_step_127 N p0 kq94 l1 w0 w1 H = some r) : ab_V y_M_step { frames := 331, cells := 0, slots := 0, locals := 8151 } (po (.returned (some (.int r.1))) r.2) 0 0 0 0 127 [some (.ref p0), some (.int l1)] [.int w1, .ref w0] (hpw H) := by
  unfold B_M_step_127 at hF
  refine ab_iconst (v := 0) d_M_step_127 (by decide) ?_
  exact kB_M_step_128 hm94 hk94 hF
def B_M_step_94 (N : Nat) (p0 : Nat) : Nat → Int32 → Hp → Option (Int32 × Hp)
  | 0, _, _ => none
  | n + 1, l1, H =>
    if (8 : Int32) ≤ l1 then
    ck (H.sh[p0]? = some (12, 0)) <|
    bC (F_M_confirms N p0 H) fun v42 H43 =>
    rf (H43.P p0 9) fun a44 =>
    ck (H43.sh[a44]? = some (13, 0)) <|
    bnd ((H43.D a44 0)) fun x47 =>
    some (x47, H43)
    else
    ck (H.sh[p0]? = some (12, 0)) <|
    rf (H.P p0 25) fun a49 =>
    rf (H.P p0 25) fun a51 =>
    ar H 102 a51 fun n53 =>
    ck (inb l1 n53) <|
    bnd ((H.D a51 (l1).toNatClampNeg)) fun x56 =>
    if x56 = (0 : Int32) then
    B_M_step_127 N p0 (fun l1 H => B_M_step_94 N p0 n l1 H) l1 a49 l1 H
    else
    rf (H.P p0 26) fun a80 =>
    ar H 102 a80 fun n82 =>
    ck (inb l1 n82) <|
    bnd ((H.D a80 (l1).toNatClampNeg)) fun x85 =>
    if x85 = (0 : Int32) then
    B_M_step_128 N p0 (fun l1 H => B_M_step_94 N p0 n l1 H) l1 a49 l1 1 H
    else
    B_M_step_127 N p0 (fun l1 H => B_M_step_94 N p0 n l1 H) l1 a49 l1 H
termination_by structural n => n
set_option maxRecDepth 20000 in
set_option maxHeartbeats 2000000 in
theorem mB_M_step_94 {N : Nat} {p0 : Nat} : ∀ (n : Nat) (l1 : Int32) (H : Hp) (r : Int32 × Hp), B_M_step_94 N p0 n l1 H = some r → Sa H r.2 := by
  intro n
  induction n with
  | zero => intro l1 H r hF; rw [B_M_step_94] at hF; cases hF
  | succ n ih =>
    intro l1 H r hF
    rw [B_M_step_94] at hF
    have hm := Sa.rf H
    rcases ite_s hF with ⟨q_10, hG⟩ | ⟨q_10, hG⟩
    · clear hF
      obtain ⟨q88, hF⟩ := ck_s hG; clear hG
      obtain ⟨v90, H91, z89, hG⟩ := bC_s hF; clear hF
      replace hm : Sa H H91 := hm.tr (m_M_confirms z89)
      obtain ⟨a92, e93, hF⟩ := rf_s hG; clear hG
      obtain ⟨q94, hG⟩ := ck_s hF; clear hF
      obtain ⟨x95, -, hF⟩ := bnd_g hG; clear hG
      have hr := Option.some.inj hF; subst hr
      exact hm
    · clear hF
      obtain ⟨q96, hF⟩ := ck_s hG; clear hG
      obtain ⟨a97, e98, hG⟩ := rf_s hF; clear hF
      obtain ⟨a99, e100, hF⟩ := rf_s hG; clear hG
      obtain ⟨n101, q102, hG⟩ := ar_s hF; clear hF
      obtain ⟨q103, hF⟩ := ck_s hG; clear hG
      obtain ⟨x104, -, hG⟩ := bnd_g hF; clear hF
      rcases ite_s hG with ⟨q_12, hF⟩ | ⟨q_12, hF⟩
      · clear hG
        exact hm.tr (mB_M_step_127 ih hF)
      · clear hG
        obtain ⟨a106, e107, hG⟩ := rf_s hF; clear hF
        obtain ⟨n108, q109, hF⟩ := ar_s hG; clear hG
        obtain ⟨q110, hG⟩ := ck_s hF; clear hF
        obtain ⟨x111, -, hF⟩ := bnd_g hG; clear hG
        rcases ite_s hF with ⟨q_13, hG⟩ | ⟨q_13, hG⟩
        · clear hF
          exact hm.tr (mB_M_step_128 ih hG)
        · clear hF
          exact hm.tr (mB_M_step_127 ih hG)
set_option maxRecDepth 20000 in
set_option maxHeartbeats 2000000 in
theorem kB_M_step_94 {N : Nat} {p0 : Nat} : ∀ (n : Nat) (l1 : Int32) (H : Hp) (r : Int32 × Hp), B_M_step_94 N p0 n l1 H = some r → ab_V y_M_step { frames := 331, cells := 0, slots := 0, locals := 8151 } (po (.returned (some (.int r.1))) r.2) 0 0 0 0 94 [some (.ref p0), some (.int l1)] [] (hpw H) := by
  intro n
  induction n with
  | zero => intro l1 H r hF; rw [B_M_step_94] at hF; cases hF
  | succ n ih =>
    intro l1 H r hF
    rw [B_M_step_94] at hF
    refine ab_iload_n d_M_step_94 rfl rfl ?_
    refine ab_bipush (v := 8) d_M_step_95 (by decide) ?_
    refine ab_icmp_ge (tgt := 142) d_M_step_97 (by decide) (fun q39 => ?_) (fun q39 => ?_)
    · rw [if_pos q39] at hF
      refine ab_aload_n d_M_step_142 rfl rfl rfl ?_
      obtain ⟨q40, hG⟩ := ck_s hF; clear hF
      obtain ⟨v42, H43, z41, hF⟩ := bC_s hG; clear hG
      refine hp_callV_v (H1 := H43) (As := []) (rest := []) d_M_step_143 (k_M_confirms z41) (ab_mkC s_M_confirms (Nat.le_of_ble_eq_true rfl) (Nat.le_of_ble_eq_true rfl) (Nat.le_refl 0) (Nat.le_refl 0)) (k12 160 rfl rfl) i_M_confirms v_M_confirms q40 (by decide) rfl rfl (Nat.le_of_ble_eq_true rfl) ?_
      have s_5 : Sa H H43 := (m_M_confirms z41)
      refine ab_aload_n d_M_step_146 rfl rfl rfl ?_
      obtain ⟨a44, e45, hG⟩ := rf_s hF; clear hF
      refine hp_getR (f := 9) d_M_step_147 (by rw [(s_5).1]; exact q40) (by decide) rfl (by decide) (k10 2 rfl rfl) rfl e45 ?_
      obtain ⟨q46, hF⟩ := ck_s hG; clear hG
      rw [(s_5).1] at q46
      refine hp_getIN (f := 0) d_M_step_150 (by rw [(s_5).1]; exact q46) (by decide) rfl (by decide) (k9 89 rfl rfl) rfl ?_
      refine ab_topi (fun x47 ex47 => ?_)
      replace hF := bnd_s ex47 hF
      exact ab_iret d_M_step_153 rfl (Nat.le_refl _) (Nat.le_refl _) (by have hr := Option.some.inj hF; subst hr; exact ⟨rfl, rfl⟩)
    · rw [if_neg q39] at hF
      refine ab_aload_n d_M_step_100 rfl rfl rfl ?_
      obtain ⟨q48, hG⟩ := ck_s hF; clear hF
      obtain ⟨a49, e50, hF⟩ := rf_s hG; clear hG
      refine hp_getR (f := 25) d_M_step_101 q48 (by decide) rfl (by decide) (k10 18 rfl rfl) rfl e50 ?_
      refine ab_iload_n d_M_step_104 rfl rfl ?_
      refine ab_aload_n d_M_step_105 rfl rfl rfl ?_
      obtain ⟨a51, e52, hG⟩ := rf_s hF; clear hF
      refine hp_getR (f := 25) d_M_step_106 q48 (by decide) rfl (by decide) (k10 18 rfl rfl) rfl e52 ?_
      refine ab_iload_n d_M_step_109 rfl rfl ?_
      obtain ⟨n53, q54, hF⟩ := ar_s hG; clear hG
      obtain ⟨q55, hG⟩ := ck_s hF; clear hF
      refine hp_zald d_M_step_110 tZ q54 q55 ?_
      refine ab_topi (fun x56 ex56 => ?_)
      replace hG := bnd_s ex56 hG
      refine ab_if_eq (tgt := 127) d_M_step_111 (by decide) (fun q57 => ?_) (fun q57 => ?_)
      · rw [if_pos q57] at hG
        exact kB_M_step_127 (mB_M_step_94 n) ih hG
      · rw [if_neg q57] at hG
        refine ab_aload_n d_M_step_114 rfl rfl rfl ?_
        obtain ⟨a80, e81, hF⟩ := rf_s hG; clear hG
        refine hp_getR (f := 26) d_M_step_115 q48 (by decide) rfl (by decide) (k10 19 rfl rfl) rfl e81 ?_
        refine ab_iload_n d_M_step_118 rfl rfl ?_
        obtain ⟨n82, q83, hG⟩ := ar_s hF; clear hF
        obtain ⟨q84, hF⟩ := ck_s hG; clear hG
        refine hp_zald d_M_step_119 tZ q83 q84 ?_
        refine ab_topi (fun x85 ex85 => ?_)
        replace hF := bnd_s ex85 hF
        refine ab_if_ne (tgt := 127) d_M_step_120 (by decide) (fun q86 => ?_) (fun q86 => ?_)
        · rw [if_neg q86] at hF
          exact kB_M_step_127 (mB_M_step_94 n) ih hF
        · rw [if_pos q86] at hF
          refine ab_iconst (v := 1) d_M_step_123 (by decide) ?_
          refine ab_goto (tgt := 128) d_M_step_124 (by decide) ?_
          exact kB_M_step_128 (mB_M_step_94 n) ih hF
def F_M_step (N : Nat) (p0 : Nat) (H : Hp) : Option (Int32 × Hp) :=
    ck (H.sh[p0]? = some (12, 0)) <|
    bnd (H.sD p0 0 (0 : Int32)) fun H2 =>
    rf (H2.P p0 9) fun a3 =>
    ck (H2.sh[a3]? = some (13, 0)) <|
    bnd ((H2.D a3 0)) fun x6 =>
    rf (H2.P p0 8) fun a7 =>
    ck (H2.sh[a7]? = some (13, 0)) <|
    bnd ((H2.D a7 0)) fun x10 =>
    if (x6 - x10) = (16 : Int32) then
    some ((-1), H2)
    else
    bC (F_M_workers N p0 (0 : Int32) H2) fun v13 H14 =>
    if v13 = (0 : Int32) then
    some ((-2), H14)
    else
    bnd ((H14.D p0 5)) fun x16 =>
    if x16 = (0 : Int32) then
    some ((-3), H14)
    else
    rf (H14.P p0 9) fun a18 =>
    ck (H14.sh[a18]? = some (13, 0)) <|
    bnd ((H14.D a18 0)) fun x21 =>
    if x21 = (1000000000 : Int32) then
    some ((-4), H14)
    else
    rf (H14.P p0 16) fun a23 =>
    rf (H14.P p0 9) fun a25 =>
    ck (H14.sh[a25]? = some (13, 0)) <|
    bnd ((H14.D a25 0)) fun x28 =>
    bnd ((H14.D p0 12)) fun x29 =>
    ar H14 100 a23 fun n30 =>
    ck (inb ((x28 + (1 : Int32)) &&& (63 : Int32)) n30) <|
    bnd (H14.sD a23 (((x28 + (1 : Int32)) &&& (63 : Int32))).toNatClampNeg x29) fun H33 =>
    rf (H33.P p0 9) fun a34 =>
    bC (F_M_runs N p0 a34 H33) fun v37 H38 =>
    B_M_step_94 N p0 N 0 H38
set_option maxRecDepth 20000 in
set_option maxHeartbeats 2000000 in
theorem m_M_step {N : Nat} {p0 : Nat} {H : Hp} {r : Int32 × Hp} (hF : F_M_step N p0 H = some r) : Sa H r.2 := by
  unfold F_M_step at hF
  have hm := Sa.rf H
  obtain ⟨q113, hG⟩ := ck_s hF; clear hF
  obtain ⟨H114, eH114, hF⟩ := bnd_g hG; clear hG
  replace hm : Sa H H114 := by rw [eH114]; exact hm
  obtain ⟨a115, e116, hG⟩ := rf_s hF; clear hF
  obtain ⟨q117, hF⟩ := ck_s hG; clear hG
  obtain ⟨x118, -, hG⟩ := bnd_g hF; clear hF
  obtain ⟨a119, e120, hF⟩ := rf_s hG; clear hG
  obtain ⟨q121, hG⟩ := ck_s hF; clear hF
  obtain ⟨x122, -, hF⟩ := bnd_g hG; clear hG
  rcases ite_s hF with ⟨q_15, hG⟩ | ⟨q_15, hG⟩
  · clear hF
    have hr := Option.some.inj hG; subst hr
    exact hm
  · clear hF
    obtain ⟨v125, H126, z124, hF⟩ := bC_s hG; clear hG
    replace hm : Sa H H126 := hm.tr (m_M_workers z124)
    rcases ite_s hF with ⟨q_17, hG⟩ | ⟨q_17, hG⟩
    · clear hF
      have hr := Option.some.inj hG; subst hr
      exact hm
    · clear hF
      obtain ⟨x128, -, hF⟩ := bnd_g hG; clear hG
      rcases ite_s hF with ⟨q_18, hG⟩ | ⟨q_18, hG⟩
      · clear hF
        have hr := Option.some.inj hG; subst hr
        exact hm
      · clear hF
        obtain ⟨a130, e131, hF⟩ := rf_s hG; clear hG
        obtain ⟨q132, hG⟩ := ck_s hF; clear hF
        obtain ⟨x133, -, hF⟩ := bnd_g hG; clear hG
        rcases ite_s hF with ⟨q_19, hG⟩ | ⟨q_19, hG⟩
        · clear hF
          have hr := Option.some.inj hG; subst hr
          exact hm
        · clear hF
          obtain ⟨a135, e136, hF⟩ := rf_s hG; clear hG
          obtain ⟨a137, e138, hG⟩ := rf_s hF; clear hF
          obtain ⟨q139, hF⟩ := ck_s hG; clear hG
          obtain ⟨x140, -, hG⟩ := bnd_g hF; clear hF
          obtain ⟨x141, -, hF⟩ := bnd_g hG; clear hG
          obtain ⟨n142, q143, hG⟩ := ar_s hF; clear hF
          obtain ⟨q144, hF⟩ := ck_s hG; clear hG
          obtain ⟨H145, eH145, hG⟩ := bnd_g hF; clear hF
          replace hm : Sa H H145 := by rw [eH145]; exact hm
          obtain ⟨a146, e147, hF⟩ := rf_s hG; clear hG
          obtain ⟨v149, H150, z148, hG⟩ := bC_s hF; clear hF
          replace hm : Sa H H150 := hm.tr (m_M_runs z148)
          exact hm.tr (mB_M_step_94 N 0 H150 r hG)
set_option maxRecDepth 20000 in
set_option maxHeartbeats 2000000 in
theorem k_M_step {N : Nat} {p0 : Nat} {H : Hp} {r : Int32 × Hp} (hF : F_M_step N p0 H = some r) : ab_M y_M_step { frames := 331, cells := 0, slots := 0, locals := 8151 } [.ref p0] (hpw H) (po (.returned (some (.int r.1))) r.2) := by
  unfold F_M_step at hF
  refine ab_of2 (lv := [some (.ref p0), none]) 1 rfl rfl (Nat.le_of_ble_eq_true rfl) ?_
  refine ab_aload_n d_M_step_0 rfl rfl rfl ?_
  refine ab_iconst (v := 0) d_M_step_1 (by decide) ?_
  obtain ⟨q1, hG⟩ := ck_s hF; clear hF
  refine hp_putI (v := 0) (f := 0) d_M_step_2 q1 (by decide) rfl (by decide) (k9 233 rfl rfl) rfl rfl (fun _ => rfl) (fun _ => rfl) rfl ?_
  refine hp_gen (fun H2 eH2 => ?_)
  replace hG := bnd_s eH2 hG
  have s_1 : Sa H H2 := by rw [eH2]; exact Sa.rf _
  refine ab_aload_n d_M_step_5 rfl rfl rfl ?_
  obtain ⟨a3, e4, hF⟩ := rf_s hG; clear hG
  refine hp_getR (f := 9) d_M_step_6 (by rw [(s_1).1]; exact q1) (by decide) rfl (by decide) (k10 2 rfl rfl) rfl e4 ?_
  obtain ⟨q5, hG⟩ := ck_s hF; clear hF
  rw [(s_1).1] at q5
  refine hp_getIN (f := 0) d_M_step_9 (by rw [(s_1).1]; exact q5) (by decide) rfl (by decide) (k9 89 rfl rfl) rfl ?_
  refine ab_topi (fun x6 ex6 => ?_)
  replace hG := bnd_s ex6 hG
  refine ab_aload_n d_M_step_12 rfl rfl rfl ?_
  obtain ⟨a7, e8, hF⟩ := rf_s hG; clear hG
  refine hp_getR (f := 8) d_M_step_13 (by rw [(s_1).1]; exact q1) (by decide) rfl (by decide) (k10 1 rfl rfl) rfl e8 ?_
  obtain ⟨q9, hG⟩ := ck_s hF; clear hF
  rw [(s_1).1] at q9
  refine hp_getIN (f := 0) d_M_step_16 (by rw [(s_1).1]; exact q9) (by decide) rfl (by decide) (k9 89 rfl rfl) rfl ?_
  refine ab_topi (fun x10 ex10 => ?_)
  replace hG := bnd_s ex10 hG
  refine ab_isub d_M_step_19 ?_
  refine ab_bipush (v := 16) d_M_step_20 (by decide) ?_
  refine ab_icmp_ne (tgt := 27) d_M_step_22 (by decide) (fun q11 => ?_) (fun q11 => ?_)
  · rw [if_neg q11] at hG
    refine ab_aload_n d_M_step_27 rfl rfl rfl ?_
    refine ab_iconst (v := 0) d_M_step_28 (by decide) ?_
    obtain ⟨v13, H14, z12, hF⟩ := bC_s hG; clear hG
    refine hp_callV_a (v := .int v13) (H1 := H14) (As := [.int 0]) (rest := []) d_M_step_29 (k_M_workers z12) (ab_mkC s_M_workers (Nat.le_of_ble_eq_true rfl) (Nat.le_of_ble_eq_true rfl) (Nat.le_refl 0) (Nat.le_refl 0)) (k11 197 rfl rfl) i_M_workers v_M_workers (by rw [(s_1).1]; exact q1) (by decide) rfl rfl (Nat.le_of_ble_eq_true rfl) ?_
    have s_2 : Sa H H14 := (s_1).tr (m_M_workers z12)
    refine ab_if_ne (tgt := 38) d_M_step_32 (by decide) (fun q15 => ?_) (fun q15 => ?_)
    · rw [if_neg q15] at hF
      refine ab_aload_n d_M_step_38 rfl rfl rfl ?_
      refine hp_getI (f := 5) d_M_step_39 (by rw [(s_2).1]; exact q1) (by decide) rfl (by decide) (k9 238 rfl rfl) rfl ?_
      refine ab_topi (fun x16 ex16 => ?_)
      replace hF := bnd_s ex16 hF
      refine ab_if_ne (tgt := 48) d_M_step_42 (by decide) (fun q17 => ?_) (fun q17 => ?_)
      · rw [if_neg q17] at hF
        refine ab_aload_n d_M_step_48 rfl rfl rfl ?_
        obtain ⟨a18, e19, hG⟩ := rf_s hF; clear hF
        refine hp_getR (f := 9) d_M_step_49 (by rw [(s_2).1]; exact q1) (by decide) rfl (by decide) (k10 2 rfl rfl) rfl e19 ?_
        obtain ⟨q20, hF⟩ := ck_s hG; clear hG
        rw [(s_2).1] at q20
        refine hp_getIN (f := 0) d_M_step_52 (by rw [(s_2).1]; exact q20) (by decide) rfl (by decide) (k9 89 rfl rfl) rfl ?_
        refine ab_topi (fun x21 ex21 => ?_)
        replace hF := bnd_s ex21 hF
        refine ab_ldc d_M_step_55 (k11 201 rfl rfl) ?_
        refine ab_icmp_ne (tgt := 63) d_M_step_57 (by decide) (fun q22 => ?_) (fun q22 => ?_)
        · rw [if_neg q22] at hF
          refine ab_aload_n d_M_step_63 rfl rfl rfl ?_
          obtain ⟨a23, e24, hG⟩ := rf_s hF; clear hF
          refine hp_getR (f := 16) d_M_step_64 (by rw [(s_2).1]; exact q1) (by decide) rfl (by decide) (k10 9 rfl rfl) rfl e24 ?_
          refine ab_aload_n d_M_step_67 rfl rfl rfl ?_
          obtain ⟨a25, e26, hF⟩ := rf_s hG; clear hG
          refine hp_getR (f := 9) d_M_step_68 (by rw [(s_2).1]; exact q1) (by decide) rfl (by decide) (k10 2 rfl rfl) rfl e26 ?_
          obtain ⟨q27, hG⟩ := ck_s hF; clear hF
          rw [(s_2).1] at q27
          refine hp_getIN (f := 0) d_M_step_71 (by rw [(s_2).1]; exact q27) (by decide) rfl (by decide) (k9 89 rfl rfl) rfl ?_
          refine ab_topi (fun x28 ex28 => ?_)
          replace hG := bnd_s ex28 hG
          refine ab_iconst (v := 1) d_M_step_74 (by decide) ?_
          refine ab_iadd d_M_step_75 ?_
          refine ab_bipush (v := 63) d_M_step_76 (by decide) ?_
          refine ab_iand d_M_step_78 ?_
          refine ab_aload_n d_M_step_79 rfl rfl rfl ?_
          refine hp_getI (f := 12) d_M_step_80 (by rw [(s_2).1]; exact q1) (by decide) rfl (by decide) (k10 5 rfl rfl) rfl ?_
          refine ab_topi (fun x29 ex29 => ?_)
          replace hG := bnd_s ex29 hG
          obtain ⟨n30, q31, hF⟩ := ar_s hG; clear hG
          rw [(s_2).1] at q31
          obtain ⟨q32, hG⟩ := ck_s hF; clear hF
          refine hp_iast d_M_step_83 tI (by rw [(s_2).1]; exact q31) q32 ?_
          refine hp_gen (fun H33 eH33 => ?_)
          replace hG := bnd_s eH33 hG
          have s_3 : Sa H H33 := by rw [eH33]; exact s_2
          refine ab_aload_n d_M_step_84 rfl rfl rfl ?_
          refine ab_aload_n d_M_step_85 rfl rfl rfl ?_
          obtain ⟨a34, e35, hF⟩ := rf_s hG; clear hG
          refine hp_getR (f := 9) d_M_step_86 (by rw [(s_3).1]; exact q1) (by decide) rfl (by decide) (k10 2 rfl rfl) rfl e35 ?_
          obtain ⟨v37, H38, z36, hG⟩ := bC_s hF; clear hF
          refine hp_callV_v (H1 := H38) (As := [.ref a34]) (rest := []) d_M_step_89 (k_M_runs z36) (ab_mkC s_M_runs (Nat.le_of_ble_eq_true rfl) (Nat.le_of_ble_eq_true rfl) (Nat.le_refl 0) (Nat.le_refl 0)) (k11 202 rfl rfl) i_M_runs v_M_runs (by rw [(s_3).1]; exact q1) (by decide) rfl rfl (Nat.le_of_ble_eq_true rfl) ?_
          have s_4 : Sa H H38 := (s_3).tr (m_M_runs z36)
          refine ab_iconst (v := 0) d_M_step_92 (by decide) ?_
          refine ab_istore_n (lv' := [some (.ref p0), some (.int 0)]) d_M_step_93 rfl (by decide) rfl ?_
          exact kB_M_step_94 N 0 H38 r hG
        · rw [if_pos q22] at hF
          refine ab_bipush (v := (-4)) d_M_step_60 (by decide) ?_
          exact ab_iret d_M_step_62 rfl (Nat.le_refl _) (Nat.le_refl _) (by have hr := Option.some.inj hF; subst hr; exact ⟨rfl, rfl⟩)
      · rw [if_pos q17] at hF
        refine ab_bipush (v := (-3)) d_M_step_45 (by decide) ?_
        exact ab_iret d_M_step_47 rfl (Nat.le_refl _) (Nat.le_refl _) (by have hr := Option.some.inj hF; subst hr; exact ⟨rfl, rfl⟩)
    · rw [if_pos q15] at hF
      refine ab_bipush (v := (-2)) d_M_step_35 (by decide) ?_
      exact ab_iret d_M_step_37 rfl (Nat.le_refl _) (Nat.le_refl _) (by have hr := Option.some.inj hF; subst hr; exact ⟨rfl, rfl⟩)
  · rw [if_pos q11] at hG
    refine ab_iconst (v := (-1)) d_M_step_25 (by decide) ?_
    exact ab_iret d_M_step_26 rfl (Nat.le_refl _) (Nat.le_refl _) (by have hr := Option.some.inj hG; subst hr; exact ⟨rfl, rfl⟩)
def y_M_runsAgain : ab_Y := (⟨"WorldEngineModel", "runsAgain", "()V"⟩, prog_14_method_24_code, 2, none, [])
theorem d_M_runsAgain_0 : decode y_M_runsAgain.2.1 0 = .ok (.aload_n 0, 1) := by decide +kernel
theorem d_M_runsAgain_1 : decode y_M_runsAgain.2.1 1 = .ok (.getfield 37, 3) := by decide +kernel
theorem d_M_runsAgain_4 : decode y_M_runsAgain.2.1 4 = .ok (.getfield 145, 3) := by decide +kernel
theorem d_M_runsAgain_7 : decode y_M_runsAgain.2.1 7 = .ok (.istore_n 1, 1) := by decide +kernel
theorem d_M_runsAgain_8 : decode y_M_runsAgain.2.1 8 = .ok (.aload_n 0, 1) := by decide +kernel
theorem d_M_runsAgain_9 : decode y_M_runsAgain.2.1 9 = .ok (.getfield 37, 3) := by decide +kernel
theorem d_M_runsAgain_12 : decode y_M_runsAgain.2.1 12 = .ok (.aload_n 0, 1) := by decide +kernel
theorem d_M_runsAgain_13 : decode y_M_runsAgain.2.1 13 = .ok (.getfield 33, 3) := by decide +kernel
theorem d_M_runsAgain_16 : decode y_M_runsAgain.2.1 16 = .ok (.invokevirtual 129, 3) := by decide +kernel
theorem d_M_runsAgain_19 : decode y_M_runsAgain.2.1 19 = .ok (.aload_n 0, 1) := by decide +kernel
theorem d_M_runsAgain_20 : decode y_M_runsAgain.2.1 20 = .ok (.getfield 37, 3) := by decide +kernel
theorem d_M_runsAgain_23 : decode y_M_runsAgain.2.1 23 = .ok (.getfield 145, 3) := by decide +kernel
theorem d_M_runsAgain_26 : decode y_M_runsAgain.2.1 26 = .ok (.iload_n 1, 1) := by decide +kernel
theorem d_M_runsAgain_27 : decode y_M_runsAgain.2.1 27 = .ok (.if_icmp .ge 14, 3) := by decide +kernel
theorem d_M_runsAgain_30 : decode y_M_runsAgain.2.1 30 = .ok (.aload_n 0, 1) := by decide +kernel
theorem d_M_runsAgain_31 : decode y_M_runsAgain.2.1 31 = .ok (.aload_n 0, 1) := by decide +kernel
theorem d_M_runsAgain_32 : decode y_M_runsAgain.2.1 32 = .ok (.getfield 37, 3) := by decide +kernel
theorem d_M_runsAgain_35 : decode y_M_runsAgain.2.1 35 = .ok (.invokevirtual 238, 3) := by decide +kernel
theorem d_M_runsAgain_38 : decode y_M_runsAgain.2.1 38 = .ok (.goto (-19), 3) := by decide +kernel
theorem d_M_runsAgain_41 : decode y_M_runsAgain.2.1 41 = .ok (.return_, 1) := by decide +kernel
theorem s_M_runsAgain : ab_Stat y_M_runsAgain 0 := ⟨(k12 173 rfl rfl), (k1 19 rfl rfl), ⟨by decide, by decide⟩, by decide +kernel⟩
theorem i_M_runsAgain : Cond.instanceMethod y_M_runsAgain.1 ∈ ab_T := (k12 172 rfl rfl)
theorem v_M_runsAgain : Cond.selects "WorldEngineModel" y_M_runsAgain.1 y_M_runsAgain.1 ∈ ab_T := ab_s (List.mem_of_getElem? (i := 206) rfl) rfl
def B_M_runsAgain_19 (N : Nat) (p0 : Nat) : Nat → Int32 → Hp → Option (Unit × Hp)
  | 0, _, _ => none
  | n + 1, l1, H =>
    ck (H.sh[p0]? = some (12, 0)) <|
    rf (H.P p0 9) fun a15 =>
    ck (H.sh[a15]? = some (13, 0)) <|
    bnd ((H.D a15 0)) fun x18 =>
    if l1 ≤ x18 then
    some ((), H)
    else
    rf (H.P p0 9) fun a20 =>
    bC (F_M_runs N p0 a20 H) fun v23 H24 =>
    B_M_runsAgain_19 N p0 n l1 H24
termination_by structural n => n
set_option maxRecDepth 20000 in
set_option maxHeartbeats 2000000 in
theorem mB_M_runsAgain_19 {N : Nat} {p0 : Nat} : ∀ (n : Nat) (l1 : Int32) (H : Hp) (r : Unit × Hp), B_M_runsAgain_19 N p0 n l1 H = some r → Sa H r.2 := by
  intro n
  induction n with
  | zero => intro l1 H r hF; rw [B_M_runsAgain_19] at hF; cases hF
  | succ n ih =>
    intro l1 H r hF
    rw [B_M_runsAgain_19] at hF
    have hm := Sa.rf H
    obtain ⟨q25, hG⟩ := ck_s hF; clear hF
    obtain ⟨a26, e27, hF⟩ := rf_s hG; clear hG
    obtain ⟨q28, hG⟩ := ck_s hF; clear hF
    obtain ⟨x29, -, hF⟩ := bnd_g hG; clear hG
    rcases ite_s hF with ⟨q_3, hG⟩ | ⟨q_3, hG⟩
    · clear hF
      have hr := Option.some.inj hG; subst hr
      exact hm
    · clear hF
      obtain ⟨a31, e32, hF⟩ := rf_s hG; clear hG
      obtain ⟨v34, H35, z33, hG⟩ := bC_s hF; clear hF
      replace hm : Sa H H35 := hm.tr (m_M_runs z33)
      exact hm.tr (ih l1 H35 r hG)
set_option maxRecDepth 20000 in
set_option maxHeartbeats 2000000 in
theorem kB_M_runsAgain_19 {N : Nat} {p0 : Nat} : ∀ (n : Nat) (l1 : Int32) (H : Hp) (r : Unit × Hp), B_M_runsAgain_19 N p0 n l1 H = some r → ab_V y_M_runsAgain { frames := 330, cells := 0, slots := 0, locals := 8128 } (po (.returned none) r.2) 0 0 0 0 19 [some (.ref p0), some (.int l1)] [] (hpw H) := by
  intro n
  induction n with
  | zero => intro l1 H r hF; rw [B_M_runsAgain_19] at hF; cases hF
  | succ n ih =>
    intro l1 H r hF
    rw [B_M_runsAgain_19] at hF
    refine ab_aload_n d_M_runsAgain_19 rfl rfl rfl ?_
    obtain ⟨q14, hG⟩ := ck_s hF; clear hF
    obtain ⟨a15, e16, hF⟩ := rf_s hG; clear hG
    refine hp_getR (f := 9) d_M_runsAgain_20 q14 (by decide) rfl (by decide) (k10 2 rfl rfl) rfl e16 ?_
    obtain ⟨q17, hG⟩ := ck_s hF; clear hF
    refine hp_getIN (f := 0) d_M_runsAgain_23 q17 (by decide) rfl (by decide) (k9 89 rfl rfl) rfl ?_
    refine ab_topi (fun x18 ex18 => ?_)
    replace hG := bnd_s ex18 hG
    refine ab_iload_n d_M_runsAgain_26 rfl rfl ?_
    refine ab_icmp_ge (tgt := 41) d_M_runsAgain_27 (by decide) (fun q19 => ?_) (fun q19 => ?_)
    · rw [if_pos q19] at hG
      exact ab_vret d_M_runsAgain_41 rfl (Nat.le_refl _) (Nat.le_refl _) (by have hr := Option.some.inj hG; subst hr; exact ⟨rfl, rfl⟩)
    · rw [if_neg q19] at hG
      refine ab_aload_n d_M_runsAgain_30 rfl rfl rfl ?_
      refine ab_aload_n d_M_runsAgain_31 rfl rfl rfl ?_
      obtain ⟨a20, e21, hF⟩ := rf_s hG; clear hG
      refine hp_getR (f := 9) d_M_runsAgain_32 q14 (by decide) rfl (by decide) (k10 2 rfl rfl) rfl e21 ?_
      obtain ⟨v23, H24, z22, hG⟩ := bC_s hF; clear hF
      refine hp_callV_v (H1 := H24) (As := [.ref a20]) (rest := []) d_M_runsAgain_35 (k_M_runs z22) (ab_mkC s_M_runs (Nat.le_of_ble_eq_true rfl) (Nat.le_of_ble_eq_true rfl) (Nat.le_refl 0) (Nat.le_refl 0)) (k11 202 rfl rfl) i_M_runs v_M_runs q14 (by decide) rfl rfl (Nat.le_of_ble_eq_true rfl) ?_
      have s_2 : Sa H H24 := (m_M_runs z22)
      refine ab_goto (tgt := 19) d_M_runsAgain_38 (by decide) ?_
      exact ih l1 H24 r hG
def F_M_runsAgain (N : Nat) (p0 : Nat) (H : Hp) : Option (Unit × Hp) :=
    ck (H.sh[p0]? = some (12, 0)) <|
    rf (H.P p0 9) fun a2 =>
    ck (H.sh[a2]? = some (13, 0)) <|
    bnd ((H.D a2 0)) fun x5 =>
    rf (H.P p0 9) fun a6 =>
    rf (H.P p0 8) fun a8 =>
    ck (H.sh[a6]? = some (13, 0)) <|
    bC (F_MWorld_copies N a6 a8 H) fun v12 H13 =>
    B_M_runsAgain_19 N p0 N x5 H13
set_option maxRecDepth 20000 in
set_option maxHeartbeats 2000000 in
theorem m_M_runsAgain {N : Nat} {p0 : Nat} {H : Hp} {r : Unit × Hp} (hF : F_M_runsAgain N p0 H = some r) : Sa H r.2 := by
  unfold F_M_runsAgain at hF
  have hm := Sa.rf H
  obtain ⟨q36, hG⟩ := ck_s hF; clear hF
  obtain ⟨a37, e38, hF⟩ := rf_s hG; clear hG
  obtain ⟨q39, hG⟩ := ck_s hF; clear hF
  obtain ⟨x40, -, hF⟩ := bnd_g hG; clear hG
  obtain ⟨a41, e42, hG⟩ := rf_s hF; clear hF
  obtain ⟨a43, e44, hF⟩ := rf_s hG; clear hG
  obtain ⟨q45, hG⟩ := ck_s hF; clear hF
  obtain ⟨v47, H48, z46, hF⟩ := bC_s hG; clear hG
  replace hm : Sa H H48 := hm.tr (m_MWorld_copies z46)
  exact hm.tr (mB_M_runsAgain_19 N x40 H48 r hF)
set_option maxRecDepth 20000 in
set_option maxHeartbeats 2000000 in
theorem k_M_runsAgain {N : Nat} {p0 : Nat} {H : Hp} {r : Unit × Hp} (hF : F_M_runsAgain N p0 H = some r) : ab_M y_M_runsAgain { frames := 330, cells := 0, slots := 0, locals := 8128 } [.ref p0] (hpw H) (po (.returned none) r.2) := by
  unfold F_M_runsAgain at hF
  refine ab_of2 (lv := [some (.ref p0), none]) 1 rfl rfl (Nat.le_of_ble_eq_true rfl) ?_
  refine ab_aload_n d_M_runsAgain_0 rfl rfl rfl ?_
  obtain ⟨q1, hG⟩ := ck_s hF; clear hF
  obtain ⟨a2, e3, hF⟩ := rf_s hG; clear hG
  refine hp_getR (f := 9) d_M_runsAgain_1 q1 (by decide) rfl (by decide) (k10 2 rfl rfl) rfl e3 ?_
  obtain ⟨q4, hG⟩ := ck_s hF; clear hF
  refine hp_getIN (f := 0) d_M_runsAgain_4 q4 (by decide) rfl (by decide) (k9 89 rfl rfl) rfl ?_
  refine ab_topi (fun x5 ex5 => ?_)
  replace hG := bnd_s ex5 hG
  refine ab_istore_n (lv' := [some (.ref p0), some (.int x5)]) d_M_runsAgain_7 rfl (by decide) rfl ?_
  refine ab_aload_n d_M_runsAgain_8 rfl rfl rfl ?_
  obtain ⟨a6, e7, hF⟩ := rf_s hG; clear hG
  refine hp_getR (f := 9) d_M_runsAgain_9 q1 (by decide) rfl (by decide) (k10 2 rfl rfl) rfl e7 ?_
  refine ab_aload_n d_M_runsAgain_12 rfl rfl rfl ?_
  obtain ⟨a8, e9, hG⟩ := rf_s hF; clear hF
  refine hp_getR (f := 8) d_M_runsAgain_13 q1 (by decide) rfl (by decide) (k10 1 rfl rfl) rfl e9 ?_
  obtain ⟨q10, hF⟩ := ck_s hG; clear hG
  obtain ⟨v12, H13, z11, hG⟩ := bC_s hF; clear hF
  refine hp_callV_v (H1 := H13) (As := [.ref a8]) (rest := []) d_M_runsAgain_16 (k_MWorld_copies z11) (ab_mkC s_MWorld_copies (Nat.le_of_ble_eq_true rfl) (Nat.le_of_ble_eq_true rfl) (Nat.le_refl 0) (Nat.le_refl 0)) (k11 146 rfl rfl) i_MWorld_copies v_MWorld_copies q10 (by decide) rfl rfl (Nat.le_of_ble_eq_true rfl) ?_
  have s_1 : Sa H H13 := (m_MWorld_copies z11)
  exact kB_M_runsAgain_19 N x5 H13 r hG
def y_M_input : ab_Y := (⟨"WorldEngineModel", "input", "(III)I"⟩, prog_14_method_23_code, 6, (some FieldType.int), [])
theorem d_M_input_0 : decode y_M_input.2.1 0 = .ok (.aload_n 0, 1) := by decide +kernel
theorem d_M_input_1 : decode y_M_input.2.1 1 = .ok (.iconst 0, 1) := by decide +kernel
theorem d_M_input_2 : decode y_M_input.2.1 2 = .ok (.putfield 83, 3) := by decide +kernel
theorem d_M_input_5 : decode y_M_input.2.1 5 = .ok (.iload_n 1, 1) := by decide +kernel
theorem d_M_input_6 : decode y_M_input.2.1 6 = .ok (.i2l, 1) := by decide +kernel
theorem d_M_input_7 : decode y_M_input.2.1 7 = .ok (.lconst 0, 1) := by decide +kernel
theorem d_M_input_8 : decode y_M_input.2.1 8 = .ok (.ldc2_w 255, 3) := by decide +kernel
theorem d_M_input_11 : decode y_M_input.2.1 11 = .ok (.invokestatic 99, 3) := by decide +kernel
theorem d_M_input_14 : decode y_M_input.2.1 14 = .ok (.ifCond .ne 5, 3) := by decide +kernel
theorem d_M_input_17 : decode y_M_input.2.1 17 = .ok (.iconst (-1), 1) := by decide +kernel
theorem d_M_input_18 : decode y_M_input.2.1 18 = .ok (.ireturn, 1) := by decide +kernel
theorem d_M_input_19 : decode y_M_input.2.1 19 = .ok (.iload_n 2, 1) := by decide +kernel
theorem d_M_input_20 : decode y_M_input.2.1 20 = .ok (.i2l, 1) := by decide +kernel
theorem d_M_input_21 : decode y_M_input.2.1 21 = .ok (.aload_n 0, 1) := by decide +kernel
theorem d_M_input_22 : decode y_M_input.2.1 22 = .ok (.getfield 33, 3) := by decide +kernel
theorem d_M_input_25 : decode y_M_input.2.1 25 = .ok (.getfield 145, 3) := by decide +kernel
theorem d_M_input_28 : decode y_M_input.2.1 28 = .ok (.i2l, 1) := by decide +kernel
theorem d_M_input_29 : decode y_M_input.2.1 29 = .ok (.lconst 1, 1) := by decide +kernel
theorem d_M_input_30 : decode y_M_input.2.1 30 = .ok (.ladd, 1) := by decide +kernel
theorem d_M_input_31 : decode y_M_input.2.1 31 = .ok (.aload_n 0, 1) := by decide +kernel
theorem d_M_input_32 : decode y_M_input.2.1 32 = .ok (.getfield 37, 3) := by decide +kernel
theorem d_M_input_35 : decode y_M_input.2.1 35 = .ok (.getfield 145, 3) := by decide +kernel
theorem d_M_input_38 : decode y_M_input.2.1 38 = .ok (.i2l, 1) := by decide +kernel
theorem d_M_input_39 : decode y_M_input.2.1 39 = .ok (.ldc2_w 257, 3) := by decide +kernel
theorem d_M_input_42 : decode y_M_input.2.1 42 = .ok (.ladd, 1) := by decide +kernel
theorem d_M_input_43 : decode y_M_input.2.1 43 = .ok (.invokestatic 99, 3) := by decide +kernel
theorem d_M_input_46 : decode y_M_input.2.1 46 = .ok (.ifCond .ne 6, 3) := by decide +kernel
theorem d_M_input_49 : decode y_M_input.2.1 49 = .ok (.bipush (-2), 2) := by decide +kernel
theorem d_M_input_51 : decode y_M_input.2.1 51 = .ok (.ireturn, 1) := by decide +kernel
theorem d_M_input_52 : decode y_M_input.2.1 52 = .ok (.iload_n 2, 1) := by decide +kernel
theorem d_M_input_53 : decode y_M_input.2.1 53 = .ok (.aload_n 0, 1) := by decide +kernel
theorem d_M_input_54 : decode y_M_input.2.1 54 = .ok (.getfield 37, 3) := by decide +kernel
theorem d_M_input_57 : decode y_M_input.2.1 57 = .ok (.getfield 145, 3) := by decide +kernel
theorem d_M_input_60 : decode y_M_input.2.1 60 = .ok (.if_icmp .le 10, 3) := by decide +kernel
theorem d_M_input_63 : decode y_M_input.2.1 63 = .ok (.aload_n 0, 1) := by decide +kernel
theorem d_M_input_64 : decode y_M_input.2.1 64 = .ok (.getfield 50, 3) := by decide +kernel
theorem d_M_input_67 : decode y_M_input.2.1 67 = .ok (.goto 12, 3) := by decide +kernel
theorem d_M_input_70 : decode y_M_input.2.1 70 = .ok (.aload_n 0, 1) := by decide +kernel
theorem d_M_input_71 : decode y_M_input.2.1 71 = .ok (.getfield 61, 3) := by decide +kernel
theorem d_M_input_74 : decode y_M_input.2.1 74 = .ok (.iload_n 2, 1) := by decide +kernel
theorem d_M_input_75 : decode y_M_input.2.1 75 = .ok (.bipush 63, 2) := by decide +kernel
theorem d_M_input_77 : decode y_M_input.2.1 77 = .ok (.iand, 1) := by decide +kernel
theorem d_M_input_78 : decode y_M_input.2.1 78 = .ok (.iaload, 1) := by decide +kernel
theorem d_M_input_79 : decode y_M_input.2.1 79 = .ok (.istore 4, 2) := by decide +kernel
theorem d_M_input_81 : decode y_M_input.2.1 81 = .ok (.iload 4, 2) := by decide +kernel
theorem d_M_input_83 : decode y_M_input.2.1 83 = .ok (.iload_n 1, 1) := by decide +kernel
theorem d_M_input_84 : decode y_M_input.2.1 84 = .ok (.ishr, 1) := by decide +kernel
theorem d_M_input_85 : decode y_M_input.2.1 85 = .ok (.iconst 1, 1) := by decide +kernel
theorem d_M_input_86 : decode y_M_input.2.1 86 = .ok (.iand, 1) := by decide +kernel
theorem d_M_input_87 : decode y_M_input.2.1 87 = .ok (.ifCond .ne 6, 3) := by decide +kernel
theorem d_M_input_90 : decode y_M_input.2.1 90 = .ok (.bipush (-3), 2) := by decide +kernel
theorem d_M_input_92 : decode y_M_input.2.1 92 = .ok (.ireturn, 1) := by decide +kernel
theorem d_M_input_93 : decode y_M_input.2.1 93 = .ok (.aload_n 0, 1) := by decide +kernel
theorem d_M_input_94 : decode y_M_input.2.1 94 = .ok (.getfield 57, 3) := by decide +kernel
theorem d_M_input_97 : decode y_M_input.2.1 97 = .ok (.aload_n 0, 1) := by decide +kernel
theorem d_M_input_98 : decode y_M_input.2.1 98 = .ok (.iload_n 1, 1) := by decide +kernel
theorem d_M_input_99 : decode y_M_input.2.1 99 = .ok (.iload_n 2, 1) := by decide +kernel
theorem d_M_input_100 : decode y_M_input.2.1 100 = .ok (.invokevirtual 227, 3) := by decide +kernel
theorem d_M_input_103 : decode y_M_input.2.1 103 = .ok (.baload, 1) := by decide +kernel
theorem d_M_input_104 : decode y_M_input.2.1 104 = .ok (.ifCond .eq 6, 3) := by decide +kernel
theorem d_M_input_107 : decode y_M_input.2.1 107 = .ok (.bipush (-4), 2) := by decide +kernel
theorem d_M_input_109 : decode y_M_input.2.1 109 = .ok (.ireturn, 1) := by decide +kernel
theorem d_M_input_110 : decode y_M_input.2.1 110 = .ok (.iconst 0, 1) := by decide +kernel
theorem d_M_input_111 : decode y_M_input.2.1 111 = .ok (.istore 5, 2) := by decide +kernel
theorem d_M_input_113 : decode y_M_input.2.1 113 = .ok (.iload_n 2, 1) := by decide +kernel
theorem d_M_input_114 : decode y_M_input.2.1 114 = .ok (.aload_n 0, 1) := by decide +kernel
theorem d_M_input_115 : decode y_M_input.2.1 115 = .ok (.getfield 37, 3) := by decide +kernel
theorem d_M_input_118 : decode y_M_input.2.1 118 = .ok (.getfield 145, 3) := by decide +kernel
theorem d_M_input_121 : decode y_M_input.2.1 121 = .ok (.if_icmp .gt 35, 3) := by decide +kernel
theorem d_M_input_124 : decode y_M_input.2.1 124 = .ok (.aload_n 0, 1) := by decide +kernel
theorem d_M_input_125 : decode y_M_input.2.1 125 = .ok (.iload_n 2, 1) := by decide +kernel
theorem d_M_input_126 : decode y_M_input.2.1 126 = .ok (.invokevirtual 231, 3) := by decide +kernel
theorem d_M_input_129 : decode y_M_input.2.1 129 = .ok (.aload_n 0, 1) := by decide +kernel
theorem d_M_input_130 : decode y_M_input.2.1 130 = .ok (.getfield 67, 3) := by decide +kernel
theorem d_M_input_133 : decode y_M_input.2.1 133 = .ok (.iload_n 1, 1) := by decide +kernel
theorem d_M_input_134 : decode y_M_input.2.1 134 = .ok (.iaload, 1) := by decide +kernel
theorem d_M_input_135 : decode y_M_input.2.1 135 = .ok (.iload_n 3, 1) := by decide +kernel
theorem d_M_input_136 : decode y_M_input.2.1 136 = .ok (.if_icmp .ne 7, 3) := by decide +kernel
theorem d_M_input_139 : decode y_M_input.2.1 139 = .ok (.iconst 0, 1) := by decide +kernel
theorem d_M_input_140 : decode y_M_input.2.1 140 = .ok (.goto 14, 3) := by decide +kernel
theorem d_M_input_143 : decode y_M_input.2.1 143 = .ok (.aload_n 0, 1) := by decide +kernel
theorem d_M_input_144 : decode y_M_input.2.1 144 = .ok (.getfield 37, 3) := by decide +kernel
theorem d_M_input_147 : decode y_M_input.2.1 147 = .ok (.getfield 145, 3) := by decide +kernel
theorem d_M_input_150 : decode y_M_input.2.1 150 = .ok (.iload_n 2, 1) := by decide +kernel
theorem d_M_input_151 : decode y_M_input.2.1 151 = .ok (.isub, 1) := by decide +kernel
theorem d_M_input_152 : decode y_M_input.2.1 152 = .ok (.iconst 1, 1) := by decide +kernel
theorem d_M_input_153 : decode y_M_input.2.1 153 = .ok (.iadd, 1) := by decide +kernel
theorem d_M_input_154 : decode y_M_input.2.1 154 = .ok (.istore 5, 2) := by decide +kernel
theorem d_M_input_156 : decode y_M_input.2.1 156 = .ok (.aload_n 0, 1) := by decide +kernel
theorem d_M_input_157 : decode y_M_input.2.1 157 = .ok (.getfield 53, 3) := by decide +kernel
theorem d_M_input_160 : decode y_M_input.2.1 160 = .ok (.aload_n 0, 1) := by decide +kernel
theorem d_M_input_161 : decode y_M_input.2.1 161 = .ok (.iload_n 1, 1) := by decide +kernel
theorem d_M_input_162 : decode y_M_input.2.1 162 = .ok (.iload_n 2, 1) := by decide +kernel
theorem d_M_input_163 : decode y_M_input.2.1 163 = .ok (.invokevirtual 227, 3) := by decide +kernel
theorem d_M_input_166 : decode y_M_input.2.1 166 = .ok (.iload_n 3, 1) := by decide +kernel
theorem d_M_input_167 : decode y_M_input.2.1 167 = .ok (.iastore, 1) := by decide +kernel
theorem d_M_input_168 : decode y_M_input.2.1 168 = .ok (.aload_n 0, 1) := by decide +kernel
theorem d_M_input_169 : decode y_M_input.2.1 169 = .ok (.getfield 57, 3) := by decide +kernel
theorem d_M_input_172 : decode y_M_input.2.1 172 = .ok (.aload_n 0, 1) := by decide +kernel
theorem d_M_input_173 : decode y_M_input.2.1 173 = .ok (.iload_n 1, 1) := by decide +kernel
theorem d_M_input_174 : decode y_M_input.2.1 174 = .ok (.iload_n 2, 1) := by decide +kernel
theorem d_M_input_175 : decode y_M_input.2.1 175 = .ok (.invokevirtual 227, 3) := by decide +kernel
theorem d_M_input_178 : decode y_M_input.2.1 178 = .ok (.iconst 1, 1) := by decide +kernel
theorem d_M_input_179 : decode y_M_input.2.1 179 = .ok (.bastore, 1) := by decide +kernel
theorem d_M_input_180 : decode y_M_input.2.1 180 = .ok (.iload 5, 2) := by decide +kernel
theorem d_M_input_182 : decode y_M_input.2.1 182 = .ok (.ifCond .le 7, 3) := by decide +kernel
theorem d_M_input_185 : decode y_M_input.2.1 185 = .ok (.aload_n 0, 1) := by decide +kernel
theorem d_M_input_186 : decode y_M_input.2.1 186 = .ok (.invokevirtual 259, 3) := by decide +kernel
theorem d_M_input_189 : decode y_M_input.2.1 189 = .ok (.aload_n 0, 1) := by decide +kernel
theorem d_M_input_190 : decode y_M_input.2.1 190 = .ok (.dup, 1) := by decide +kernel
theorem d_M_input_191 : decode y_M_input.2.1 191 = .ok (.getfield 139, 3) := by decide +kernel
theorem d_M_input_194 : decode y_M_input.2.1 194 = .ok (.iload 5, 2) := by decide +kernel
theorem d_M_input_196 : decode y_M_input.2.1 196 = .ok (.iadd, 1) := by decide +kernel
theorem d_M_input_197 : decode y_M_input.2.1 197 = .ok (.putfield 139, 3) := by decide +kernel
theorem d_M_input_200 : decode y_M_input.2.1 200 = .ok (.aload_n 0, 1) := by decide +kernel
theorem d_M_input_201 : decode y_M_input.2.1 201 = .ok (.invokevirtual 252, 3) := by decide +kernel
theorem d_M_input_204 : decode y_M_input.2.1 204 = .ok (.iload 5, 2) := by decide +kernel
theorem d_M_input_206 : decode y_M_input.2.1 206 = .ok (.ireturn, 1) := by decide +kernel
theorem s_M_input : ab_Stat y_M_input 3 := ⟨(k12 167 rfl rfl), (k1 19 rfl rfl), ⟨by decide, by decide⟩, by decide +kernel⟩
theorem i_M_input : Cond.instanceMethod y_M_input.1 ∈ ab_T := (k12 165 rfl rfl)
theorem v_M_input : Cond.selects "WorldEngineModel" y_M_input.1 y_M_input.1 ∈ ab_T := (k12 166 rfl rfl)
def B_M_input_189 (N : Nat) (p0 : Nat) (p1 : Int32) (p2 : Int32) (p3 : Int32) (l5 : Int32) (H : Hp) : Option (Int32 × Hp) :=
    ck (H.sh[p0]? = some (12, 0)) <|
    bnd ((H.D p0 13)) fun x68 =>
    bnd (H.sD p0 13 (x68 + l5)) fun H69 =>
    bC (F_M_confirms N p0 H69) fun v71 H72 =>
    some (l5, H72)
set_option maxRecDepth 20000 in
set_option maxHeartbeats 2000000 in
theorem mB_M_input_189 {N : Nat} {p0 : Nat} {p1 : Int32} {p2 : Int32} {p3 : Int32} {l5 : Int32} {H : Hp} {r : Int32 × Hp} (hF : B_M_input_189 N p0 p1 p2 p3 l5 H = some r) : Sa H r.2 := by
  unfold B_M_input_189 at hF
  have hm := Sa.rf H
  obtain ⟨q73, hG⟩ := ck_s hF; clear hF
  obtain ⟨x74, -, hF⟩ := bnd_g hG; clear hG
  obtain ⟨H75, eH75, hG⟩ := bnd_g hF; clear hF
  replace hm : Sa H H75 := by rw [eH75]; exact hm
  obtain ⟨v77, H78, z76, hF⟩ := bC_s hG; clear hG
  replace hm : Sa H H78 := hm.tr (m_M_confirms z76)
  have hr := Option.some.inj hF; subst hr
  exact hm
set_option maxRecDepth 20000 in
set_option maxHeartbeats 2000000 in
theorem kB_M_input_189 {N : Nat} {p0 : Nat} {p1 : Int32} {p2 : Int32} {p3 : Int32} {l5 : Int32} {H : Hp} {r : Int32 × Hp} (hF : B_M_input_189 N p0 p1 p2 p3 l5 H = some r) : ab_V y_M_input { frames := 331, cells := 0, slots := 0, locals := 8151 } (po (.returned (some (.int r.1))) r.2) 0 0 0 0 189 [some (.ref p0), some (.int p1), some (.int p2), some (.int p3), none, some (.int l5)] [] (hpw H) := by
  unfold B_M_input_189 at hF
  refine ab_aload_n d_M_input_189 rfl rfl rfl ?_
  refine ab_dup d_M_input_190 rfl ?_
  obtain ⟨q67, hG⟩ := ck_s hF; clear hF
  refine hp_getI (f := 13) d_M_input_191 q67 (by decide) rfl (by decide) (k10 6 rfl rfl) rfl ?_
  refine ab_topi (fun x68 ex68 => ?_)
  replace hG := bnd_s ex68 hG
  refine ab_iload d_M_input_194 rfl ?_
  refine ab_iadd d_M_input_196 ?_
  refine hp_putI (v := x68 + l5) (f := 13) d_M_input_197 q67 (by decide) rfl (by decide) (k10 6 rfl rfl) rfl rfl (fun _ => rfl) (fun _ => rfl) rfl ?_
  refine hp_gen (fun H69 eH69 => ?_)
  replace hG := bnd_s eH69 hG
  have s_9 : Sa H H69 := by rw [eH69]; exact Sa.rf _
  refine ab_aload_n d_M_input_200 rfl rfl rfl ?_
  obtain ⟨v71, H72, z70, hF⟩ := bC_s hG; clear hG
  refine hp_callV_v (H1 := H72) (As := []) (rest := []) d_M_input_201 (k_M_confirms z70) (ab_mkC s_M_confirms (Nat.le_of_ble_eq_true rfl) (Nat.le_of_ble_eq_true rfl) (Nat.le_refl 0) (Nat.le_refl 0)) (k12 160 rfl rfl) i_M_confirms v_M_confirms (by rw [(s_9).1]; exact q67) (by decide) rfl rfl (Nat.le_of_ble_eq_true rfl) ?_
  have s_10 : Sa H H72 := (s_9).tr (m_M_confirms z70)
  refine ab_iload d_M_input_204 rfl ?_
  exact ab_iret d_M_input_206 rfl (Nat.le_refl _) (Nat.le_refl _) (by have hr := Option.some.inj hF; subst hr; exact ⟨rfl, rfl⟩)
def B_M_input_156 (N : Nat) (p0 : Nat) (p1 : Int32) (p2 : Int32) (p3 : Int32) (l5 : Int32) (H : Hp) : Option (Int32 × Hp) :=
    ck (H.sh[p0]? = some (12, 0)) <|
    rf (H.P p0 14) fun a48 =>
    bC (F_M_slot N p0 p1 p2 H) fun v51 H52 =>
    ar H52 100 a48 fun n53 =>
    ck (inb v51 n53) <|
    bnd (H52.sD a48 (v51).toNatClampNeg p3) fun H56 =>
    rf (H56.P p0 15) fun a57 =>
    bC (F_M_slot N p0 p1 p2 H56) fun v60 H61 =>
    ar H61 102 a57 fun n62 =>
    ck (inb v60 n62) <|
    bnd (H61.sD a57 (v60).toNatClampNeg (vp_nar .boolean (1 : Int32))) fun H65 =>
    if l5 ≤ (0 : Int32) then
    B_M_input_189 N p0 p1 p2 p3 l5 H65
    else
    bC (F_M_runsAgain N p0 H65) fun v80 H81 =>
    B_M_input_189 N p0 p1 p2 p3 l5 H81
set_option maxRecDepth 20000 in
set_option maxHeartbeats 2000000 in
theorem mB_M_input_156 {N : Nat} {p0 : Nat} {p1 : Int32} {p2 : Int32} {p3 : Int32} {l5 : Int32} {H : Hp} {r : Int32 × Hp} (hF : B_M_input_156 N p0 p1 p2 p3 l5 H = some r) : Sa H r.2 := by
  unfold B_M_input_156 at hF
  have hm := Sa.rf H
  obtain ⟨q82, hG⟩ := ck_s hF; clear hF
  obtain ⟨a83, e84, hF⟩ := rf_s hG; clear hG
  obtain ⟨v86, H87, z85, hG⟩ := bC_s hF; clear hF
  replace hm : Sa H H87 := hm.tr (m_M_slot z85)
  obtain ⟨n88, q89, hF⟩ := ar_s hG; clear hG
  obtain ⟨q90, hG⟩ := ck_s hF; clear hF
  obtain ⟨H91, eH91, hF⟩ := bnd_g hG; clear hG
  replace hm : Sa H H91 := by rw [eH91]; exact hm
  obtain ⟨a92, e93, hG⟩ := rf_s hF; clear hF
  obtain ⟨v95, H96, z94, hF⟩ := bC_s hG; clear hG
  replace hm : Sa H H96 := hm.tr (m_M_slot z94)
  obtain ⟨n97, q98, hG⟩ := ar_s hF; clear hF
  obtain ⟨q99, hF⟩ := ck_s hG; clear hG
  obtain ⟨H100, eH100, hG⟩ := bnd_g hF; clear hF
  replace hm : Sa H H100 := by rw [eH100]; exact hm
  rcases ite_s hG with ⟨q_18, hF⟩ | ⟨q_18, hF⟩
  · clear hG
    exact hm.tr (mB_M_input_189 hF)
  · clear hG
    obtain ⟨v103, H104, z102, hG⟩ := bC_s hF; clear hF
    replace hm : Sa H H104 := hm.tr (m_M_runsAgain z102)
    exact hm.tr (mB_M_input_189 hG)
set_option maxRecDepth 20000 in
set_option maxHeartbeats 2000000 in
theorem kB_M_input_156 {N : Nat} {p0 : Nat} {p1 : Int32} {p2 : Int32} {p3 : Int32} {l5 : Int32} {H : Hp} {r : Int32 × Hp} (hF : B_M_input_156 N p0 p1 p2 p3 l5 H = some r) : ab_V y_M_input { frames := 331, cells := 0, slots := 0, locals := 8151 } (po (.returned (some (.int r.1))) r.2) 0 0 0 0 156 [some (.ref p0), some (.int p1), some (.int p2), some (.int p3), none, some (.int l5)] [] (hpw H) := by
  unfold B_M_input_156 at hF
  refine ab_aload_n d_M_input_156 rfl rfl rfl ?_
  obtain ⟨q47, hG⟩ := ck_s hF; clear hF
  obtain ⟨a48, e49, hF⟩ := rf_s hG; clear hG
  refine hp_getR (f := 14) d_M_input_157 q47 (by decide) rfl (by decide) (k10 7 rfl rfl) rfl e49 ?_
  refine ab_aload_n d_M_input_160 rfl rfl rfl ?_
  refine ab_iload_n d_M_input_161 rfl rfl ?_
  refine ab_iload_n d_M_input_162 rfl rfl ?_
  obtain ⟨v51, H52, z50, hG⟩ := bC_s hF; clear hF
  refine hp_callV_a (v := .int v51) (H1 := H52) (As := [.int p1, .int p2]) (rest := [.ref a48]) d_M_input_163 (k_M_slot z50) (ab_mkC s_M_slot (Nat.le_of_ble_eq_true rfl) (Nat.le_of_ble_eq_true rfl) (Nat.le_refl 0) (Nat.le_refl 0)) (k11 210 rfl rfl) i_M_slot v_M_slot q47 (by decide) rfl rfl (Nat.le_of_ble_eq_true rfl) ?_
  have s_5 : Sa H H52 := (m_M_slot z50)
  refine ab_iload_n d_M_input_166 rfl rfl ?_
  obtain ⟨n53, q54, hF⟩ := ar_s hG; clear hG
  rw [(s_5).1] at q54
  obtain ⟨q55, hG⟩ := ck_s hF; clear hF
  refine hp_iast d_M_input_167 tI (by rw [(s_5).1]; exact q54) q55 ?_
  refine hp_gen (fun H56 eH56 => ?_)
  replace hG := bnd_s eH56 hG
  have s_6 : Sa H H56 := by rw [eH56]; exact s_5
  refine ab_aload_n d_M_input_168 rfl rfl rfl ?_
  obtain ⟨a57, e58, hF⟩ := rf_s hG; clear hG
  refine hp_getR (f := 15) d_M_input_169 (by rw [(s_6).1]; exact q47) (by decide) rfl (by decide) (k10 8 rfl rfl) rfl e58 ?_
  refine ab_aload_n d_M_input_172 rfl rfl rfl ?_
  refine ab_iload_n d_M_input_173 rfl rfl ?_
  refine ab_iload_n d_M_input_174 rfl rfl ?_
  obtain ⟨v60, H61, z59, hG⟩ := bC_s hF; clear hF
  refine hp_callV_a (v := .int v60) (H1 := H61) (As := [.int p1, .int p2]) (rest := [.ref a57]) d_M_input_175 (k_M_slot z59) (ab_mkC s_M_slot (Nat.le_of_ble_eq_true rfl) (Nat.le_of_ble_eq_true rfl) (Nat.le_refl 0) (Nat.le_refl 0)) (k11 210 rfl rfl) i_M_slot v_M_slot (by rw [(s_6).1]; exact q47) (by decide) rfl rfl (Nat.le_of_ble_eq_true rfl) ?_
  have s_7 : Sa H H61 := (s_6).tr (m_M_slot z59)
  refine ab_iconst (v := 1) d_M_input_178 (by decide) ?_
  obtain ⟨n62, q63, hF⟩ := ar_s hG; clear hG
  rw [(s_7).1] at q63
  obtain ⟨q64, hG⟩ := ck_s hF; clear hF
  refine hp_zast d_M_input_179 tZ (by rw [(s_7).1]; exact q63) q64 ?_
  refine hp_gen (fun H65 eH65 => ?_)
  replace hG := bnd_s eH65 hG
  have s_8 : Sa H H65 := by rw [eH65]; exact s_7
  refine ab_iload d_M_input_180 rfl ?_
  refine ab_if_le (tgt := 189) d_M_input_182 (by decide) (fun q66 => ?_) (fun q66 => ?_)
  · rw [if_pos q66] at hG
    exact kB_M_input_189 hG
  · rw [if_neg q66] at hG
    refine ab_aload_n d_M_input_185 rfl rfl rfl ?_
    obtain ⟨v80, H81, z79, hF⟩ := bC_s hG; clear hG
    refine hp_callV_v (H1 := H81) (As := []) (rest := []) d_M_input_186 (k_M_runsAgain z79) (ab_mkC s_M_runsAgain (Nat.le_of_ble_eq_true rfl) (Nat.le_of_ble_eq_true rfl) (Nat.le_refl 0) (Nat.le_refl 0)) (k12 170 rfl rfl) i_M_runsAgain v_M_runsAgain (by rw [(s_8).1]; exact q47) (by decide) rfl rfl (Nat.le_of_ble_eq_true rfl) ?_
    have s_13 : Sa H H81 := (s_8).tr (m_M_runsAgain z79)
    exact kB_M_input_189 hF
def B_M_input_154 (N : Nat) (p0 : Nat) (p1 : Int32) (p2 : Int32) (p3 : Int32) (w0 : Int32) (H : Hp) : Option (Int32 × Hp) :=
    B_M_input_156 N p0 p1 p2 p3 w0 H
set_option maxRecDepth 20000 in
set_option maxHeartbeats 2000000 in
theorem mB_M_input_154 {N : Nat} {p0 : Nat} {p1 : Int32} {p2 : Int32} {p3 : Int32} {w0 : Int32} {H : Hp} {r : Int32 × Hp} (hF : B_M_input_154 N p0 p1 p2 p3 w0 H = some r) : Sa H r.2 := by
  unfold B_M_input_154 at hF
  have hm := Sa.rf H
  exact hm.tr (mB_M_input_156 hF)
set_option maxRecDepth 20000 in
set_option maxHeartbeats 2000000 in
theorem kB_M_input_154 {N : Nat} {p0 : Nat} {p1 : Int32} {p2 : Int32} {p3 : Int32} {w0 : Int32} {H : Hp} {r : Int32 × Hp} (hF : B_M_input_154 N p0 p1 p2 p3 w0 H = some r) : ab_V y_M_input { frames := 331, cells := 0, slots := 0, locals := 8151 } (po (.returned (some (.int r.1))) r.2) 0 0 0 0 154 [some (.ref p0), some (.int p1), some (.int p2), some (.int p3), none, none] [.int w0] (hpw H) := by
  unfold B_M_input_154 at hF
  refine ab_istore (lv' := [some (.ref p0), some (.int p1), some (.int p2), some (.int p3), none, some (.int w0)]) d_M_input_154 (by decide) rfl ?_
  exact kB_M_input_156 hF
def B_M_input_79 (N : Nat) (p0 : Nat) (p1 : Int32) (p2 : Int32) (p3 : Int32) (w0 : Int32) (H : Hp) : Option (Int32 × Hp) :=
    if ((w0 >>> (p1 &&& 31)) &&& (1 : Int32)) = (0 : Int32) then
    some ((-3), H)
    else
    ck (H.sh[p0]? = some (12, 0)) <|
    rf (H.P p0 15) fun a32 =>
    bC (F_M_slot N p0 p1 p2 H) fun v35 H36 =>
    ar H36 102 a32 fun n37 =>
    ck (inb v35 n37) <|
    bnd ((H36.D a32 (v35).toNatClampNeg)) fun x40 =>
    if x40 = (0 : Int32) then
    rf (H36.P p0 9) fun a42 =>
    ck (H36.sh[a42]? = some (13, 0)) <|
    bnd ((H36.D a42 0)) fun x45 =>
    if x45 < p2 then
    B_M_input_156 N p0 p1 p2 p3 0 H36
    else
    bC (F_M_bitsOf N p0 p2 H36) fun v106 H107 =>
    rf (H107.P p0 18) fun a108 =>
    ar H107 100 a108 fun n110 =>
    ck (inb p1 n110) <|
    bnd ((H107.D a108 (p1).toNatClampNeg)) fun x113 =>
    if x113 = p3 then
    B_M_input_154 N p0 p1 p2 p3 0 H107
    else
    rf (H107.P p0 9) fun a115 =>
    ck (H107.sh[a115]? = some (13, 0)) <|
    bnd ((H107.D a115 0)) fun x118 =>
    B_M_input_154 N p0 p1 p2 p3 ((x118 - p2) + (1 : Int32)) H107
    else
    some ((-4), H36)
set_option maxRecDepth 20000 in
set_option maxHeartbeats 2000000 in
theorem mB_M_input_79 {N : Nat} {p0 : Nat} {p1 : Int32} {p2 : Int32} {p3 : Int32} {w0 : Int32} {H : Hp} {r : Int32 × Hp} (hF : B_M_input_79 N p0 p1 p2 p3 w0 H = some r) : Sa H r.2 := by
  unfold B_M_input_79 at hF
  have hm := Sa.rf H
  rcases ite_s hF with ⟨q_21, hG⟩ | ⟨q_21, hG⟩
  · clear hF
    have hr := Option.some.inj hG; subst hr
    exact hm
  · clear hF
    obtain ⟨q120, hF⟩ := ck_s hG; clear hG
    obtain ⟨a121, e122, hG⟩ := rf_s hF; clear hF
    obtain ⟨v124, H125, z123, hF⟩ := bC_s hG; clear hG
    replace hm : Sa H H125 := hm.tr (m_M_slot z123)
    obtain ⟨n126, q127, hG⟩ := ar_s hF; clear hF
    obtain ⟨q128, hF⟩ := ck_s hG; clear hG
    obtain ⟨x129, -, hG⟩ := bnd_g hF; clear hF
    rcases ite_s hG with ⟨q_23, hF⟩ | ⟨q_23, hF⟩
    · clear hG
      obtain ⟨a131, e132, hG⟩ := rf_s hF; clear hF
      obtain ⟨q133, hF⟩ := ck_s hG; clear hG
      obtain ⟨x134, -, hG⟩ := bnd_g hF; clear hF
      rcases ite_s hG with ⟨q_24, hF⟩ | ⟨q_24, hF⟩
      · clear hG
        exact hm.tr (mB_M_input_156 hF)
      · clear hG
        obtain ⟨v137, H138, z136, hG⟩ := bC_s hF; clear hF
        replace hm : Sa H H138 := hm.tr (m_M_bitsOf z136)
        obtain ⟨a139, e140, hF⟩ := rf_s hG; clear hG
        obtain ⟨n141, q142, hG⟩ := ar_s hF; clear hF
        obtain ⟨q143, hF⟩ := ck_s hG; clear hG
        obtain ⟨x144, -, hG⟩ := bnd_g hF; clear hF
        rcases ite_s hG with ⟨q_26, hF⟩ | ⟨q_26, hF⟩
        · clear hG
          exact hm.tr (mB_M_input_154 hF)
        · clear hG
          obtain ⟨a146, e147, hG⟩ := rf_s hF; clear hF
          obtain ⟨q148, hF⟩ := ck_s hG; clear hG
          obtain ⟨x149, -, hG⟩ := bnd_g hF; clear hF
          exact hm.tr (mB_M_input_154 hG)
    · clear hG
      have hr := Option.some.inj hF; subst hr
      exact hm
set_option maxRecDepth 20000 in
set_option maxHeartbeats 2000000 in
theorem kB_M_input_79 {N : Nat} {p0 : Nat} {p1 : Int32} {p2 : Int32} {p3 : Int32} {w0 : Int32} {H : Hp} {r : Int32 × Hp} (hF : B_M_input_79 N p0 p1 p2 p3 w0 H = some r) : ab_V y_M_input { frames := 331, cells := 0, slots := 0, locals := 8151 } (po (.returned (some (.int r.1))) r.2) 0 0 0 0 79 [some (.ref p0), some (.int p1), some (.int p2), some (.int p3), none, none] [.int w0] (hpw H) := by
  unfold B_M_input_79 at hF
  refine ab_istore (lv' := [some (.ref p0), some (.int p1), some (.int p2), some (.int p3), some (.int w0), none]) d_M_input_79 (by decide) rfl ?_
  refine ab_iload d_M_input_81 rfl ?_
  refine ab_iload_n d_M_input_83 rfl rfl ?_
  refine ab_ishr d_M_input_84 ?_
  refine ab_iconst (v := 1) d_M_input_85 (by decide) ?_
  refine ab_iand d_M_input_86 ?_
  refine ab_if_ne (tgt := 93) d_M_input_87 (by decide) (fun q30 => ?_) (fun q30 => ?_)
  · rw [if_neg q30] at hF
    refine ab_aload_n d_M_input_93 rfl rfl rfl ?_
    obtain ⟨q31, hG⟩ := ck_s hF; clear hF
    obtain ⟨a32, e33, hF⟩ := rf_s hG; clear hG
    refine hp_getR (f := 15) d_M_input_94 q31 (by decide) rfl (by decide) (k10 8 rfl rfl) rfl e33 ?_
    refine ab_aload_n d_M_input_97 rfl rfl rfl ?_
    refine ab_iload_n d_M_input_98 rfl rfl ?_
    refine ab_iload_n d_M_input_99 rfl rfl ?_
    obtain ⟨v35, H36, z34, hG⟩ := bC_s hF; clear hF
    refine hp_callV_a (v := .int v35) (H1 := H36) (As := [.int p1, .int p2]) (rest := [.ref a32]) d_M_input_100 (k_M_slot z34) (ab_mkC s_M_slot (Nat.le_of_ble_eq_true rfl) (Nat.le_of_ble_eq_true rfl) (Nat.le_refl 0) (Nat.le_refl 0)) (k11 210 rfl rfl) i_M_slot v_M_slot q31 (by decide) rfl rfl (Nat.le_of_ble_eq_true rfl) ?_
    have s_4 : Sa H H36 := (m_M_slot z34)
    obtain ⟨n37, q38, hF⟩ := ar_s hG; clear hG
    rw [(s_4).1] at q38
    obtain ⟨q39, hG⟩ := ck_s hF; clear hF
    refine hp_zald d_M_input_103 tZ (by rw [(s_4).1]; exact q38) q39 ?_
    refine ab_topi (fun x40 ex40 => ?_)
    replace hG := bnd_s ex40 hG
    refine ab_if_eq (tgt := 110) d_M_input_104 (by decide) (fun q41 => ?_) (fun q41 => ?_)
    · rw [if_pos q41] at hG
      refine ab_iconst (v := 0) d_M_input_110 (by decide) ?_
      refine ab_istore (lv' := [some (.ref p0), some (.int p1), some (.int p2), some (.int p3), some (.int w0), some (.int 0)]) d_M_input_111 (by decide) rfl ?_
      refine ab_iload_n d_M_input_113 rfl rfl ?_
      refine ab_aload_n d_M_input_114 rfl rfl rfl ?_
      obtain ⟨a42, e43, hF⟩ := rf_s hG; clear hG
      refine hp_getR (f := 9) d_M_input_115 (by rw [(s_4).1]; exact q31) (by decide) rfl (by decide) (k10 2 rfl rfl) rfl e43 ?_
      obtain ⟨q44, hG⟩ := ck_s hF; clear hF
      rw [(s_4).1] at q44
      refine hp_getIN (f := 0) d_M_input_118 (by rw [(s_4).1]; exact q44) (by decide) rfl (by decide) (k9 89 rfl rfl) rfl ?_
      refine ab_topi (fun x45 ex45 => ?_)
      replace hG := bnd_s ex45 hG
      refine ab_icmp_gt (tgt := 156) d_M_input_121 (by decide) (fun q46 => ?_) (fun q46 => ?_)
      · rw [if_pos q46] at hG
        refine ab_le (lv' := [some (.ref p0), some (.int p1), some (.int p2), some (.int p3), none, some (.int 0)]) ⟨rfl, ⟨rfl, ⟨rfl, ⟨rfl, ⟨rfl, trivial⟩⟩⟩⟩⟩ ?_
        exact kB_M_input_156 hG
      · rw [if_neg q46] at hG
        refine ab_aload_n d_M_input_124 rfl rfl rfl ?_
        refine ab_iload_n d_M_input_125 rfl rfl ?_
        obtain ⟨v106, H107, z105, hF⟩ := bC_s hG; clear hG
        refine hp_callV_v (H1 := H107) (As := [.int p2]) (rest := []) d_M_input_126 (k_M_bitsOf z105) (ab_mkC s_M_bitsOf (Nat.le_of_ble_eq_true rfl) (Nat.le_of_ble_eq_true rfl) (Nat.le_refl 0) (Nat.le_refl 0)) (k11 206 rfl rfl) i_M_bitsOf v_M_bitsOf (by rw [(s_4).1]; exact q31) (by decide) rfl rfl (Nat.le_of_ble_eq_true rfl) ?_
        have s_20 : Sa H H107 := (s_4).tr (m_M_bitsOf z105)
        refine ab_aload_n d_M_input_129 rfl rfl rfl ?_
        obtain ⟨a108, e109, hG⟩ := rf_s hF; clear hF
        refine hp_getR (f := 18) d_M_input_130 (by rw [(s_20).1]; exact q31) (by decide) rfl (by decide) (k10 11 rfl rfl) rfl e109 ?_
        refine ab_iload_n d_M_input_133 rfl rfl ?_
        obtain ⟨n110, q111, hF⟩ := ar_s hG; clear hG
        rw [(s_20).1] at q111
        obtain ⟨q112, hG⟩ := ck_s hF; clear hF
        refine hp_iald d_M_input_134 tI (by rw [(s_20).1]; exact q111) q112 ?_
        refine ab_topi (fun x113 ex113 => ?_)
        replace hG := bnd_s ex113 hG
        refine ab_iload_n d_M_input_135 rfl rfl ?_
        refine ab_icmp_ne (tgt := 143) d_M_input_136 (by decide) (fun q114 => ?_) (fun q114 => ?_)
        · rw [if_neg q114] at hG
          refine ab_aload_n d_M_input_143 rfl rfl rfl ?_
          obtain ⟨a115, e116, hF⟩ := rf_s hG; clear hG
          refine hp_getR (f := 9) d_M_input_144 (by rw [(s_20).1]; exact q31) (by decide) rfl (by decide) (k10 2 rfl rfl) rfl e116 ?_
          obtain ⟨q117, hG⟩ := ck_s hF; clear hF
          rw [(s_20).1] at q117
          refine hp_getIN (f := 0) d_M_input_147 (by rw [(s_20).1]; exact q117) (by decide) rfl (by decide) (k9 89 rfl rfl) rfl ?_
          refine ab_topi (fun x118 ex118 => ?_)
          replace hG := bnd_s ex118 hG
          refine ab_iload_n d_M_input_150 rfl rfl ?_
          refine ab_isub d_M_input_151 ?_
          refine ab_iconst (v := 1) d_M_input_152 (by decide) ?_
          refine ab_iadd d_M_input_153 ?_
          refine ab_le (lv' := [some (.ref p0), some (.int p1), some (.int p2), some (.int p3), none, none]) ⟨rfl, ⟨rfl, ⟨rfl, ⟨rfl, trivial⟩⟩⟩⟩ ?_
          exact kB_M_input_154 hG
        · rw [if_pos q114] at hG
          refine ab_iconst (v := 0) d_M_input_139 (by decide) ?_
          refine ab_goto (tgt := 154) d_M_input_140 (by decide) ?_
          refine ab_le (lv' := [some (.ref p0), some (.int p1), some (.int p2), some (.int p3), none, none]) ⟨rfl, ⟨rfl, ⟨rfl, ⟨rfl, trivial⟩⟩⟩⟩ ?_
          exact kB_M_input_154 hG
    · rw [if_neg q41] at hG
      refine ab_bipush (v := (-4)) d_M_input_107 (by decide) ?_
      exact ab_iret d_M_input_109 rfl (Nat.le_refl _) (Nat.le_refl _) (by have hr := Option.some.inj hG; subst hr; exact ⟨rfl, rfl⟩)
  · rw [if_pos q30] at hF
    refine ab_bipush (v := (-3)) d_M_input_90 (by decide) ?_
    exact ab_iret d_M_input_92 rfl (Nat.le_refl _) (Nat.le_refl _) (by have hr := Option.some.inj hF; subst hr; exact ⟨rfl, rfl⟩)
def F_M_input (N : Nat) (p0 : Nat) (p1 : Int32) (p2 : Int32) (p3 : Int32) (H : Hp) : Option (Int32 × Hp) :=
    ck (H.sh[p0]? = some (12, 0)) <|
    bnd (H.sD p0 0 (0 : Int32)) fun H2 =>
    bC (F_M_in N ((p1 : Int32).toInt64) (0 : Int64) (3 : Int64) H2) fun v4 H5 =>
    if v4 = (0 : Int32) then
    some ((-1), H5)
    else
    rf (H5.P p0 8) fun a7 =>
    ck (H5.sh[a7]? = some (13, 0)) <|
    bnd ((H5.D a7 0)) fun x10 =>
    rf (H5.P p0 9) fun a11 =>
    ck (H5.sh[a11]? = some (13, 0)) <|
    bnd ((H5.D a11 0)) fun x14 =>
    bC (F_M_in N ((p2 : Int32).toInt64) (((x10 : Int32).toInt64) + (1 : Int64)) (((x14 : Int32).toInt64) + (16 : Int64)) H5) fun v16 H17 =>
    if v16 = (0 : Int32) then
    some ((-2), H17)
    else
    rf (H17.P p0 9) fun a19 =>
    ck (H17.sh[a19]? = some (13, 0)) <|
    bnd ((H17.D a19 0)) fun x22 =>
    if p2 ≤ x22 then
    rf (H17.P p0 16) fun a24 =>
    ar H17 100 a24 fun n26 =>
    ck (inb (p2 &&& (63 : Int32)) n26) <|
    bnd ((H17.D a24 ((p2 &&& (63 : Int32))).toNatClampNeg)) fun x29 =>
    B_M_input_79 N p0 p1 p2 p3 x29 H17
    else
    bnd ((H17.D p0 12)) fun x150 =>
    B_M_input_79 N p0 p1 p2 p3 x150 H17
set_option maxRecDepth 20000 in
set_option maxHeartbeats 2000000 in
theorem m_M_input {N : Nat} {p0 : Nat} {p1 : Int32} {p2 : Int32} {p3 : Int32} {H : Hp} {r : Int32 × Hp} (hF : F_M_input N p0 p1 p2 p3 H = some r) : Sa H r.2 := by
  unfold F_M_input at hF
  have hm := Sa.rf H
  obtain ⟨q151, hG⟩ := ck_s hF; clear hF
  obtain ⟨H152, eH152, hF⟩ := bnd_g hG; clear hG
  replace hm : Sa H H152 := by rw [eH152]; exact hm
  obtain ⟨v154, H155, z153, hG⟩ := bC_s hF; clear hF
  replace hm : Sa H H155 := hm.tr (m_M_in z153)
  rcases ite_s hG with ⟨q_29, hF⟩ | ⟨q_29, hF⟩
  · clear hG
    have hr := Option.some.inj hF; subst hr
    exact hm
  · clear hG
    obtain ⟨a157, e158, hG⟩ := rf_s hF; clear hF
    obtain ⟨q159, hF⟩ := ck_s hG; clear hG
    obtain ⟨x160, -, hG⟩ := bnd_g hF; clear hF
    obtain ⟨a161, e162, hF⟩ := rf_s hG; clear hG
    obtain ⟨q163, hG⟩ := ck_s hF; clear hF
    obtain ⟨x164, -, hF⟩ := bnd_g hG; clear hG
    obtain ⟨v166, H167, z165, hG⟩ := bC_s hF; clear hF
    replace hm : Sa H H167 := hm.tr (m_M_in z165)
    rcases ite_s hG with ⟨q_31, hF⟩ | ⟨q_31, hF⟩
    · clear hG
      have hr := Option.some.inj hF; subst hr
      exact hm
    · clear hG
      obtain ⟨a169, e170, hG⟩ := rf_s hF; clear hF
      obtain ⟨q171, hF⟩ := ck_s hG; clear hG
      obtain ⟨x172, -, hG⟩ := bnd_g hF; clear hF
      rcases ite_s hG with ⟨q_32, hF⟩ | ⟨q_32, hF⟩
      · clear hG
        obtain ⟨a174, e175, hG⟩ := rf_s hF; clear hF
        obtain ⟨n176, q177, hF⟩ := ar_s hG; clear hG
        obtain ⟨q178, hG⟩ := ck_s hF; clear hF
        obtain ⟨x179, -, hF⟩ := bnd_g hG; clear hG
        exact hm.tr (mB_M_input_79 hF)
      · clear hG
        obtain ⟨x180, -, hG⟩ := bnd_g hF; clear hF
        exact hm.tr (mB_M_input_79 hG)
set_option maxRecDepth 20000 in
set_option maxHeartbeats 2000000 in
theorem k_M_input {N : Nat} {p0 : Nat} {p1 : Int32} {p2 : Int32} {p3 : Int32} {H : Hp} {r : Int32 × Hp} (hF : F_M_input N p0 p1 p2 p3 H = some r) : ab_M y_M_input { frames := 331, cells := 0, slots := 0, locals := 8151 } [.ref p0, .int p1, .int p2, .int p3] (hpw H) (po (.returned (some (.int r.1))) r.2) := by
  unfold F_M_input at hF
  refine ab_of2 (lv := [some (.ref p0), some (.int p1), some (.int p2), some (.int p3), none, none]) 2 rfl rfl (Nat.le_of_ble_eq_true rfl) ?_
  refine ab_aload_n d_M_input_0 rfl rfl rfl ?_
  refine ab_iconst (v := 0) d_M_input_1 (by decide) ?_
  obtain ⟨q1, hG⟩ := ck_s hF; clear hF
  refine hp_putI (v := 0) (f := 0) d_M_input_2 q1 (by decide) rfl (by decide) (k9 233 rfl rfl) rfl rfl (fun _ => rfl) (fun _ => rfl) rfl ?_
  refine hp_gen (fun H2 eH2 => ?_)
  replace hG := bnd_s eH2 hG
  have s_1 : Sa H H2 := by rw [eH2]; exact Sa.rf _
  refine ab_iload_n d_M_input_5 rfl rfl ?_
  refine ab_i2l d_M_input_6 ?_
  refine ab_lconst (v := 0) d_M_input_7 (by decide) ?_
  refine ab_ldc2 d_M_input_8 (k12 168 rfl rfl) ?_
  obtain ⟨v4, H5, z3, hF⟩ := bC_s hG; clear hG
  refine hp_callS_a (v := .int v4) (H1 := H5) (As := [.long ((p1 : Int32).toInt64), .long 0, .long 3]) (rest := []) d_M_input_11 (k_M_in z3) (ab_mkC s_M_in (Nat.le_of_ble_eq_true rfl) (Nat.le_of_ble_eq_true rfl) (Nat.le_refl 0) (Nat.le_refl 0)) (k10 93 rfl rfl) t_M_in rfl (Nat.le_of_ble_eq_true rfl) ?_
  have s_2 : Sa H H5 := (s_1).tr (m_M_in z3)
  refine ab_if_ne (tgt := 19) d_M_input_14 (by decide) (fun q6 => ?_) (fun q6 => ?_)
  · rw [if_neg q6] at hF
    refine ab_iload_n d_M_input_19 rfl rfl ?_
    refine ab_i2l d_M_input_20 ?_
    refine ab_aload_n d_M_input_21 rfl rfl rfl ?_
    obtain ⟨a7, e8, hG⟩ := rf_s hF; clear hF
    refine hp_getR (f := 8) d_M_input_22 (by rw [(s_2).1]; exact q1) (by decide) rfl (by decide) (k10 1 rfl rfl) rfl e8 ?_
    obtain ⟨q9, hF⟩ := ck_s hG; clear hG
    rw [(s_2).1] at q9
    refine hp_getIN (f := 0) d_M_input_25 (by rw [(s_2).1]; exact q9) (by decide) rfl (by decide) (k9 89 rfl rfl) rfl ?_
    refine ab_topi (fun x10 ex10 => ?_)
    replace hF := bnd_s ex10 hF
    refine ab_i2l d_M_input_28 ?_
    refine ab_lconst (v := 1) d_M_input_29 (by decide) ?_
    refine ab_ladd d_M_input_30 ?_
    refine ab_aload_n d_M_input_31 rfl rfl rfl ?_
    obtain ⟨a11, e12, hG⟩ := rf_s hF; clear hF
    refine hp_getR (f := 9) d_M_input_32 (by rw [(s_2).1]; exact q1) (by decide) rfl (by decide) (k10 2 rfl rfl) rfl e12 ?_
    obtain ⟨q13, hF⟩ := ck_s hG; clear hG
    rw [(s_2).1] at q13
    refine hp_getIN (f := 0) d_M_input_35 (by rw [(s_2).1]; exact q13) (by decide) rfl (by decide) (k9 89 rfl rfl) rfl ?_
    refine ab_topi (fun x14 ex14 => ?_)
    replace hF := bnd_s ex14 hF
    refine ab_i2l d_M_input_38 ?_
    refine ab_ldc2 d_M_input_39 (k12 169 rfl rfl) ?_
    refine ab_ladd d_M_input_42 ?_
    obtain ⟨v16, H17, z15, hG⟩ := bC_s hF; clear hF
    refine hp_callS_a (v := .int v16) (H1 := H17) (As := [.long ((p2 : Int32).toInt64), .long (((x10 : Int32).toInt64) + (1 : Int64)), .long (((x14 : Int32).toInt64) + (16 : Int64))]) (rest := []) d_M_input_43 (k_M_in z15) (ab_mkC s_M_in (Nat.le_of_ble_eq_true rfl) (Nat.le_of_ble_eq_true rfl) (Nat.le_refl 0) (Nat.le_refl 0)) (k10 93 rfl rfl) t_M_in rfl (Nat.le_of_ble_eq_true rfl) ?_
    have s_3 : Sa H H17 := (s_2).tr (m_M_in z15)
    refine ab_if_ne (tgt := 52) d_M_input_46 (by decide) (fun q18 => ?_) (fun q18 => ?_)
    · rw [if_neg q18] at hG
      refine ab_iload_n d_M_input_52 rfl rfl ?_
      refine ab_aload_n d_M_input_53 rfl rfl rfl ?_
      obtain ⟨a19, e20, hF⟩ := rf_s hG; clear hG
      refine hp_getR (f := 9) d_M_input_54 (by rw [(s_3).1]; exact q1) (by decide) rfl (by decide) (k10 2 rfl rfl) rfl e20 ?_
      obtain ⟨q21, hG⟩ := ck_s hF; clear hF
      rw [(s_3).1] at q21
      refine hp_getIN (f := 0) d_M_input_57 (by rw [(s_3).1]; exact q21) (by decide) rfl (by decide) (k9 89 rfl rfl) rfl ?_
      refine ab_topi (fun x22 ex22 => ?_)
      replace hG := bnd_s ex22 hG
      refine ab_icmp_le (tgt := 70) d_M_input_60 (by decide) (fun q23 => ?_) (fun q23 => ?_)
      · rw [if_pos q23] at hG
        refine ab_aload_n d_M_input_70 rfl rfl rfl ?_
        obtain ⟨a24, e25, hF⟩ := rf_s hG; clear hG
        refine hp_getR (f := 16) d_M_input_71 (by rw [(s_3).1]; exact q1) (by decide) rfl (by decide) (k10 9 rfl rfl) rfl e25 ?_
        refine ab_iload_n d_M_input_74 rfl rfl ?_
        refine ab_bipush (v := 63) d_M_input_75 (by decide) ?_
        refine ab_iand d_M_input_77 ?_
        obtain ⟨n26, q27, hG⟩ := ar_s hF; clear hF
        rw [(s_3).1] at q27
        obtain ⟨q28, hF⟩ := ck_s hG; clear hG
        refine hp_iald d_M_input_78 tI (by rw [(s_3).1]; exact q27) q28 ?_
        refine ab_topi (fun x29 ex29 => ?_)
        replace hF := bnd_s ex29 hF
        exact kB_M_input_79 hF
      · rw [if_neg q23] at hG
        refine ab_aload_n d_M_input_63 rfl rfl rfl ?_
        refine hp_getI (f := 12) d_M_input_64 (by rw [(s_3).1]; exact q1) (by decide) rfl (by decide) (k10 5 rfl rfl) rfl ?_
        refine ab_topi (fun x150 ex150 => ?_)
        replace hG := bnd_s ex150 hG
        refine ab_goto (tgt := 79) d_M_input_67 (by decide) ?_
        exact kB_M_input_79 hG
    · rw [if_pos q18] at hG
      refine ab_bipush (v := (-2)) d_M_input_49 (by decide) ?_
      exact ab_iret d_M_input_51 rfl (Nat.le_refl _) (Nat.le_refl _) (by have hr := Option.some.inj hG; subst hr; exact ⟨rfl, rfl⟩)
  · rw [if_pos q6] at hF
    refine ab_iconst (v := (-1)) d_M_input_17 (by decide) ?_
    exact ab_iret d_M_input_18 rfl (Nat.le_refl _) (Nat.le_refl _) (by have hr := Option.some.inj hF; subst hr; exact ⟨rfl, rfl⟩)
def y_M_seat : ab_Y := (⟨"WorldEngineModel", "seat", "(IZ)Z"⟩, prog_14_method_25_code, 4, (some FieldType.boolean), [])
theorem d_M_seat_0 : decode y_M_seat.2.1 0 = .ok (.aload_n 0, 1) := by decide +kernel
theorem d_M_seat_1 : decode y_M_seat.2.1 1 = .ok (.iconst 0, 1) := by decide +kernel
theorem d_M_seat_2 : decode y_M_seat.2.1 2 = .ok (.putfield 83, 3) := by decide +kernel
theorem d_M_seat_5 : decode y_M_seat.2.1 5 = .ok (.iload_n 1, 1) := by decide +kernel
theorem d_M_seat_6 : decode y_M_seat.2.1 6 = .ok (.i2l, 1) := by decide +kernel
theorem d_M_seat_7 : decode y_M_seat.2.1 7 = .ok (.lconst 0, 1) := by decide +kernel
theorem d_M_seat_8 : decode y_M_seat.2.1 8 = .ok (.ldc2_w 255, 3) := by decide +kernel
theorem d_M_seat_11 : decode y_M_seat.2.1 11 = .ok (.invokestatic 99, 3) := by decide +kernel
theorem d_M_seat_14 : decode y_M_seat.2.1 14 = .ok (.ifCond .eq 24, 3) := by decide +kernel
theorem d_M_seat_17 : decode y_M_seat.2.1 17 = .ok (.aload_n 0, 1) := by decide +kernel
theorem d_M_seat_18 : decode y_M_seat.2.1 18 = .ok (.getfield 50, 3) := by decide +kernel
theorem d_M_seat_21 : decode y_M_seat.2.1 21 = .ok (.iload_n 1, 1) := by decide +kernel
theorem d_M_seat_22 : decode y_M_seat.2.1 22 = .ok (.ishr, 1) := by decide +kernel
theorem d_M_seat_23 : decode y_M_seat.2.1 23 = .ok (.iconst 1, 1) := by decide +kernel
theorem d_M_seat_24 : decode y_M_seat.2.1 24 = .ok (.iand, 1) := by decide +kernel
theorem d_M_seat_25 : decode y_M_seat.2.1 25 = .ok (.iconst 1, 1) := by decide +kernel
theorem d_M_seat_26 : decode y_M_seat.2.1 26 = .ok (.if_icmp .ne 7, 3) := by decide +kernel
theorem d_M_seat_29 : decode y_M_seat.2.1 29 = .ok (.iconst 1, 1) := by decide +kernel
theorem d_M_seat_30 : decode y_M_seat.2.1 30 = .ok (.goto 4, 3) := by decide +kernel
theorem d_M_seat_33 : decode y_M_seat.2.1 33 = .ok (.iconst 0, 1) := by decide +kernel
theorem d_M_seat_34 : decode y_M_seat.2.1 34 = .ok (.iload_n 2, 1) := by decide +kernel
theorem d_M_seat_35 : decode y_M_seat.2.1 35 = .ok (.if_icmp .ne 5, 3) := by decide +kernel
theorem d_M_seat_38 : decode y_M_seat.2.1 38 = .ok (.iconst 0, 1) := by decide +kernel
theorem d_M_seat_39 : decode y_M_seat.2.1 39 = .ok (.ireturn, 1) := by decide +kernel
theorem d_M_seat_40 : decode y_M_seat.2.1 40 = .ok (.aload_n 0, 1) := by decide +kernel
theorem d_M_seat_41 : decode y_M_seat.2.1 41 = .ok (.dup, 1) := by decide +kernel
theorem d_M_seat_42 : decode y_M_seat.2.1 42 = .ok (.getfield 50, 3) := by decide +kernel
theorem d_M_seat_45 : decode y_M_seat.2.1 45 = .ok (.iconst 1, 1) := by decide +kernel
theorem d_M_seat_46 : decode y_M_seat.2.1 46 = .ok (.iload_n 1, 1) := by decide +kernel
theorem d_M_seat_47 : decode y_M_seat.2.1 47 = .ok (.ishl, 1) := by decide +kernel
theorem d_M_seat_48 : decode y_M_seat.2.1 48 = .ok (.ixor, 1) := by decide +kernel
theorem d_M_seat_49 : decode y_M_seat.2.1 49 = .ok (.putfield 50, 3) := by decide +kernel
theorem d_M_seat_52 : decode y_M_seat.2.1 52 = .ok (.aload_n 0, 1) := by decide +kernel
theorem d_M_seat_53 : decode y_M_seat.2.1 53 = .ok (.getfield 37, 3) := by decide +kernel
theorem d_M_seat_56 : decode y_M_seat.2.1 56 = .ok (.getfield 145, 3) := by decide +kernel
theorem d_M_seat_59 : decode y_M_seat.2.1 59 = .ok (.iconst 1, 1) := by decide +kernel
theorem d_M_seat_60 : decode y_M_seat.2.1 60 = .ok (.iadd, 1) := by decide +kernel
theorem d_M_seat_61 : decode y_M_seat.2.1 61 = .ok (.istore_n 3, 1) := by decide +kernel
theorem d_M_seat_62 : decode y_M_seat.2.1 62 = .ok (.iload_n 2, 1) := by decide +kernel
theorem d_M_seat_63 : decode y_M_seat.2.1 63 = .ok (.ifCond .ne 35, 3) := by decide +kernel
theorem d_M_seat_66 : decode y_M_seat.2.1 66 = .ok (.iload_n 3, 1) := by decide +kernel
theorem d_M_seat_67 : decode y_M_seat.2.1 67 = .ok (.aload_n 0, 1) := by decide +kernel
theorem d_M_seat_68 : decode y_M_seat.2.1 68 = .ok (.getfield 37, 3) := by decide +kernel
theorem d_M_seat_71 : decode y_M_seat.2.1 71 = .ok (.getfield 145, 3) := by decide +kernel
theorem d_M_seat_74 : decode y_M_seat.2.1 74 = .ok (.bipush 16, 2) := by decide +kernel
theorem d_M_seat_76 : decode y_M_seat.2.1 76 = .ok (.iadd, 1) := by decide +kernel
theorem d_M_seat_77 : decode y_M_seat.2.1 77 = .ok (.if_icmp .gt 21, 3) := by decide +kernel
theorem d_M_seat_80 : decode y_M_seat.2.1 80 = .ok (.aload_n 0, 1) := by decide +kernel
theorem d_M_seat_81 : decode y_M_seat.2.1 81 = .ok (.getfield 57, 3) := by decide +kernel
theorem d_M_seat_84 : decode y_M_seat.2.1 84 = .ok (.aload_n 0, 1) := by decide +kernel
theorem d_M_seat_85 : decode y_M_seat.2.1 85 = .ok (.iload_n 1, 1) := by decide +kernel
theorem d_M_seat_86 : decode y_M_seat.2.1 86 = .ok (.iload_n 3, 1) := by decide +kernel
theorem d_M_seat_87 : decode y_M_seat.2.1 87 = .ok (.invokevirtual 227, 3) := by decide +kernel
theorem d_M_seat_90 : decode y_M_seat.2.1 90 = .ok (.iconst 0, 1) := by decide +kernel
theorem d_M_seat_91 : decode y_M_seat.2.1 91 = .ok (.bastore, 1) := by decide +kernel
theorem d_M_seat_92 : decode y_M_seat.2.1 92 = .ok (.iinc 3 1, 3) := by decide +kernel
theorem d_M_seat_95 : decode y_M_seat.2.1 95 = .ok (.goto (-33), 3) := by decide +kernel
theorem d_M_seat_98 : decode y_M_seat.2.1 98 = .ok (.iconst 1, 1) := by decide +kernel
theorem d_M_seat_99 : decode y_M_seat.2.1 99 = .ok (.ireturn, 1) := by decide +kernel
theorem s_M_seat : ab_Stat y_M_seat 2 := ⟨(k12 177 rfl rfl), (k1 19 rfl rfl), ⟨by decide, by decide⟩, by decide +kernel⟩
theorem i_M_seat : Cond.instanceMethod y_M_seat.1 ∈ ab_T := (k12 175 rfl rfl)
theorem v_M_seat : Cond.selects "WorldEngineModel" y_M_seat.1 y_M_seat.1 ∈ ab_T := (k12 176 rfl rfl)
def B_M_seat_62 (N : Nat) (p0 : Nat) (p1 : Int32) (p2 : Int32) : Nat → Int32 → Hp → Option (Int32 × Hp)
  | 0, _, _ => none
  | n + 1, l3, H =>
    if p2 = (0 : Int32) then
    ck (H.sh[p0]? = some (12, 0)) <|
    rf (H.P p0 9) fun a20 =>
    ck (H.sh[a20]? = some (13, 0)) <|
    bnd ((H.D a20 0)) fun x23 =>
    if (x23 + (16 : Int32)) < l3 then
    some (1, H)
    else
    rf (H.P p0 15) fun a25 =>
    bC (F_M_slot N p0 p1 l3 H) fun v28 H29 =>
    ar H29 102 a25 fun n30 =>
    ck (inb v28 n30) <|
    bnd (H29.sD a25 (v28).toNatClampNeg (vp_nar .boolean (0 : Int32))) fun H33 =>
    B_M_seat_62 N p0 p1 p2 n (l3 + 1) H33
    else
    some (1, H)
termination_by structural n => n
set_option maxRecDepth 20000 in
set_option maxHeartbeats 2000000 in
theorem mB_M_seat_62 {N : Nat} {p0 : Nat} {p1 : Int32} {p2 : Int32} : ∀ (n : Nat) (l3 : Int32) (H : Hp) (r : Int32 × Hp), B_M_seat_62 N p0 p1 p2 n l3 H = some r → Sa H r.2 := by
  intro n
  induction n with
  | zero => intro l3 H r hF; rw [B_M_seat_62] at hF; cases hF
  | succ n ih =>
    intro l3 H r hF
    rw [B_M_seat_62] at hF
    have hm := Sa.rf H
    rcases ite_s hF with ⟨q_6, hG⟩ | ⟨q_6, hG⟩
    · clear hF
      obtain ⟨q35, hF⟩ := ck_s hG; clear hG
      obtain ⟨a36, e37, hG⟩ := rf_s hF; clear hF
      obtain ⟨q38, hF⟩ := ck_s hG; clear hG
      obtain ⟨x39, -, hG⟩ := bnd_g hF; clear hF
      rcases ite_s hG with ⟨q_7, hF⟩ | ⟨q_7, hF⟩
      · clear hG
        have hr := Option.some.inj hF; subst hr
        exact hm
      · clear hG
        obtain ⟨a41, e42, hG⟩ := rf_s hF; clear hF
        obtain ⟨v44, H45, z43, hF⟩ := bC_s hG; clear hG
        replace hm : Sa H H45 := hm.tr (m_M_slot z43)
        obtain ⟨n46, q47, hG⟩ := ar_s hF; clear hF
        obtain ⟨q48, hF⟩ := ck_s hG; clear hG
        obtain ⟨H49, eH49, hG⟩ := bnd_g hF; clear hF
        replace hm : Sa H H49 := by rw [eH49]; exact hm
        exact hm.tr (ih (l3 + 1) H49 r hG)
    · clear hF
      have hr := Option.some.inj hG; subst hr
      exact hm
set_option maxRecDepth 20000 in
set_option maxHeartbeats 2000000 in
theorem kB_M_seat_62 {N : Nat} {p0 : Nat} {p1 : Int32} {p2 : Int32} : ∀ (n : Nat) (l3 : Int32) (H : Hp) (r : Int32 × Hp), B_M_seat_62 N p0 p1 p2 n l3 H = some r → ab_V y_M_seat { frames := 1, cells := 0, slots := 0, locals := 25 } (po (.returned (some (.int r.1))) r.2) 0 0 0 0 62 [some (.ref p0), some (.int p1), some (.int p2), some (.int l3)] [] (hpw H) := by
  intro n
  induction n with
  | zero => intro l3 H r hF; rw [B_M_seat_62] at hF; cases hF
  | succ n ih =>
    intro l3 H r hF
    rw [B_M_seat_62] at hF
    refine ab_iload_n d_M_seat_62 rfl rfl ?_
    refine ab_if_ne (tgt := 98) d_M_seat_63 (by decide) (fun q18 => ?_) (fun q18 => ?_)
    · rw [if_neg q18] at hF
      refine ab_iconst (v := 1) d_M_seat_98 (by decide) ?_
      exact ab_zret d_M_seat_99 rfl rfl (Nat.le_refl _) (Nat.le_refl _) (by have hr := Option.some.inj hF; subst hr; exact ⟨rfl, rfl⟩)
    · rw [if_pos q18] at hF
      refine ab_iload_n d_M_seat_66 rfl rfl ?_
      refine ab_aload_n d_M_seat_67 rfl rfl rfl ?_
      obtain ⟨q19, hG⟩ := ck_s hF; clear hF
      obtain ⟨a20, e21, hF⟩ := rf_s hG; clear hG
      refine hp_getR (f := 9) d_M_seat_68 q19 (by decide) rfl (by decide) (k10 2 rfl rfl) rfl e21 ?_
      obtain ⟨q22, hG⟩ := ck_s hF; clear hF
      refine hp_getIN (f := 0) d_M_seat_71 q22 (by decide) rfl (by decide) (k9 89 rfl rfl) rfl ?_
      refine ab_topi (fun x23 ex23 => ?_)
      replace hG := bnd_s ex23 hG
      refine ab_bipush (v := 16) d_M_seat_74 (by decide) ?_
      refine ab_iadd d_M_seat_76 ?_
      refine ab_icmp_gt (tgt := 98) d_M_seat_77 (by decide) (fun q24 => ?_) (fun q24 => ?_)
      · rw [if_pos q24] at hG
        refine ab_iconst (v := 1) d_M_seat_98 (by decide) ?_
        exact ab_zret d_M_seat_99 rfl rfl (Nat.le_refl _) (Nat.le_refl _) (by have hr := Option.some.inj hG; subst hr; exact ⟨rfl, rfl⟩)
      · rw [if_neg q24] at hG
        refine ab_aload_n d_M_seat_80 rfl rfl rfl ?_
        obtain ⟨a25, e26, hF⟩ := rf_s hG; clear hG
        refine hp_getR (f := 15) d_M_seat_81 q19 (by decide) rfl (by decide) (k10 8 rfl rfl) rfl e26 ?_
        refine ab_aload_n d_M_seat_84 rfl rfl rfl ?_
        refine ab_iload_n d_M_seat_85 rfl rfl ?_
        refine ab_iload_n d_M_seat_86 rfl rfl ?_
        obtain ⟨v28, H29, z27, hG⟩ := bC_s hF; clear hF
        refine hp_callV_a (v := .int v28) (H1 := H29) (As := [.int p1, .int l3]) (rest := [.ref a25]) d_M_seat_87 (k_M_slot z27) (ab_mkC s_M_slot (Nat.le_of_ble_eq_true rfl) (Nat.le_of_ble_eq_true rfl) (Nat.le_refl 0) (Nat.le_refl 0)) (k11 210 rfl rfl) i_M_slot v_M_slot q19 (by decide) rfl rfl (Nat.le_of_ble_eq_true rfl) ?_
        have s_4 : Sa H H29 := (m_M_slot z27)
        refine ab_iconst (v := 0) d_M_seat_90 (by decide) ?_
        obtain ⟨n30, q31, hF⟩ := ar_s hG; clear hG
        rw [(s_4).1] at q31
        obtain ⟨q32, hG⟩ := ck_s hF; clear hF
        refine hp_zast d_M_seat_91 tZ (by rw [(s_4).1]; exact q31) q32 ?_
        refine hp_gen (fun H33 eH33 => ?_)
        replace hG := bnd_s eH33 hG
        have s_5 : Sa H H33 := by rw [eH33]; exact s_4
        refine ab_iinc (v := l3 + 1) (lv' := [some (.ref p0), some (.int p1), some (.int p2), some (.int (l3 + 1))]) d_M_seat_92 rfl rfl (by decide) rfl ?_
        refine ab_goto (tgt := 62) d_M_seat_95 (by decide) ?_
        exact ih (l3 + 1) H33 r hG
def B_M_seat_34 (N : Nat) (p0 : Nat) (p1 : Int32) (p2 : Int32) (w0 : Int32) (H : Hp) : Option (Int32 × Hp) :=
    if w0 = p2 then
    some (0, H)
    else
    ck (H.sh[p0]? = some (12, 0)) <|
    bnd ((H.D p0 12)) fun x11 =>
    bnd (H.sD p0 12 (x11 ^^^ ((1 : Int32) <<< (p1 &&& 31)))) fun H12 =>
    rf (H12.P p0 9) fun a13 =>
    ck (H12.sh[a13]? = some (13, 0)) <|
    bnd ((H12.D a13 0)) fun x16 =>
    bnd ((x16 + (1 : Int32))) fun x17 =>
    B_M_seat_62 N p0 p1 p2 N x17 H12
set_option maxRecDepth 20000 in
set_option maxHeartbeats 2000000 in
theorem mB_M_seat_34 {N : Nat} {p0 : Nat} {p1 : Int32} {p2 : Int32} {w0 : Int32} {H : Hp} {r : Int32 × Hp} (hF : B_M_seat_34 N p0 p1 p2 w0 H = some r) : Sa H r.2 := by
  unfold B_M_seat_34 at hF
  have hm := Sa.rf H
  rcases ite_s hF with ⟨q_10, hG⟩ | ⟨q_10, hG⟩
  · clear hF
    have hr := Option.some.inj hG; subst hr
    exact hm
  · clear hF
    obtain ⟨q51, hF⟩ := ck_s hG; clear hG
    obtain ⟨x52, -, hG⟩ := bnd_g hF; clear hF
    obtain ⟨H53, eH53, hF⟩ := bnd_g hG; clear hG
    replace hm : Sa H H53 := by rw [eH53]; exact hm
    obtain ⟨a54, e55, hG⟩ := rf_s hF; clear hF
    obtain ⟨q56, hF⟩ := ck_s hG; clear hG
    obtain ⟨x57, -, hG⟩ := bnd_g hF; clear hF
    obtain ⟨x58, -, hF⟩ := bnd_g hG; clear hG
    exact hm.tr (mB_M_seat_62 N x58 H53 r hF)
set_option maxRecDepth 20000 in
set_option maxHeartbeats 2000000 in
theorem kB_M_seat_34 {N : Nat} {p0 : Nat} {p1 : Int32} {p2 : Int32} {w0 : Int32} {H : Hp} {r : Int32 × Hp} (hF : B_M_seat_34 N p0 p1 p2 w0 H = some r) : ab_V y_M_seat { frames := 1, cells := 0, slots := 0, locals := 25 } (po (.returned (some (.int r.1))) r.2) 0 0 0 0 34 [some (.ref p0), some (.int p1), some (.int p2), none] [.int w0] (hpw H) := by
  unfold B_M_seat_34 at hF
  refine ab_iload_n d_M_seat_34 rfl rfl ?_
  refine ab_icmp_ne (tgt := 40) d_M_seat_35 (by decide) (fun q9 => ?_) (fun q9 => ?_)
  · rw [if_neg q9] at hF
    refine ab_aload_n d_M_seat_40 rfl rfl rfl ?_
    refine ab_dup d_M_seat_41 rfl ?_
    obtain ⟨q10, hG⟩ := ck_s hF; clear hF
    refine hp_getI (f := 12) d_M_seat_42 q10 (by decide) rfl (by decide) (k10 5 rfl rfl) rfl ?_
    refine ab_topi (fun x11 ex11 => ?_)
    replace hG := bnd_s ex11 hG
    refine ab_iconst (v := 1) d_M_seat_45 (by decide) ?_
    refine ab_iload_n d_M_seat_46 rfl rfl ?_
    refine ab_ishl d_M_seat_47 ?_
    refine ab_ixor d_M_seat_48 ?_
    refine hp_putI (v := x11 ^^^ ((1 : Int32) <<< (p1 &&& 31))) (f := 12) d_M_seat_49 q10 (by decide) rfl (by decide) (k10 5 rfl rfl) rfl rfl (fun _ => rfl) (fun _ => rfl) rfl ?_
    refine hp_gen (fun H12 eH12 => ?_)
    replace hG := bnd_s eH12 hG
    have s_3 : Sa H H12 := by rw [eH12]; exact Sa.rf _
    refine ab_aload_n d_M_seat_52 rfl rfl rfl ?_
    obtain ⟨a13, e14, hF⟩ := rf_s hG; clear hG
    refine hp_getR (f := 9) d_M_seat_53 (by rw [(s_3).1]; exact q10) (by decide) rfl (by decide) (k10 2 rfl rfl) rfl e14 ?_
    obtain ⟨q15, hG⟩ := ck_s hF; clear hF
    rw [(s_3).1] at q15
    refine hp_getIN (f := 0) d_M_seat_56 (by rw [(s_3).1]; exact q15) (by decide) rfl (by decide) (k9 89 rfl rfl) rfl ?_
    refine ab_topi (fun x16 ex16 => ?_)
    replace hG := bnd_s ex16 hG
    refine ab_iconst (v := 1) d_M_seat_59 (by decide) ?_
    refine ab_iadd d_M_seat_60 ?_
    refine ab_topi (fun x17 ex17 => ?_)
    replace hG := bnd_s ex17 hG
    refine ab_istore_n (lv' := [some (.ref p0), some (.int p1), some (.int p2), some (.int x17)]) d_M_seat_61 rfl (by decide) rfl ?_
    exact kB_M_seat_62 N x17 H12 r hG
  · rw [if_pos q9] at hF
    refine ab_iconst (v := 0) d_M_seat_38 (by decide) ?_
    exact ab_zret d_M_seat_39 rfl rfl (Nat.le_refl _) (Nat.le_refl _) (by have hr := Option.some.inj hF; subst hr; exact ⟨rfl, rfl⟩)
def F_M_seat (N : Nat) (p0 : Nat) (p1 : Int32) (p2 : Int32) (H : Hp) : Option (Int32 × Hp) :=
    ck (H.sh[p0]? = some (12, 0)) <|
    bnd (H.sD p0 0 (0 : Int32)) fun H2 =>
    bC (F_M_in N ((p1 : Int32).toInt64) (0 : Int64) (3 : Int64) H2) fun v4 H5 =>
    if v4 = (0 : Int32) then
    some (0, H5)
    else
    bnd ((H5.D p0 12)) fun x7 =>
    if ((x7 >>> (p1 &&& 31)) &&& (1 : Int32)) = (1 : Int32) then
    B_M_seat_34 N p0 p1 p2 1 H5
    else
    B_M_seat_34 N p0 p1 p2 0 H5
set_option maxRecDepth 20000 in
set_option maxHeartbeats 2000000 in
theorem m_M_seat {N : Nat} {p0 : Nat} {p1 : Int32} {p2 : Int32} {H : Hp} {r : Int32 × Hp} (hF : F_M_seat N p0 p1 p2 H = some r) : Sa H r.2 := by
  unfold F_M_seat at hF
  have hm := Sa.rf H
  obtain ⟨q59, hG⟩ := ck_s hF; clear hF
  obtain ⟨H60, eH60, hF⟩ := bnd_g hG; clear hG
  replace hm : Sa H H60 := by rw [eH60]; exact hm
  obtain ⟨v62, H63, z61, hG⟩ := bC_s hF; clear hF
  replace hm : Sa H H63 := hm.tr (m_M_in z61)
  rcases ite_s hG with ⟨q_14, hF⟩ | ⟨q_14, hF⟩
  · clear hG
    have hr := Option.some.inj hF; subst hr
    exact hm
  · clear hG
    obtain ⟨x65, -, hG⟩ := bnd_g hF; clear hF
    rcases ite_s hG with ⟨q_15, hF⟩ | ⟨q_15, hF⟩
    · clear hG
      exact hm.tr (mB_M_seat_34 hF)
    · clear hG
      exact hm.tr (mB_M_seat_34 hF)
set_option maxRecDepth 20000 in
set_option maxHeartbeats 2000000 in
theorem k_M_seat {N : Nat} {p0 : Nat} {p1 : Int32} {p2 : Int32} {H : Hp} {r : Int32 × Hp} (hF : F_M_seat N p0 p1 p2 H = some r) : ab_M y_M_seat { frames := 1, cells := 0, slots := 0, locals := 25 } [.ref p0, .int p1, .int p2] (hpw H) (po (.returned (some (.int r.1))) r.2) := by
  unfold F_M_seat at hF
  refine ab_of2 (lv := [some (.ref p0), some (.int p1), some (.int p2), none]) 1 rfl rfl (Nat.le_of_ble_eq_true rfl) ?_
  refine ab_aload_n d_M_seat_0 rfl rfl rfl ?_
  refine ab_iconst (v := 0) d_M_seat_1 (by decide) ?_
  obtain ⟨q1, hG⟩ := ck_s hF; clear hF
  refine hp_putI (v := 0) (f := 0) d_M_seat_2 q1 (by decide) rfl (by decide) (k9 233 rfl rfl) rfl rfl (fun _ => rfl) (fun _ => rfl) rfl ?_
  refine hp_gen (fun H2 eH2 => ?_)
  replace hG := bnd_s eH2 hG
  have s_1 : Sa H H2 := by rw [eH2]; exact Sa.rf _
  refine ab_iload_n d_M_seat_5 rfl rfl ?_
  refine ab_i2l d_M_seat_6 ?_
  refine ab_lconst (v := 0) d_M_seat_7 (by decide) ?_
  refine ab_ldc2 d_M_seat_8 (k12 168 rfl rfl) ?_
  obtain ⟨v4, H5, z3, hF⟩ := bC_s hG; clear hG
  refine hp_callS_a (v := .int v4) (H1 := H5) (As := [.long ((p1 : Int32).toInt64), .long 0, .long 3]) (rest := []) d_M_seat_11 (k_M_in z3) (ab_mkC s_M_in (Nat.le_of_ble_eq_true rfl) (Nat.le_of_ble_eq_true rfl) (Nat.le_refl 0) (Nat.le_refl 0)) (k10 93 rfl rfl) t_M_in rfl (Nat.le_of_ble_eq_true rfl) ?_
  have s_2 : Sa H H5 := (s_1).tr (m_M_in z3)
  refine ab_if_eq (tgt := 38) d_M_seat_14 (by decide) (fun q6 => ?_) (fun q6 => ?_)
  · rw [if_pos q6] at hF
    refine ab_iconst (v := 0) d_M_seat_38 (by decide) ?_
    exact ab_zret d_M_seat_39 rfl rfl (Nat.le_refl _) (Nat.le_refl _) (by have hr := Option.some.inj hF; subst hr; exact ⟨rfl, rfl⟩)
  · rw [if_neg q6] at hF
    refine ab_aload_n d_M_seat_17 rfl rfl rfl ?_
    refine hp_getI (f := 12) d_M_seat_18 (by rw [(s_2).1]; exact q1) (by decide) rfl (by decide) (k10 5 rfl rfl) rfl ?_
    refine ab_topi (fun x7 ex7 => ?_)
    replace hF := bnd_s ex7 hF
    refine ab_iload_n d_M_seat_21 rfl rfl ?_
    refine ab_ishr d_M_seat_22 ?_
    refine ab_iconst (v := 1) d_M_seat_23 (by decide) ?_
    refine ab_iand d_M_seat_24 ?_
    refine ab_iconst (v := 1) d_M_seat_25 (by decide) ?_
    refine ab_icmp_ne (tgt := 33) d_M_seat_26 (by decide) (fun q8 => ?_) (fun q8 => ?_)
    · rw [if_neg q8] at hF
      refine ab_iconst (v := 0) d_M_seat_33 (by decide) ?_
      exact kB_M_seat_34 hF
    · rw [if_pos q8] at hF
      refine ab_iconst (v := 1) d_M_seat_29 (by decide) ?_
      refine ab_goto (tgt := 34) d_M_seat_30 (by decide) ?_
      exact kB_M_seat_34 hF
def y_M_make : ab_Y := (⟨"WorldEngineModel", "make", "(I)I"⟩, prog_14_method_27_code, 3, (some FieldType.int), [])
theorem d_M_make_0 : decode y_M_make.2.1 0 = .ok (.aload_n 0, 1) := by decide +kernel
theorem d_M_make_1 : decode y_M_make.2.1 1 = .ok (.iconst 0, 1) := by decide +kernel
theorem d_M_make_2 : decode y_M_make.2.1 2 = .ok (.putfield 83, 3) := by decide +kernel
theorem d_M_make_5 : decode y_M_make.2.1 5 = .ok (.aload_n 0, 1) := by decide +kernel
theorem d_M_make_6 : decode y_M_make.2.1 6 = .ok (.invokevirtual 148, 3) := by decide +kernel
theorem d_M_make_9 : decode y_M_make.2.1 9 = .ok (.ifCond .ne 6, 3) := by decide +kernel
theorem d_M_make_12 : decode y_M_make.2.1 12 = .ok (.bipush (-10), 2) := by decide +kernel
theorem d_M_make_14 : decode y_M_make.2.1 14 = .ok (.ireturn, 1) := by decide +kernel
theorem d_M_make_15 : decode y_M_make.2.1 15 = .ok (.iload_n 1, 1) := by decide +kernel
theorem d_M_make_16 : decode y_M_make.2.1 16 = .ok (.i2l, 1) := by decide +kernel
theorem d_M_make_17 : decode y_M_make.2.1 17 = .ok (.lconst 0, 1) := by decide +kernel
theorem d_M_make_18 : decode y_M_make.2.1 18 = .ok (.aload_n 0, 1) := by decide +kernel
theorem d_M_make_19 : decode y_M_make.2.1 19 = .ok (.getfield 16, 3) := by decide +kernel
theorem d_M_make_22 : decode y_M_make.2.1 22 = .ok (.getfield 262, 3) := by decide +kernel
theorem d_M_make_25 : decode y_M_make.2.1 25 = .ok (.iconst 1, 1) := by decide +kernel
theorem d_M_make_26 : decode y_M_make.2.1 26 = .ok (.isub, 1) := by decide +kernel
theorem d_M_make_27 : decode y_M_make.2.1 27 = .ok (.i2l, 1) := by decide +kernel
theorem d_M_make_28 : decode y_M_make.2.1 28 = .ok (.invokestatic 99, 3) := by decide +kernel
theorem d_M_make_31 : decode y_M_make.2.1 31 = .ok (.ifCond .ne 5, 3) := by decide +kernel
theorem d_M_make_34 : decode y_M_make.2.1 34 = .ok (.iconst (-1), 1) := by decide +kernel
theorem d_M_make_35 : decode y_M_make.2.1 35 = .ok (.ireturn, 1) := by decide +kernel
theorem d_M_make_36 : decode y_M_make.2.1 36 = .ok (.aload_n 0, 1) := by decide +kernel
theorem d_M_make_37 : decode y_M_make.2.1 37 = .ok (.getfield 37, 3) := by decide +kernel
theorem d_M_make_40 : decode y_M_make.2.1 40 = .ok (.aload_n 0, 1) := by decide +kernel
theorem d_M_make_41 : decode y_M_make.2.1 41 = .ok (.getfield 16, 3) := by decide +kernel
theorem d_M_make_44 : decode y_M_make.2.1 44 = .ok (.iload_n 1, 1) := by decide +kernel
theorem d_M_make_45 : decode y_M_make.2.1 45 = .ok (.invokevirtual 265, 3) := by decide +kernel
theorem d_M_make_48 : decode y_M_make.2.1 48 = .ok (.istore_n 2, 1) := by decide +kernel
theorem d_M_make_49 : decode y_M_make.2.1 49 = .ok (.aload_n 0, 1) := by decide +kernel
theorem d_M_make_50 : decode y_M_make.2.1 50 = .ok (.getfield 33, 3) := by decide +kernel
theorem d_M_make_53 : decode y_M_make.2.1 53 = .ok (.aload_n 0, 1) := by decide +kernel
theorem d_M_make_54 : decode y_M_make.2.1 54 = .ok (.getfield 37, 3) := by decide +kernel
theorem d_M_make_57 : decode y_M_make.2.1 57 = .ok (.invokevirtual 129, 3) := by decide +kernel
theorem d_M_make_60 : decode y_M_make.2.1 60 = .ok (.iload_n 2, 1) := by decide +kernel
theorem d_M_make_61 : decode y_M_make.2.1 61 = .ok (.ifCond .ge 8, 3) := by decide +kernel
theorem d_M_make_64 : decode y_M_make.2.1 64 = .ok (.bipush (-2), 2) := by decide +kernel
theorem d_M_make_66 : decode y_M_make.2.1 66 = .ok (.goto 11, 3) := by decide +kernel
theorem d_M_make_69 : decode y_M_make.2.1 69 = .ok (.aload_n 0, 1) := by decide +kernel
theorem d_M_make_70 : decode y_M_make.2.1 70 = .ok (.getfield 37, 3) := by decide +kernel
theorem d_M_make_73 : decode y_M_make.2.1 73 = .ok (.iload_n 2, 1) := by decide +kernel
theorem d_M_make_74 : decode y_M_make.2.1 74 = .ok (.invokevirtual 269, 3) := by decide +kernel
theorem d_M_make_77 : decode y_M_make.2.1 77 = .ok (.ireturn, 1) := by decide +kernel
theorem s_M_make : ab_Stat y_M_make 1 := ⟨(k12 181 rfl rfl), (k1 19 rfl rfl), ⟨by decide, by decide⟩, by decide +kernel⟩
theorem i_M_make : Cond.instanceMethod y_M_make.1 ∈ ab_T := (k12 179 rfl rfl)
theorem v_M_make : Cond.selects "WorldEngineModel" y_M_make.1 y_M_make.1 ∈ ab_T := (k12 180 rfl rfl)
def F_M_make (N : Nat) (p0 : Nat) (p1 : Int32) (H : Hp) : Option (Int32 × Hp) :=
    ck (H.sh[p0]? = some (12, 0)) <|
    bnd (H.sD p0 0 (0 : Int32)) fun H2 =>
    bC (F_M_isQuiet N p0 H2) fun v4 H5 =>
    if v4 = (0 : Int32) then
    some ((-10), H5)
    else
    rf (H5.P p0 3) fun a7 =>
    ck (H5.sh[a7]? = some (14, 0)) <|
    bnd ((H5.D a7 26)) fun x10 =>
    bC (F_M_in N ((p1 : Int32).toInt64) (0 : Int64) (((x10 - (1 : Int32)) : Int32).toInt64) H5) fun v12 H13 =>
    if v12 = (0 : Int32) then
    some ((-1), H13)
    else
    rf (H13.P p0 9) fun a15 =>
    rf (H13.P p0 3) fun a17 =>
    ck (H13.sh[a15]? = some (13, 0)) <|
    bC (F_MWorld_spawns N a15 a17 p1 H13) fun v21 H22 =>
    rf (H22.P p0 8) fun a23 =>
    rf (H22.P p0 9) fun a25 =>
    ck (H22.sh[a23]? = some (13, 0)) <|
    bC (F_MWorld_copies N a23 a25 H22) fun v29 H30 =>
    if (0 : Int32) ≤ v21 then
    rf (H30.P p0 9) fun a32 =>
    ck (H30.sh[a32]? = some (13, 0)) <|
    bC (F_MWorld_number N a32 v21 H30) fun v36 H37 =>
    some (v36, H37)
    else
    some ((-2), H30)
set_option maxRecDepth 20000 in
set_option maxHeartbeats 2000000 in
theorem m_M_make {N : Nat} {p0 : Nat} {p1 : Int32} {H : Hp} {r : Int32 × Hp} (hF : F_M_make N p0 p1 H = some r) : Sa H r.2 := by
  unfold F_M_make at hF
  have hm := Sa.rf H
  obtain ⟨q38, hG⟩ := ck_s hF; clear hF
  obtain ⟨H39, eH39, hF⟩ := bnd_g hG; clear hG
  replace hm : Sa H H39 := by rw [eH39]; exact hm
  obtain ⟨v41, H42, z40, hG⟩ := bC_s hF; clear hF
  replace hm : Sa H H42 := hm.tr (m_M_isQuiet z40)
  rcases ite_s hG with ⟨q_9, hF⟩ | ⟨q_9, hF⟩
  · clear hG
    have hr := Option.some.inj hF; subst hr
    exact hm
  · clear hG
    obtain ⟨a44, e45, hG⟩ := rf_s hF; clear hF
    obtain ⟨q46, hF⟩ := ck_s hG; clear hG
    obtain ⟨x47, -, hG⟩ := bnd_g hF; clear hF
    obtain ⟨v49, H50, z48, hF⟩ := bC_s hG; clear hG
    replace hm : Sa H H50 := hm.tr (m_M_in z48)
    rcases ite_s hF with ⟨q_11, hG⟩ | ⟨q_11, hG⟩
    · clear hF
      have hr := Option.some.inj hG; subst hr
      exact hm
    · clear hF
      obtain ⟨a52, e53, hF⟩ := rf_s hG; clear hG
      obtain ⟨a54, e55, hG⟩ := rf_s hF; clear hF
      obtain ⟨q56, hF⟩ := ck_s hG; clear hG
      obtain ⟨v58, H59, z57, hG⟩ := bC_s hF; clear hF
      replace hm : Sa H H59 := hm.tr (m_MWorld_spawns z57)
      obtain ⟨a60, e61, hF⟩ := rf_s hG; clear hG
      obtain ⟨a62, e63, hG⟩ := rf_s hF; clear hF
      obtain ⟨q64, hF⟩ := ck_s hG; clear hG
      obtain ⟨v66, H67, z65, hG⟩ := bC_s hF; clear hF
      replace hm : Sa H H67 := hm.tr (m_MWorld_copies z65)
      rcases ite_s hG with ⟨q_14, hF⟩ | ⟨q_14, hF⟩
      · clear hG
        obtain ⟨a69, e70, hG⟩ := rf_s hF; clear hF
        obtain ⟨q71, hF⟩ := ck_s hG; clear hG
        obtain ⟨v73, H74, z72, hG⟩ := bC_s hF; clear hF
        replace hm : Sa H H74 := hm.tr (m_MWorld_number z72)
        have hr := Option.some.inj hG; subst hr
        exact hm
      · clear hG
        have hr := Option.some.inj hF; subst hr
        exact hm
set_option maxRecDepth 20000 in
set_option maxHeartbeats 2000000 in
theorem k_M_make {N : Nat} {p0 : Nat} {p1 : Int32} {H : Hp} {r : Int32 × Hp} (hF : F_M_make N p0 p1 H = some r) : ab_M y_M_make { frames := 2, cells := 0, slots := 0, locals := 46 } [.ref p0, .int p1] (hpw H) (po (.returned (some (.int r.1))) r.2) := by
  unfold F_M_make at hF
  refine ab_of2 (lv := [some (.ref p0), some (.int p1), none]) 1 rfl rfl (Nat.le_of_ble_eq_true rfl) ?_
  refine ab_aload_n d_M_make_0 rfl rfl rfl ?_
  refine ab_iconst (v := 0) d_M_make_1 (by decide) ?_
  obtain ⟨q1, hG⟩ := ck_s hF; clear hF
  refine hp_putI (v := 0) (f := 0) d_M_make_2 q1 (by decide) rfl (by decide) (k9 233 rfl rfl) rfl rfl (fun _ => rfl) (fun _ => rfl) rfl ?_
  refine hp_gen (fun H2 eH2 => ?_)
  replace hG := bnd_s eH2 hG
  have s_1 : Sa H H2 := by rw [eH2]; exact Sa.rf _
  refine ab_aload_n d_M_make_5 rfl rfl rfl ?_
  obtain ⟨v4, H5, z3, hF⟩ := bC_s hG; clear hG
  refine hp_callV_a (v := .int v4) (H1 := H5) (As := []) (rest := []) d_M_make_6 (k_M_isQuiet z3) (ab_mkC s_M_isQuiet (Nat.le_of_ble_eq_true rfl) (Nat.le_of_ble_eq_true rfl) (Nat.le_refl 0) (Nat.le_refl 0)) (k11 166 rfl rfl) i_M_isQuiet v_M_isQuiet (by rw [(s_1).1]; exact q1) (by decide) rfl rfl (Nat.le_of_ble_eq_true rfl) ?_
  have s_2 : Sa H H5 := (s_1).tr (m_M_isQuiet z3)
  refine ab_if_ne (tgt := 15) d_M_make_9 (by decide) (fun q6 => ?_) (fun q6 => ?_)
  · rw [if_neg q6] at hF
    refine ab_iload_n d_M_make_15 rfl rfl ?_
    refine ab_i2l d_M_make_16 ?_
    refine ab_lconst (v := 0) d_M_make_17 (by decide) ?_
    refine ab_aload_n d_M_make_18 rfl rfl rfl ?_
    obtain ⟨a7, e8, hG⟩ := rf_s hF; clear hF
    refine hp_getR (f := 3) d_M_make_19 (by rw [(s_2).1]; exact q1) (by decide) rfl (by decide) (k9 236 rfl rfl) rfl e8 ?_
    obtain ⟨q9, hF⟩ := ck_s hG; clear hG
    rw [(s_2).1] at q9
    refine hp_getIN (f := 26) d_M_make_22 (by rw [(s_2).1]; exact q9) (by decide) rfl (by decide) (k8 206 rfl rfl) rfl ?_
    refine ab_topi (fun x10 ex10 => ?_)
    replace hF := bnd_s ex10 hF
    refine ab_iconst (v := 1) d_M_make_25 (by decide) ?_
    refine ab_isub d_M_make_26 ?_
    refine ab_i2l d_M_make_27 ?_
    obtain ⟨v12, H13, z11, hG⟩ := bC_s hF; clear hF
    refine hp_callS_a (v := .int v12) (H1 := H13) (As := [.long ((p1 : Int32).toInt64), .long 0, .long (((x10 - (1 : Int32)) : Int32).toInt64)]) (rest := []) d_M_make_28 (k_M_in z11) (ab_mkC s_M_in (Nat.le_of_ble_eq_true rfl) (Nat.le_of_ble_eq_true rfl) (Nat.le_refl 0) (Nat.le_refl 0)) (k10 93 rfl rfl) t_M_in rfl (Nat.le_of_ble_eq_true rfl) ?_
    have s_3 : Sa H H13 := (s_2).tr (m_M_in z11)
    refine ab_if_ne (tgt := 36) d_M_make_31 (by decide) (fun q14 => ?_) (fun q14 => ?_)
    · rw [if_neg q14] at hG
      refine ab_aload_n d_M_make_36 rfl rfl rfl ?_
      obtain ⟨a15, e16, hF⟩ := rf_s hG; clear hG
      refine hp_getR (f := 9) d_M_make_37 (by rw [(s_3).1]; exact q1) (by decide) rfl (by decide) (k10 2 rfl rfl) rfl e16 ?_
      refine ab_aload_n d_M_make_40 rfl rfl rfl ?_
      obtain ⟨a17, e18, hG⟩ := rf_s hF; clear hF
      refine hp_getR (f := 3) d_M_make_41 (by rw [(s_3).1]; exact q1) (by decide) rfl (by decide) (k9 236 rfl rfl) rfl e18 ?_
      refine ab_iload_n d_M_make_44 rfl rfl ?_
      obtain ⟨q19, hF⟩ := ck_s hG; clear hG
      rw [(s_3).1] at q19
      obtain ⟨v21, H22, z20, hG⟩ := bC_s hF; clear hF
      refine hp_callV_a (v := .int v21) (H1 := H22) (As := [.ref a17, .int p1]) (rest := []) d_M_make_45 (k_MWorld_spawns z20) (ab_mkC s_MWorld_spawns (Nat.le_of_ble_eq_true rfl) (Nat.le_of_ble_eq_true rfl) (Nat.le_refl 0) (Nat.le_refl 0)) (k12 182 rfl rfl) i_MWorld_spawns v_MWorld_spawns (by rw [(s_3).1]; exact q19) (by decide) rfl rfl (Nat.le_of_ble_eq_true rfl) ?_
      have s_4 : Sa H H22 := (s_3).tr (m_MWorld_spawns z20)
      refine ab_istore_n (lv' := [some (.ref p0), some (.int p1), some (.int v21)]) d_M_make_48 rfl (by decide) rfl ?_
      refine ab_aload_n d_M_make_49 rfl rfl rfl ?_
      obtain ⟨a23, e24, hF⟩ := rf_s hG; clear hG
      refine hp_getR (f := 8) d_M_make_50 (by rw [(s_4).1]; exact q1) (by decide) rfl (by decide) (k10 1 rfl rfl) rfl e24 ?_
      refine ab_aload_n d_M_make_53 rfl rfl rfl ?_
      obtain ⟨a25, e26, hG⟩ := rf_s hF; clear hF
      refine hp_getR (f := 9) d_M_make_54 (by rw [(s_4).1]; exact q1) (by decide) rfl (by decide) (k10 2 rfl rfl) rfl e26 ?_
      obtain ⟨q27, hF⟩ := ck_s hG; clear hG
      rw [(s_4).1] at q27
      obtain ⟨v29, H30, z28, hG⟩ := bC_s hF; clear hF
      refine hp_callV_v (H1 := H30) (As := [.ref a25]) (rest := []) d_M_make_57 (k_MWorld_copies z28) (ab_mkC s_MWorld_copies (Nat.le_of_ble_eq_true rfl) (Nat.le_of_ble_eq_true rfl) (Nat.le_refl 0) (Nat.le_refl 0)) (k11 146 rfl rfl) i_MWorld_copies v_MWorld_copies (by rw [(s_4).1]; exact q27) (by decide) rfl rfl (Nat.le_of_ble_eq_true rfl) ?_
      have s_5 : Sa H H30 := (s_4).tr (m_MWorld_copies z28)
      refine ab_iload_n d_M_make_60 rfl rfl ?_
      refine ab_if_ge (tgt := 69) d_M_make_61 (by decide) (fun q31 => ?_) (fun q31 => ?_)
      · rw [if_pos q31] at hG
        refine ab_aload_n d_M_make_69 rfl rfl rfl ?_
        obtain ⟨a32, e33, hF⟩ := rf_s hG; clear hG
        refine hp_getR (f := 9) d_M_make_70 (by rw [(s_5).1]; exact q1) (by decide) rfl (by decide) (k10 2 rfl rfl) rfl e33 ?_
        refine ab_iload_n d_M_make_73 rfl rfl ?_
        obtain ⟨q34, hG⟩ := ck_s hF; clear hF
        rw [(s_5).1] at q34
        obtain ⟨v36, H37, z35, hF⟩ := bC_s hG; clear hG
        refine hp_callV_a (v := .int v36) (H1 := H37) (As := [.int v21]) (rest := []) d_M_make_74 (k_MWorld_number z35) (ab_mkC s_MWorld_number (Nat.le_of_ble_eq_true rfl) (Nat.le_of_ble_eq_true rfl) (Nat.le_refl 0) (Nat.le_refl 0)) (k12 183 rfl rfl) i_MWorld_number v_MWorld_number (by rw [(s_5).1]; exact q34) (by decide) rfl rfl (Nat.le_of_ble_eq_true rfl) ?_
        have s_6 : Sa H H37 := (s_5).tr (m_MWorld_number z35)
        exact ab_iret d_M_make_77 rfl (Nat.le_refl _) (Nat.le_refl _) (by have hr := Option.some.inj hF; subst hr; exact ⟨rfl, rfl⟩)
      · rw [if_neg q31] at hG
        refine ab_bipush (v := (-2)) d_M_make_64 (by decide) ?_
        refine ab_goto (tgt := 77) d_M_make_66 (by decide) ?_
        exact ab_iret d_M_make_77 rfl (Nat.le_refl _) (Nat.le_refl _) (by have hr := Option.some.inj hG; subst hr; exact ⟨rfl, rfl⟩)
    · rw [if_pos q14] at hG
      refine ab_iconst (v := (-1)) d_M_make_34 (by decide) ?_
      exact ab_iret d_M_make_35 rfl (Nat.le_refl _) (Nat.le_refl _) (by have hr := Option.some.inj hG; subst hr; exact ⟨rfl, rfl⟩)
  · rw [if_pos q6] at hF
    refine ab_bipush (v := (-10)) d_M_make_12 (by decide) ?_
    exact ab_iret d_M_make_14 rfl (Nat.le_refl _) (Nat.le_refl _) (by have hr := Option.some.inj hF; subst hr; exact ⟨rfl, rfl⟩)
def y_M_isComponent : ab_Y := (⟨"WorldEngineModel", "isComponent", "(I)Z"⟩, prog_14_method_26_code, 2, (some FieldType.boolean), [])
theorem d_M_isComponent_0 : decode y_M_isComponent.2.1 0 = .ok (.iload_n 1, 1) := by decide +kernel
theorem d_M_isComponent_1 : decode y_M_isComponent.2.1 1 = .ok (.i2l, 1) := by decide +kernel
theorem d_M_isComponent_2 : decode y_M_isComponent.2.1 2 = .ok (.lconst 0, 1) := by decide +kernel
theorem d_M_isComponent_3 : decode y_M_isComponent.2.1 3 = .ok (.aload_n 0, 1) := by decide +kernel
theorem d_M_isComponent_4 : decode y_M_isComponent.2.1 4 = .ok (.getfield 16, 3) := by decide +kernel
theorem d_M_isComponent_7 : decode y_M_isComponent.2.1 7 = .ok (.getfield 161, 3) := by decide +kernel
theorem d_M_isComponent_10 : decode y_M_isComponent.2.1 10 = .ok (.iconst 1, 1) := by decide +kernel
theorem d_M_isComponent_11 : decode y_M_isComponent.2.1 11 = .ok (.isub, 1) := by decide +kernel
theorem d_M_isComponent_12 : decode y_M_isComponent.2.1 12 = .ok (.i2l, 1) := by decide +kernel
theorem d_M_isComponent_13 : decode y_M_isComponent.2.1 13 = .ok (.invokestatic 99, 3) := by decide +kernel
theorem d_M_isComponent_16 : decode y_M_isComponent.2.1 16 = .ok (.ireturn, 1) := by decide +kernel
theorem s_M_isComponent : ab_Stat y_M_isComponent 1 := ⟨(k12 193 rfl rfl), (k1 19 rfl rfl), ⟨by decide, by decide⟩, by decide +kernel⟩
theorem i_M_isComponent : Cond.instanceMethod y_M_isComponent.1 ∈ ab_T := (k12 192 rfl rfl)
theorem v_M_isComponent : Cond.selects "WorldEngineModel" y_M_isComponent.1 y_M_isComponent.1 ∈ ab_T := ab_s (List.mem_of_getElem? (i := 207) rfl) rfl
def F_M_isComponent (N : Nat) (p0 : Nat) (p1 : Int32) (H : Hp) : Option (Int32 × Hp) :=
    ck (H.sh[p0]? = some (12, 0)) <|
    rf (H.P p0 3) fun a2 =>
    ck (H.sh[a2]? = some (14, 0)) <|
    bnd ((H.D a2 16)) fun x5 =>
    bC (F_M_in N ((p1 : Int32).toInt64) (0 : Int64) (((x5 - (1 : Int32)) : Int32).toInt64) H) fun v7 H8 =>
    ck (v7 &&& 1 = v7) <|
    some (v7, H8)
set_option maxRecDepth 20000 in
set_option maxHeartbeats 2000000 in
theorem m_M_isComponent {N : Nat} {p0 : Nat} {p1 : Int32} {H : Hp} {r : Int32 × Hp} (hF : F_M_isComponent N p0 p1 H = some r) : Sa H r.2 := by
  unfold F_M_isComponent at hF
  have hm := Sa.rf H
  obtain ⟨q10, hG⟩ := ck_s hF; clear hF
  obtain ⟨a11, e12, hF⟩ := rf_s hG; clear hG
  obtain ⟨q13, hG⟩ := ck_s hF; clear hF
  obtain ⟨x14, -, hF⟩ := bnd_g hG; clear hG
  obtain ⟨v16, H17, z15, hG⟩ := bC_s hF; clear hF
  replace hm : Sa H H17 := hm.tr (m_M_in z15)
  obtain ⟨q18, hF⟩ := ck_s hG; clear hG
  have hr := Option.some.inj hF; subst hr
  exact hm
set_option maxRecDepth 20000 in
set_option maxHeartbeats 2000000 in
theorem k_M_isComponent {N : Nat} {p0 : Nat} {p1 : Int32} {H : Hp} {r : Int32 × Hp} (hF : F_M_isComponent N p0 p1 H = some r) : ab_M y_M_isComponent { frames := 1, cells := 0, slots := 0, locals := 25 } [.ref p0, .int p1] (hpw H) (po (.returned (some (.int r.1))) r.2) := by
  unfold F_M_isComponent at hF
  refine ab_of2 (lv := [some (.ref p0), some (.int p1)]) 0 rfl rfl (Nat.le_of_ble_eq_true rfl) ?_
  refine ab_iload_n d_M_isComponent_0 rfl rfl ?_
  refine ab_i2l d_M_isComponent_1 ?_
  refine ab_lconst (v := 0) d_M_isComponent_2 (by decide) ?_
  refine ab_aload_n d_M_isComponent_3 rfl rfl rfl ?_
  obtain ⟨q1, hG⟩ := ck_s hF; clear hF
  obtain ⟨a2, e3, hF⟩ := rf_s hG; clear hG
  refine hp_getR (f := 3) d_M_isComponent_4 q1 (by decide) rfl (by decide) (k9 236 rfl rfl) rfl e3 ?_
  obtain ⟨q4, hG⟩ := ck_s hF; clear hF
  refine hp_getIN (f := 16) d_M_isComponent_7 q4 (by decide) rfl (by decide) (k8 180 rfl rfl) rfl ?_
  refine ab_topi (fun x5 ex5 => ?_)
  replace hG := bnd_s ex5 hG
  refine ab_iconst (v := 1) d_M_isComponent_10 (by decide) ?_
  refine ab_isub d_M_isComponent_11 ?_
  refine ab_i2l d_M_isComponent_12 ?_
  obtain ⟨v7, H8, z6, hF⟩ := bC_s hG; clear hG
  refine hp_callS_a (v := .int v7) (H1 := H8) (As := [.long ((p1 : Int32).toInt64), .long 0, .long (((x5 - (1 : Int32)) : Int32).toInt64)]) (rest := []) d_M_isComponent_13 (k_M_in z6) (ab_mkC s_M_in (Nat.le_of_ble_eq_true rfl) (Nat.le_of_ble_eq_true rfl) (Nat.le_refl 0) (Nat.le_refl 0)) (k10 93 rfl rfl) t_M_in rfl (Nat.le_of_ble_eq_true rfl) ?_
  have s_1 : Sa H H8 := (m_M_in z6)
  obtain ⟨q9, hG⟩ := ck_s hF; clear hF
  exact ab_zret d_M_isComponent_16 rfl (congrArg Value.int q9) (Nat.le_refl _) (Nat.le_refl _) (by have hr := Option.some.inj hG; subst hr; exact ⟨rfl, rfl⟩)
