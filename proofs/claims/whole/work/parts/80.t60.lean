def y_M_bitsOf : ab_Y := (⟨"WorldEngineModel", "bitsOf", "(I)V"⟩, prog_14_method_18_code, 4, none, [])
theorem d_M_bitsOf_0 : decode y_M_bitsOf.2.1 0 = .ok (.iconst 0, 1) := by decide +kernel
theorem d_M_bitsOf_1 : decode y_M_bitsOf.2.1 1 = .ok (.istore_n 2, 1) := by decide +kernel
theorem d_M_bitsOf_2 : decode y_M_bitsOf.2.1 2 = .ok (.iload_n 2, 1) := by decide +kernel
theorem d_M_bitsOf_3 : decode y_M_bitsOf.2.1 3 = .ok (.iconst 4, 1) := by decide +kernel
theorem d_M_bitsOf_4 : decode y_M_bitsOf.2.1 4 = .ok (.if_icmp .ge 99, 3) := by decide +kernel
theorem d_M_bitsOf_7 : decode y_M_bitsOf.2.1 7 = .ok (.iload_n 1, 1) := by decide +kernel
theorem d_M_bitsOf_8 : decode y_M_bitsOf.2.1 8 = .ok (.istore_n 3, 1) := by decide +kernel
theorem d_M_bitsOf_9 : decode y_M_bitsOf.2.1 9 = .ok (.iload_n 3, 1) := by decide +kernel
theorem d_M_bitsOf_10 : decode y_M_bitsOf.2.1 10 = .ok (.aload_n 0, 1) := by decide +kernel
theorem d_M_bitsOf_11 : decode y_M_bitsOf.2.1 11 = .ok (.getfield 33, 3) := by decide +kernel
theorem d_M_bitsOf_14 : decode y_M_bitsOf.2.1 14 = .ok (.getfield 145, 3) := by decide +kernel
theorem d_M_bitsOf_17 : decode y_M_bitsOf.2.1 17 = .ok (.if_icmp .le 23, 3) := by decide +kernel
theorem d_M_bitsOf_20 : decode y_M_bitsOf.2.1 20 = .ok (.aload_n 0, 1) := by decide +kernel
theorem d_M_bitsOf_21 : decode y_M_bitsOf.2.1 21 = .ok (.getfield 57, 3) := by decide +kernel
theorem d_M_bitsOf_24 : decode y_M_bitsOf.2.1 24 = .ok (.aload_n 0, 1) := by decide +kernel
theorem d_M_bitsOf_25 : decode y_M_bitsOf.2.1 25 = .ok (.iload_n 2, 1) := by decide +kernel
theorem d_M_bitsOf_26 : decode y_M_bitsOf.2.1 26 = .ok (.iload_n 3, 1) := by decide +kernel
theorem d_M_bitsOf_27 : decode y_M_bitsOf.2.1 27 = .ok (.invokevirtual 227, 3) := by decide +kernel
theorem d_M_bitsOf_30 : decode y_M_bitsOf.2.1 30 = .ok (.baload, 1) := by decide +kernel
theorem d_M_bitsOf_31 : decode y_M_bitsOf.2.1 31 = .ok (.ifCond .ne 9, 3) := by decide +kernel
theorem d_M_bitsOf_34 : decode y_M_bitsOf.2.1 34 = .ok (.iinc 3 (-1), 3) := by decide +kernel
theorem d_M_bitsOf_37 : decode y_M_bitsOf.2.1 37 = .ok (.goto (-28), 3) := by decide +kernel
theorem d_M_bitsOf_40 : decode y_M_bitsOf.2.1 40 = .ok (.aload_n 0, 1) := by decide +kernel
theorem d_M_bitsOf_41 : decode y_M_bitsOf.2.1 41 = .ok (.getfield 67, 3) := by decide +kernel
theorem d_M_bitsOf_44 : decode y_M_bitsOf.2.1 44 = .ok (.iload_n 2, 1) := by decide +kernel
theorem d_M_bitsOf_45 : decode y_M_bitsOf.2.1 45 = .ok (.aload_n 0, 1) := by decide +kernel
theorem d_M_bitsOf_46 : decode y_M_bitsOf.2.1 46 = .ok (.getfield 61, 3) := by decide +kernel
theorem d_M_bitsOf_49 : decode y_M_bitsOf.2.1 49 = .ok (.iload_n 1, 1) := by decide +kernel
theorem d_M_bitsOf_50 : decode y_M_bitsOf.2.1 50 = .ok (.bipush 63, 2) := by decide +kernel
theorem d_M_bitsOf_52 : decode y_M_bitsOf.2.1 52 = .ok (.iand, 1) := by decide +kernel
theorem d_M_bitsOf_53 : decode y_M_bitsOf.2.1 53 = .ok (.iaload, 1) := by decide +kernel
theorem d_M_bitsOf_54 : decode y_M_bitsOf.2.1 54 = .ok (.iload_n 2, 1) := by decide +kernel
theorem d_M_bitsOf_55 : decode y_M_bitsOf.2.1 55 = .ok (.ishr, 1) := by decide +kernel
theorem d_M_bitsOf_56 : decode y_M_bitsOf.2.1 56 = .ok (.iconst 1, 1) := by decide +kernel
theorem d_M_bitsOf_57 : decode y_M_bitsOf.2.1 57 = .ok (.iand, 1) := by decide +kernel
theorem d_M_bitsOf_58 : decode y_M_bitsOf.2.1 58 = .ok (.ifCond .ne 7, 3) := by decide +kernel
theorem d_M_bitsOf_61 : decode y_M_bitsOf.2.1 61 = .ok (.iconst 0, 1) := by decide +kernel
theorem d_M_bitsOf_62 : decode y_M_bitsOf.2.1 62 = .ok (.goto 34, 3) := by decide +kernel
theorem d_M_bitsOf_65 : decode y_M_bitsOf.2.1 65 = .ok (.iload_n 3, 1) := by decide +kernel
theorem d_M_bitsOf_66 : decode y_M_bitsOf.2.1 66 = .ok (.aload_n 0, 1) := by decide +kernel
theorem d_M_bitsOf_67 : decode y_M_bitsOf.2.1 67 = .ok (.getfield 33, 3) := by decide +kernel
theorem d_M_bitsOf_70 : decode y_M_bitsOf.2.1 70 = .ok (.getfield 145, 3) := by decide +kernel
theorem d_M_bitsOf_73 : decode y_M_bitsOf.2.1 73 = .ok (.if_icmp .le 17, 3) := by decide +kernel
theorem d_M_bitsOf_76 : decode y_M_bitsOf.2.1 76 = .ok (.aload_n 0, 1) := by decide +kernel
theorem d_M_bitsOf_77 : decode y_M_bitsOf.2.1 77 = .ok (.getfield 53, 3) := by decide +kernel
theorem d_M_bitsOf_80 : decode y_M_bitsOf.2.1 80 = .ok (.aload_n 0, 1) := by decide +kernel
theorem d_M_bitsOf_81 : decode y_M_bitsOf.2.1 81 = .ok (.iload_n 2, 1) := by decide +kernel
theorem d_M_bitsOf_82 : decode y_M_bitsOf.2.1 82 = .ok (.iload_n 3, 1) := by decide +kernel
theorem d_M_bitsOf_83 : decode y_M_bitsOf.2.1 83 = .ok (.invokevirtual 227, 3) := by decide +kernel
theorem d_M_bitsOf_86 : decode y_M_bitsOf.2.1 86 = .ok (.iaload, 1) := by decide +kernel
theorem d_M_bitsOf_87 : decode y_M_bitsOf.2.1 87 = .ok (.goto 9, 3) := by decide +kernel
theorem d_M_bitsOf_90 : decode y_M_bitsOf.2.1 90 = .ok (.aload_n 0, 1) := by decide +kernel
theorem d_M_bitsOf_91 : decode y_M_bitsOf.2.1 91 = .ok (.getfield 64, 3) := by decide +kernel
theorem d_M_bitsOf_94 : decode y_M_bitsOf.2.1 94 = .ok (.iload_n 2, 1) := by decide +kernel
theorem d_M_bitsOf_95 : decode y_M_bitsOf.2.1 95 = .ok (.iaload, 1) := by decide +kernel
theorem d_M_bitsOf_96 : decode y_M_bitsOf.2.1 96 = .ok (.iastore, 1) := by decide +kernel
theorem d_M_bitsOf_97 : decode y_M_bitsOf.2.1 97 = .ok (.iinc 2 1, 3) := by decide +kernel
theorem d_M_bitsOf_100 : decode y_M_bitsOf.2.1 100 = .ok (.goto (-98), 3) := by decide +kernel
theorem d_M_bitsOf_103 : decode y_M_bitsOf.2.1 103 = .ok (.return_, 1) := by decide +kernel
theorem s_M_bitsOf : ab_Stat y_M_bitsOf 1 := ⟨(k11 209 rfl rfl), (k1 19 rfl rfl), ⟨by decide, by decide⟩, by decide +kernel⟩
theorem i_M_bitsOf : Cond.instanceMethod y_M_bitsOf.1 ∈ ab_T := (k11 208 rfl rfl)
theorem v_M_bitsOf : Cond.selects "WorldEngineModel" y_M_bitsOf.1 y_M_bitsOf.1 ∈ ab_T := ab_s (List.mem_of_getElem? (i := 173) rfl) rfl
def B_M_bitsOf_96 (N : Nat) (p0 : Nat) (p1 : Int32) (kq2 : Int32 → Hp → Option (Unit × Hp)) (l2 : Int32) (w0 : Nat) (w1 : Int32) (w2 : Int32) (H : Hp) : Option (Unit × Hp) :=
    ar H 100 w0 fun n29 =>
    ck (inb w1 n29) <|
    bnd (H.sD w0 (w1).toNatClampNeg w2) fun H32 =>
    kq2 (l2 + 1) H32
set_option maxRecDepth 20000 in
set_option maxHeartbeats 2000000 in
theorem mB_M_bitsOf_96 {N : Nat} {p0 : Nat} {p1 : Int32} {kq2 : Int32 → Hp → Option (Unit × Hp)} (hm2 : ∀ (l2 : Int32) (H : Hp) (r : Unit × Hp), kq2 l2 H = some r → Sa H r.2) {l2 : Int32} {w0 : Nat} {w1 : Int32} {w2 : Int32} {H : Hp} {r : Unit × Hp} (hF : B_M_bitsOf_96 N p0 p1 kq2 l2 w0 w1 w2 H = some r) : Sa H r.2 := by
  unfold B_M_bitsOf_96 at hF
  have hm := Sa.rf H
  obtain ⟨n33, q34, hG⟩ := ar_s hF; clear hF
  obtain ⟨q35, hF⟩ := ck_s hG; clear hG
  obtain ⟨H36, eH36, hG⟩ := bnd_g hF; clear hF
  replace hm : Sa H H36 := by rw [eH36]; exact hm
  exact hm.tr (hm2 (l2 + 1) H36 r hG)
set_option maxRecDepth 20000 in
set_option maxHeartbeats 2000000 in
theorem kB_M_bitsOf_96 {N : Nat} {p0 : Nat} {p1 : Int32} {kq2 : Int32 → Hp → Option (Unit × Hp)} (hm2 : ∀ (l2 : Int32) (H : Hp) (r : Unit × Hp), kq2 l2 H = some r → Sa H r.2) (hk2 : ∀ (l2 : Int32) (H : Hp) (r : Unit × Hp), kq2 l2 H = some r → ab_V y_M_bitsOf { frames := 1, cells := 0, slots := 0, locals := 22 } (po (.returned none) r.2) 0 0 0 0 2 [some (.ref p0), some (.int p1), some (.int l2), none] [] (hpw H)) {l2 : Int32} {w0 : Nat} {w1 : Int32} {w2 : Int32} {H : Hp} {r : Unit × Hp} (hF : B_M_bitsOf_96 N p0 p1 kq2 l2 w0 w1 w2 H = some r) : ab_V y_M_bitsOf { frames := 1, cells := 0, slots := 0, locals := 22 } (po (.returned none) r.2) 0 0 0 0 96 [some (.ref p0), some (.int p1), some (.int l2), none] [.int w2, .int w1, .ref w0] (hpw H) := by
  unfold B_M_bitsOf_96 at hF
  obtain ⟨n29, q30, hG⟩ := ar_s hF; clear hF
  obtain ⟨q31, hF⟩ := ck_s hG; clear hG
  refine hp_iast d_M_bitsOf_96 tI q30 q31 ?_
  refine hp_gen (fun H32 eH32 => ?_)
  replace hF := bnd_s eH32 hF
  have s_1 : Sa H H32 := by rw [eH32]; exact Sa.rf _
  refine ab_iinc (v := l2 + 1) (lv' := [some (.ref p0), some (.int p1), some (.int (l2 + 1)), none]) d_M_bitsOf_97 rfl rfl (by decide) rfl ?_
  refine ab_goto (tgt := 2) d_M_bitsOf_100 (by decide) ?_
  exact hk2 (l2 + 1) H32 r hF
def B_M_bitsOf_40 (N : Nat) (p0 : Nat) (p1 : Int32) (kq2 : Int32 → Hp → Option (Unit × Hp)) (l2 : Int32) (l3 : Int32) (H : Hp) : Option (Unit × Hp) :=
    ck (H.sh[p0]? = some (12, 0)) <|
    rf (H.P p0 18) fun a9 =>
    rf (H.P p0 16) fun a11 =>
    ar H 100 a11 fun n13 =>
    ck (inb (p1 &&& (63 : Int32)) n13) <|
    bnd ((H.D a11 ((p1 &&& (63 : Int32))).toNatClampNeg)) fun x16 =>
    if ((x16 >>> (l2 &&& 31)) &&& (1 : Int32)) = (0 : Int32) then
    B_M_bitsOf_96 N p0 p1 kq2 l2 a9 l2 0 H
    else
    rf (H.P p0 8) fun a18 =>
    ck (H.sh[a18]? = some (13, 0)) <|
    bnd ((H.D a18 0)) fun x21 =>
    if l3 ≤ x21 then
    rf (H.P p0 17) fun a23 =>
    ar H 100 a23 fun n25 =>
    ck (inb l2 n25) <|
    bnd ((H.D a23 (l2).toNatClampNeg)) fun x28 =>
    B_M_bitsOf_96 N p0 p1 kq2 l2 a9 l2 x28 H
    else
    rf (H.P p0 14) fun a37 =>
    bC (F_M_slot N p0 l2 l3 H) fun v40 H41 =>
    ar H41 100 a37 fun n42 =>
    ck (inb v40 n42) <|
    bnd ((H41.D a37 (v40).toNatClampNeg)) fun x45 =>
    B_M_bitsOf_96 N p0 p1 kq2 l2 a9 l2 x45 H41
set_option maxRecDepth 20000 in
set_option maxHeartbeats 2000000 in
theorem mB_M_bitsOf_40 {N : Nat} {p0 : Nat} {p1 : Int32} {kq2 : Int32 → Hp → Option (Unit × Hp)} (hm2 : ∀ (l2 : Int32) (H : Hp) (r : Unit × Hp), kq2 l2 H = some r → Sa H r.2) {l2 : Int32} {l3 : Int32} {H : Hp} {r : Unit × Hp} (hF : B_M_bitsOf_40 N p0 p1 kq2 l2 l3 H = some r) : Sa H r.2 := by
  unfold B_M_bitsOf_40 at hF
  have hm := Sa.rf H
  obtain ⟨q46, hG⟩ := ck_s hF; clear hF
  obtain ⟨a47, e48, hF⟩ := rf_s hG; clear hG
  obtain ⟨a49, e50, hG⟩ := rf_s hF; clear hF
  obtain ⟨n51, q52, hF⟩ := ar_s hG; clear hG
  obtain ⟨q53, hG⟩ := ck_s hF; clear hF
  obtain ⟨x54, -, hF⟩ := bnd_g hG; clear hG
  rcases ite_s hF with ⟨q_4, hG⟩ | ⟨q_4, hG⟩
  · clear hF
    exact hm.tr (mB_M_bitsOf_96 hm2 hG)
  · clear hF
    obtain ⟨a56, e57, hF⟩ := rf_s hG; clear hG
    obtain ⟨q58, hG⟩ := ck_s hF; clear hF
    obtain ⟨x59, -, hF⟩ := bnd_g hG; clear hG
    rcases ite_s hF with ⟨q_5, hG⟩ | ⟨q_5, hG⟩
    · clear hF
      obtain ⟨a61, e62, hF⟩ := rf_s hG; clear hG
      obtain ⟨n63, q64, hG⟩ := ar_s hF; clear hF
      obtain ⟨q65, hF⟩ := ck_s hG; clear hG
      obtain ⟨x66, -, hG⟩ := bnd_g hF; clear hF
      exact hm.tr (mB_M_bitsOf_96 hm2 hG)
    · clear hF
      obtain ⟨a67, e68, hF⟩ := rf_s hG; clear hG
      obtain ⟨v70, H71, z69, hG⟩ := bC_s hF; clear hF
      replace hm : Sa H H71 := hm.tr (m_M_slot z69)
      obtain ⟨n72, q73, hF⟩ := ar_s hG; clear hG
      obtain ⟨q74, hG⟩ := ck_s hF; clear hF
      obtain ⟨x75, -, hF⟩ := bnd_g hG; clear hG
      exact hm.tr (mB_M_bitsOf_96 hm2 hF)
set_option maxRecDepth 20000 in
set_option maxHeartbeats 2000000 in
theorem kB_M_bitsOf_40 {N : Nat} {p0 : Nat} {p1 : Int32} {kq2 : Int32 → Hp → Option (Unit × Hp)} (hm2 : ∀ (l2 : Int32) (H : Hp) (r : Unit × Hp), kq2 l2 H = some r → Sa H r.2) (hk2 : ∀ (l2 : Int32) (H : Hp) (r : Unit × Hp), kq2 l2 H = some r → ab_V y_M_bitsOf { frames := 1, cells := 0, slots := 0, locals := 22 } (po (.returned none) r.2) 0 0 0 0 2 [some (.ref p0), some (.int p1), some (.int l2), none] [] (hpw H)) {l2 : Int32} {l3 : Int32} {H : Hp} {r : Unit × Hp} (hF : B_M_bitsOf_40 N p0 p1 kq2 l2 l3 H = some r) : ab_V y_M_bitsOf { frames := 1, cells := 0, slots := 0, locals := 22 } (po (.returned none) r.2) 0 0 0 0 40 [some (.ref p0), some (.int p1), some (.int l2), some (.int l3)] [] (hpw H) := by
  unfold B_M_bitsOf_40 at hF
  refine ab_aload_n d_M_bitsOf_40 rfl rfl rfl ?_
  obtain ⟨q8, hG⟩ := ck_s hF; clear hF
  obtain ⟨a9, e10, hF⟩ := rf_s hG; clear hG
  refine hp_getR (f := 18) d_M_bitsOf_41 q8 (by decide) rfl (by decide) (k10 11 rfl rfl) rfl e10 ?_
  refine ab_iload_n d_M_bitsOf_44 rfl rfl ?_
  refine ab_aload_n d_M_bitsOf_45 rfl rfl rfl ?_
  obtain ⟨a11, e12, hG⟩ := rf_s hF; clear hF
  refine hp_getR (f := 16) d_M_bitsOf_46 q8 (by decide) rfl (by decide) (k10 9 rfl rfl) rfl e12 ?_
  refine ab_iload_n d_M_bitsOf_49 rfl rfl ?_
  refine ab_bipush (v := 63) d_M_bitsOf_50 (by decide) ?_
  refine ab_iand d_M_bitsOf_52 ?_
  obtain ⟨n13, q14, hF⟩ := ar_s hG; clear hG
  obtain ⟨q15, hG⟩ := ck_s hF; clear hF
  refine hp_iald d_M_bitsOf_53 tI q14 q15 ?_
  refine ab_topi (fun x16 ex16 => ?_)
  replace hG := bnd_s ex16 hG
  refine ab_iload_n d_M_bitsOf_54 rfl rfl ?_
  refine ab_ishr d_M_bitsOf_55 ?_
  refine ab_iconst (v := 1) d_M_bitsOf_56 (by decide) ?_
  refine ab_iand d_M_bitsOf_57 ?_
  refine ab_if_ne (tgt := 65) d_M_bitsOf_58 (by decide) (fun q17 => ?_) (fun q17 => ?_)
  · rw [if_neg q17] at hG
    refine ab_iload_n d_M_bitsOf_65 rfl rfl ?_
    refine ab_aload_n d_M_bitsOf_66 rfl rfl rfl ?_
    obtain ⟨a18, e19, hF⟩ := rf_s hG; clear hG
    refine hp_getR (f := 8) d_M_bitsOf_67 q8 (by decide) rfl (by decide) (k10 1 rfl rfl) rfl e19 ?_
    obtain ⟨q20, hG⟩ := ck_s hF; clear hF
    refine hp_getIN (f := 0) d_M_bitsOf_70 q20 (by decide) rfl (by decide) (k9 89 rfl rfl) rfl ?_
    refine ab_topi (fun x21 ex21 => ?_)
    replace hG := bnd_s ex21 hG
    refine ab_icmp_le (tgt := 90) d_M_bitsOf_73 (by decide) (fun q22 => ?_) (fun q22 => ?_)
    · rw [if_pos q22] at hG
      refine ab_aload_n d_M_bitsOf_90 rfl rfl rfl ?_
      obtain ⟨a23, e24, hF⟩ := rf_s hG; clear hG
      refine hp_getR (f := 17) d_M_bitsOf_91 q8 (by decide) rfl (by decide) (k10 10 rfl rfl) rfl e24 ?_
      refine ab_iload_n d_M_bitsOf_94 rfl rfl ?_
      obtain ⟨n25, q26, hG⟩ := ar_s hF; clear hF
      obtain ⟨q27, hF⟩ := ck_s hG; clear hG
      refine hp_iald d_M_bitsOf_95 tI q26 q27 ?_
      refine ab_topi (fun x28 ex28 => ?_)
      replace hF := bnd_s ex28 hF
      refine ab_le (lv' := [some (.ref p0), some (.int p1), some (.int l2), none]) ⟨rfl, ⟨rfl, ⟨rfl, trivial⟩⟩⟩ ?_
      exact kB_M_bitsOf_96 hm2 hk2 hF
    · rw [if_neg q22] at hG
      refine ab_aload_n d_M_bitsOf_76 rfl rfl rfl ?_
      obtain ⟨a37, e38, hF⟩ := rf_s hG; clear hG
      refine hp_getR (f := 14) d_M_bitsOf_77 q8 (by decide) rfl (by decide) (k10 7 rfl rfl) rfl e38 ?_
      refine ab_aload_n d_M_bitsOf_80 rfl rfl rfl ?_
      refine ab_iload_n d_M_bitsOf_81 rfl rfl ?_
      refine ab_iload_n d_M_bitsOf_82 rfl rfl ?_
      obtain ⟨v40, H41, z39, hG⟩ := bC_s hF; clear hF
      refine hp_callV_a (v := .int v40) (H1 := H41) (As := [.int l2, .int l3]) (rest := [.ref a37, .int l2, .ref a9]) d_M_bitsOf_83 (k_M_slot z39) (ab_mkC s_M_slot (Nat.le_of_ble_eq_true rfl) (Nat.le_of_ble_eq_true rfl) (Nat.le_refl 0) (Nat.le_refl 0)) (k11 210 rfl rfl) i_M_slot v_M_slot q8 (by decide) rfl rfl (Nat.le_of_ble_eq_true rfl) ?_
      have s_3 : Sa H H41 := (m_M_slot z39)
      obtain ⟨n42, q43, hF⟩ := ar_s hG; clear hG
      rw [(s_3).1] at q43
      obtain ⟨q44, hG⟩ := ck_s hF; clear hF
      refine hp_iald d_M_bitsOf_86 tI (by rw [(s_3).1]; exact q43) q44 ?_
      refine ab_topi (fun x45 ex45 => ?_)
      replace hG := bnd_s ex45 hG
      refine ab_goto (tgt := 96) d_M_bitsOf_87 (by decide) ?_
      refine ab_le (lv' := [some (.ref p0), some (.int p1), some (.int l2), none]) ⟨rfl, ⟨rfl, ⟨rfl, trivial⟩⟩⟩ ?_
      exact kB_M_bitsOf_96 hm2 hk2 hG
  · rw [if_pos q17] at hG
    refine ab_iconst (v := 0) d_M_bitsOf_61 (by decide) ?_
    refine ab_goto (tgt := 96) d_M_bitsOf_62 (by decide) ?_
    refine ab_le (lv' := [some (.ref p0), some (.int p1), some (.int l2), none]) ⟨rfl, ⟨rfl, ⟨rfl, trivial⟩⟩⟩ ?_
    exact kB_M_bitsOf_96 hm2 hk2 hG
def B_M_bitsOf_9 (N : Nat) (p0 : Nat) (p1 : Int32) (kq2 : Int32 → Hp → Option (Unit × Hp)) : Nat → Int32 → Int32 → Hp → Option (Unit × Hp)
  | 0, _, _, _ => none
  | n + 1, l2, l3, H =>
    ck (H.sh[p0]? = some (12, 0)) <|
    rf (H.P p0 8) fun a3 =>
    ck (H.sh[a3]? = some (13, 0)) <|
    bnd ((H.D a3 0)) fun x6 =>
    if l3 ≤ x6 then
    B_M_bitsOf_40 N p0 p1 kq2 l2 l3 H
    else
    rf (H.P p0 15) fun a76 =>
    bC (F_M_slot N p0 l2 l3 H) fun v79 H80 =>
    ar H80 102 a76 fun n81 =>
    ck (inb v79 n81) <|
    bnd ((H80.D a76 (v79).toNatClampNeg)) fun x84 =>
    if x84 = (0 : Int32) then
    B_M_bitsOf_9 N p0 p1 kq2 n l2 (l3 + (-1)) H80
    else
    B_M_bitsOf_40 N p0 p1 kq2 l2 l3 H80
termination_by structural n => n
set_option maxRecDepth 20000 in
set_option maxHeartbeats 2000000 in
theorem mB_M_bitsOf_9 {N : Nat} {p0 : Nat} {p1 : Int32} {kq2 : Int32 → Hp → Option (Unit × Hp)} (hm2 : ∀ (l2 : Int32) (H : Hp) (r : Unit × Hp), kq2 l2 H = some r → Sa H r.2) : ∀ (n : Nat) (l2 : Int32) (l3 : Int32) (H : Hp) (r : Unit × Hp), B_M_bitsOf_9 N p0 p1 kq2 n l2 l3 H = some r → Sa H r.2 := by
  intro n
  induction n with
  | zero => intro l2 l3 H r hF; rw [B_M_bitsOf_9] at hF; cases hF
  | succ n ih =>
    intro l2 l3 H r hF
    rw [B_M_bitsOf_9] at hF
    have hm := Sa.rf H
    obtain ⟨q86, hG⟩ := ck_s hF; clear hF
    obtain ⟨a87, e88, hF⟩ := rf_s hG; clear hG
    obtain ⟨q89, hG⟩ := ck_s hF; clear hF
    obtain ⟨x90, -, hF⟩ := bnd_g hG; clear hG
    rcases ite_s hF with ⟨q_8, hG⟩ | ⟨q_8, hG⟩
    · clear hF
      exact hm.tr (mB_M_bitsOf_40 hm2 hG)
    · clear hF
      obtain ⟨a92, e93, hF⟩ := rf_s hG; clear hG
      obtain ⟨v95, H96, z94, hG⟩ := bC_s hF; clear hF
      replace hm : Sa H H96 := hm.tr (m_M_slot z94)
      obtain ⟨n97, q98, hF⟩ := ar_s hG; clear hG
      obtain ⟨q99, hG⟩ := ck_s hF; clear hF
      obtain ⟨x100, -, hF⟩ := bnd_g hG; clear hG
      rcases ite_s hF with ⟨q_10, hG⟩ | ⟨q_10, hG⟩
      · clear hF
        exact hm.tr (ih l2 (l3 + (-1)) H96 r hG)
      · clear hF
        exact hm.tr (mB_M_bitsOf_40 hm2 hG)
set_option maxRecDepth 20000 in
set_option maxHeartbeats 2000000 in
theorem kB_M_bitsOf_9 {N : Nat} {p0 : Nat} {p1 : Int32} {kq2 : Int32 → Hp → Option (Unit × Hp)} (hm2 : ∀ (l2 : Int32) (H : Hp) (r : Unit × Hp), kq2 l2 H = some r → Sa H r.2) (hk2 : ∀ (l2 : Int32) (H : Hp) (r : Unit × Hp), kq2 l2 H = some r → ab_V y_M_bitsOf { frames := 1, cells := 0, slots := 0, locals := 22 } (po (.returned none) r.2) 0 0 0 0 2 [some (.ref p0), some (.int p1), some (.int l2), none] [] (hpw H)) : ∀ (n : Nat) (l2 : Int32) (l3 : Int32) (H : Hp) (r : Unit × Hp), B_M_bitsOf_9 N p0 p1 kq2 n l2 l3 H = some r → ab_V y_M_bitsOf { frames := 1, cells := 0, slots := 0, locals := 22 } (po (.returned none) r.2) 0 0 0 0 9 [some (.ref p0), some (.int p1), some (.int l2), some (.int l3)] [] (hpw H) := by
  intro n
  induction n with
  | zero => intro l2 l3 H r hF; rw [B_M_bitsOf_9] at hF; cases hF
  | succ n ih =>
    intro l2 l3 H r hF
    rw [B_M_bitsOf_9] at hF
    refine ab_iload_n d_M_bitsOf_9 rfl rfl ?_
    refine ab_aload_n d_M_bitsOf_10 rfl rfl rfl ?_
    obtain ⟨q2, hG⟩ := ck_s hF; clear hF
    obtain ⟨a3, e4, hF⟩ := rf_s hG; clear hG
    refine hp_getR (f := 8) d_M_bitsOf_11 q2 (by decide) rfl (by decide) (k10 1 rfl rfl) rfl e4 ?_
    obtain ⟨q5, hG⟩ := ck_s hF; clear hF
    refine hp_getIN (f := 0) d_M_bitsOf_14 q5 (by decide) rfl (by decide) (k9 89 rfl rfl) rfl ?_
    refine ab_topi (fun x6 ex6 => ?_)
    replace hG := bnd_s ex6 hG
    refine ab_icmp_le (tgt := 40) d_M_bitsOf_17 (by decide) (fun q7 => ?_) (fun q7 => ?_)
    · rw [if_pos q7] at hG
      exact kB_M_bitsOf_40 hm2 hk2 hG
    · rw [if_neg q7] at hG
      refine ab_aload_n d_M_bitsOf_20 rfl rfl rfl ?_
      obtain ⟨a76, e77, hF⟩ := rf_s hG; clear hG
      refine hp_getR (f := 15) d_M_bitsOf_21 q2 (by decide) rfl (by decide) (k10 8 rfl rfl) rfl e77 ?_
      refine ab_aload_n d_M_bitsOf_24 rfl rfl rfl ?_
      refine ab_iload_n d_M_bitsOf_25 rfl rfl ?_
      refine ab_iload_n d_M_bitsOf_26 rfl rfl ?_
      obtain ⟨v79, H80, z78, hG⟩ := bC_s hF; clear hF
      refine hp_callV_a (v := .int v79) (H1 := H80) (As := [.int l2, .int l3]) (rest := [.ref a76]) d_M_bitsOf_27 (k_M_slot z78) (ab_mkC s_M_slot (Nat.le_of_ble_eq_true rfl) (Nat.le_of_ble_eq_true rfl) (Nat.le_refl 0) (Nat.le_refl 0)) (k11 210 rfl rfl) i_M_slot v_M_slot q2 (by decide) rfl rfl (Nat.le_of_ble_eq_true rfl) ?_
      have s_7 : Sa H H80 := (m_M_slot z78)
      obtain ⟨n81, q82, hF⟩ := ar_s hG; clear hG
      rw [(s_7).1] at q82
      obtain ⟨q83, hG⟩ := ck_s hF; clear hF
      refine hp_zald d_M_bitsOf_30 tZ (by rw [(s_7).1]; exact q82) q83 ?_
      refine ab_topi (fun x84 ex84 => ?_)
      replace hG := bnd_s ex84 hG
      refine ab_if_ne (tgt := 40) d_M_bitsOf_31 (by decide) (fun q85 => ?_) (fun q85 => ?_)
      · rw [if_neg q85] at hG
        exact kB_M_bitsOf_40 hm2 hk2 hG
      · rw [if_pos q85] at hG
        refine ab_iinc (v := l3 + (-1)) (lv' := [some (.ref p0), some (.int p1), some (.int l2), some (.int (l3 + (-1)))]) d_M_bitsOf_34 rfl rfl (by decide) rfl ?_
        refine ab_goto (tgt := 9) d_M_bitsOf_37 (by decide) ?_
        exact ih l2 (l3 + (-1)) H80 r hG
def B_M_bitsOf_2 (N : Nat) (p0 : Nat) (p1 : Int32) : Nat → Int32 → Hp → Option (Unit × Hp)
  | 0, _, _ => none
  | n + 1, l2, H =>
    if (4 : Int32) ≤ l2 then
    some ((), H)
    else
    B_M_bitsOf_9 N p0 p1 (fun l2 H => B_M_bitsOf_2 N p0 p1 n l2 H) N l2 p1 H
termination_by structural n => n
set_option maxRecDepth 20000 in
set_option maxHeartbeats 2000000 in
theorem mB_M_bitsOf_2 {N : Nat} {p0 : Nat} {p1 : Int32} : ∀ (n : Nat) (l2 : Int32) (H : Hp) (r : Unit × Hp), B_M_bitsOf_2 N p0 p1 n l2 H = some r → Sa H r.2 := by
  intro n
  induction n with
  | zero => intro l2 H r hF; rw [B_M_bitsOf_2] at hF; cases hF
  | succ n ih =>
    intro l2 H r hF
    rw [B_M_bitsOf_2] at hF
    have hm := Sa.rf H
    rcases ite_s hF with ⟨q_11, hG⟩ | ⟨q_11, hG⟩
    · clear hF
      have hr := Option.some.inj hG; subst hr
      exact hm
    · clear hF
      exact hm.tr (mB_M_bitsOf_9 ih N l2 p1 H r hG)
set_option maxRecDepth 20000 in
set_option maxHeartbeats 2000000 in
theorem kB_M_bitsOf_2 {N : Nat} {p0 : Nat} {p1 : Int32} : ∀ (n : Nat) (l2 : Int32) (H : Hp) (r : Unit × Hp), B_M_bitsOf_2 N p0 p1 n l2 H = some r → ab_V y_M_bitsOf { frames := 1, cells := 0, slots := 0, locals := 22 } (po (.returned none) r.2) 0 0 0 0 2 [some (.ref p0), some (.int p1), some (.int l2), none] [] (hpw H) := by
  intro n
  induction n with
  | zero => intro l2 H r hF; rw [B_M_bitsOf_2] at hF; cases hF
  | succ n ih =>
    intro l2 H r hF
    rw [B_M_bitsOf_2] at hF
    refine ab_iload_n d_M_bitsOf_2 rfl rfl ?_
    refine ab_iconst (v := 4) d_M_bitsOf_3 (by decide) ?_
    refine ab_icmp_ge (tgt := 103) d_M_bitsOf_4 (by decide) (fun q1 => ?_) (fun q1 => ?_)
    · rw [if_pos q1] at hF
      exact ab_vret d_M_bitsOf_103 rfl (Nat.le_refl _) (Nat.le_refl _) (by have hr := Option.some.inj hF; subst hr; exact ⟨rfl, rfl⟩)
    · rw [if_neg q1] at hF
      refine ab_iload_n d_M_bitsOf_7 rfl rfl ?_
      refine ab_istore_n (lv' := [some (.ref p0), some (.int p1), some (.int l2), some (.int p1)]) d_M_bitsOf_8 rfl (by decide) rfl ?_
      exact kB_M_bitsOf_9 (mB_M_bitsOf_2 n) ih N l2 p1 H r hF
def F_M_bitsOf (N : Nat) (p0 : Nat) (p1 : Int32) (H : Hp) : Option (Unit × Hp) :=
    B_M_bitsOf_2 N p0 p1 N 0 H
set_option maxRecDepth 20000 in
set_option maxHeartbeats 2000000 in
theorem m_M_bitsOf {N : Nat} {p0 : Nat} {p1 : Int32} {H : Hp} {r : Unit × Hp} (hF : F_M_bitsOf N p0 p1 H = some r) : Sa H r.2 := by
  unfold F_M_bitsOf at hF
  have hm := Sa.rf H
  exact hm.tr (mB_M_bitsOf_2 N 0 H r hF)
set_option maxRecDepth 20000 in
set_option maxHeartbeats 2000000 in
theorem k_M_bitsOf {N : Nat} {p0 : Nat} {p1 : Int32} {H : Hp} {r : Unit × Hp} (hF : F_M_bitsOf N p0 p1 H = some r) : ab_M y_M_bitsOf { frames := 1, cells := 0, slots := 0, locals := 22 } [.ref p0, .int p1] (hpw H) (po (.returned none) r.2) := by
  unfold F_M_bitsOf at hF
  refine ab_of2 (lv := [some (.ref p0), some (.int p1), none, none]) 2 rfl rfl (Nat.le_of_ble_eq_true rfl) ?_
  refine ab_iconst (v := 0) d_M_bitsOf_0 (by decide) ?_
  refine ab_istore_n (lv' := [some (.ref p0), some (.int p1), some (.int 0), none]) d_M_bitsOf_1 rfl (by decide) rfl ?_
  exact kB_M_bitsOf_2 N 0 H r hF
def y_MText_isRow : ab_Y := (⟨"WorldEngineModel$Text", "isRow", "(ILWorldEngineModel$World;I)Z"⟩, prog_16_method_15_code, 4, (some FieldType.boolean), [])
theorem d_MText_isRow_0 : decode y_MText_isRow.2.1 0 = .ok (.aload_n 2, 1) := by decide +kernel
theorem d_MText_isRow_1 : decode y_MText_isRow.2.1 1 = .ok (.getfield 174, 3) := by decide +kernel
theorem d_MText_isRow_4 : decode y_MText_isRow.2.1 4 = .ok (.iload_n 3, 1) := by decide +kernel
theorem d_MText_isRow_5 : decode y_MText_isRow.2.1 5 = .ok (.baload, 1) := by decide +kernel
theorem d_MText_isRow_6 : decode y_MText_isRow.2.1 6 = .ok (.ifCond .eq 45, 3) := by decide +kernel
theorem d_MText_isRow_9 : decode y_MText_isRow.2.1 9 = .ok (.aload_n 2, 1) := by decide +kernel
theorem d_MText_isRow_10 : decode y_MText_isRow.2.1 10 = .ok (.getfield 179, 3) := by decide +kernel
theorem d_MText_isRow_13 : decode y_MText_isRow.2.1 13 = .ok (.iload_n 3, 1) := by decide +kernel
theorem d_MText_isRow_14 : decode y_MText_isRow.2.1 14 = .ok (.iaload, 1) := by decide +kernel
theorem d_MText_isRow_15 : decode y_MText_isRow.2.1 15 = .ok (.aload_n 0, 1) := by decide +kernel
theorem d_MText_isRow_16 : decode y_MText_isRow.2.1 16 = .ok (.getfield 74, 3) := by decide +kernel
theorem d_MText_isRow_19 : decode y_MText_isRow.2.1 19 = .ok (.iload_n 1, 1) := by decide +kernel
theorem d_MText_isRow_20 : decode y_MText_isRow.2.1 20 = .ok (.iaload, 1) := by decide +kernel
theorem d_MText_isRow_21 : decode y_MText_isRow.2.1 21 = .ok (.iand, 1) := by decide +kernel
theorem d_MText_isRow_22 : decode y_MText_isRow.2.1 22 = .ok (.aload_n 0, 1) := by decide +kernel
theorem d_MText_isRow_23 : decode y_MText_isRow.2.1 23 = .ok (.getfield 74, 3) := by decide +kernel
theorem d_MText_isRow_26 : decode y_MText_isRow.2.1 26 = .ok (.iload_n 1, 1) := by decide +kernel
theorem d_MText_isRow_27 : decode y_MText_isRow.2.1 27 = .ok (.iaload, 1) := by decide +kernel
theorem d_MText_isRow_28 : decode y_MText_isRow.2.1 28 = .ok (.if_icmp .ne 23, 3) := by decide +kernel
theorem d_MText_isRow_31 : decode y_MText_isRow.2.1 31 = .ok (.aload_n 2, 1) := by decide +kernel
theorem d_MText_isRow_32 : decode y_MText_isRow.2.1 32 = .ok (.getfield 179, 3) := by decide +kernel
theorem d_MText_isRow_35 : decode y_MText_isRow.2.1 35 = .ok (.iload_n 3, 1) := by decide +kernel
theorem d_MText_isRow_36 : decode y_MText_isRow.2.1 36 = .ok (.iaload, 1) := by decide +kernel
theorem d_MText_isRow_37 : decode y_MText_isRow.2.1 37 = .ok (.aload_n 0, 1) := by decide +kernel
theorem d_MText_isRow_38 : decode y_MText_isRow.2.1 38 = .ok (.getfield 77, 3) := by decide +kernel
theorem d_MText_isRow_41 : decode y_MText_isRow.2.1 41 = .ok (.iload_n 1, 1) := by decide +kernel
theorem d_MText_isRow_42 : decode y_MText_isRow.2.1 42 = .ok (.iaload, 1) := by decide +kernel
theorem d_MText_isRow_43 : decode y_MText_isRow.2.1 43 = .ok (.iand, 1) := by decide +kernel
theorem d_MText_isRow_44 : decode y_MText_isRow.2.1 44 = .ok (.ifCond .ne 7, 3) := by decide +kernel
theorem d_MText_isRow_47 : decode y_MText_isRow.2.1 47 = .ok (.iconst 1, 1) := by decide +kernel
theorem d_MText_isRow_48 : decode y_MText_isRow.2.1 48 = .ok (.goto 4, 3) := by decide +kernel
theorem d_MText_isRow_51 : decode y_MText_isRow.2.1 51 = .ok (.iconst 0, 1) := by decide +kernel
theorem d_MText_isRow_52 : decode y_MText_isRow.2.1 52 = .ok (.ireturn, 1) := by decide +kernel
theorem s_MText_isRow : ab_Stat y_MText_isRow 3 := ⟨(k11 221 rfl rfl), (k1 20 rfl rfl), ⟨by decide, by decide⟩, by decide +kernel⟩
theorem i_MText_isRow : Cond.instanceMethod y_MText_isRow.1 ∈ ab_T := (k11 219 rfl rfl)
theorem v_MText_isRow : Cond.selects "WorldEngineModel$Text" y_MText_isRow.1 y_MText_isRow.1 ∈ ab_T := (k11 220 rfl rfl)
def F_MText_isRow (N : Nat) (p0 : Nat) (p1 : Int32) (p2 : Nat) (p3 : Int32) (H : Hp) : Option (Int32 × Hp) :=
    ck (H.sh[p2]? = some (13, 0)) <|
    rf (H.P p2 5) fun a2 =>
    ar H 102 a2 fun n4 =>
    ck (inb p3 n4) <|
    bnd ((H.D a2 (p3).toNatClampNeg)) fun x7 =>
    if x7 = (0 : Int32) then
    some (0, H)
    else
    rf (H.P p2 6) fun a9 =>
    ar H 100 a9 fun n11 =>
    ck (inb p3 n11) <|
    bnd ((H.D a9 (p3).toNatClampNeg)) fun x14 =>
    ck (H.sh[p0]? = some (14, 0)) <|
    rf (H.P p0 30) fun a16 =>
    ar H 100 a16 fun n18 =>
    ck (inb p1 n18) <|
    bnd ((H.D a16 (p1).toNatClampNeg)) fun x21 =>
    rf (H.P p0 30) fun a22 =>
    ar H 100 a22 fun n24 =>
    ck (inb p1 n24) <|
    bnd ((H.D a22 (p1).toNatClampNeg)) fun x27 =>
    if (x14 &&& x21) = x27 then
    rf (H.P p2 6) fun a29 =>
    ar H 100 a29 fun n31 =>
    ck (inb p3 n31) <|
    bnd ((H.D a29 (p3).toNatClampNeg)) fun x34 =>
    rf (H.P p0 31) fun a35 =>
    ar H 100 a35 fun n37 =>
    ck (inb p1 n37) <|
    bnd ((H.D a35 (p1).toNatClampNeg)) fun x40 =>
    if (x34 &&& x40) = (0 : Int32) then
    some (1, H)
    else
    some (0, H)
    else
    some (0, H)
set_option maxRecDepth 20000 in
set_option maxHeartbeats 2000000 in
theorem m_MText_isRow {N : Nat} {p0 : Nat} {p1 : Int32} {p2 : Nat} {p3 : Int32} {H : Hp} {r : Int32 × Hp} (hF : F_MText_isRow N p0 p1 p2 p3 H = some r) : Sa H r.2 := by
  unfold F_MText_isRow at hF
  have hm := Sa.rf H
  obtain ⟨q42, hG⟩ := ck_s hF; clear hF
  obtain ⟨a43, e44, hF⟩ := rf_s hG; clear hG
  obtain ⟨n45, q46, hG⟩ := ar_s hF; clear hF
  obtain ⟨q47, hF⟩ := ck_s hG; clear hG
  obtain ⟨x48, -, hG⟩ := bnd_g hF; clear hF
  rcases ite_s hG with ⟨q_1, hF⟩ | ⟨q_1, hF⟩
  · clear hG
    have hr := Option.some.inj hF; subst hr
    exact hm
  · clear hG
    obtain ⟨a50, e51, hG⟩ := rf_s hF; clear hF
    obtain ⟨n52, q53, hF⟩ := ar_s hG; clear hG
    obtain ⟨q54, hG⟩ := ck_s hF; clear hF
    obtain ⟨x55, -, hF⟩ := bnd_g hG; clear hG
    obtain ⟨q56, hG⟩ := ck_s hF; clear hF
    obtain ⟨a57, e58, hF⟩ := rf_s hG; clear hG
    obtain ⟨n59, q60, hG⟩ := ar_s hF; clear hF
    obtain ⟨q61, hF⟩ := ck_s hG; clear hG
    obtain ⟨x62, -, hG⟩ := bnd_g hF; clear hF
    obtain ⟨a63, e64, hF⟩ := rf_s hG; clear hG
    obtain ⟨n65, q66, hG⟩ := ar_s hF; clear hF
    obtain ⟨q67, hF⟩ := ck_s hG; clear hG
    obtain ⟨x68, -, hG⟩ := bnd_g hF; clear hF
    rcases ite_s hG with ⟨q_2, hF⟩ | ⟨q_2, hF⟩
    · clear hG
      obtain ⟨a70, e71, hG⟩ := rf_s hF; clear hF
      obtain ⟨n72, q73, hF⟩ := ar_s hG; clear hG
      obtain ⟨q74, hG⟩ := ck_s hF; clear hF
      obtain ⟨x75, -, hF⟩ := bnd_g hG; clear hG
      obtain ⟨a76, e77, hG⟩ := rf_s hF; clear hF
      obtain ⟨n78, q79, hF⟩ := ar_s hG; clear hG
      obtain ⟨q80, hG⟩ := ck_s hF; clear hF
      obtain ⟨x81, -, hF⟩ := bnd_g hG; clear hG
      rcases ite_s hF with ⟨q_3, hG⟩ | ⟨q_3, hG⟩
      · clear hF
        have hr := Option.some.inj hG; subst hr
        exact hm
      · clear hF
        have hr := Option.some.inj hG; subst hr
        exact hm
    · clear hG
      have hr := Option.some.inj hF; subst hr
      exact hm
set_option maxRecDepth 20000 in
set_option maxHeartbeats 2000000 in
theorem k_MText_isRow {N : Nat} {p0 : Nat} {p1 : Int32} {p2 : Nat} {p3 : Int32} {H : Hp} {r : Int32 × Hp} (hF : F_MText_isRow N p0 p1 p2 p3 H = some r) : ab_M y_MText_isRow { frames := 0, cells := 0, slots := 0, locals := 0 } [.ref p0, .int p1, .ref p2, .int p3] (hpw H) (po (.returned (some (.int r.1))) r.2) := by
  unfold F_MText_isRow at hF
  refine ab_of2 (lv := [some (.ref p0), some (.int p1), some (.ref p2), some (.int p3)]) 0 rfl rfl (Nat.le_of_ble_eq_true rfl) ?_
  refine ab_aload_n d_MText_isRow_0 rfl rfl rfl ?_
  obtain ⟨q1, hG⟩ := ck_s hF; clear hF
  obtain ⟨a2, e3, hF⟩ := rf_s hG; clear hG
  refine hp_getRN (f := 5) d_MText_isRow_1 q1 (by decide) rfl (by decide) (k9 103 rfl rfl) rfl e3 ?_
  refine ab_iload_n d_MText_isRow_4 rfl rfl ?_
  obtain ⟨n4, q5, hG⟩ := ar_s hF; clear hF
  obtain ⟨q6, hF⟩ := ck_s hG; clear hG
  refine hp_zald d_MText_isRow_5 tZ q5 q6 ?_
  refine ab_topi (fun x7 ex7 => ?_)
  replace hF := bnd_s ex7 hF
  refine ab_if_eq (tgt := 51) d_MText_isRow_6 (by decide) (fun q8 => ?_) (fun q8 => ?_)
  · rw [if_pos q8] at hF
    refine ab_iconst (v := 0) d_MText_isRow_51 (by decide) ?_
    exact ab_zret d_MText_isRow_52 rfl rfl (Nat.le_refl _) (Nat.le_refl _) (by have hr := Option.some.inj hF; subst hr; exact ⟨rfl, rfl⟩)
  · rw [if_neg q8] at hF
    refine ab_aload_n d_MText_isRow_9 rfl rfl rfl ?_
    obtain ⟨a9, e10, hG⟩ := rf_s hF; clear hF
    refine hp_getRN (f := 6) d_MText_isRow_10 q1 (by decide) rfl (by decide) (k9 107 rfl rfl) rfl e10 ?_
    refine ab_iload_n d_MText_isRow_13 rfl rfl ?_
    obtain ⟨n11, q12, hF⟩ := ar_s hG; clear hG
    obtain ⟨q13, hG⟩ := ck_s hF; clear hF
    refine hp_iald d_MText_isRow_14 tI q12 q13 ?_
    refine ab_topi (fun x14 ex14 => ?_)
    replace hG := bnd_s ex14 hG
    refine ab_aload_n d_MText_isRow_15 rfl rfl rfl ?_
    obtain ⟨q15, hF⟩ := ck_s hG; clear hG
    obtain ⟨a16, e17, hG⟩ := rf_s hF; clear hF
    refine hp_getR (f := 30) d_MText_isRow_16 q15 (by decide) rfl (by decide) (k8 214 rfl rfl) rfl e17 ?_
    refine ab_iload_n d_MText_isRow_19 rfl rfl ?_
    obtain ⟨n18, q19, hF⟩ := ar_s hG; clear hG
    obtain ⟨q20, hG⟩ := ck_s hF; clear hF
    refine hp_iald d_MText_isRow_20 tI q19 q20 ?_
    refine ab_topi (fun x21 ex21 => ?_)
    replace hG := bnd_s ex21 hG
    refine ab_iand d_MText_isRow_21 ?_
    refine ab_aload_n d_MText_isRow_22 rfl rfl rfl ?_
    obtain ⟨a22, e23, hF⟩ := rf_s hG; clear hG
    refine hp_getR (f := 30) d_MText_isRow_23 q15 (by decide) rfl (by decide) (k8 214 rfl rfl) rfl e23 ?_
    refine ab_iload_n d_MText_isRow_26 rfl rfl ?_
    obtain ⟨n24, q25, hG⟩ := ar_s hF; clear hF
    obtain ⟨q26, hF⟩ := ck_s hG; clear hG
    refine hp_iald d_MText_isRow_27 tI q25 q26 ?_
    refine ab_topi (fun x27 ex27 => ?_)
    replace hF := bnd_s ex27 hF
    refine ab_icmp_ne (tgt := 51) d_MText_isRow_28 (by decide) (fun q28 => ?_) (fun q28 => ?_)
    · rw [if_neg q28] at hF
      refine ab_iconst (v := 0) d_MText_isRow_51 (by decide) ?_
      exact ab_zret d_MText_isRow_52 rfl rfl (Nat.le_refl _) (Nat.le_refl _) (by have hr := Option.some.inj hF; subst hr; exact ⟨rfl, rfl⟩)
    · rw [if_pos q28] at hF
      refine ab_aload_n d_MText_isRow_31 rfl rfl rfl ?_
      obtain ⟨a29, e30, hG⟩ := rf_s hF; clear hF
      refine hp_getRN (f := 6) d_MText_isRow_32 q1 (by decide) rfl (by decide) (k9 107 rfl rfl) rfl e30 ?_
      refine ab_iload_n d_MText_isRow_35 rfl rfl ?_
      obtain ⟨n31, q32, hF⟩ := ar_s hG; clear hG
      obtain ⟨q33, hG⟩ := ck_s hF; clear hF
      refine hp_iald d_MText_isRow_36 tI q32 q33 ?_
      refine ab_topi (fun x34 ex34 => ?_)
      replace hG := bnd_s ex34 hG
      refine ab_aload_n d_MText_isRow_37 rfl rfl rfl ?_
      obtain ⟨a35, e36, hF⟩ := rf_s hG; clear hG
      refine hp_getR (f := 31) d_MText_isRow_38 q15 (by decide) rfl (by decide) (k8 215 rfl rfl) rfl e36 ?_
      refine ab_iload_n d_MText_isRow_41 rfl rfl ?_
      obtain ⟨n37, q38, hG⟩ := ar_s hF; clear hF
      obtain ⟨q39, hF⟩ := ck_s hG; clear hG
      refine hp_iald d_MText_isRow_42 tI q38 q39 ?_
      refine ab_topi (fun x40 ex40 => ?_)
      replace hF := bnd_s ex40 hF
      refine ab_iand d_MText_isRow_43 ?_
      refine ab_if_ne (tgt := 51) d_MText_isRow_44 (by decide) (fun q41 => ?_) (fun q41 => ?_)
      · rw [if_neg q41] at hF
        refine ab_iconst (v := 0) d_MText_isRow_51 (by decide) ?_
        exact ab_zret d_MText_isRow_52 rfl rfl (Nat.le_refl _) (Nat.le_refl _) (by have hr := Option.some.inj hF; subst hr; exact ⟨rfl, rfl⟩)
      · rw [if_pos q41] at hF
        refine ab_iconst (v := 1) d_MText_isRow_47 (by decide) ?_
        refine ab_goto (tgt := 52) d_MText_isRow_48 (by decide) ?_
        exact ab_zret d_MText_isRow_52 rfl rfl (Nat.le_refl _) (Nat.le_refl _) (by have hr := Option.some.inj hF; subst hr; exact ⟨rfl, rfl⟩)
def y_MWorld_number : ab_Y := (⟨"WorldEngineModel$World", "number", "(I)I"⟩, prog_17_method_5_code, 2, (some FieldType.int), [])
theorem d_MWorld_number_0 : decode y_MWorld_number.2.1 0 = .ok (.sipush 256, 3) := by decide +kernel
theorem d_MWorld_number_3 : decode y_MWorld_number.2.1 3 = .ok (.aload_n 0, 1) := by decide +kernel
theorem d_MWorld_number_4 : decode y_MWorld_number.2.1 4 = .ok (.getfield 9, 3) := by decide +kernel
theorem d_MWorld_number_7 : decode y_MWorld_number.2.1 7 = .ok (.iload_n 1, 1) := by decide +kernel
theorem d_MWorld_number_8 : decode y_MWorld_number.2.1 8 = .ok (.iaload, 1) := by decide +kernel
theorem d_MWorld_number_9 : decode y_MWorld_number.2.1 9 = .ok (.imul, 1) := by decide +kernel
theorem d_MWorld_number_10 : decode y_MWorld_number.2.1 10 = .ok (.iload_n 1, 1) := by decide +kernel
theorem d_MWorld_number_11 : decode y_MWorld_number.2.1 11 = .ok (.iadd, 1) := by decide +kernel
theorem d_MWorld_number_12 : decode y_MWorld_number.2.1 12 = .ok (.ireturn, 1) := by decide +kernel
theorem s_MWorld_number : ab_Stat y_MWorld_number 1 := ⟨(k11 229 rfl rfl), (k1 21 rfl rfl), ⟨by decide, by decide⟩, by decide +kernel⟩
theorem i_MWorld_number : Cond.instanceMethod y_MWorld_number.1 ∈ ab_T := (k11 227 rfl rfl)
theorem v_MWorld_number : Cond.selects "WorldEngineModel$World" y_MWorld_number.1 y_MWorld_number.1 ∈ ab_T := (k11 228 rfl rfl)
def F_MWorld_number (N : Nat) (p0 : Nat) (p1 : Int32) (H : Hp) : Option (Int32 × Hp) :=
    ck (H.sh[p0]? = some (13, 0)) <|
    rf (H.P p0 4) fun a2 =>
    ar H 100 a2 fun n4 =>
    ck (inb p1 n4) <|
    bnd ((H.D a2 (p1).toNatClampNeg)) fun x7 =>
    some (((256 : Int32) * x7) + p1, H)
set_option maxRecDepth 20000 in
set_option maxHeartbeats 2000000 in
theorem m_MWorld_number {N : Nat} {p0 : Nat} {p1 : Int32} {H : Hp} {r : Int32 × Hp} (hF : F_MWorld_number N p0 p1 H = some r) : Sa H r.2 := by
  unfold F_MWorld_number at hF
  have hm := Sa.rf H
  obtain ⟨q8, hG⟩ := ck_s hF; clear hF
  obtain ⟨a9, e10, hF⟩ := rf_s hG; clear hG
  obtain ⟨n11, q12, hG⟩ := ar_s hF; clear hF
  obtain ⟨q13, hF⟩ := ck_s hG; clear hG
  obtain ⟨x14, -, hG⟩ := bnd_g hF; clear hF
  have hr := Option.some.inj hG; subst hr
  exact hm
set_option maxRecDepth 20000 in
set_option maxHeartbeats 2000000 in
theorem k_MWorld_number {N : Nat} {p0 : Nat} {p1 : Int32} {H : Hp} {r : Int32 × Hp} (hF : F_MWorld_number N p0 p1 H = some r) : ab_M y_MWorld_number { frames := 0, cells := 0, slots := 0, locals := 0 } [.ref p0, .int p1] (hpw H) (po (.returned (some (.int r.1))) r.2) := by
  unfold F_MWorld_number at hF
  refine ab_of2 (lv := [some (.ref p0), some (.int p1)]) 0 rfl rfl (Nat.le_of_ble_eq_true rfl) ?_
  refine ab_sipush (v := 256) d_MWorld_number_0 (by decide) ?_
  refine ab_aload_n d_MWorld_number_3 rfl rfl rfl ?_
  obtain ⟨q1, hG⟩ := ck_s hF; clear hF
  obtain ⟨a2, e3, hF⟩ := rf_s hG; clear hG
  refine hp_getR (f := 4) d_MWorld_number_4 q1 (by decide) rfl (by decide) (k9 98 rfl rfl) rfl e3 ?_
  refine ab_iload_n d_MWorld_number_7 rfl rfl ?_
  obtain ⟨n4, q5, hG⟩ := ar_s hF; clear hF
  obtain ⟨q6, hF⟩ := ck_s hG; clear hG
  refine hp_iald d_MWorld_number_8 tI q5 q6 ?_
  refine ab_topi (fun x7 ex7 => ?_)
  replace hF := bnd_s ex7 hF
  refine ab_imul d_MWorld_number_9 ?_
  refine ab_iload_n d_MWorld_number_10 rfl rfl ?_
  refine ab_iadd d_MWorld_number_11 ?_
  exact ab_iret d_MWorld_number_12 rfl (Nat.le_refl _) (Nat.le_refl _) (by have hr := Option.some.inj hF; subst hr; exact ⟨rfl, rfl⟩)
def y_MRunner_fails : ab_Y := (⟨"WorldEngineModel$Runner", "fails", "(I)V"⟩, prog_15_method_4_code, 2, none, [])
theorem d_MRunner_fails_0 : decode y_MRunner_fails.2.1 0 = .ok (.aload_n 0, 1) := by decide +kernel
theorem d_MRunner_fails_1 : decode y_MRunner_fails.2.1 1 = .ok (.getfield 96, 3) := by decide +kernel
theorem d_MRunner_fails_4 : decode y_MRunner_fails.2.1 4 = .ok (.ifCond .ne 8, 3) := by decide +kernel
theorem d_MRunner_fails_7 : decode y_MRunner_fails.2.1 7 = .ok (.aload_n 0, 1) := by decide +kernel
theorem d_MRunner_fails_8 : decode y_MRunner_fails.2.1 8 = .ok (.iload_n 1, 1) := by decide +kernel
theorem d_MRunner_fails_9 : decode y_MRunner_fails.2.1 9 = .ok (.putfield 96, 3) := by decide +kernel
theorem d_MRunner_fails_12 : decode y_MRunner_fails.2.1 12 = .ok (.return_, 1) := by decide +kernel
theorem s_MRunner_fails : ab_Stat y_MRunner_fails 1 := ⟨(k12 5 rfl rfl), (k1 22 rfl rfl), ⟨by decide, by decide⟩, by decide +kernel⟩
theorem i_MRunner_fails : Cond.instanceMethod y_MRunner_fails.1 ∈ ab_T := (k12 4 rfl rfl)
theorem v_MRunner_fails : Cond.selects "WorldEngineModel$Runner" y_MRunner_fails.1 y_MRunner_fails.1 ∈ ab_T := ab_s (List.mem_of_getElem? (i := 179) rfl) rfl
def F_MRunner_fails (N : Nat) (p0 : Nat) (p1 : Int32) (H : Hp) : Option (Unit × Hp) :=
    ck (H.sh[p0]? = some (15, 0)) <|
    bnd ((H.D p0 10)) fun x2 =>
    if x2 = (0 : Int32) then
    bnd (H.sD p0 10 p1) fun H4 =>
    some ((), H4)
    else
    some ((), H)
set_option maxRecDepth 20000 in
set_option maxHeartbeats 2000000 in
theorem m_MRunner_fails {N : Nat} {p0 : Nat} {p1 : Int32} {H : Hp} {r : Unit × Hp} (hF : F_MRunner_fails N p0 p1 H = some r) : Sa H r.2 := by
  unfold F_MRunner_fails at hF
  have hm := Sa.rf H
  obtain ⟨q5, hG⟩ := ck_s hF; clear hF
  obtain ⟨x6, -, hF⟩ := bnd_g hG; clear hG
  rcases ite_s hF with ⟨q_2, hG⟩ | ⟨q_2, hG⟩
  · clear hF
    obtain ⟨H8, eH8, hF⟩ := bnd_g hG; clear hG
    replace hm : Sa H H8 := by rw [eH8]; exact hm
    have hr := Option.some.inj hF; subst hr
    exact hm
  · clear hF
    have hr := Option.some.inj hG; subst hr
    exact hm
set_option maxRecDepth 20000 in
set_option maxHeartbeats 2000000 in
theorem k_MRunner_fails {N : Nat} {p0 : Nat} {p1 : Int32} {H : Hp} {r : Unit × Hp} (hF : F_MRunner_fails N p0 p1 H = some r) : ab_M y_MRunner_fails { frames := 0, cells := 0, slots := 0, locals := 0 } [.ref p0, .int p1] (hpw H) (po (.returned none) r.2) := by
  unfold F_MRunner_fails at hF
  refine ab_of2 (lv := [some (.ref p0), some (.int p1)]) 0 rfl rfl (Nat.le_of_ble_eq_true rfl) ?_
  refine ab_aload_n d_MRunner_fails_0 rfl rfl rfl ?_
  obtain ⟨q1, hG⟩ := ck_s hF; clear hF
  refine hp_getI (f := 10) d_MRunner_fails_1 q1 (by decide) rfl (by decide) (k9 193 rfl rfl) rfl ?_
  refine ab_topi (fun x2 ex2 => ?_)
  replace hG := bnd_s ex2 hG
  refine ab_if_ne (tgt := 12) d_MRunner_fails_4 (by decide) (fun q3 => ?_) (fun q3 => ?_)
  · rw [if_neg q3] at hG
    exact ab_vret d_MRunner_fails_12 rfl (Nat.le_refl _) (Nat.le_refl _) (by have hr := Option.some.inj hG; subst hr; exact ⟨rfl, rfl⟩)
  · rw [if_pos q3] at hG
    refine ab_aload_n d_MRunner_fails_7 rfl rfl rfl ?_
    refine ab_iload_n d_MRunner_fails_8 rfl rfl ?_
    refine hp_putI (v := p1) (f := 10) d_MRunner_fails_9 q1 (by decide) rfl (by decide) (k9 193 rfl rfl) rfl rfl (fun _ => rfl) (fun _ => rfl) rfl ?_
    refine hp_gen (fun H4 eH4 => ?_)
    replace hG := bnd_s eH4 hG
    have s_1 : Sa H H4 := by rw [eH4]; exact Sa.rf _
    exact ab_vret d_MRunner_fails_12 rfl (Nat.le_refl _) (Nat.le_refl _) (by have hr := Option.some.inj hG; subst hr; exact ⟨rfl, rfl⟩)
def y_MRunner_counts : ab_Y := (⟨"WorldEngineModel$Runner", "counts", "()V"⟩, prog_15_method_5_code, 1, none, [])
theorem d_MRunner_counts_0 : decode y_MRunner_counts.2.1 0 = .ok (.aload_n 0, 1) := by decide +kernel
theorem d_MRunner_counts_1 : decode y_MRunner_counts.2.1 1 = .ok (.getfield 90, 3) := by decide +kernel
theorem d_MRunner_counts_4 : decode y_MRunner_counts.2.1 4 = .ok (.bipush 120, 2) := by decide +kernel
theorem d_MRunner_counts_6 : decode y_MRunner_counts.2.1 6 = .ok (.if_icmp .ne 8, 3) := by decide +kernel
theorem d_MRunner_counts_9 : decode y_MRunner_counts.2.1 9 = .ok (.aload_n 0, 1) := by decide +kernel
theorem d_MRunner_counts_10 : decode y_MRunner_counts.2.1 10 = .ok (.iconst 5, 1) := by decide +kernel
theorem d_MRunner_counts_11 : decode y_MRunner_counts.2.1 11 = .ok (.invokevirtual 118, 3) := by decide +kernel
theorem d_MRunner_counts_14 : decode y_MRunner_counts.2.1 14 = .ok (.aload_n 0, 1) := by decide +kernel
theorem d_MRunner_counts_15 : decode y_MRunner_counts.2.1 15 = .ok (.dup, 1) := by decide +kernel
theorem d_MRunner_counts_16 : decode y_MRunner_counts.2.1 16 = .ok (.getfield 90, 3) := by decide +kernel
theorem d_MRunner_counts_19 : decode y_MRunner_counts.2.1 19 = .ok (.iconst 1, 1) := by decide +kernel
theorem d_MRunner_counts_20 : decode y_MRunner_counts.2.1 20 = .ok (.iadd, 1) := by decide +kernel
theorem d_MRunner_counts_21 : decode y_MRunner_counts.2.1 21 = .ok (.putfield 90, 3) := by decide +kernel
theorem d_MRunner_counts_24 : decode y_MRunner_counts.2.1 24 = .ok (.return_, 1) := by decide +kernel
theorem s_MRunner_counts : ab_Stat y_MRunner_counts 0 := ⟨(k12 1 rfl rfl), (k1 22 rfl rfl), ⟨by decide, by decide⟩, by decide +kernel⟩
theorem i_MRunner_counts : Cond.instanceMethod y_MRunner_counts.1 ∈ ab_T := (k12 0 rfl rfl)
theorem v_MRunner_counts : Cond.selects "WorldEngineModel$Runner" y_MRunner_counts.1 y_MRunner_counts.1 ∈ ab_T := ab_s (List.mem_of_getElem? (i := 178) rfl) rfl
def B_MRunner_counts_14 (N : Nat) (p0 : Nat)  (H : Hp) : Option (Unit × Hp) :=
    ck (H.sh[p0]? = some (15, 0)) <|
    bnd ((H.D p0 8)) fun x5 =>
    bnd (H.sD p0 8 (x5 + (1 : Int32))) fun H6 =>
    some ((), H6)
set_option maxRecDepth 20000 in
set_option maxHeartbeats 2000000 in
theorem mB_MRunner_counts_14 {N : Nat} {p0 : Nat}  {H : Hp} {r : Unit × Hp} (hF : B_MRunner_counts_14 N p0  H = some r) : Sa H r.2 := by
  unfold B_MRunner_counts_14 at hF
  have hm := Sa.rf H
  obtain ⟨q7, hG⟩ := ck_s hF; clear hF
  obtain ⟨x8, -, hF⟩ := bnd_g hG; clear hG
  obtain ⟨H9, eH9, hG⟩ := bnd_g hF; clear hF
  replace hm : Sa H H9 := by rw [eH9]; exact hm
  have hr := Option.some.inj hG; subst hr
  exact hm
set_option maxRecDepth 20000 in
set_option maxHeartbeats 2000000 in
theorem kB_MRunner_counts_14 {N : Nat} {p0 : Nat}  {H : Hp} {r : Unit × Hp} (hF : B_MRunner_counts_14 N p0  H = some r) : ab_V y_MRunner_counts { frames := 1, cells := 0, slots := 0, locals := 21 } (po (.returned none) r.2) 0 0 0 0 14 [some (.ref p0)] [] (hpw H) := by
  unfold B_MRunner_counts_14 at hF
  refine ab_aload_n d_MRunner_counts_14 rfl rfl rfl ?_
  refine ab_dup d_MRunner_counts_15 rfl ?_
  obtain ⟨q4, hG⟩ := ck_s hF; clear hF
  refine hp_getI (f := 8) d_MRunner_counts_16 q4 (by decide) rfl (by decide) (k9 191 rfl rfl) rfl ?_
  refine ab_topi (fun x5 ex5 => ?_)
  replace hG := bnd_s ex5 hG
  refine ab_iconst (v := 1) d_MRunner_counts_19 (by decide) ?_
  refine ab_iadd d_MRunner_counts_20 ?_
  refine hp_putI (v := x5 + (1 : Int32)) (f := 8) d_MRunner_counts_21 q4 (by decide) rfl (by decide) (k9 191 rfl rfl) rfl rfl (fun _ => rfl) (fun _ => rfl) rfl ?_
  refine hp_gen (fun H6 eH6 => ?_)
  replace hG := bnd_s eH6 hG
  have s_1 : Sa H H6 := by rw [eH6]; exact Sa.rf _
  exact ab_vret d_MRunner_counts_24 rfl (Nat.le_refl _) (Nat.le_refl _) (by have hr := Option.some.inj hG; subst hr; exact ⟨rfl, rfl⟩)
def F_MRunner_counts (N : Nat) (p0 : Nat) (H : Hp) : Option (Unit × Hp) :=
    ck (H.sh[p0]? = some (15, 0)) <|
    bnd ((H.D p0 8)) fun x2 =>
    if x2 = (120 : Int32) then
    bC (F_MRunner_fails N p0 (5 : Int32) H) fun v11 H12 =>
    B_MRunner_counts_14 N p0  H12
    else
    B_MRunner_counts_14 N p0  H
set_option maxRecDepth 20000 in
set_option maxHeartbeats 2000000 in
theorem m_MRunner_counts {N : Nat} {p0 : Nat} {H : Hp} {r : Unit × Hp} (hF : F_MRunner_counts N p0 H = some r) : Sa H r.2 := by
  unfold F_MRunner_counts at hF
  have hm := Sa.rf H
  obtain ⟨q13, hG⟩ := ck_s hF; clear hF
  obtain ⟨x14, -, hF⟩ := bnd_g hG; clear hG
  rcases ite_s hF with ⟨q_4, hG⟩ | ⟨q_4, hG⟩
  · clear hF
    obtain ⟨v17, H18, z16, hF⟩ := bC_s hG; clear hG
    replace hm : Sa H H18 := hm.tr (m_MRunner_fails z16)
    exact hm.tr (mB_MRunner_counts_14 hF)
  · clear hF
    exact hm.tr (mB_MRunner_counts_14 hG)
set_option maxRecDepth 20000 in
set_option maxHeartbeats 2000000 in
theorem k_MRunner_counts {N : Nat} {p0 : Nat} {H : Hp} {r : Unit × Hp} (hF : F_MRunner_counts N p0 H = some r) : ab_M y_MRunner_counts { frames := 1, cells := 0, slots := 0, locals := 21 } [.ref p0] (hpw H) (po (.returned none) r.2) := by
  unfold F_MRunner_counts at hF
  refine ab_of2 (lv := [some (.ref p0)]) 0 rfl rfl (Nat.le_of_ble_eq_true rfl) ?_
  refine ab_aload_n d_MRunner_counts_0 rfl rfl rfl ?_
  obtain ⟨q1, hG⟩ := ck_s hF; clear hF
  refine hp_getI (f := 8) d_MRunner_counts_1 q1 (by decide) rfl (by decide) (k9 191 rfl rfl) rfl ?_
  refine ab_topi (fun x2 ex2 => ?_)
  replace hG := bnd_s ex2 hG
  refine ab_bipush (v := 120) d_MRunner_counts_4 (by decide) ?_
  refine ab_icmp_ne (tgt := 14) d_MRunner_counts_6 (by decide) (fun q3 => ?_) (fun q3 => ?_)
  · rw [if_neg q3] at hG
    exact kB_MRunner_counts_14 hG
  · rw [if_pos q3] at hG
    refine ab_aload_n d_MRunner_counts_9 rfl rfl rfl ?_
    refine ab_iconst (v := 5) d_MRunner_counts_10 (by decide) ?_
    obtain ⟨v11, H12, z10, hF⟩ := bC_s hG; clear hG
    refine hp_callV_v (H1 := H12) (As := [.int 5]) (rest := []) d_MRunner_counts_11 (k_MRunner_fails z10) (ab_mkC s_MRunner_fails (Nat.le_of_ble_eq_true rfl) (Nat.le_of_ble_eq_true rfl) (Nat.le_refl 0) (Nat.le_refl 0)) (k12 2 rfl rfl) i_MRunner_fails v_MRunner_fails q1 (by decide) rfl rfl (Nat.le_of_ble_eq_true rfl) ?_
    have s_3 : Sa H H12 := (m_MRunner_fails z10)
    exact kB_MRunner_counts_14 hF
def y_MRunner_is : ab_Y := (⟨"WorldEngineModel$Runner", "is", "(I)Z"⟩, prog_15_method_21_code, 2, (some FieldType.boolean), [])
theorem d_MRunner_is_0 : decode y_MRunner_is.2.1 0 = .ok (.aload_n 0, 1) := by decide +kernel
theorem d_MRunner_is_1 : decode y_MRunner_is.2.1 1 = .ok (.getfield 96, 3) := by decide +kernel
theorem d_MRunner_is_4 : decode y_MRunner_is.2.1 4 = .ok (.ifCond .ne 23, 3) := by decide +kernel
theorem d_MRunner_is_7 : decode y_MRunner_is.2.1 7 = .ok (.aload_n 0, 1) := by decide +kernel
theorem d_MRunner_is_8 : decode y_MRunner_is.2.1 8 = .ok (.getfield 25, 3) := by decide +kernel
theorem d_MRunner_is_11 : decode y_MRunner_is.2.1 11 = .ok (.getfield 131, 3) := by decide +kernel
theorem d_MRunner_is_14 : decode y_MRunner_is.2.1 14 = .ok (.aload_n 0, 1) := by decide +kernel
theorem d_MRunner_is_15 : decode y_MRunner_is.2.1 15 = .ok (.getfield 108, 3) := by decide +kernel
theorem d_MRunner_is_18 : decode y_MRunner_is.2.1 18 = .ok (.iaload, 1) := by decide +kernel
theorem d_MRunner_is_19 : decode y_MRunner_is.2.1 19 = .ok (.iload_n 1, 1) := by decide +kernel
theorem d_MRunner_is_20 : decode y_MRunner_is.2.1 20 = .ok (.if_icmp .ne 7, 3) := by decide +kernel
theorem d_MRunner_is_23 : decode y_MRunner_is.2.1 23 = .ok (.iconst 1, 1) := by decide +kernel
theorem d_MRunner_is_24 : decode y_MRunner_is.2.1 24 = .ok (.goto 4, 3) := by decide +kernel
theorem d_MRunner_is_27 : decode y_MRunner_is.2.1 27 = .ok (.iconst 0, 1) := by decide +kernel
theorem d_MRunner_is_28 : decode y_MRunner_is.2.1 28 = .ok (.ireturn, 1) := by decide +kernel
theorem s_MRunner_is : ab_Stat y_MRunner_is 1 := ⟨(k12 37 rfl rfl), (k1 22 rfl rfl), ⟨by decide, by decide⟩, by decide +kernel⟩
theorem i_MRunner_is : Cond.instanceMethod y_MRunner_is.1 ∈ ab_T := (k12 36 rfl rfl)
theorem v_MRunner_is : Cond.selects "WorldEngineModel$Runner" y_MRunner_is.1 y_MRunner_is.1 ∈ ab_T := ab_s (List.mem_of_getElem? (i := 187) rfl) rfl
def F_MRunner_is (N : Nat) (p0 : Nat) (p1 : Int32) (H : Hp) : Option (Int32 × Hp) :=
    ck (H.sh[p0]? = some (15, 0)) <|
    bnd ((H.D p0 10)) fun x2 =>
    if x2 = (0 : Int32) then
    rf (H.P p0 0) fun a4 =>
    ck (H.sh[a4]? = some (14, 0)) <|
    rf (H.P a4 3) fun a7 =>
    bnd ((H.D p0 11)) fun x9 =>
    ar H 100 a7 fun n10 =>
    ck (inb x9 n10) <|
    bnd ((H.D a7 (x9).toNatClampNeg)) fun x13 =>
    if x13 = p1 then
    some (1, H)
    else
    some (0, H)
    else
    some (0, H)
set_option maxRecDepth 20000 in
set_option maxHeartbeats 2000000 in
theorem m_MRunner_is {N : Nat} {p0 : Nat} {p1 : Int32} {H : Hp} {r : Int32 × Hp} (hF : F_MRunner_is N p0 p1 H = some r) : Sa H r.2 := by
  unfold F_MRunner_is at hF
  have hm := Sa.rf H
  obtain ⟨q15, hG⟩ := ck_s hF; clear hF
  obtain ⟨x16, -, hF⟩ := bnd_g hG; clear hG
  rcases ite_s hF with ⟨q_1, hG⟩ | ⟨q_1, hG⟩
  · clear hF
    obtain ⟨a18, e19, hF⟩ := rf_s hG; clear hG
    obtain ⟨q20, hG⟩ := ck_s hF; clear hF
    obtain ⟨a21, e22, hF⟩ := rf_s hG; clear hG
    obtain ⟨x23, -, hG⟩ := bnd_g hF; clear hF
    obtain ⟨n24, q25, hF⟩ := ar_s hG; clear hG
    obtain ⟨q26, hG⟩ := ck_s hF; clear hF
    obtain ⟨x27, -, hF⟩ := bnd_g hG; clear hG
    rcases ite_s hF with ⟨q_2, hG⟩ | ⟨q_2, hG⟩
    · clear hF
      have hr := Option.some.inj hG; subst hr
      exact hm
    · clear hF
      have hr := Option.some.inj hG; subst hr
      exact hm
  · clear hF
    have hr := Option.some.inj hG; subst hr
    exact hm
set_option maxRecDepth 20000 in
set_option maxHeartbeats 2000000 in
theorem k_MRunner_is {N : Nat} {p0 : Nat} {p1 : Int32} {H : Hp} {r : Int32 × Hp} (hF : F_MRunner_is N p0 p1 H = some r) : ab_M y_MRunner_is { frames := 0, cells := 0, slots := 0, locals := 0 } [.ref p0, .int p1] (hpw H) (po (.returned (some (.int r.1))) r.2) := by
  unfold F_MRunner_is at hF
  refine ab_of2 (lv := [some (.ref p0), some (.int p1)]) 0 rfl rfl (Nat.le_of_ble_eq_true rfl) ?_
  refine ab_aload_n d_MRunner_is_0 rfl rfl rfl ?_
  obtain ⟨q1, hG⟩ := ck_s hF; clear hF
  refine hp_getI (f := 10) d_MRunner_is_1 q1 (by decide) rfl (by decide) (k9 193 rfl rfl) rfl ?_
  refine ab_topi (fun x2 ex2 => ?_)
  replace hG := bnd_s ex2 hG
  refine ab_if_ne (tgt := 27) d_MRunner_is_4 (by decide) (fun q3 => ?_) (fun q3 => ?_)
  · rw [if_neg q3] at hG
    refine ab_iconst (v := 0) d_MRunner_is_27 (by decide) ?_
    exact ab_zret d_MRunner_is_28 rfl rfl (Nat.le_refl _) (Nat.le_refl _) (by have hr := Option.some.inj hG; subst hr; exact ⟨rfl, rfl⟩)
  · rw [if_pos q3] at hG
    refine ab_aload_n d_MRunner_is_7 rfl rfl rfl ?_
    obtain ⟨a4, e5, hF⟩ := rf_s hG; clear hG
    refine hp_getR (f := 0) d_MRunner_is_8 q1 (by decide) rfl (by decide) (k9 183 rfl rfl) rfl e5 ?_
    obtain ⟨q6, hG⟩ := ck_s hF; clear hF
    obtain ⟨a7, e8, hF⟩ := rf_s hG; clear hG
    refine hp_getRN (f := 3) d_MRunner_is_11 q6 (by decide) rfl (by decide) (k8 163 rfl rfl) rfl e8 ?_
    refine ab_aload_n d_MRunner_is_14 rfl rfl rfl ?_
    refine hp_getI (f := 11) d_MRunner_is_15 q1 (by decide) rfl (by decide) (k9 194 rfl rfl) rfl ?_
    refine ab_topi (fun x9 ex9 => ?_)
    replace hF := bnd_s ex9 hF
    obtain ⟨n10, q11, hG⟩ := ar_s hF; clear hF
    obtain ⟨q12, hF⟩ := ck_s hG; clear hG
    refine hp_iald d_MRunner_is_18 tI q11 q12 ?_
    refine ab_topi (fun x13 ex13 => ?_)
    replace hF := bnd_s ex13 hF
    refine ab_iload_n d_MRunner_is_19 rfl rfl ?_
    refine ab_icmp_ne (tgt := 27) d_MRunner_is_20 (by decide) (fun q14 => ?_) (fun q14 => ?_)
    · rw [if_neg q14] at hF
      refine ab_iconst (v := 0) d_MRunner_is_27 (by decide) ?_
      exact ab_zret d_MRunner_is_28 rfl rfl (Nat.le_refl _) (Nat.le_refl _) (by have hr := Option.some.inj hF; subst hr; exact ⟨rfl, rfl⟩)
    · rw [if_pos q14] at hF
      refine ab_iconst (v := 1) d_MRunner_is_23 (by decide) ?_
      refine ab_goto (tgt := 28) d_MRunner_is_24 (by decide) ?_
      exact ab_zret d_MRunner_is_28 rfl rfl (Nat.le_refl _) (Nat.le_refl _) (by have hr := Option.some.inj hF; subst hr; exact ⟨rfl, rfl⟩)
def y_MWorld_isAlive : ab_Y := (⟨"WorldEngineModel$World", "isAlive", "(I)Z"⟩, prog_17_method_6_code, 3, (some FieldType.boolean), [])
theorem d_MWorld_isAlive_0 : decode y_MWorld_isAlive.2.1 0 = .ok (.iload_n 1, 1) := by decide +kernel
theorem d_MWorld_isAlive_1 : decode y_MWorld_isAlive.2.1 1 = .ok (.sipush 255, 3) := by decide +kernel
theorem d_MWorld_isAlive_4 : decode y_MWorld_isAlive.2.1 4 = .ok (.iand, 1) := by decide +kernel
theorem d_MWorld_isAlive_5 : decode y_MWorld_isAlive.2.1 5 = .ok (.istore_n 2, 1) := by decide +kernel
theorem d_MWorld_isAlive_6 : decode y_MWorld_isAlive.2.1 6 = .ok (.aload_n 0, 1) := by decide +kernel
theorem d_MWorld_isAlive_7 : decode y_MWorld_isAlive.2.1 7 = .ok (.getfield 15, 3) := by decide +kernel
theorem d_MWorld_isAlive_10 : decode y_MWorld_isAlive.2.1 10 = .ok (.iload_n 2, 1) := by decide +kernel
theorem d_MWorld_isAlive_11 : decode y_MWorld_isAlive.2.1 11 = .ok (.baload, 1) := by decide +kernel
theorem d_MWorld_isAlive_12 : decode y_MWorld_isAlive.2.1 12 = .ok (.ifCond .eq 16, 3) := by decide +kernel
theorem d_MWorld_isAlive_15 : decode y_MWorld_isAlive.2.1 15 = .ok (.aload_n 0, 1) := by decide +kernel
theorem d_MWorld_isAlive_16 : decode y_MWorld_isAlive.2.1 16 = .ok (.iload_n 2, 1) := by decide +kernel
theorem d_MWorld_isAlive_17 : decode y_MWorld_isAlive.2.1 17 = .ok (.invokevirtual 75, 3) := by decide +kernel
theorem d_MWorld_isAlive_20 : decode y_MWorld_isAlive.2.1 20 = .ok (.iload_n 1, 1) := by decide +kernel
theorem d_MWorld_isAlive_21 : decode y_MWorld_isAlive.2.1 21 = .ok (.if_icmp .ne 7, 3) := by decide +kernel
theorem d_MWorld_isAlive_24 : decode y_MWorld_isAlive.2.1 24 = .ok (.iconst 1, 1) := by decide +kernel
theorem d_MWorld_isAlive_25 : decode y_MWorld_isAlive.2.1 25 = .ok (.goto 4, 3) := by decide +kernel
theorem d_MWorld_isAlive_28 : decode y_MWorld_isAlive.2.1 28 = .ok (.iconst 0, 1) := by decide +kernel
theorem d_MWorld_isAlive_29 : decode y_MWorld_isAlive.2.1 29 = .ok (.ireturn, 1) := by decide +kernel
theorem s_MWorld_isAlive : ab_Stat y_MWorld_isAlive 1 := ⟨(k12 53 rfl rfl), (k1 21 rfl rfl), ⟨by decide, by decide⟩, by decide +kernel⟩
theorem i_MWorld_isAlive : Cond.instanceMethod y_MWorld_isAlive.1 ∈ ab_T := (k12 51 rfl rfl)
theorem v_MWorld_isAlive : Cond.selects "WorldEngineModel$World" y_MWorld_isAlive.1 y_MWorld_isAlive.1 ∈ ab_T := (k12 52 rfl rfl)
def F_MWorld_isAlive (N : Nat) (p0 : Nat) (p1 : Int32) (H : Hp) : Option (Int32 × Hp) :=
    bnd ((p1 &&& (255 : Int32))) fun x1 =>
    ck (H.sh[p0]? = some (13, 0)) <|
    rf (H.P p0 5) fun a3 =>
    ar H 102 a3 fun n5 =>
    ck (inb x1 n5) <|
    bnd ((H.D a3 (x1).toNatClampNeg)) fun x8 =>
    if x8 = (0 : Int32) then
    some (0, H)
    else
    bC (F_MWorld_number N p0 x1 H) fun v11 H12 =>
    if v11 = p1 then
    some (1, H12)
    else
    some (0, H12)
set_option maxRecDepth 20000 in
set_option maxHeartbeats 2000000 in
theorem m_MWorld_isAlive {N : Nat} {p0 : Nat} {p1 : Int32} {H : Hp} {r : Int32 × Hp} (hF : F_MWorld_isAlive N p0 p1 H = some r) : Sa H r.2 := by
  unfold F_MWorld_isAlive at hF
  have hm := Sa.rf H
  obtain ⟨x14, -, hG⟩ := bnd_g hF; clear hF
  obtain ⟨q15, hF⟩ := ck_s hG; clear hG
  obtain ⟨a16, e17, hG⟩ := rf_s hF; clear hF
  obtain ⟨n18, q19, hF⟩ := ar_s hG; clear hG
  obtain ⟨q20, hG⟩ := ck_s hF; clear hF
  obtain ⟨x21, -, hF⟩ := bnd_g hG; clear hG
  rcases ite_s hF with ⟨q_2, hG⟩ | ⟨q_2, hG⟩
  · clear hF
    have hr := Option.some.inj hG; subst hr
    exact hm
  · clear hF
    obtain ⟨v24, H25, z23, hF⟩ := bC_s hG; clear hG
    replace hm : Sa H H25 := hm.tr (m_MWorld_number z23)
    rcases ite_s hF with ⟨q_4, hG⟩ | ⟨q_4, hG⟩
    · clear hF
      have hr := Option.some.inj hG; subst hr
      exact hm
    · clear hF
      have hr := Option.some.inj hG; subst hr
      exact hm
set_option maxRecDepth 20000 in
set_option maxHeartbeats 2000000 in
theorem k_MWorld_isAlive {N : Nat} {p0 : Nat} {p1 : Int32} {H : Hp} {r : Int32 × Hp} (hF : F_MWorld_isAlive N p0 p1 H = some r) : ab_M y_MWorld_isAlive { frames := 1, cells := 0, slots := 0, locals := 21 } [.ref p0, .int p1] (hpw H) (po (.returned (some (.int r.1))) r.2) := by
  unfold F_MWorld_isAlive at hF
  refine ab_of2 (lv := [some (.ref p0), some (.int p1), none]) 1 rfl rfl (Nat.le_of_ble_eq_true rfl) ?_
  refine ab_iload_n d_MWorld_isAlive_0 rfl rfl ?_
  refine ab_sipush (v := 255) d_MWorld_isAlive_1 (by decide) ?_
  refine ab_iand d_MWorld_isAlive_4 ?_
  refine ab_topi (fun x1 ex1 => ?_)
  replace hF := bnd_s ex1 hF
  refine ab_istore_n (lv' := [some (.ref p0), some (.int p1), some (.int x1)]) d_MWorld_isAlive_5 rfl (by decide) rfl ?_
  refine ab_aload_n d_MWorld_isAlive_6 rfl rfl rfl ?_
  obtain ⟨q2, hG⟩ := ck_s hF; clear hF
  obtain ⟨a3, e4, hF⟩ := rf_s hG; clear hG
  refine hp_getR (f := 5) d_MWorld_isAlive_7 q2 (by decide) rfl (by decide) (k9 100 rfl rfl) rfl e4 ?_
  refine ab_iload_n d_MWorld_isAlive_10 rfl rfl ?_
  obtain ⟨n5, q6, hG⟩ := ar_s hF; clear hF
  obtain ⟨q7, hF⟩ := ck_s hG; clear hG
  refine hp_zald d_MWorld_isAlive_11 tZ q6 q7 ?_
  refine ab_topi (fun x8 ex8 => ?_)
  replace hF := bnd_s ex8 hF
  refine ab_if_eq (tgt := 28) d_MWorld_isAlive_12 (by decide) (fun q9 => ?_) (fun q9 => ?_)
  · rw [if_pos q9] at hF
    refine ab_iconst (v := 0) d_MWorld_isAlive_28 (by decide) ?_
    exact ab_zret d_MWorld_isAlive_29 rfl rfl (Nat.le_refl _) (Nat.le_refl _) (by have hr := Option.some.inj hF; subst hr; exact ⟨rfl, rfl⟩)
  · rw [if_neg q9] at hF
    refine ab_aload_n d_MWorld_isAlive_15 rfl rfl rfl ?_
    refine ab_iload_n d_MWorld_isAlive_16 rfl rfl ?_
    obtain ⟨v11, H12, z10, hG⟩ := bC_s hF; clear hF
    refine hp_callV_a (v := .int v11) (H1 := H12) (As := [.int x1]) (rest := []) d_MWorld_isAlive_17 (k_MWorld_number z10) (ab_mkC s_MWorld_number (Nat.le_of_ble_eq_true rfl) (Nat.le_of_ble_eq_true rfl) (Nat.le_refl 0) (Nat.le_refl 0)) (k12 54 rfl rfl) i_MWorld_number v_MWorld_number q2 (by decide) rfl rfl (Nat.le_of_ble_eq_true rfl) ?_
    have s_1 : Sa H H12 := (m_MWorld_number z10)
    refine ab_iload_n d_MWorld_isAlive_20 rfl rfl ?_
    refine ab_icmp_ne (tgt := 28) d_MWorld_isAlive_21 (by decide) (fun q13 => ?_) (fun q13 => ?_)
    · rw [if_neg q13] at hG
      refine ab_iconst (v := 0) d_MWorld_isAlive_28 (by decide) ?_
      exact ab_zret d_MWorld_isAlive_29 rfl rfl (Nat.le_refl _) (Nat.le_refl _) (by have hr := Option.some.inj hG; subst hr; exact ⟨rfl, rfl⟩)
    · rw [if_pos q13] at hG
      refine ab_iconst (v := 1) d_MWorld_isAlive_24 (by decide) ?_
      refine ab_goto (tgt := 29) d_MWorld_isAlive_25 (by decide) ?_
      exact ab_zret d_MWorld_isAlive_29 rfl rfl (Nat.le_refl _) (Nat.le_refl _) (by have hr := Option.some.inj hG; subst hr; exact ⟨rfl, rfl⟩)
def y_MWorld_has : ab_Y := (⟨"WorldEngineModel$World", "has", "(II)Z"⟩, prog_17_method_7_code, 3, (some FieldType.boolean), [])
theorem d_MWorld_has_0 : decode y_MWorld_has.2.1 0 = .ok (.aload_n 0, 1) := by decide +kernel
theorem d_MWorld_has_1 : decode y_MWorld_has.2.1 1 = .ok (.iload_n 1, 1) := by decide +kernel
theorem d_MWorld_has_2 : decode y_MWorld_has.2.1 2 = .ok (.invokevirtual 79, 3) := by decide +kernel
theorem d_MWorld_has_5 : decode y_MWorld_has.2.1 5 = .ok (.ifCond .eq 25, 3) := by decide +kernel
theorem d_MWorld_has_8 : decode y_MWorld_has.2.1 8 = .ok (.aload_n 0, 1) := by decide +kernel
theorem d_MWorld_has_9 : decode y_MWorld_has.2.1 9 = .ok (.getfield 19, 3) := by decide +kernel
theorem d_MWorld_has_12 : decode y_MWorld_has.2.1 12 = .ok (.iload_n 1, 1) := by decide +kernel
theorem d_MWorld_has_13 : decode y_MWorld_has.2.1 13 = .ok (.sipush 255, 3) := by decide +kernel
theorem d_MWorld_has_16 : decode y_MWorld_has.2.1 16 = .ok (.iand, 1) := by decide +kernel
theorem d_MWorld_has_17 : decode y_MWorld_has.2.1 17 = .ok (.iaload, 1) := by decide +kernel
theorem d_MWorld_has_18 : decode y_MWorld_has.2.1 18 = .ok (.iload_n 2, 1) := by decide +kernel
theorem d_MWorld_has_19 : decode y_MWorld_has.2.1 19 = .ok (.ishr, 1) := by decide +kernel
theorem d_MWorld_has_20 : decode y_MWorld_has.2.1 20 = .ok (.iconst 1, 1) := by decide +kernel
theorem d_MWorld_has_21 : decode y_MWorld_has.2.1 21 = .ok (.iand, 1) := by decide +kernel
theorem d_MWorld_has_22 : decode y_MWorld_has.2.1 22 = .ok (.iconst 1, 1) := by decide +kernel
theorem d_MWorld_has_23 : decode y_MWorld_has.2.1 23 = .ok (.if_icmp .ne 7, 3) := by decide +kernel
theorem d_MWorld_has_26 : decode y_MWorld_has.2.1 26 = .ok (.iconst 1, 1) := by decide +kernel
theorem d_MWorld_has_27 : decode y_MWorld_has.2.1 27 = .ok (.goto 4, 3) := by decide +kernel
theorem d_MWorld_has_30 : decode y_MWorld_has.2.1 30 = .ok (.iconst 0, 1) := by decide +kernel
theorem d_MWorld_has_31 : decode y_MWorld_has.2.1 31 = .ok (.ireturn, 1) := by decide +kernel
theorem s_MWorld_has : ab_Stat y_MWorld_has 2 := ⟨(k12 49 rfl rfl), (k1 21 rfl rfl), ⟨by decide, by decide⟩, by decide +kernel⟩
theorem i_MWorld_has : Cond.instanceMethod y_MWorld_has.1 ∈ ab_T := (k12 47 rfl rfl)
theorem v_MWorld_has : Cond.selects "WorldEngineModel$World" y_MWorld_has.1 y_MWorld_has.1 ∈ ab_T := (k12 48 rfl rfl)
def F_MWorld_has (N : Nat) (p0 : Nat) (p1 : Int32) (p2 : Int32) (H : Hp) : Option (Int32 × Hp) :=
    ck (H.sh[p0]? = some (13, 0)) <|
    bC (F_MWorld_isAlive N p0 p1 H) fun v3 H4 =>
    if v3 = (0 : Int32) then
    some (0, H4)
    else
    rf (H4.P p0 6) fun a6 =>
    ar H4 100 a6 fun n8 =>
    ck (inb (p1 &&& (255 : Int32)) n8) <|
    bnd ((H4.D a6 ((p1 &&& (255 : Int32))).toNatClampNeg)) fun x11 =>
    if ((x11 >>> (p2 &&& 31)) &&& (1 : Int32)) = (1 : Int32) then
    some (1, H4)
    else
    some (0, H4)
set_option maxRecDepth 20000 in
set_option maxHeartbeats 2000000 in
theorem m_MWorld_has {N : Nat} {p0 : Nat} {p1 : Int32} {p2 : Int32} {H : Hp} {r : Int32 × Hp} (hF : F_MWorld_has N p0 p1 p2 H = some r) : Sa H r.2 := by
  unfold F_MWorld_has at hF
  have hm := Sa.rf H
  obtain ⟨q13, hG⟩ := ck_s hF; clear hF
  obtain ⟨v15, H16, z14, hF⟩ := bC_s hG; clear hG
  replace hm : Sa H H16 := hm.tr (m_MWorld_isAlive z14)
  rcases ite_s hF with ⟨q_3, hG⟩ | ⟨q_3, hG⟩
  · clear hF
    have hr := Option.some.inj hG; subst hr
    exact hm
  · clear hF
    obtain ⟨a18, e19, hF⟩ := rf_s hG; clear hG
    obtain ⟨n20, q21, hG⟩ := ar_s hF; clear hF
    obtain ⟨q22, hF⟩ := ck_s hG; clear hG
    obtain ⟨x23, -, hG⟩ := bnd_g hF; clear hF
    rcases ite_s hG with ⟨q_4, hF⟩ | ⟨q_4, hF⟩
    · clear hG
      have hr := Option.some.inj hF; subst hr
      exact hm
    · clear hG
      have hr := Option.some.inj hF; subst hr
      exact hm
set_option maxRecDepth 20000 in
set_option maxHeartbeats 2000000 in
theorem k_MWorld_has {N : Nat} {p0 : Nat} {p1 : Int32} {p2 : Int32} {H : Hp} {r : Int32 × Hp} (hF : F_MWorld_has N p0 p1 p2 H = some r) : ab_M y_MWorld_has { frames := 2, cells := 0, slots := 0, locals := 43 } [.ref p0, .int p1, .int p2] (hpw H) (po (.returned (some (.int r.1))) r.2) := by
  unfold F_MWorld_has at hF
  refine ab_of2 (lv := [some (.ref p0), some (.int p1), some (.int p2)]) 0 rfl rfl (Nat.le_of_ble_eq_true rfl) ?_
  refine ab_aload_n d_MWorld_has_0 rfl rfl rfl ?_
  refine ab_iload_n d_MWorld_has_1 rfl rfl ?_
  obtain ⟨q1, hG⟩ := ck_s hF; clear hF
  obtain ⟨v3, H4, z2, hF⟩ := bC_s hG; clear hG
  refine hp_callV_a (v := .int v3) (H1 := H4) (As := [.int p1]) (rest := []) d_MWorld_has_2 (k_MWorld_isAlive z2) (ab_mkC s_MWorld_isAlive (Nat.le_of_ble_eq_true rfl) (Nat.le_of_ble_eq_true rfl) (Nat.le_refl 0) (Nat.le_refl 0)) (k12 50 rfl rfl) i_MWorld_isAlive v_MWorld_isAlive q1 (by decide) rfl rfl (Nat.le_of_ble_eq_true rfl) ?_
  have s_1 : Sa H H4 := (m_MWorld_isAlive z2)
  refine ab_if_eq (tgt := 30) d_MWorld_has_5 (by decide) (fun q5 => ?_) (fun q5 => ?_)
  · rw [if_pos q5] at hF
    refine ab_iconst (v := 0) d_MWorld_has_30 (by decide) ?_
    exact ab_zret d_MWorld_has_31 rfl rfl (Nat.le_refl _) (Nat.le_refl _) (by have hr := Option.some.inj hF; subst hr; exact ⟨rfl, rfl⟩)
  · rw [if_neg q5] at hF
    refine ab_aload_n d_MWorld_has_8 rfl rfl rfl ?_
    obtain ⟨a6, e7, hG⟩ := rf_s hF; clear hF
    refine hp_getR (f := 6) d_MWorld_has_9 (by rw [(s_1).1]; exact q1) (by decide) rfl (by decide) (k9 104 rfl rfl) rfl e7 ?_
    refine ab_iload_n d_MWorld_has_12 rfl rfl ?_
    refine ab_sipush (v := 255) d_MWorld_has_13 (by decide) ?_
    refine ab_iand d_MWorld_has_16 ?_
    obtain ⟨n8, q9, hF⟩ := ar_s hG; clear hG
    rw [(s_1).1] at q9
    obtain ⟨q10, hG⟩ := ck_s hF; clear hF
    refine hp_iald d_MWorld_has_17 tI (by rw [(s_1).1]; exact q9) q10 ?_
    refine ab_topi (fun x11 ex11 => ?_)
    replace hG := bnd_s ex11 hG
    refine ab_iload_n d_MWorld_has_18 rfl rfl ?_
    refine ab_ishr d_MWorld_has_19 ?_
    refine ab_iconst (v := 1) d_MWorld_has_20 (by decide) ?_
    refine ab_iand d_MWorld_has_21 ?_
    refine ab_iconst (v := 1) d_MWorld_has_22 (by decide) ?_
    refine ab_icmp_ne (tgt := 30) d_MWorld_has_23 (by decide) (fun q12 => ?_) (fun q12 => ?_)
    · rw [if_neg q12] at hG
      refine ab_iconst (v := 0) d_MWorld_has_30 (by decide) ?_
      exact ab_zret d_MWorld_has_31 rfl rfl (Nat.le_refl _) (Nat.le_refl _) (by have hr := Option.some.inj hG; subst hr; exact ⟨rfl, rfl⟩)
    · rw [if_pos q12] at hG
      refine ab_iconst (v := 1) d_MWorld_has_26 (by decide) ?_
      refine ab_goto (tgt := 31) d_MWorld_has_27 (by decide) ?_
      exact ab_zret d_MWorld_has_31 rfl rfl (Nat.le_refl _) (Nat.le_refl _) (by have hr := Option.some.inj hG; subst hr; exact ⟨rfl, rfl⟩)
def y_MRunner_named : ab_Y := (⟨"WorldEngineModel$Runner", "named", "(I)I"⟩, prog_15_method_34_code, 5, (some FieldType.int), [])
theorem d_MRunner_named_0 : decode y_MRunner_named.2.1 0 = .ok (.aload_n 0, 1) := by decide +kernel
theorem d_MRunner_named_1 : decode y_MRunner_named.2.1 1 = .ok (.getfield 25, 3) := by decide +kernel
theorem d_MRunner_named_4 : decode y_MRunner_named.2.1 4 = .ok (.getfield 122, 3) := by decide +kernel
theorem d_MRunner_named_7 : decode y_MRunner_named.2.1 7 = .ok (.iload_n 1, 1) := by decide +kernel
theorem d_MRunner_named_8 : decode y_MRunner_named.2.1 8 = .ok (.iaload, 1) := by decide +kernel
theorem d_MRunner_named_9 : decode y_MRunner_named.2.1 9 = .ok (.istore_n 2, 1) := by decide +kernel
theorem d_MRunner_named_10 : decode y_MRunner_named.2.1 10 = .ok (.aload_n 0, 1) := by decide +kernel
theorem d_MRunner_named_11 : decode y_MRunner_named.2.1 11 = .ok (.getfield 25, 3) := by decide +kernel
theorem d_MRunner_named_14 : decode y_MRunner_named.2.1 14 = .ok (.getfield 131, 3) := by decide +kernel
theorem d_MRunner_named_17 : decode y_MRunner_named.2.1 17 = .ok (.aload_n 0, 1) := by decide +kernel
theorem d_MRunner_named_18 : decode y_MRunner_named.2.1 18 = .ok (.getfield 108, 3) := by decide +kernel
theorem d_MRunner_named_21 : decode y_MRunner_named.2.1 21 = .ok (.iaload, 1) := by decide +kernel
theorem d_MRunner_named_22 : decode y_MRunner_named.2.1 22 = .ok (.bipush 46, 2) := by decide +kernel
theorem d_MRunner_named_24 : decode y_MRunner_named.2.1 24 = .ok (.if_icmp .eq 10, 3) := by decide +kernel
theorem d_MRunner_named_27 : decode y_MRunner_named.2.1 27 = .ok (.aload_n 0, 1) := by decide +kernel
theorem d_MRunner_named_28 : decode y_MRunner_named.2.1 28 = .ok (.getfield 19, 3) := by decide +kernel
theorem d_MRunner_named_31 : decode y_MRunner_named.2.1 31 = .ok (.iload_n 2, 1) := by decide +kernel
theorem d_MRunner_named_32 : decode y_MRunner_named.2.1 32 = .ok (.iaload, 1) := by decide +kernel
theorem d_MRunner_named_33 : decode y_MRunner_named.2.1 33 = .ok (.ireturn, 1) := by decide +kernel
theorem d_MRunner_named_34 : decode y_MRunner_named.2.1 34 = .ok (.aload_n 0, 1) := by decide +kernel
theorem d_MRunner_named_35 : decode y_MRunner_named.2.1 35 = .ok (.getfield 25, 3) := by decide +kernel
theorem d_MRunner_named_38 : decode y_MRunner_named.2.1 38 = .ok (.getfield 122, 3) := by decide +kernel
theorem d_MRunner_named_41 : decode y_MRunner_named.2.1 41 = .ok (.aload_n 0, 1) := by decide +kernel
theorem d_MRunner_named_42 : decode y_MRunner_named.2.1 42 = .ok (.getfield 108, 3) := by decide +kernel
theorem d_MRunner_named_45 : decode y_MRunner_named.2.1 45 = .ok (.iconst 1, 1) := by decide +kernel
theorem d_MRunner_named_46 : decode y_MRunner_named.2.1 46 = .ok (.iadd, 1) := by decide +kernel
theorem d_MRunner_named_47 : decode y_MRunner_named.2.1 47 = .ok (.iaload, 1) := by decide +kernel
theorem d_MRunner_named_48 : decode y_MRunner_named.2.1 48 = .ok (.istore_n 3, 1) := by decide +kernel
theorem d_MRunner_named_49 : decode y_MRunner_named.2.1 49 = .ok (.aload_n 0, 1) := by decide +kernel
theorem d_MRunner_named_50 : decode y_MRunner_named.2.1 50 = .ok (.getfield 25, 3) := by decide +kernel
theorem d_MRunner_named_53 : decode y_MRunner_named.2.1 53 = .ok (.getfield 273, 3) := by decide +kernel
theorem d_MRunner_named_56 : decode y_MRunner_named.2.1 56 = .ok (.iload_n 1, 1) := by decide +kernel
theorem d_MRunner_named_57 : decode y_MRunner_named.2.1 57 = .ok (.iaload, 1) := by decide +kernel
theorem d_MRunner_named_58 : decode y_MRunner_named.2.1 58 = .ok (.iconst 1, 1) := by decide +kernel
theorem d_MRunner_named_59 : decode y_MRunner_named.2.1 59 = .ok (.if_icmp .eq 54, 3) := by decide +kernel
theorem d_MRunner_named_62 : decode y_MRunner_named.2.1 62 = .ok (.aload_n 0, 1) := by decide +kernel
theorem d_MRunner_named_63 : decode y_MRunner_named.2.1 63 = .ok (.dup, 1) := by decide +kernel
theorem d_MRunner_named_64 : decode y_MRunner_named.2.1 64 = .ok (.getfield 108, 3) := by decide +kernel
theorem d_MRunner_named_67 : decode y_MRunner_named.2.1 67 = .ok (.iconst 2, 1) := by decide +kernel
theorem d_MRunner_named_68 : decode y_MRunner_named.2.1 68 = .ok (.iadd, 1) := by decide +kernel
theorem d_MRunner_named_69 : decode y_MRunner_named.2.1 69 = .ok (.putfield 108, 3) := by decide +kernel
theorem d_MRunner_named_72 : decode y_MRunner_named.2.1 72 = .ok (.aload_n 0, 1) := by decide +kernel
theorem d_MRunner_named_73 : decode y_MRunner_named.2.1 73 = .ok (.getfield 25, 3) := by decide +kernel
theorem d_MRunner_named_76 : decode y_MRunner_named.2.1 76 = .ok (.getfield 273, 3) := by decide +kernel
theorem d_MRunner_named_79 : decode y_MRunner_named.2.1 79 = .ok (.iload_n 1, 1) := by decide +kernel
theorem d_MRunner_named_80 : decode y_MRunner_named.2.1 80 = .ok (.iaload, 1) := by decide +kernel
theorem d_MRunner_named_81 : decode y_MRunner_named.2.1 81 = .ok (.iconst 3, 1) := by decide +kernel
theorem d_MRunner_named_82 : decode y_MRunner_named.2.1 82 = .ok (.if_icmp .ne 24, 3) := by decide +kernel
theorem d_MRunner_named_85 : decode y_MRunner_named.2.1 85 = .ok (.aload_n 0, 1) := by decide +kernel
theorem d_MRunner_named_86 : decode y_MRunner_named.2.1 86 = .ok (.getfield 29, 3) := by decide +kernel
theorem d_MRunner_named_89 : decode y_MRunner_named.2.1 89 = .ok (.getfield 303, 3) := by decide +kernel
theorem d_MRunner_named_92 : decode y_MRunner_named.2.1 92 = .ok (.iconst 4, 1) := by decide +kernel
theorem d_MRunner_named_93 : decode y_MRunner_named.2.1 93 = .ok (.aload_n 0, 1) := by decide +kernel
theorem d_MRunner_named_94 : decode y_MRunner_named.2.1 94 = .ok (.getfield 22, 3) := by decide +kernel
theorem d_MRunner_named_97 : decode y_MRunner_named.2.1 97 = .ok (.iload_n 2, 1) := by decide +kernel
theorem d_MRunner_named_98 : decode y_MRunner_named.2.1 98 = .ok (.iaload, 1) := by decide +kernel
theorem d_MRunner_named_99 : decode y_MRunner_named.2.1 99 = .ok (.imul, 1) := by decide +kernel
theorem d_MRunner_named_100 : decode y_MRunner_named.2.1 100 = .ok (.iload_n 3, 1) := by decide +kernel
theorem d_MRunner_named_101 : decode y_MRunner_named.2.1 101 = .ok (.iadd, 1) := by decide +kernel
theorem d_MRunner_named_102 : decode y_MRunner_named.2.1 102 = .ok (.iaload, 1) := by decide +kernel
theorem d_MRunner_named_103 : decode y_MRunner_named.2.1 103 = .ok (.goto 9, 3) := by decide +kernel
theorem d_MRunner_named_106 : decode y_MRunner_named.2.1 106 = .ok (.aload_n 0, 1) := by decide +kernel
theorem d_MRunner_named_107 : decode y_MRunner_named.2.1 107 = .ok (.getfield 16, 3) := by decide +kernel
theorem d_MRunner_named_110 : decode y_MRunner_named.2.1 110 = .ok (.iload_n 3, 1) := by decide +kernel
theorem d_MRunner_named_111 : decode y_MRunner_named.2.1 111 = .ok (.iaload, 1) := by decide +kernel
theorem d_MRunner_named_112 : decode y_MRunner_named.2.1 112 = .ok (.ireturn, 1) := by decide +kernel
theorem d_MRunner_named_113 : decode y_MRunner_named.2.1 113 = .ok (.aload_n 0, 1) := by decide +kernel
theorem d_MRunner_named_114 : decode y_MRunner_named.2.1 114 = .ok (.getfield 25, 3) := by decide +kernel
theorem d_MRunner_named_117 : decode y_MRunner_named.2.1 117 = .ok (.getfield 122, 3) := by decide +kernel
theorem d_MRunner_named_120 : decode y_MRunner_named.2.1 120 = .ok (.aload_n 0, 1) := by decide +kernel
theorem d_MRunner_named_121 : decode y_MRunner_named.2.1 121 = .ok (.getfield 108, 3) := by decide +kernel
theorem d_MRunner_named_124 : decode y_MRunner_named.2.1 124 = .ok (.iconst 3, 1) := by decide +kernel
theorem d_MRunner_named_125 : decode y_MRunner_named.2.1 125 = .ok (.iadd, 1) := by decide +kernel
theorem d_MRunner_named_126 : decode y_MRunner_named.2.1 126 = .ok (.iaload, 1) := by decide +kernel
theorem d_MRunner_named_127 : decode y_MRunner_named.2.1 127 = .ok (.istore 4, 2) := by decide +kernel
theorem d_MRunner_named_129 : decode y_MRunner_named.2.1 129 = .ok (.aload_n 0, 1) := by decide +kernel
theorem d_MRunner_named_130 : decode y_MRunner_named.2.1 130 = .ok (.dup, 1) := by decide +kernel
theorem d_MRunner_named_131 : decode y_MRunner_named.2.1 131 = .ok (.getfield 108, 3) := by decide +kernel
theorem d_MRunner_named_134 : decode y_MRunner_named.2.1 134 = .ok (.iconst 4, 1) := by decide +kernel
theorem d_MRunner_named_135 : decode y_MRunner_named.2.1 135 = .ok (.iadd, 1) := by decide +kernel
theorem d_MRunner_named_136 : decode y_MRunner_named.2.1 136 = .ok (.putfield 108, 3) := by decide +kernel
theorem d_MRunner_named_139 : decode y_MRunner_named.2.1 139 = .ok (.aload_n 0, 1) := by decide +kernel
theorem d_MRunner_named_140 : decode y_MRunner_named.2.1 140 = .ok (.getfield 99, 3) := by decide +kernel
theorem d_MRunner_named_143 : decode y_MRunner_named.2.1 143 = .ok (.ifCond .le 5, 3) := by decide +kernel
theorem d_MRunner_named_146 : decode y_MRunner_named.2.1 146 = .ok (.iconst 0, 1) := by decide +kernel
theorem d_MRunner_named_147 : decode y_MRunner_named.2.1 147 = .ok (.ireturn, 1) := by decide +kernel
theorem d_MRunner_named_148 : decode y_MRunner_named.2.1 148 = .ok (.aload_n 0, 1) := by decide +kernel
theorem d_MRunner_named_149 : decode y_MRunner_named.2.1 149 = .ok (.getfield 29, 3) := by decide +kernel
theorem d_MRunner_named_152 : decode y_MRunner_named.2.1 152 = .ok (.aload_n 0, 1) := by decide +kernel
theorem d_MRunner_named_153 : decode y_MRunner_named.2.1 153 = .ok (.getfield 19, 3) := by decide +kernel
theorem d_MRunner_named_156 : decode y_MRunner_named.2.1 156 = .ok (.iload_n 2, 1) := by decide +kernel
theorem d_MRunner_named_157 : decode y_MRunner_named.2.1 157 = .ok (.iaload, 1) := by decide +kernel
theorem d_MRunner_named_158 : decode y_MRunner_named.2.1 158 = .ok (.iload_n 3, 1) := by decide +kernel
theorem d_MRunner_named_159 : decode y_MRunner_named.2.1 159 = .ok (.invokevirtual 233, 3) := by decide +kernel
theorem d_MRunner_named_162 : decode y_MRunner_named.2.1 162 = .ok (.ifCond .ne 10, 3) := by decide +kernel
theorem d_MRunner_named_165 : decode y_MRunner_named.2.1 165 = .ok (.aload_n 0, 1) := by decide +kernel
theorem d_MRunner_named_166 : decode y_MRunner_named.2.1 166 = .ok (.iconst 3, 1) := by decide +kernel
theorem d_MRunner_named_167 : decode y_MRunner_named.2.1 167 = .ok (.invokevirtual 118, 3) := by decide +kernel
theorem d_MRunner_named_170 : decode y_MRunner_named.2.1 170 = .ok (.iconst 0, 1) := by decide +kernel
theorem d_MRunner_named_171 : decode y_MRunner_named.2.1 171 = .ok (.ireturn, 1) := by decide +kernel
theorem d_MRunner_named_172 : decode y_MRunner_named.2.1 172 = .ok (.aload_n 0, 1) := by decide +kernel
theorem d_MRunner_named_173 : decode y_MRunner_named.2.1 173 = .ok (.getfield 29, 3) := by decide +kernel
theorem d_MRunner_named_176 : decode y_MRunner_named.2.1 176 = .ok (.getfield 102, 3) := by decide +kernel
theorem d_MRunner_named_179 : decode y_MRunner_named.2.1 179 = .ok (.bipush 48, 2) := by decide +kernel
theorem d_MRunner_named_181 : decode y_MRunner_named.2.1 181 = .ok (.aload_n 0, 1) := by decide +kernel
theorem d_MRunner_named_182 : decode y_MRunner_named.2.1 182 = .ok (.getfield 19, 3) := by decide +kernel
theorem d_MRunner_named_185 : decode y_MRunner_named.2.1 185 = .ok (.iload_n 2, 1) := by decide +kernel
theorem d_MRunner_named_186 : decode y_MRunner_named.2.1 186 = .ok (.iaload, 1) := by decide +kernel
theorem d_MRunner_named_187 : decode y_MRunner_named.2.1 187 = .ok (.sipush 255, 3) := by decide +kernel
theorem d_MRunner_named_190 : decode y_MRunner_named.2.1 190 = .ok (.iand, 1) := by decide +kernel
theorem d_MRunner_named_191 : decode y_MRunner_named.2.1 191 = .ok (.imul, 1) := by decide +kernel
theorem d_MRunner_named_192 : decode y_MRunner_named.2.1 192 = .ok (.iload 4, 2) := by decide +kernel
theorem d_MRunner_named_194 : decode y_MRunner_named.2.1 194 = .ok (.iadd, 1) := by decide +kernel
theorem d_MRunner_named_195 : decode y_MRunner_named.2.1 195 = .ok (.iaload, 1) := by decide +kernel
theorem d_MRunner_named_196 : decode y_MRunner_named.2.1 196 = .ok (.ireturn, 1) := by decide +kernel
theorem s_MRunner_named : ab_Stat y_MRunner_named 1 := ⟨(k12 45 rfl rfl), (k1 22 rfl rfl), ⟨by decide, by decide⟩, by decide +kernel⟩
theorem i_MRunner_named : Cond.instanceMethod y_MRunner_named.1 ∈ ab_T := (k12 44 rfl rfl)
theorem v_MRunner_named : Cond.selects "WorldEngineModel$Runner" y_MRunner_named.1 y_MRunner_named.1 ∈ ab_T := ab_s (List.mem_of_getElem? (i := 189) rfl) rfl
def F_MRunner_named (N : Nat) (p0 : Nat) (p1 : Int32) (H : Hp) : Option (Int32 × Hp) :=
    ck (H.sh[p0]? = some (15, 0)) <|
    rf (H.P p0 0) fun a2 =>
    ck (H.sh[a2]? = some (14, 0)) <|
    rf (H.P a2 8) fun a5 =>
    ar H 100 a5 fun n7 =>
    ck (inb p1 n7) <|
    bnd ((H.D a5 (p1).toNatClampNeg)) fun x10 =>
    rf (H.P p0 0) fun a11 =>
    ck (H.sh[a11]? = some (14, 0)) <|
    rf (H.P a11 3) fun a14 =>
    bnd ((H.D p0 11)) fun x16 =>
    ar H 100 a14 fun n17 =>
    ck (inb x16 n17) <|
    bnd ((H.D a14 (x16).toNatClampNeg)) fun x20 =>
    if x20 = (46 : Int32) then
    rf (H.P p0 0) fun a22 =>
    ck (H.sh[a22]? = some (14, 0)) <|
    rf (H.P a22 8) fun a25 =>
    bnd ((H.D p0 11)) fun x27 =>
    ar H 100 a25 fun n28 =>
    ck (inb (x27 + (1 : Int32)) n28) <|
    bnd ((H.D a25 ((x27 + (1 : Int32))).toNatClampNeg)) fun x31 =>
    rf (H.P p0 0) fun a32 =>
    ck (H.sh[a32]? = some (14, 0)) <|
    rf (H.P a32 6) fun a35 =>
    ar H 100 a35 fun n37 =>
    ck (inb p1 n37) <|
    bnd ((H.D a35 (p1).toNatClampNeg)) fun x40 =>
    if x40 = (1 : Int32) then
    rf (H.P p0 0) fun a42 =>
    ck (H.sh[a42]? = some (14, 0)) <|
    rf (H.P a42 8) fun a45 =>
    bnd ((H.D p0 11)) fun x47 =>
    ar H 100 a45 fun n48 =>
    ck (inb (x47 + (3 : Int32)) n48) <|
    bnd ((H.D a45 ((x47 + (3 : Int32))).toNatClampNeg)) fun x51 =>
    bnd ((H.D p0 11)) fun x52 =>
    bnd (H.sD p0 11 (x52 + (4 : Int32))) fun H53 =>
    bnd ((H53.D p0 12)) fun x54 =>
    if x54 ≤ (0 : Int32) then
    rf (H53.P p0 1) fun a56 =>
    rf (H53.P p0 14) fun a58 =>
    ar H53 100 a58 fun n60 =>
    ck (inb x10 n60) <|
    bnd ((H53.D a58 (x10).toNatClampNeg)) fun x63 =>
    ck (H53.sh[a56]? = some (13, 0)) <|
    bC (F_MWorld_has N a56 x63 x31 H53) fun v66 H67 =>
    if v66 = (0 : Int32) then
    bC (F_MRunner_fails N p0 (3 : Int32) H67) fun v85 H86 =>
    some (0, H86)
    else
    rf (H67.P p0 1) fun a69 =>
    ck (H67.sh[a69]? = some (13, 0)) <|
    rf (H67.P a69 7) fun a72 =>
    rf (H67.P p0 14) fun a74 =>
    ar H67 100 a74 fun n76 =>
    ck (inb x10 n76) <|
    bnd ((H67.D a74 (x10).toNatClampNeg)) fun x79 =>
    ar H67 100 a72 fun n80 =>
    ck (inb (((48 : Int32) * (x79 &&& (255 : Int32))) + x51) n80) <|
    bnd ((H67.D a72 ((((48 : Int32) * (x79 &&& (255 : Int32))) + x51)).toNatClampNeg)) fun x83 =>
    some (x83, H67)
    else
    some (0, H53)
    else
    bnd ((H.D p0 11)) fun x87 =>
    bnd (H.sD p0 11 (x87 + (2 : Int32))) fun H88 =>
    rf (H88.P p0 0) fun a89 =>
    ck (H88.sh[a89]? = some (14, 0)) <|
    rf (H88.P a89 6) fun a92 =>
    ar H88 100 a92 fun n94 =>
    ck (inb p1 n94) <|
    bnd ((H88.D a92 (p1).toNatClampNeg)) fun x97 =>
    if x97 = (3 : Int32) then
    rf (H88.P p0 1) fun a105 =>
    ck (H88.sh[a105]? = some (13, 0)) <|
    rf (H88.P a105 12) fun a108 =>
    rf (H88.P p0 15) fun a110 =>
    ar H88 100 a110 fun n112 =>
    ck (inb x10 n112) <|
    bnd ((H88.D a110 (x10).toNatClampNeg)) fun x115 =>
    ar H88 100 a108 fun n116 =>
    ck (inb (((4 : Int32) * x115) + x31) n116) <|
    bnd ((H88.D a108 ((((4 : Int32) * x115) + x31)).toNatClampNeg)) fun x119 =>
    some (x119, H88)
    else
    rf (H88.P p0 13) fun a99 =>
    ar H88 100 a99 fun n101 =>
    ck (inb x31 n101) <|
    bnd ((H88.D a99 (x31).toNatClampNeg)) fun x104 =>
    some (x104, H88)
    else
    rf (H.P p0 14) fun a120 =>
    ar H 100 a120 fun n122 =>
    ck (inb x10 n122) <|
    bnd ((H.D a120 (x10).toNatClampNeg)) fun x125 =>
    some (x125, H)
set_option maxRecDepth 20000 in
set_option maxHeartbeats 2000000 in
theorem m_MRunner_named {N : Nat} {p0 : Nat} {p1 : Int32} {H : Hp} {r : Int32 × Hp} (hF : F_MRunner_named N p0 p1 H = some r) : Sa H r.2 := by
  unfold F_MRunner_named at hF
  have hm := Sa.rf H
  obtain ⟨q126, hG⟩ := ck_s hF; clear hF
  obtain ⟨a127, e128, hF⟩ := rf_s hG; clear hG
  obtain ⟨q129, hG⟩ := ck_s hF; clear hF
  obtain ⟨a130, e131, hF⟩ := rf_s hG; clear hG
  obtain ⟨n132, q133, hG⟩ := ar_s hF; clear hF
  obtain ⟨q134, hF⟩ := ck_s hG; clear hG
  obtain ⟨x135, -, hG⟩ := bnd_g hF; clear hF
  obtain ⟨a136, e137, hF⟩ := rf_s hG; clear hG
  obtain ⟨q138, hG⟩ := ck_s hF; clear hF
  obtain ⟨a139, e140, hF⟩ := rf_s hG; clear hG
  obtain ⟨x141, -, hG⟩ := bnd_g hF; clear hF
  obtain ⟨n142, q143, hF⟩ := ar_s hG; clear hG
  obtain ⟨q144, hG⟩ := ck_s hF; clear hF
  obtain ⟨x145, -, hF⟩ := bnd_g hG; clear hG
  rcases ite_s hF with ⟨q_5, hG⟩ | ⟨q_5, hG⟩
  · clear hF
    obtain ⟨a147, e148, hF⟩ := rf_s hG; clear hG
    obtain ⟨q149, hG⟩ := ck_s hF; clear hF
    obtain ⟨a150, e151, hF⟩ := rf_s hG; clear hG
    obtain ⟨x152, -, hG⟩ := bnd_g hF; clear hF
    obtain ⟨n153, q154, hF⟩ := ar_s hG; clear hG
    obtain ⟨q155, hG⟩ := ck_s hF; clear hF
    obtain ⟨x156, -, hF⟩ := bnd_g hG; clear hG
    obtain ⟨a157, e158, hG⟩ := rf_s hF; clear hF
    obtain ⟨q159, hF⟩ := ck_s hG; clear hG
    obtain ⟨a160, e161, hG⟩ := rf_s hF; clear hF
    obtain ⟨n162, q163, hF⟩ := ar_s hG; clear hG
    obtain ⟨q164, hG⟩ := ck_s hF; clear hF
    obtain ⟨x165, -, hF⟩ := bnd_g hG; clear hG
    rcases ite_s hF with ⟨q_6, hG⟩ | ⟨q_6, hG⟩
    · clear hF
      obtain ⟨a167, e168, hF⟩ := rf_s hG; clear hG
      obtain ⟨q169, hG⟩ := ck_s hF; clear hF
      obtain ⟨a170, e171, hF⟩ := rf_s hG; clear hG
      obtain ⟨x172, -, hG⟩ := bnd_g hF; clear hF
      obtain ⟨n173, q174, hF⟩ := ar_s hG; clear hG
      obtain ⟨q175, hG⟩ := ck_s hF; clear hF
      obtain ⟨x176, -, hF⟩ := bnd_g hG; clear hG
      obtain ⟨x177, -, hG⟩ := bnd_g hF; clear hF
      obtain ⟨H178, eH178, hF⟩ := bnd_g hG; clear hG
      replace hm : Sa H H178 := by rw [eH178]; exact hm
      obtain ⟨x179, -, hG⟩ := bnd_g hF; clear hF
      rcases ite_s hG with ⟨q_8, hF⟩ | ⟨q_8, hF⟩
      · clear hG
        obtain ⟨a181, e182, hG⟩ := rf_s hF; clear hF
        obtain ⟨a183, e184, hF⟩ := rf_s hG; clear hG
        obtain ⟨n185, q186, hG⟩ := ar_s hF; clear hF
        obtain ⟨q187, hF⟩ := ck_s hG; clear hG
        obtain ⟨x188, -, hG⟩ := bnd_g hF; clear hF
        obtain ⟨q189, hF⟩ := ck_s hG; clear hG
        obtain ⟨v191, H192, z190, hG⟩ := bC_s hF; clear hF
        replace hm : Sa H H192 := hm.tr (m_MWorld_has z190)
        rcases ite_s hG with ⟨q_10, hF⟩ | ⟨q_10, hF⟩
        · clear hG
          obtain ⟨v195, H196, z194, hG⟩ := bC_s hF; clear hF
          replace hm : Sa H H196 := hm.tr (m_MRunner_fails z194)
          have hr := Option.some.inj hG; subst hr
          exact hm
        · clear hG
          obtain ⟨a197, e198, hG⟩ := rf_s hF; clear hF
          obtain ⟨q199, hF⟩ := ck_s hG; clear hG
          obtain ⟨a200, e201, hG⟩ := rf_s hF; clear hF
          obtain ⟨a202, e203, hF⟩ := rf_s hG; clear hG
          obtain ⟨n204, q205, hG⟩ := ar_s hF; clear hF
          obtain ⟨q206, hF⟩ := ck_s hG; clear hG
          obtain ⟨x207, -, hG⟩ := bnd_g hF; clear hF
          obtain ⟨n208, q209, hF⟩ := ar_s hG; clear hG
          obtain ⟨q210, hG⟩ := ck_s hF; clear hF
          obtain ⟨x211, -, hF⟩ := bnd_g hG; clear hG
          have hr := Option.some.inj hF; subst hr
          exact hm
      · clear hG
        have hr := Option.some.inj hF; subst hr
        exact hm
    · clear hF
      obtain ⟨x212, -, hF⟩ := bnd_g hG; clear hG
      obtain ⟨H213, eH213, hG⟩ := bnd_g hF; clear hF
      replace hm : Sa H H213 := by rw [eH213]; exact hm
      obtain ⟨a214, e215, hF⟩ := rf_s hG; clear hG
      obtain ⟨q216, hG⟩ := ck_s hF; clear hF
      obtain ⟨a217, e218, hF⟩ := rf_s hG; clear hG
      obtain ⟨n219, q220, hG⟩ := ar_s hF; clear hF
      obtain ⟨q221, hF⟩ := ck_s hG; clear hG
      obtain ⟨x222, -, hG⟩ := bnd_g hF; clear hF
      rcases ite_s hG with ⟨q_13, hF⟩ | ⟨q_13, hF⟩
      · clear hG
        obtain ⟨a224, e225, hG⟩ := rf_s hF; clear hF
        obtain ⟨q226, hF⟩ := ck_s hG; clear hG
        obtain ⟨a227, e228, hG⟩ := rf_s hF; clear hF
        obtain ⟨a229, e230, hF⟩ := rf_s hG; clear hG
        obtain ⟨n231, q232, hG⟩ := ar_s hF; clear hF
        obtain ⟨q233, hF⟩ := ck_s hG; clear hG
        obtain ⟨x234, -, hG⟩ := bnd_g hF; clear hF
        obtain ⟨n235, q236, hF⟩ := ar_s hG; clear hG
        obtain ⟨q237, hG⟩ := ck_s hF; clear hF
        obtain ⟨x238, -, hF⟩ := bnd_g hG; clear hG
        have hr := Option.some.inj hF; subst hr
        exact hm
      · clear hG
        obtain ⟨a239, e240, hG⟩ := rf_s hF; clear hF
        obtain ⟨n241, q242, hF⟩ := ar_s hG; clear hG
        obtain ⟨q243, hG⟩ := ck_s hF; clear hF
        obtain ⟨x244, -, hF⟩ := bnd_g hG; clear hG
        have hr := Option.some.inj hF; subst hr
        exact hm
  · clear hF
    obtain ⟨a245, e246, hF⟩ := rf_s hG; clear hG
    obtain ⟨n247, q248, hG⟩ := ar_s hF; clear hF
    obtain ⟨q249, hF⟩ := ck_s hG; clear hG
    obtain ⟨x250, -, hG⟩ := bnd_g hF; clear hF
    have hr := Option.some.inj hG; subst hr
    exact hm
set_option maxRecDepth 20000 in
set_option maxHeartbeats 2000000 in
theorem k_MRunner_named {N : Nat} {p0 : Nat} {p1 : Int32} {H : Hp} {r : Int32 × Hp} (hF : F_MRunner_named N p0 p1 H = some r) : ab_M y_MRunner_named { frames := 3, cells := 0, slots := 0, locals := 65 } [.ref p0, .int p1] (hpw H) (po (.returned (some (.int r.1))) r.2) := by
  unfold F_MRunner_named at hF
  refine ab_of2 (lv := [some (.ref p0), some (.int p1), none, none, none]) 3 rfl rfl (Nat.le_of_ble_eq_true rfl) ?_
  refine ab_aload_n d_MRunner_named_0 rfl rfl rfl ?_
  obtain ⟨q1, hG⟩ := ck_s hF; clear hF
  obtain ⟨a2, e3, hF⟩ := rf_s hG; clear hG
  refine hp_getR (f := 0) d_MRunner_named_1 q1 (by decide) rfl (by decide) (k9 183 rfl rfl) rfl e3 ?_
  obtain ⟨q4, hG⟩ := ck_s hF; clear hF
  obtain ⟨a5, e6, hF⟩ := rf_s hG; clear hG
  refine hp_getRN (f := 8) d_MRunner_named_4 q4 (by decide) rfl (by decide) (k8 170 rfl rfl) rfl e6 ?_
  refine ab_iload_n d_MRunner_named_7 rfl rfl ?_
  obtain ⟨n7, q8, hG⟩ := ar_s hF; clear hF
  obtain ⟨q9, hF⟩ := ck_s hG; clear hG
  refine hp_iald d_MRunner_named_8 tI q8 q9 ?_
  refine ab_topi (fun x10 ex10 => ?_)
  replace hF := bnd_s ex10 hF
  refine ab_istore_n (lv' := [some (.ref p0), some (.int p1), some (.int x10), none, none]) d_MRunner_named_9 rfl (by decide) rfl ?_
  refine ab_aload_n d_MRunner_named_10 rfl rfl rfl ?_
  obtain ⟨a11, e12, hG⟩ := rf_s hF; clear hF
  refine hp_getR (f := 0) d_MRunner_named_11 q1 (by decide) rfl (by decide) (k9 183 rfl rfl) rfl e12 ?_
  obtain ⟨q13, hF⟩ := ck_s hG; clear hG
  obtain ⟨a14, e15, hG⟩ := rf_s hF; clear hF
  refine hp_getRN (f := 3) d_MRunner_named_14 q13 (by decide) rfl (by decide) (k8 163 rfl rfl) rfl e15 ?_
  refine ab_aload_n d_MRunner_named_17 rfl rfl rfl ?_
  refine hp_getI (f := 11) d_MRunner_named_18 q1 (by decide) rfl (by decide) (k9 194 rfl rfl) rfl ?_
  refine ab_topi (fun x16 ex16 => ?_)
  replace hG := bnd_s ex16 hG
  obtain ⟨n17, q18, hF⟩ := ar_s hG; clear hG
  obtain ⟨q19, hG⟩ := ck_s hF; clear hF
  refine hp_iald d_MRunner_named_21 tI q18 q19 ?_
  refine ab_topi (fun x20 ex20 => ?_)
  replace hG := bnd_s ex20 hG
  refine ab_bipush (v := 46) d_MRunner_named_22 (by decide) ?_
  refine ab_icmp_eq (tgt := 34) d_MRunner_named_24 (by decide) (fun q21 => ?_) (fun q21 => ?_)
  · rw [if_pos q21] at hG
    refine ab_aload_n d_MRunner_named_34 rfl rfl rfl ?_
    obtain ⟨a22, e23, hF⟩ := rf_s hG; clear hG
    refine hp_getR (f := 0) d_MRunner_named_35 q1 (by decide) rfl (by decide) (k9 183 rfl rfl) rfl e23 ?_
    obtain ⟨q24, hG⟩ := ck_s hF; clear hF
    obtain ⟨a25, e26, hF⟩ := rf_s hG; clear hG
    refine hp_getRN (f := 8) d_MRunner_named_38 q24 (by decide) rfl (by decide) (k8 170 rfl rfl) rfl e26 ?_
    refine ab_aload_n d_MRunner_named_41 rfl rfl rfl ?_
    refine hp_getI (f := 11) d_MRunner_named_42 q1 (by decide) rfl (by decide) (k9 194 rfl rfl) rfl ?_
    refine ab_topi (fun x27 ex27 => ?_)
    replace hF := bnd_s ex27 hF
    refine ab_iconst (v := 1) d_MRunner_named_45 (by decide) ?_
    refine ab_iadd d_MRunner_named_46 ?_
    obtain ⟨n28, q29, hG⟩ := ar_s hF; clear hF
    obtain ⟨q30, hF⟩ := ck_s hG; clear hG
    refine hp_iald d_MRunner_named_47 tI q29 q30 ?_
    refine ab_topi (fun x31 ex31 => ?_)
    replace hF := bnd_s ex31 hF
    refine ab_istore_n (lv' := [some (.ref p0), some (.int p1), some (.int x10), some (.int x31), none]) d_MRunner_named_48 rfl (by decide) rfl ?_
    refine ab_aload_n d_MRunner_named_49 rfl rfl rfl ?_
    obtain ⟨a32, e33, hG⟩ := rf_s hF; clear hF
    refine hp_getR (f := 0) d_MRunner_named_50 q1 (by decide) rfl (by decide) (k9 183 rfl rfl) rfl e33 ?_
    obtain ⟨q34, hF⟩ := ck_s hG; clear hG
    obtain ⟨a35, e36, hG⟩ := rf_s hF; clear hF
    refine hp_getRN (f := 6) d_MRunner_named_53 q34 (by decide) rfl (by decide) (k8 167 rfl rfl) rfl e36 ?_
    refine ab_iload_n d_MRunner_named_56 rfl rfl ?_
    obtain ⟨n37, q38, hF⟩ := ar_s hG; clear hG
    obtain ⟨q39, hG⟩ := ck_s hF; clear hF
    refine hp_iald d_MRunner_named_57 tI q38 q39 ?_
    refine ab_topi (fun x40 ex40 => ?_)
    replace hG := bnd_s ex40 hG
    refine ab_iconst (v := 1) d_MRunner_named_58 (by decide) ?_
    refine ab_icmp_eq (tgt := 113) d_MRunner_named_59 (by decide) (fun q41 => ?_) (fun q41 => ?_)
    · rw [if_pos q41] at hG
      refine ab_aload_n d_MRunner_named_113 rfl rfl rfl ?_
      obtain ⟨a42, e43, hF⟩ := rf_s hG; clear hG
      refine hp_getR (f := 0) d_MRunner_named_114 q1 (by decide) rfl (by decide) (k9 183 rfl rfl) rfl e43 ?_
      obtain ⟨q44, hG⟩ := ck_s hF; clear hF
      obtain ⟨a45, e46, hF⟩ := rf_s hG; clear hG
      refine hp_getRN (f := 8) d_MRunner_named_117 q44 (by decide) rfl (by decide) (k8 170 rfl rfl) rfl e46 ?_
      refine ab_aload_n d_MRunner_named_120 rfl rfl rfl ?_
      refine hp_getI (f := 11) d_MRunner_named_121 q1 (by decide) rfl (by decide) (k9 194 rfl rfl) rfl ?_
      refine ab_topi (fun x47 ex47 => ?_)
      replace hF := bnd_s ex47 hF
      refine ab_iconst (v := 3) d_MRunner_named_124 (by decide) ?_
      refine ab_iadd d_MRunner_named_125 ?_
      obtain ⟨n48, q49, hG⟩ := ar_s hF; clear hF
      obtain ⟨q50, hF⟩ := ck_s hG; clear hG
      refine hp_iald d_MRunner_named_126 tI q49 q50 ?_
      refine ab_topi (fun x51 ex51 => ?_)
      replace hF := bnd_s ex51 hF
      refine ab_istore (lv' := [some (.ref p0), some (.int p1), some (.int x10), some (.int x31), some (.int x51)]) d_MRunner_named_127 (by decide) rfl ?_
      refine ab_aload_n d_MRunner_named_129 rfl rfl rfl ?_
      refine ab_dup d_MRunner_named_130 rfl ?_
      refine hp_getI (f := 11) d_MRunner_named_131 q1 (by decide) rfl (by decide) (k9 194 rfl rfl) rfl ?_
      refine ab_topi (fun x52 ex52 => ?_)
      replace hF := bnd_s ex52 hF
      refine ab_iconst (v := 4) d_MRunner_named_134 (by decide) ?_
      refine ab_iadd d_MRunner_named_135 ?_
      refine hp_putI (v := x52 + (4 : Int32)) (f := 11) d_MRunner_named_136 q1 (by decide) rfl (by decide) (k9 194 rfl rfl) rfl rfl (fun _ => rfl) (fun _ => rfl) rfl ?_
      refine hp_gen (fun H53 eH53 => ?_)
      replace hF := bnd_s eH53 hF
      have s_1 : Sa H H53 := by rw [eH53]; exact Sa.rf _
      refine ab_aload_n d_MRunner_named_139 rfl rfl rfl ?_
      refine hp_getI (f := 12) d_MRunner_named_140 (by rw [(s_1).1]; exact q1) (by decide) rfl (by decide) (k9 195 rfl rfl) rfl ?_
      refine ab_topi (fun x54 ex54 => ?_)
      replace hF := bnd_s ex54 hF
      refine ab_if_le (tgt := 148) d_MRunner_named_143 (by decide) (fun q55 => ?_) (fun q55 => ?_)
      · rw [if_pos q55] at hF
        refine ab_aload_n d_MRunner_named_148 rfl rfl rfl ?_
        obtain ⟨a56, e57, hG⟩ := rf_s hF; clear hF
        refine hp_getR (f := 1) d_MRunner_named_149 (by rw [(s_1).1]; exact q1) (by decide) rfl (by decide) (k9 184 rfl rfl) rfl e57 ?_
        refine ab_aload_n d_MRunner_named_152 rfl rfl rfl ?_
        obtain ⟨a58, e59, hF⟩ := rf_s hG; clear hG
        refine hp_getR (f := 14) d_MRunner_named_153 (by rw [(s_1).1]; exact q1) (by decide) rfl (by decide) (k9 197 rfl rfl) rfl e59 ?_
        refine ab_iload_n d_MRunner_named_156 rfl rfl ?_
        obtain ⟨n60, q61, hG⟩ := ar_s hF; clear hF
        rw [(s_1).1] at q61
        obtain ⟨q62, hF⟩ := ck_s hG; clear hG
        refine hp_iald d_MRunner_named_157 tI (by rw [(s_1).1]; exact q61) q62 ?_
        refine ab_topi (fun x63 ex63 => ?_)
        replace hF := bnd_s ex63 hF
        refine ab_iload_n d_MRunner_named_158 rfl rfl ?_
        obtain ⟨q64, hG⟩ := ck_s hF; clear hF
        rw [(s_1).1] at q64
        obtain ⟨v66, H67, z65, hF⟩ := bC_s hG; clear hG
        refine hp_callV_a (v := .int v66) (H1 := H67) (As := [.int x63, .int x31]) (rest := []) d_MRunner_named_159 (k_MWorld_has z65) (ab_mkC s_MWorld_has (Nat.le_of_ble_eq_true rfl) (Nat.le_of_ble_eq_true rfl) (Nat.le_refl 0) (Nat.le_refl 0)) (k12 46 rfl rfl) i_MWorld_has v_MWorld_has (by rw [(s_1).1]; exact q64) (by decide) rfl rfl (Nat.le_of_ble_eq_true rfl) ?_
        have s_2 : Sa H H67 := (s_1).tr (m_MWorld_has z65)
        refine ab_if_ne (tgt := 172) d_MRunner_named_162 (by decide) (fun q68 => ?_) (fun q68 => ?_)
        · rw [if_neg q68] at hF
          refine ab_aload_n d_MRunner_named_172 rfl rfl rfl ?_
          obtain ⟨a69, e70, hG⟩ := rf_s hF; clear hF
          refine hp_getR (f := 1) d_MRunner_named_173 (by rw [(s_2).1]; exact q1) (by decide) rfl (by decide) (k9 184 rfl rfl) rfl e70 ?_
          obtain ⟨q71, hF⟩ := ck_s hG; clear hG
          rw [(s_2).1] at q71
          obtain ⟨a72, e73, hG⟩ := rf_s hF; clear hF
          refine hp_getRN (f := 7) d_MRunner_named_176 (by rw [(s_2).1]; exact q71) (by decide) rfl (by decide) (k9 109 rfl rfl) rfl e73 ?_
          refine ab_bipush (v := 48) d_MRunner_named_179 (by decide) ?_
          refine ab_aload_n d_MRunner_named_181 rfl rfl rfl ?_
          obtain ⟨a74, e75, hF⟩ := rf_s hG; clear hG
          refine hp_getR (f := 14) d_MRunner_named_182 (by rw [(s_2).1]; exact q1) (by decide) rfl (by decide) (k9 197 rfl rfl) rfl e75 ?_
          refine ab_iload_n d_MRunner_named_185 rfl rfl ?_
          obtain ⟨n76, q77, hG⟩ := ar_s hF; clear hF
          rw [(s_2).1] at q77
          obtain ⟨q78, hF⟩ := ck_s hG; clear hG
          refine hp_iald d_MRunner_named_186 tI (by rw [(s_2).1]; exact q77) q78 ?_
          refine ab_topi (fun x79 ex79 => ?_)
          replace hF := bnd_s ex79 hF
          refine ab_sipush (v := 255) d_MRunner_named_187 (by decide) ?_
          refine ab_iand d_MRunner_named_190 ?_
          refine ab_imul d_MRunner_named_191 ?_
          refine ab_iload d_MRunner_named_192 rfl ?_
          refine ab_iadd d_MRunner_named_194 ?_
          obtain ⟨n80, q81, hG⟩ := ar_s hF; clear hF
          rw [(s_2).1] at q81
          obtain ⟨q82, hF⟩ := ck_s hG; clear hG
          refine hp_iald d_MRunner_named_195 tI (by rw [(s_2).1]; exact q81) q82 ?_
          refine ab_topi (fun x83 ex83 => ?_)
          replace hF := bnd_s ex83 hF
          exact ab_iret d_MRunner_named_196 rfl (Nat.le_refl _) (Nat.le_refl _) (by have hr := Option.some.inj hF; subst hr; exact ⟨rfl, rfl⟩)
        · rw [if_pos q68] at hF
          refine ab_aload_n d_MRunner_named_165 rfl rfl rfl ?_
          refine ab_iconst (v := 3) d_MRunner_named_166 (by decide) ?_
          obtain ⟨v85, H86, z84, hG⟩ := bC_s hF; clear hF
          refine hp_callV_v (H1 := H86) (As := [.int 3]) (rest := []) d_MRunner_named_167 (k_MRunner_fails z84) (ab_mkC s_MRunner_fails (Nat.le_of_ble_eq_true rfl) (Nat.le_of_ble_eq_true rfl) (Nat.le_refl 0) (Nat.le_refl 0)) (k12 2 rfl rfl) i_MRunner_fails v_MRunner_fails (by rw [(s_2).1]; exact q1) (by decide) rfl rfl (Nat.le_of_ble_eq_true rfl) ?_
          have s_3 : Sa H H86 := (s_2).tr (m_MRunner_fails z84)
          refine ab_iconst (v := 0) d_MRunner_named_170 (by decide) ?_
          exact ab_iret d_MRunner_named_171 rfl (Nat.le_refl _) (Nat.le_refl _) (by have hr := Option.some.inj hG; subst hr; exact ⟨rfl, rfl⟩)
      · rw [if_neg q55] at hF
        refine ab_iconst (v := 0) d_MRunner_named_146 (by decide) ?_
        exact ab_iret d_MRunner_named_147 rfl (Nat.le_refl _) (Nat.le_refl _) (by have hr := Option.some.inj hF; subst hr; exact ⟨rfl, rfl⟩)
    · rw [if_neg q41] at hG
      refine ab_aload_n d_MRunner_named_62 rfl rfl rfl ?_
      refine ab_dup d_MRunner_named_63 rfl ?_
      refine hp_getI (f := 11) d_MRunner_named_64 q1 (by decide) rfl (by decide) (k9 194 rfl rfl) rfl ?_
      refine ab_topi (fun x87 ex87 => ?_)
      replace hG := bnd_s ex87 hG
      refine ab_iconst (v := 2) d_MRunner_named_67 (by decide) ?_
      refine ab_iadd d_MRunner_named_68 ?_
      refine hp_putI (v := x87 + (2 : Int32)) (f := 11) d_MRunner_named_69 q1 (by decide) rfl (by decide) (k9 194 rfl rfl) rfl rfl (fun _ => rfl) (fun _ => rfl) rfl ?_
      refine hp_gen (fun H88 eH88 => ?_)
      replace hG := bnd_s eH88 hG
      have s_4 : Sa H H88 := by rw [eH88]; exact Sa.rf _
      refine ab_aload_n d_MRunner_named_72 rfl rfl rfl ?_
      obtain ⟨a89, e90, hF⟩ := rf_s hG; clear hG
      refine hp_getR (f := 0) d_MRunner_named_73 (by rw [(s_4).1]; exact q1) (by decide) rfl (by decide) (k9 183 rfl rfl) rfl e90 ?_
      obtain ⟨q91, hG⟩ := ck_s hF; clear hF
      rw [(s_4).1] at q91
      obtain ⟨a92, e93, hF⟩ := rf_s hG; clear hG
      refine hp_getRN (f := 6) d_MRunner_named_76 (by rw [(s_4).1]; exact q91) (by decide) rfl (by decide) (k8 167 rfl rfl) rfl e93 ?_
      refine ab_iload_n d_MRunner_named_79 rfl rfl ?_
      obtain ⟨n94, q95, hG⟩ := ar_s hF; clear hF
      rw [(s_4).1] at q95
      obtain ⟨q96, hF⟩ := ck_s hG; clear hG
      refine hp_iald d_MRunner_named_80 tI (by rw [(s_4).1]; exact q95) q96 ?_
      refine ab_topi (fun x97 ex97 => ?_)
      replace hF := bnd_s ex97 hF
      refine ab_iconst (v := 3) d_MRunner_named_81 (by decide) ?_
      refine ab_icmp_ne (tgt := 106) d_MRunner_named_82 (by decide) (fun q98 => ?_) (fun q98 => ?_)
      · rw [if_neg q98] at hF
        refine ab_aload_n d_MRunner_named_106 rfl rfl rfl ?_
        obtain ⟨a99, e100, hG⟩ := rf_s hF; clear hF
        refine hp_getR (f := 13) d_MRunner_named_107 (by rw [(s_4).1]; exact q1) (by decide) rfl (by decide) (k9 196 rfl rfl) rfl e100 ?_
        refine ab_iload_n d_MRunner_named_110 rfl rfl ?_
        obtain ⟨n101, q102, hF⟩ := ar_s hG; clear hG
        rw [(s_4).1] at q102
        obtain ⟨q103, hG⟩ := ck_s hF; clear hF
        refine hp_iald d_MRunner_named_111 tI (by rw [(s_4).1]; exact q102) q103 ?_
        refine ab_topi (fun x104 ex104 => ?_)
        replace hG := bnd_s ex104 hG
        exact ab_iret d_MRunner_named_112 rfl (Nat.le_refl _) (Nat.le_refl _) (by have hr := Option.some.inj hG; subst hr; exact ⟨rfl, rfl⟩)
      · rw [if_pos q98] at hF
        refine ab_aload_n d_MRunner_named_85 rfl rfl rfl ?_
        obtain ⟨a105, e106, hG⟩ := rf_s hF; clear hF
        refine hp_getR (f := 1) d_MRunner_named_86 (by rw [(s_4).1]; exact q1) (by decide) rfl (by decide) (k9 184 rfl rfl) rfl e106 ?_
        obtain ⟨q107, hF⟩ := ck_s hG; clear hG
        rw [(s_4).1] at q107
        obtain ⟨a108, e109, hG⟩ := rf_s hF; clear hF
        refine hp_getRN (f := 12) d_MRunner_named_89 (by rw [(s_4).1]; exact q107) (by decide) rfl (by decide) (k9 125 rfl rfl) rfl e109 ?_
        refine ab_iconst (v := 4) d_MRunner_named_92 (by decide) ?_
        refine ab_aload_n d_MRunner_named_93 rfl rfl rfl ?_
        obtain ⟨a110, e111, hF⟩ := rf_s hG; clear hG
        refine hp_getR (f := 15) d_MRunner_named_94 (by rw [(s_4).1]; exact q1) (by decide) rfl (by decide) (k9 198 rfl rfl) rfl e111 ?_
        refine ab_iload_n d_MRunner_named_97 rfl rfl ?_
        obtain ⟨n112, q113, hG⟩ := ar_s hF; clear hF
        rw [(s_4).1] at q113
        obtain ⟨q114, hF⟩ := ck_s hG; clear hG
        refine hp_iald d_MRunner_named_98 tI (by rw [(s_4).1]; exact q113) q114 ?_
        refine ab_topi (fun x115 ex115 => ?_)
        replace hF := bnd_s ex115 hF
        refine ab_imul d_MRunner_named_99 ?_
        refine ab_iload_n d_MRunner_named_100 rfl rfl ?_
        refine ab_iadd d_MRunner_named_101 ?_
        obtain ⟨n116, q117, hG⟩ := ar_s hF; clear hF
        rw [(s_4).1] at q117
        obtain ⟨q118, hF⟩ := ck_s hG; clear hG
        refine hp_iald d_MRunner_named_102 tI (by rw [(s_4).1]; exact q117) q118 ?_
        refine ab_topi (fun x119 ex119 => ?_)
        replace hF := bnd_s ex119 hF
        refine ab_goto (tgt := 112) d_MRunner_named_103 (by decide) ?_
        exact ab_iret d_MRunner_named_112 rfl (Nat.le_refl _) (Nat.le_refl _) (by have hr := Option.some.inj hF; subst hr; exact ⟨rfl, rfl⟩)
  · rw [if_neg q21] at hG
    refine ab_aload_n d_MRunner_named_27 rfl rfl rfl ?_
    obtain ⟨a120, e121, hF⟩ := rf_s hG; clear hG
    refine hp_getR (f := 14) d_MRunner_named_28 q1 (by decide) rfl (by decide) (k9 197 rfl rfl) rfl e121 ?_
    refine ab_iload_n d_MRunner_named_31 rfl rfl ?_
    obtain ⟨n122, q123, hG⟩ := ar_s hF; clear hF
    obtain ⟨q124, hF⟩ := ck_s hG; clear hG
    refine hp_iald d_MRunner_named_32 tI q123 q124 ?_
    refine ab_topi (fun x125 ex125 => ?_)
    replace hF := bnd_s ex125 hF
    exact ab_iret d_MRunner_named_33 rfl (Nat.le_refl _) (Nat.le_refl _) (by have hr := Option.some.inj hF; subst hr; exact ⟨rfl, rfl⟩)
def y_MRunner_drawn : ab_Y := (⟨"WorldEngineModel$Runner", "drawn", "(I)I"⟩, prog_15_method_32_code, 4, (some FieldType.int), [])
theorem d_MRunner_drawn_0 : decode y_MRunner_drawn.2.1 0 = .ok (.iload_n 1, 1) := by decide +kernel
theorem d_MRunner_drawn_1 : decode y_MRunner_drawn.2.1 1 = .ok (.iconst 1, 1) := by decide +kernel
theorem d_MRunner_drawn_2 : decode y_MRunner_drawn.2.1 2 = .ok (.if_icmp .ge 11, 3) := by decide +kernel
theorem d_MRunner_drawn_5 : decode y_MRunner_drawn.2.1 5 = .ok (.aload_n 0, 1) := by decide +kernel
theorem d_MRunner_drawn_6 : decode y_MRunner_drawn.2.1 6 = .ok (.bipush 7, 2) := by decide +kernel
theorem d_MRunner_drawn_8 : decode y_MRunner_drawn.2.1 8 = .ok (.invokevirtual 118, 3) := by decide +kernel
theorem d_MRunner_drawn_11 : decode y_MRunner_drawn.2.1 11 = .ok (.iconst 0, 1) := by decide +kernel
theorem d_MRunner_drawn_12 : decode y_MRunner_drawn.2.1 12 = .ok (.ireturn, 1) := by decide +kernel
theorem d_MRunner_drawn_13 : decode y_MRunner_drawn.2.1 13 = .ok (.aload_n 0, 1) := by decide +kernel
theorem d_MRunner_drawn_14 : decode y_MRunner_drawn.2.1 14 = .ok (.getfield 29, 3) := by decide +kernel
theorem d_MRunner_drawn_17 : decode y_MRunner_drawn.2.1 17 = .ok (.getfield 294, 3) := by decide +kernel
theorem d_MRunner_drawn_20 : decode y_MRunner_drawn.2.1 20 = .ok (.istore_n 2, 1) := by decide +kernel
theorem d_MRunner_drawn_21 : decode y_MRunner_drawn.2.1 21 = .ok (.iconst 0, 1) := by decide +kernel
theorem d_MRunner_drawn_22 : decode y_MRunner_drawn.2.1 22 = .ok (.istore_n 3, 1) := by decide +kernel
theorem d_MRunner_drawn_23 : decode y_MRunner_drawn.2.1 23 = .ok (.iload_n 3, 1) := by decide +kernel
theorem d_MRunner_drawn_24 : decode y_MRunner_drawn.2.1 24 = .ok (.iconst 4, 1) := by decide +kernel
theorem d_MRunner_drawn_25 : decode y_MRunner_drawn.2.1 25 = .ok (.if_icmp .ge 65, 3) := by decide +kernel
theorem d_MRunner_drawn_28 : decode y_MRunner_drawn.2.1 28 = .ok (.iload_n 2, 1) := by decide +kernel
theorem d_MRunner_drawn_29 : decode y_MRunner_drawn.2.1 29 = .ok (.iload_n 3, 1) := by decide +kernel
theorem d_MRunner_drawn_30 : decode y_MRunner_drawn.2.1 30 = .ok (.ifCond .ne 13, 3) := by decide +kernel
theorem d_MRunner_drawn_33 : decode y_MRunner_drawn.2.1 33 = .ok (.aload_n 0, 1) := by decide +kernel
theorem d_MRunner_drawn_34 : decode y_MRunner_drawn.2.1 34 = .ok (.getfield 29, 3) := by decide +kernel
theorem d_MRunner_drawn_37 : decode y_MRunner_drawn.2.1 37 = .ok (.getfield 36, 3) := by decide +kernel
theorem d_MRunner_drawn_40 : decode y_MRunner_drawn.2.1 40 = .ok (.goto 31, 3) := by decide +kernel
theorem d_MRunner_drawn_43 : decode y_MRunner_drawn.2.1 43 = .ok (.iload_n 3, 1) := by decide +kernel
theorem d_MRunner_drawn_44 : decode y_MRunner_drawn.2.1 44 = .ok (.iconst 1, 1) := by decide +kernel
theorem d_MRunner_drawn_45 : decode y_MRunner_drawn.2.1 45 = .ok (.if_icmp .ne 10, 3) := by decide +kernel
theorem d_MRunner_drawn_48 : decode y_MRunner_drawn.2.1 48 = .ok (.aload_n 0, 1) := by decide +kernel
theorem d_MRunner_drawn_49 : decode y_MRunner_drawn.2.1 49 = .ok (.getfield 84, 3) := by decide +kernel
theorem d_MRunner_drawn_52 : decode y_MRunner_drawn.2.1 52 = .ok (.goto 19, 3) := by decide +kernel
theorem d_MRunner_drawn_55 : decode y_MRunner_drawn.2.1 55 = .ok (.iload_n 3, 1) := by decide +kernel
theorem d_MRunner_drawn_56 : decode y_MRunner_drawn.2.1 56 = .ok (.iconst 2, 1) := by decide +kernel
theorem d_MRunner_drawn_57 : decode y_MRunner_drawn.2.1 57 = .ok (.if_icmp .ne 10, 3) := by decide +kernel
theorem d_MRunner_drawn_60 : decode y_MRunner_drawn.2.1 60 = .ok (.aload_n 0, 1) := by decide +kernel
theorem d_MRunner_drawn_61 : decode y_MRunner_drawn.2.1 61 = .ok (.getfield 77, 3) := by decide +kernel
theorem d_MRunner_drawn_64 : decode y_MRunner_drawn.2.1 64 = .ok (.goto 7, 3) := by decide +kernel
theorem d_MRunner_drawn_67 : decode y_MRunner_drawn.2.1 67 = .ok (.aload_n 0, 1) := by decide +kernel
theorem d_MRunner_drawn_68 : decode y_MRunner_drawn.2.1 68 = .ok (.getfield 93, 3) := by decide +kernel
theorem d_MRunner_drawn_71 : decode y_MRunner_drawn.2.1 71 = .ok (.ixor, 1) := by decide +kernel
theorem d_MRunner_drawn_72 : decode y_MRunner_drawn.2.1 72 = .ok (.ldc_w 297, 3) := by decide +kernel
theorem d_MRunner_drawn_75 : decode y_MRunner_drawn.2.1 75 = .ok (.imul, 1) := by decide +kernel
theorem d_MRunner_drawn_76 : decode y_MRunner_drawn.2.1 76 = .ok (.istore_n 2, 1) := by decide +kernel
theorem d_MRunner_drawn_77 : decode y_MRunner_drawn.2.1 77 = .ok (.iload_n 2, 1) := by decide +kernel
theorem d_MRunner_drawn_78 : decode y_MRunner_drawn.2.1 78 = .ok (.iload_n 2, 1) := by decide +kernel
theorem d_MRunner_drawn_79 : decode y_MRunner_drawn.2.1 79 = .ok (.bipush 15, 2) := by decide +kernel
theorem d_MRunner_drawn_81 : decode y_MRunner_drawn.2.1 81 = .ok (.iushr, 1) := by decide +kernel
theorem d_MRunner_drawn_82 : decode y_MRunner_drawn.2.1 82 = .ok (.ixor, 1) := by decide +kernel
theorem d_MRunner_drawn_83 : decode y_MRunner_drawn.2.1 83 = .ok (.istore_n 2, 1) := by decide +kernel
theorem d_MRunner_drawn_84 : decode y_MRunner_drawn.2.1 84 = .ok (.iinc 3 1, 3) := by decide +kernel
theorem d_MRunner_drawn_87 : decode y_MRunner_drawn.2.1 87 = .ok (.goto (-64), 3) := by decide +kernel
theorem d_MRunner_drawn_90 : decode y_MRunner_drawn.2.1 90 = .ok (.aload_n 0, 1) := by decide +kernel
theorem d_MRunner_drawn_91 : decode y_MRunner_drawn.2.1 91 = .ok (.dup, 1) := by decide +kernel
theorem d_MRunner_drawn_92 : decode y_MRunner_drawn.2.1 92 = .ok (.getfield 93, 3) := by decide +kernel
theorem d_MRunner_drawn_95 : decode y_MRunner_drawn.2.1 95 = .ok (.iconst 1, 1) := by decide +kernel
theorem d_MRunner_drawn_96 : decode y_MRunner_drawn.2.1 96 = .ok (.iadd, 1) := by decide +kernel
theorem d_MRunner_drawn_97 : decode y_MRunner_drawn.2.1 97 = .ok (.putfield 93, 3) := by decide +kernel
theorem d_MRunner_drawn_100 : decode y_MRunner_drawn.2.1 100 = .ok (.iload_n 2, 1) := by decide +kernel
theorem d_MRunner_drawn_101 : decode y_MRunner_drawn.2.1 101 = .ok (.ldc_w 300, 3) := by decide +kernel
theorem d_MRunner_drawn_104 : decode y_MRunner_drawn.2.1 104 = .ok (.iand, 1) := by decide +kernel
theorem d_MRunner_drawn_105 : decode y_MRunner_drawn.2.1 105 = .ok (.iload_n 1, 1) := by decide +kernel
theorem d_MRunner_drawn_106 : decode y_MRunner_drawn.2.1 106 = .ok (.irem, 1) := by decide +kernel
theorem d_MRunner_drawn_107 : decode y_MRunner_drawn.2.1 107 = .ok (.ireturn, 1) := by decide +kernel
theorem s_MRunner_drawn : ab_Stat y_MRunner_drawn 1 := ⟨(k12 64 rfl rfl), (k1 22 rfl rfl), ⟨by decide, by decide⟩, by decide +kernel⟩
theorem i_MRunner_drawn : Cond.instanceMethod y_MRunner_drawn.1 ∈ ab_T := (k12 63 rfl rfl)
theorem v_MRunner_drawn : Cond.selects "WorldEngineModel$Runner" y_MRunner_drawn.1 y_MRunner_drawn.1 ∈ ab_T := ab_s (List.mem_of_getElem? (i := 191) rfl) rfl
def B_MRunner_drawn_71 (N : Nat) (p0 : Nat) (p1 : Int32) (kq23 : Int32 → Int32 → Hp → Option (Int32 × Hp)) (l3 : Int32) (w0 : Int32) (w1 : Int32) (H : Hp) : Option (Int32 × Hp) :=
    bnd (((w0 ^^^ w1) * ((-1640531535) : Int32))) fun x18 =>
    bnd (((x18.toUInt32 >>> (((15 : Int32) : Int32).toUInt32 &&& Int32.toUInt32 31)).toInt32)) fun x19 =>
    bnd ((x18 ^^^ x19)) fun x20 =>
    kq23 x20 (l3 + 1) H
set_option maxRecDepth 20000 in
set_option maxHeartbeats 2000000 in
theorem mB_MRunner_drawn_71 {N : Nat} {p0 : Nat} {p1 : Int32} {kq23 : Int32 → Int32 → Hp → Option (Int32 × Hp)} (hm23 : ∀ (l2 : Int32) (l3 : Int32) (H : Hp) (r : Int32 × Hp), kq23 l2 l3 H = some r → Sa H r.2) {l3 : Int32} {w0 : Int32} {w1 : Int32} {H : Hp} {r : Int32 × Hp} (hF : B_MRunner_drawn_71 N p0 p1 kq23 l3 w0 w1 H = some r) : Sa H r.2 := by
  unfold B_MRunner_drawn_71 at hF
  have hm := Sa.rf H
  obtain ⟨x21, -, hG⟩ := bnd_g hF; clear hF
  obtain ⟨x22, -, hF⟩ := bnd_g hG; clear hG
  obtain ⟨x23, -, hG⟩ := bnd_g hF; clear hF
  exact hm.tr (hm23 x23 (l3 + 1) H r hG)
set_option maxRecDepth 20000 in
set_option maxHeartbeats 2000000 in
theorem kB_MRunner_drawn_71 {N : Nat} {p0 : Nat} {p1 : Int32} {kq23 : Int32 → Int32 → Hp → Option (Int32 × Hp)} (hm23 : ∀ (l2 : Int32) (l3 : Int32) (H : Hp) (r : Int32 × Hp), kq23 l2 l3 H = some r → Sa H r.2) (hk23 : ∀ (l2 : Int32) (l3 : Int32) (H : Hp) (r : Int32 × Hp), kq23 l2 l3 H = some r → ab_V y_MRunner_drawn { frames := 1, cells := 0, slots := 0, locals := 21 } (po (.returned (some (.int r.1))) r.2) 0 0 0 0 23 [some (.ref p0), some (.int p1), some (.int l2), some (.int l3)] [] (hpw H)) {l3 : Int32} {w0 : Int32} {w1 : Int32} {H : Hp} {r : Int32 × Hp} (hF : B_MRunner_drawn_71 N p0 p1 kq23 l3 w0 w1 H = some r) : ab_V y_MRunner_drawn { frames := 1, cells := 0, slots := 0, locals := 21 } (po (.returned (some (.int r.1))) r.2) 0 0 0 0 71 [some (.ref p0), some (.int p1), none, some (.int l3)] [.int w1, .int w0] (hpw H) := by
  unfold B_MRunner_drawn_71 at hF
  refine ab_ixor d_MRunner_drawn_71 ?_
  refine ab_ldcw d_MRunner_drawn_72 (k12 65 rfl rfl) ?_
  refine ab_imul d_MRunner_drawn_75 ?_
  refine ab_topi (fun x18 ex18 => ?_)
  replace hF := bnd_s ex18 hF
  refine ab_istore_n (lv' := [some (.ref p0), some (.int p1), some (.int x18), some (.int l3)]) d_MRunner_drawn_76 rfl (by decide) rfl ?_
  refine ab_iload_n d_MRunner_drawn_77 rfl rfl ?_
  refine ab_iload_n d_MRunner_drawn_78 rfl rfl ?_
  refine ab_bipush (v := 15) d_MRunner_drawn_79 (by decide) ?_
  refine ab_iushr d_MRunner_drawn_81 ?_
  refine ab_topi (fun x19 ex19 => ?_)
  replace hF := bnd_s ex19 hF
  refine ab_ixor d_MRunner_drawn_82 ?_
  refine ab_topi (fun x20 ex20 => ?_)
  replace hF := bnd_s ex20 hF
  refine ab_istore_n (lv' := [some (.ref p0), some (.int p1), some (.int x20), some (.int l3)]) d_MRunner_drawn_83 rfl (by decide) rfl ?_
  refine ab_iinc (v := l3 + 1) (lv' := [some (.ref p0), some (.int p1), some (.int x20), some (.int (l3 + 1))]) d_MRunner_drawn_84 rfl rfl (by decide) rfl ?_
  refine ab_goto (tgt := 23) d_MRunner_drawn_87 (by decide) ?_
  exact hk23 x20 (l3 + 1) H r hF
def B_MRunner_drawn_23 (N : Nat) (p0 : Nat) (p1 : Int32) : Nat → Int32 → Int32 → Hp → Option (Int32 × Hp)
  | 0, _, _, _ => none
  | n + 1, l2, l3, H =>
    if (4 : Int32) ≤ l3 then
    ck (H.sh[p0]? = some (15, 0)) <|
    bnd ((H.D p0 9)) fun x9 =>
    bnd (H.sD p0 9 (x9 + (1 : Int32))) fun H10 =>
    ck (¬ p1 = 0) <|
    bnd (((l2 &&& (2147483647 : Int32)) - (l2 &&& (2147483647 : Int32)) / p1 * p1)) fun x12 =>
    some (x12, H10)
    else
    if l3 = (0 : Int32) then
    ck (H.sh[p0]? = some (15, 0)) <|
    rf (H.P p0 1) fun a29 =>
    ck (H.sh[a29]? = some (13, 0)) <|
    bnd ((H.D a29 0)) fun x32 =>
    B_MRunner_drawn_71 N p0 p1 (fun l2 l3 H => B_MRunner_drawn_23 N p0 p1 n l2 l3 H) l3 l2 x32 H
    else
    if l3 = (1 : Int32) then
    ck (H.sh[p0]? = some (15, 0)) <|
    bnd ((H.D p0 6)) fun x27 =>
    B_MRunner_drawn_71 N p0 p1 (fun l2 l3 H => B_MRunner_drawn_23 N p0 p1 n l2 l3 H) l3 l2 x27 H
    else
    if l3 = (2 : Int32) then
    ck (H.sh[p0]? = some (15, 0)) <|
    bnd ((H.D p0 5)) fun x25 =>
    B_MRunner_drawn_71 N p0 p1 (fun l2 l3 H => B_MRunner_drawn_23 N p0 p1 n l2 l3 H) l3 l2 x25 H
    else
    ck (H.sh[p0]? = some (15, 0)) <|
    bnd ((H.D p0 9)) fun x17 =>
    B_MRunner_drawn_71 N p0 p1 (fun l2 l3 H => B_MRunner_drawn_23 N p0 p1 n l2 l3 H) l3 l2 x17 H
termination_by structural n => n
set_option maxRecDepth 20000 in
set_option maxHeartbeats 2000000 in
theorem mB_MRunner_drawn_23 {N : Nat} {p0 : Nat} {p1 : Int32} : ∀ (n : Nat) (l2 : Int32) (l3 : Int32) (H : Hp) (r : Int32 × Hp), B_MRunner_drawn_23 N p0 p1 n l2 l3 H = some r → Sa H r.2 := by
  intro n
  induction n with
  | zero => intro l2 l3 H r hF; rw [B_MRunner_drawn_23] at hF; cases hF
  | succ n ih =>
    intro l2 l3 H r hF
    rw [B_MRunner_drawn_23] at hF
    have hm := Sa.rf H
    rcases ite_s hF with ⟨q_2, hG⟩ | ⟨q_2, hG⟩
    · clear hF
      obtain ⟨q34, hF⟩ := ck_s hG; clear hG
      obtain ⟨x35, -, hG⟩ := bnd_g hF; clear hF
      obtain ⟨H36, eH36, hF⟩ := bnd_g hG; clear hG
      replace hm : Sa H H36 := by rw [eH36]; exact hm
      obtain ⟨q37, hG⟩ := ck_s hF; clear hF
      obtain ⟨x38, -, hF⟩ := bnd_g hG; clear hG
      have hr := Option.some.inj hF; subst hr
      exact hm
    · clear hF
      rcases ite_s hG with ⟨q_4, hF⟩ | ⟨q_4, hF⟩
      · clear hG
        obtain ⟨q40, hG⟩ := ck_s hF; clear hF
        obtain ⟨a41, e42, hF⟩ := rf_s hG; clear hG
        obtain ⟨q43, hG⟩ := ck_s hF; clear hF
        obtain ⟨x44, -, hF⟩ := bnd_g hG; clear hG
        exact hm.tr (mB_MRunner_drawn_71 ih hF)
      · clear hG
        rcases ite_s hF with ⟨q_5, hG⟩ | ⟨q_5, hG⟩
        · clear hF
          obtain ⟨q46, hF⟩ := ck_s hG; clear hG
          obtain ⟨x47, -, hG⟩ := bnd_g hF; clear hF
          exact hm.tr (mB_MRunner_drawn_71 ih hG)
        · clear hF
          rcases ite_s hG with ⟨q_6, hF⟩ | ⟨q_6, hF⟩
          · clear hG
            obtain ⟨q49, hG⟩ := ck_s hF; clear hF
            obtain ⟨x50, -, hF⟩ := bnd_g hG; clear hG
            exact hm.tr (mB_MRunner_drawn_71 ih hF)
          · clear hG
            obtain ⟨q51, hG⟩ := ck_s hF; clear hF
            obtain ⟨x52, -, hF⟩ := bnd_g hG; clear hG
            exact hm.tr (mB_MRunner_drawn_71 ih hF)
set_option maxRecDepth 20000 in
set_option maxHeartbeats 2000000 in
theorem kB_MRunner_drawn_23 {N : Nat} {p0 : Nat} {p1 : Int32} : ∀ (n : Nat) (l2 : Int32) (l3 : Int32) (H : Hp) (r : Int32 × Hp), B_MRunner_drawn_23 N p0 p1 n l2 l3 H = some r → ab_V y_MRunner_drawn { frames := 1, cells := 0, slots := 0, locals := 21 } (po (.returned (some (.int r.1))) r.2) 0 0 0 0 23 [some (.ref p0), some (.int p1), some (.int l2), some (.int l3)] [] (hpw H) := by
  intro n
  induction n with
  | zero => intro l2 l3 H r hF; rw [B_MRunner_drawn_23] at hF; cases hF
  | succ n ih =>
    intro l2 l3 H r hF
    rw [B_MRunner_drawn_23] at hF
    refine ab_iload_n d_MRunner_drawn_23 rfl rfl ?_
    refine ab_iconst (v := 4) d_MRunner_drawn_24 (by decide) ?_
    refine ab_icmp_ge (tgt := 90) d_MRunner_drawn_25 (by decide) (fun q7 => ?_) (fun q7 => ?_)
    · rw [if_pos q7] at hF
      refine ab_aload_n d_MRunner_drawn_90 rfl rfl rfl ?_
      refine ab_dup d_MRunner_drawn_91 rfl ?_
      obtain ⟨q8, hG⟩ := ck_s hF; clear hF
      refine hp_getI (f := 9) d_MRunner_drawn_92 q8 (by decide) rfl (by decide) (k9 192 rfl rfl) rfl ?_
      refine ab_topi (fun x9 ex9 => ?_)
      replace hG := bnd_s ex9 hG
      refine ab_iconst (v := 1) d_MRunner_drawn_95 (by decide) ?_
      refine ab_iadd d_MRunner_drawn_96 ?_
      refine hp_putI (v := x9 + (1 : Int32)) (f := 9) d_MRunner_drawn_97 q8 (by decide) rfl (by decide) (k9 192 rfl rfl) rfl rfl (fun _ => rfl) (fun _ => rfl) rfl ?_
      refine hp_gen (fun H10 eH10 => ?_)
      replace hG := bnd_s eH10 hG
      have s_1 : Sa H H10 := by rw [eH10]; exact Sa.rf _
      refine ab_iload_n d_MRunner_drawn_100 rfl rfl ?_
      refine ab_ldcw d_MRunner_drawn_101 (k12 66 rfl rfl) ?_
      refine ab_iand d_MRunner_drawn_104 ?_
      refine ab_iload_n d_MRunner_drawn_105 rfl rfl ?_
      obtain ⟨q11, hF⟩ := ck_s hG; clear hG
      refine ab_irem d_MRunner_drawn_106 q11 ?_
      refine ab_topi (fun x12 ex12 => ?_)
      replace hF := bnd_s ex12 hF
      exact ab_iret d_MRunner_drawn_107 rfl (Nat.le_refl _) (Nat.le_refl _) (by have hr := Option.some.inj hF; subst hr; exact ⟨rfl, rfl⟩)
    · rw [if_neg q7] at hF
      refine ab_iload_n d_MRunner_drawn_28 rfl rfl ?_
      refine ab_iload_n d_MRunner_drawn_29 rfl rfl ?_
      refine ab_if_ne (tgt := 43) d_MRunner_drawn_30 (by decide) (fun q13 => ?_) (fun q13 => ?_)
      · rw [if_neg q13] at hF
        refine ab_iload_n d_MRunner_drawn_43 rfl rfl ?_
        refine ab_iconst (v := 1) d_MRunner_drawn_44 (by decide) ?_
        refine ab_icmp_ne (tgt := 55) d_MRunner_drawn_45 (by decide) (fun q14 => ?_) (fun q14 => ?_)
        · rw [if_neg q14] at hF
          refine ab_iload_n d_MRunner_drawn_55 rfl rfl ?_
          refine ab_iconst (v := 2) d_MRunner_drawn_56 (by decide) ?_
          refine ab_icmp_ne (tgt := 67) d_MRunner_drawn_57 (by decide) (fun q15 => ?_) (fun q15 => ?_)
          · rw [if_neg q15] at hF
            refine ab_aload_n d_MRunner_drawn_67 rfl rfl rfl ?_
            obtain ⟨q16, hG⟩ := ck_s hF; clear hF
            refine hp_getI (f := 9) d_MRunner_drawn_68 q16 (by decide) rfl (by decide) (k9 192 rfl rfl) rfl ?_
            refine ab_topi (fun x17 ex17 => ?_)
            replace hG := bnd_s ex17 hG
            refine ab_le (lv' := [some (.ref p0), some (.int p1), none, some (.int l3)]) ⟨rfl, ⟨rfl, ⟨rfl, trivial⟩⟩⟩ ?_
            exact kB_MRunner_drawn_71 (mB_MRunner_drawn_23 n) ih hG
          · rw [if_pos q15] at hF
            refine ab_aload_n d_MRunner_drawn_60 rfl rfl rfl ?_
            obtain ⟨q24, hG⟩ := ck_s hF; clear hF
            refine hp_getI (f := 5) d_MRunner_drawn_61 q24 (by decide) rfl (by decide) (k9 188 rfl rfl) rfl ?_
            refine ab_topi (fun x25 ex25 => ?_)
            replace hG := bnd_s ex25 hG
            refine ab_goto (tgt := 71) d_MRunner_drawn_64 (by decide) ?_
            refine ab_le (lv' := [some (.ref p0), some (.int p1), none, some (.int l3)]) ⟨rfl, ⟨rfl, ⟨rfl, trivial⟩⟩⟩ ?_
            exact kB_MRunner_drawn_71 (mB_MRunner_drawn_23 n) ih hG
        · rw [if_pos q14] at hF
          refine ab_aload_n d_MRunner_drawn_48 rfl rfl rfl ?_
          obtain ⟨q26, hG⟩ := ck_s hF; clear hF
          refine hp_getI (f := 6) d_MRunner_drawn_49 q26 (by decide) rfl (by decide) (k9 189 rfl rfl) rfl ?_
          refine ab_topi (fun x27 ex27 => ?_)
          replace hG := bnd_s ex27 hG
          refine ab_goto (tgt := 71) d_MRunner_drawn_52 (by decide) ?_
          refine ab_le (lv' := [some (.ref p0), some (.int p1), none, some (.int l3)]) ⟨rfl, ⟨rfl, ⟨rfl, trivial⟩⟩⟩ ?_
          exact kB_MRunner_drawn_71 (mB_MRunner_drawn_23 n) ih hG
      · rw [if_pos q13] at hF
        refine ab_aload_n d_MRunner_drawn_33 rfl rfl rfl ?_
        obtain ⟨q28, hG⟩ := ck_s hF; clear hF
        obtain ⟨a29, e30, hF⟩ := rf_s hG; clear hG
        refine hp_getR (f := 1) d_MRunner_drawn_34 q28 (by decide) rfl (by decide) (k9 184 rfl rfl) rfl e30 ?_
        obtain ⟨q31, hG⟩ := ck_s hF; clear hF
        refine hp_getIN (f := 0) d_MRunner_drawn_37 q31 (by decide) rfl (by decide) (k9 88 rfl rfl) rfl ?_
        refine ab_topi (fun x32 ex32 => ?_)
        replace hG := bnd_s ex32 hG
        refine ab_goto (tgt := 71) d_MRunner_drawn_40 (by decide) ?_
        refine ab_le (lv' := [some (.ref p0), some (.int p1), none, some (.int l3)]) ⟨rfl, ⟨rfl, ⟨rfl, trivial⟩⟩⟩ ?_
        exact kB_MRunner_drawn_71 (mB_MRunner_drawn_23 n) ih hG
def F_MRunner_drawn (N : Nat) (p0 : Nat) (p1 : Int32) (H : Hp) : Option (Int32 × Hp) :=
    if (1 : Int32) ≤ p1 then
    ck (H.sh[p0]? = some (15, 0)) <|
    rf (H.P p0 1) fun a3 =>
    ck (H.sh[a3]? = some (13, 0)) <|
    bnd ((H.D a3 1)) fun x6 =>
    B_MRunner_drawn_23 N p0 p1 N x6 0 H
    else
    ck (H.sh[p0]? = some (15, 0)) <|
    bC (F_MRunner_fails N p0 (7 : Int32) H) fun v55 H56 =>
    some (0, H56)
set_option maxRecDepth 20000 in
set_option maxHeartbeats 2000000 in
theorem m_MRunner_drawn {N : Nat} {p0 : Nat} {p1 : Int32} {H : Hp} {r : Int32 × Hp} (hF : F_MRunner_drawn N p0 p1 H = some r) : Sa H r.2 := by
  unfold F_MRunner_drawn at hF
  have hm := Sa.rf H
  rcases ite_s hF with ⟨q_8, hG⟩ | ⟨q_8, hG⟩
  · clear hF
    obtain ⟨q58, hF⟩ := ck_s hG; clear hG
    obtain ⟨a59, e60, hG⟩ := rf_s hF; clear hF
    obtain ⟨q61, hF⟩ := ck_s hG; clear hG
    obtain ⟨x62, -, hG⟩ := bnd_g hF; clear hF
    exact hm.tr (mB_MRunner_drawn_23 N x62 0 H r hG)
  · clear hF
    obtain ⟨q63, hF⟩ := ck_s hG; clear hG
    obtain ⟨v65, H66, z64, hG⟩ := bC_s hF; clear hF
    replace hm : Sa H H66 := hm.tr (m_MRunner_fails z64)
    have hr := Option.some.inj hG; subst hr
    exact hm
set_option maxRecDepth 20000 in
set_option maxHeartbeats 2000000 in
theorem k_MRunner_drawn {N : Nat} {p0 : Nat} {p1 : Int32} {H : Hp} {r : Int32 × Hp} (hF : F_MRunner_drawn N p0 p1 H = some r) : ab_M y_MRunner_drawn { frames := 1, cells := 0, slots := 0, locals := 21 } [.ref p0, .int p1] (hpw H) (po (.returned (some (.int r.1))) r.2) := by
  unfold F_MRunner_drawn at hF
  refine ab_of2 (lv := [some (.ref p0), some (.int p1), none, none]) 2 rfl rfl (Nat.le_of_ble_eq_true rfl) ?_
  refine ab_iload_n d_MRunner_drawn_0 rfl rfl ?_
  refine ab_iconst (v := 1) d_MRunner_drawn_1 (by decide) ?_
  refine ab_icmp_ge (tgt := 13) d_MRunner_drawn_2 (by decide) (fun q1 => ?_) (fun q1 => ?_)
  · rw [if_pos q1] at hF
    refine ab_aload_n d_MRunner_drawn_13 rfl rfl rfl ?_
    obtain ⟨q2, hG⟩ := ck_s hF; clear hF
    obtain ⟨a3, e4, hF⟩ := rf_s hG; clear hG
    refine hp_getR (f := 1) d_MRunner_drawn_14 q2 (by decide) rfl (by decide) (k9 184 rfl rfl) rfl e4 ?_
    obtain ⟨q5, hG⟩ := ck_s hF; clear hF
    refine hp_getIN (f := 1) d_MRunner_drawn_17 q5 (by decide) rfl (by decide) (k9 92 rfl rfl) rfl ?_
    refine ab_topi (fun x6 ex6 => ?_)
    replace hG := bnd_s ex6 hG
    refine ab_istore_n (lv' := [some (.ref p0), some (.int p1), some (.int x6), none]) d_MRunner_drawn_20 rfl (by decide) rfl ?_
    refine ab_iconst (v := 0) d_MRunner_drawn_21 (by decide) ?_
    refine ab_istore_n (lv' := [some (.ref p0), some (.int p1), some (.int x6), some (.int 0)]) d_MRunner_drawn_22 rfl (by decide) rfl ?_
    exact kB_MRunner_drawn_23 N x6 0 H r hG
  · rw [if_neg q1] at hF
    refine ab_aload_n d_MRunner_drawn_5 rfl rfl rfl ?_
    refine ab_bipush (v := 7) d_MRunner_drawn_6 (by decide) ?_
    obtain ⟨q53, hG⟩ := ck_s hF; clear hF
    obtain ⟨v55, H56, z54, hF⟩ := bC_s hG; clear hG
    refine hp_callV_v (H1 := H56) (As := [.int 7]) (rest := []) d_MRunner_drawn_8 (k_MRunner_fails z54) (ab_mkC s_MRunner_fails (Nat.le_of_ble_eq_true rfl) (Nat.le_of_ble_eq_true rfl) (Nat.le_refl 0) (Nat.le_refl 0)) (k12 2 rfl rfl) i_MRunner_fails v_MRunner_fails q53 (by decide) rfl rfl (Nat.le_of_ble_eq_true rfl) ?_
    have s_7 : Sa H H56 := (m_MRunner_fails z54)
    refine ab_iconst (v := 0) d_MRunner_drawn_11 (by decide) ?_
    exact ab_iret d_MRunner_drawn_12 rfl (Nat.le_refl _) (Nat.le_refl _) (by have hr := Option.some.inj hF; subst hr; exact ⟨rfl, rfl⟩)
