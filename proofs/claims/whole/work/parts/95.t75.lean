def y_M_getsPlaces : ab_Y := (⟨"WorldEngineModel", "getsPlaces", "(LWorldEngineModel$World;)V"⟩, prog_14_method_54_code, 5, none, [])
theorem d_M_getsPlaces_0 : decode y_M_getsPlaces.2.1 0 = .ok (.iconst 0, 1) := by decide +kernel
theorem d_M_getsPlaces_1 : decode y_M_getsPlaces.2.1 1 = .ok (.istore_n 2, 1) := by decide +kernel
theorem d_M_getsPlaces_2 : decode y_M_getsPlaces.2.1 2 = .ok (.iload_n 2, 1) := by decide +kernel
theorem d_M_getsPlaces_3 : decode y_M_getsPlaces.2.1 3 = .ok (.sipush 256, 3) := by decide +kernel
theorem d_M_getsPlaces_6 : decode y_M_getsPlaces.2.1 6 = .ok (.if_icmp .ge 174, 3) := by decide +kernel
theorem d_M_getsPlaces_9 : decode y_M_getsPlaces.2.1 9 = .ok (.aload_n 1, 1) := by decide +kernel
theorem d_M_getsPlaces_10 : decode y_M_getsPlaces.2.1 10 = .ok (.getfield 347, 3) := by decide +kernel
theorem d_M_getsPlaces_13 : decode y_M_getsPlaces.2.1 13 = .ok (.iload_n 2, 1) := by decide +kernel
theorem d_M_getsPlaces_14 : decode y_M_getsPlaces.2.1 14 = .ok (.aload_n 0, 1) := by decide +kernel
theorem d_M_getsPlaces_15 : decode y_M_getsPlaces.2.1 15 = .ok (.iconst 4, 1) := by decide +kernel
theorem d_M_getsPlaces_16 : decode y_M_getsPlaces.2.1 16 = .ok (.iconst 0, 1) := by decide +kernel
theorem d_M_getsPlaces_17 : decode y_M_getsPlaces.2.1 17 = .ok (.ldc_w 367, 3) := by decide +kernel
theorem d_M_getsPlaces_20 : decode y_M_getsPlaces.2.1 20 = .ok (.invokevirtual 359, 3) := by decide +kernel
theorem d_M_getsPlaces_23 : decode y_M_getsPlaces.2.1 23 = .ok (.iastore, 1) := by decide +kernel
theorem d_M_getsPlaces_24 : decode y_M_getsPlaces.2.1 24 = .ok (.aload_n 1, 1) := by decide +kernel
theorem d_M_getsPlaces_25 : decode y_M_getsPlaces.2.1 25 = .ok (.getfield 158, 3) := by decide +kernel
theorem d_M_getsPlaces_28 : decode y_M_getsPlaces.2.1 28 = .ok (.iload_n 2, 1) := by decide +kernel
theorem d_M_getsPlaces_29 : decode y_M_getsPlaces.2.1 29 = .ok (.aload_n 0, 1) := by decide +kernel
theorem d_M_getsPlaces_30 : decode y_M_getsPlaces.2.1 30 = .ok (.iconst 1, 1) := by decide +kernel
theorem d_M_getsPlaces_31 : decode y_M_getsPlaces.2.1 31 = .ok (.iconst 0, 1) := by decide +kernel
theorem d_M_getsPlaces_32 : decode y_M_getsPlaces.2.1 32 = .ok (.iconst 1, 1) := by decide +kernel
theorem d_M_getsPlaces_33 : decode y_M_getsPlaces.2.1 33 = .ok (.invokevirtual 359, 3) := by decide +kernel
theorem d_M_getsPlaces_36 : decode y_M_getsPlaces.2.1 36 = .ok (.iconst 1, 1) := by decide +kernel
theorem d_M_getsPlaces_37 : decode y_M_getsPlaces.2.1 37 = .ok (.if_icmp .ne 7, 3) := by decide +kernel
theorem d_M_getsPlaces_40 : decode y_M_getsPlaces.2.1 40 = .ok (.iconst 1, 1) := by decide +kernel
theorem d_M_getsPlaces_41 : decode y_M_getsPlaces.2.1 41 = .ok (.goto 4, 3) := by decide +kernel
theorem d_M_getsPlaces_44 : decode y_M_getsPlaces.2.1 44 = .ok (.iconst 0, 1) := by decide +kernel
theorem d_M_getsPlaces_45 : decode y_M_getsPlaces.2.1 45 = .ok (.bastore, 1) := by decide +kernel
theorem d_M_getsPlaces_46 : decode y_M_getsPlaces.2.1 46 = .ok (.aload_n 1, 1) := by decide +kernel
theorem d_M_getsPlaces_47 : decode y_M_getsPlaces.2.1 47 = .ok (.getfield 157, 3) := by decide +kernel
theorem d_M_getsPlaces_50 : decode y_M_getsPlaces.2.1 50 = .ok (.iload_n 2, 1) := by decide +kernel
theorem d_M_getsPlaces_51 : decode y_M_getsPlaces.2.1 51 = .ok (.aload_n 1, 1) := by decide +kernel
theorem d_M_getsPlaces_52 : decode y_M_getsPlaces.2.1 52 = .ok (.getfield 158, 3) := by decide +kernel
theorem d_M_getsPlaces_55 : decode y_M_getsPlaces.2.1 55 = .ok (.iload_n 2, 1) := by decide +kernel
theorem d_M_getsPlaces_56 : decode y_M_getsPlaces.2.1 56 = .ok (.baload, 1) := by decide +kernel
theorem d_M_getsPlaces_57 : decode y_M_getsPlaces.2.1 57 = .ok (.ifCond .eq 23, 3) := by decide +kernel
theorem d_M_getsPlaces_60 : decode y_M_getsPlaces.2.1 60 = .ok (.aload_n 0, 1) := by decide +kernel
theorem d_M_getsPlaces_61 : decode y_M_getsPlaces.2.1 61 = .ok (.iconst 2, 1) := by decide +kernel
theorem d_M_getsPlaces_62 : decode y_M_getsPlaces.2.1 62 = .ok (.iconst 0, 1) := by decide +kernel
theorem d_M_getsPlaces_63 : decode y_M_getsPlaces.2.1 63 = .ok (.iconst 1, 1) := by decide +kernel
theorem d_M_getsPlaces_64 : decode y_M_getsPlaces.2.1 64 = .ok (.aload_n 0, 1) := by decide +kernel
theorem d_M_getsPlaces_65 : decode y_M_getsPlaces.2.1 65 = .ok (.getfield 16, 3) := by decide +kernel
theorem d_M_getsPlaces_68 : decode y_M_getsPlaces.2.1 68 = .ok (.getfield 161, 3) := by decide +kernel
theorem d_M_getsPlaces_71 : decode y_M_getsPlaces.2.1 71 = .ok (.ishl, 1) := by decide +kernel
theorem d_M_getsPlaces_72 : decode y_M_getsPlaces.2.1 72 = .ok (.iconst 1, 1) := by decide +kernel
theorem d_M_getsPlaces_73 : decode y_M_getsPlaces.2.1 73 = .ok (.isub, 1) := by decide +kernel
theorem d_M_getsPlaces_74 : decode y_M_getsPlaces.2.1 74 = .ok (.invokevirtual 359, 3) := by decide +kernel
theorem d_M_getsPlaces_77 : decode y_M_getsPlaces.2.1 77 = .ok (.goto 4, 3) := by decide +kernel
theorem d_M_getsPlaces_80 : decode y_M_getsPlaces.2.1 80 = .ok (.iconst 0, 1) := by decide +kernel
theorem d_M_getsPlaces_81 : decode y_M_getsPlaces.2.1 81 = .ok (.iastore, 1) := by decide +kernel
theorem d_M_getsPlaces_82 : decode y_M_getsPlaces.2.1 82 = .ok (.iconst 0, 1) := by decide +kernel
theorem d_M_getsPlaces_83 : decode y_M_getsPlaces.2.1 83 = .ok (.istore_n 3, 1) := by decide +kernel
theorem d_M_getsPlaces_84 : decode y_M_getsPlaces.2.1 84 = .ok (.iload_n 3, 1) := by decide +kernel
theorem d_M_getsPlaces_85 : decode y_M_getsPlaces.2.1 85 = .ok (.aload_n 0, 1) := by decide +kernel
theorem d_M_getsPlaces_86 : decode y_M_getsPlaces.2.1 86 = .ok (.getfield 16, 3) := by decide +kernel
theorem d_M_getsPlaces_89 : decode y_M_getsPlaces.2.1 89 = .ok (.getfield 161, 3) := by decide +kernel
theorem d_M_getsPlaces_92 : decode y_M_getsPlaces.2.1 92 = .ok (.if_icmp .ge 82, 3) := by decide +kernel
theorem d_M_getsPlaces_95 : decode y_M_getsPlaces.2.1 95 = .ok (.aload_n 0, 1) := by decide +kernel
theorem d_M_getsPlaces_96 : decode y_M_getsPlaces.2.1 96 = .ok (.getfield 16, 3) := by decide +kernel
theorem d_M_getsPlaces_99 : decode y_M_getsPlaces.2.1 99 = .ok (.getfield 171, 3) := by decide +kernel
theorem d_M_getsPlaces_102 : decode y_M_getsPlaces.2.1 102 = .ok (.iload_n 3, 1) := by decide +kernel
theorem d_M_getsPlaces_103 : decode y_M_getsPlaces.2.1 103 = .ok (.iaload, 1) := by decide +kernel
theorem d_M_getsPlaces_104 : decode y_M_getsPlaces.2.1 104 = .ok (.istore 4, 2) := by decide +kernel
theorem d_M_getsPlaces_106 : decode y_M_getsPlaces.2.1 106 = .ok (.iload 4, 2) := by decide +kernel
theorem d_M_getsPlaces_108 : decode y_M_getsPlaces.2.1 108 = .ok (.aload_n 0, 1) := by decide +kernel
theorem d_M_getsPlaces_109 : decode y_M_getsPlaces.2.1 109 = .ok (.getfield 16, 3) := by decide +kernel
theorem d_M_getsPlaces_112 : decode y_M_getsPlaces.2.1 112 = .ok (.getfield 171, 3) := by decide +kernel
theorem d_M_getsPlaces_115 : decode y_M_getsPlaces.2.1 115 = .ok (.iload_n 3, 1) := by decide +kernel
theorem d_M_getsPlaces_116 : decode y_M_getsPlaces.2.1 116 = .ok (.iconst 1, 1) := by decide +kernel
theorem d_M_getsPlaces_117 : decode y_M_getsPlaces.2.1 117 = .ok (.iadd, 1) := by decide +kernel
theorem d_M_getsPlaces_118 : decode y_M_getsPlaces.2.1 118 = .ok (.iaload, 1) := by decide +kernel
theorem d_M_getsPlaces_119 : decode y_M_getsPlaces.2.1 119 = .ok (.if_icmp .ge 49, 3) := by decide +kernel
theorem d_M_getsPlaces_122 : decode y_M_getsPlaces.2.1 122 = .ok (.aload_n 1, 1) := by decide +kernel
theorem d_M_getsPlaces_123 : decode y_M_getsPlaces.2.1 123 = .ok (.getfield 157, 3) := by decide +kernel
theorem d_M_getsPlaces_126 : decode y_M_getsPlaces.2.1 126 = .ok (.iload_n 2, 1) := by decide +kernel
theorem d_M_getsPlaces_127 : decode y_M_getsPlaces.2.1 127 = .ok (.iaload, 1) := by decide +kernel
theorem d_M_getsPlaces_128 : decode y_M_getsPlaces.2.1 128 = .ok (.iload_n 3, 1) := by decide +kernel
theorem d_M_getsPlaces_129 : decode y_M_getsPlaces.2.1 129 = .ok (.ishr, 1) := by decide +kernel
theorem d_M_getsPlaces_130 : decode y_M_getsPlaces.2.1 130 = .ok (.iconst 1, 1) := by decide +kernel
theorem d_M_getsPlaces_131 : decode y_M_getsPlaces.2.1 131 = .ok (.iand, 1) := by decide +kernel
theorem d_M_getsPlaces_132 : decode y_M_getsPlaces.2.1 132 = .ok (.iconst 1, 1) := by decide +kernel
theorem d_M_getsPlaces_133 : decode y_M_getsPlaces.2.1 133 = .ok (.if_icmp .ne 35, 3) := by decide +kernel
theorem d_M_getsPlaces_136 : decode y_M_getsPlaces.2.1 136 = .ok (.aload_n 1, 1) := by decide +kernel
theorem d_M_getsPlaces_137 : decode y_M_getsPlaces.2.1 137 = .ok (.getfield 181, 3) := by decide +kernel
theorem d_M_getsPlaces_140 : decode y_M_getsPlaces.2.1 140 = .ok (.bipush 48, 2) := by decide +kernel
theorem d_M_getsPlaces_142 : decode y_M_getsPlaces.2.1 142 = .ok (.iload_n 2, 1) := by decide +kernel
theorem d_M_getsPlaces_143 : decode y_M_getsPlaces.2.1 143 = .ok (.imul, 1) := by decide +kernel
theorem d_M_getsPlaces_144 : decode y_M_getsPlaces.2.1 144 = .ok (.iload 4, 2) := by decide +kernel
theorem d_M_getsPlaces_146 : decode y_M_getsPlaces.2.1 146 = .ok (.iadd, 1) := by decide +kernel
theorem d_M_getsPlaces_147 : decode y_M_getsPlaces.2.1 147 = .ok (.aload_n 0, 1) := by decide +kernel
theorem d_M_getsPlaces_148 : decode y_M_getsPlaces.2.1 148 = .ok (.aload_n 0, 1) := by decide +kernel
theorem d_M_getsPlaces_149 : decode y_M_getsPlaces.2.1 149 = .ok (.getfield 16, 3) := by decide +kernel
theorem d_M_getsPlaces_152 : decode y_M_getsPlaces.2.1 152 = .ok (.getfield 184, 3) := by decide +kernel
theorem d_M_getsPlaces_155 : decode y_M_getsPlaces.2.1 155 = .ok (.iload 4, 2) := by decide +kernel
theorem d_M_getsPlaces_157 : decode y_M_getsPlaces.2.1 157 = .ok (.iaload, 1) := by decide +kernel
theorem d_M_getsPlaces_158 : decode y_M_getsPlaces.2.1 158 = .ok (.invokevirtual 368, 3) := by decide +kernel
theorem d_M_getsPlaces_161 : decode y_M_getsPlaces.2.1 161 = .ok (.iastore, 1) := by decide +kernel
theorem d_M_getsPlaces_162 : decode y_M_getsPlaces.2.1 162 = .ok (.iinc 4 1, 3) := by decide +kernel
theorem d_M_getsPlaces_165 : decode y_M_getsPlaces.2.1 165 = .ok (.goto (-59), 3) := by decide +kernel
theorem d_M_getsPlaces_168 : decode y_M_getsPlaces.2.1 168 = .ok (.iinc 3 1, 3) := by decide +kernel
theorem d_M_getsPlaces_171 : decode y_M_getsPlaces.2.1 171 = .ok (.goto (-87), 3) := by decide +kernel
theorem d_M_getsPlaces_174 : decode y_M_getsPlaces.2.1 174 = .ok (.iinc 2 1, 3) := by decide +kernel
theorem d_M_getsPlaces_177 : decode y_M_getsPlaces.2.1 177 = .ok (.goto (-175), 3) := by decide +kernel
theorem d_M_getsPlaces_180 : decode y_M_getsPlaces.2.1 180 = .ok (.return_, 1) := by decide +kernel
theorem s_M_getsPlaces : ab_Stat y_M_getsPlaces 1 := ⟨(k13 75 rfl rfl), (k1 19 rfl rfl), ⟨by decide, by decide⟩, by decide +kernel⟩
theorem i_M_getsPlaces : Cond.instanceMethod y_M_getsPlaces.1 ∈ ab_T := (k13 74 rfl rfl)
theorem v_M_getsPlaces : Cond.selects "WorldEngineModel" y_M_getsPlaces.1 y_M_getsPlaces.1 ∈ ab_T := ab_s (List.mem_of_getElem? (i := 214) rfl) rfl
def B_M_getsPlaces_168 (N : Nat) (p0 : Nat) (p1 : Nat) (kq2 : Int32 → Hp → Option (Unit × Hp)) (kq84 : Int32 → Int32 → Hp → Option (Unit × Hp)) (l2 : Int32) (l3 : Int32) (H : Hp) : Option (Unit × Hp) :=
    kq84 l2 (l3 + 1) H
set_option maxRecDepth 20000 in
set_option maxHeartbeats 2000000 in
theorem mB_M_getsPlaces_168 {N : Nat} {p0 : Nat} {p1 : Nat} {kq2 : Int32 → Hp → Option (Unit × Hp)} {kq84 : Int32 → Int32 → Hp → Option (Unit × Hp)} (hm2 : ∀ (l2 : Int32) (H : Hp) (r : Unit × Hp), kq2 l2 H = some r → Sa H r.2) (hm84 : ∀ (l2 : Int32) (l3 : Int32) (H : Hp) (r : Unit × Hp), kq84 l2 l3 H = some r → Sa H r.2) {l2 : Int32} {l3 : Int32} {H : Hp} {r : Unit × Hp} (hF : B_M_getsPlaces_168 N p0 p1 kq2 kq84 l2 l3 H = some r) : Sa H r.2 := by
  unfold B_M_getsPlaces_168 at hF
  have hm := Sa.rf H
  exact hm.tr (hm84 l2 (l3 + 1) H r hF)
set_option maxRecDepth 20000 in
set_option maxHeartbeats 2000000 in
theorem kB_M_getsPlaces_168 {N : Nat} {p0 : Nat} {p1 : Nat} {kq2 : Int32 → Hp → Option (Unit × Hp)} {kq84 : Int32 → Int32 → Hp → Option (Unit × Hp)} (hm2 : ∀ (l2 : Int32) (H : Hp) (r : Unit × Hp), kq2 l2 H = some r → Sa H r.2) (hm84 : ∀ (l2 : Int32) (l3 : Int32) (H : Hp) (r : Unit × Hp), kq84 l2 l3 H = some r → Sa H r.2) (hk2 : ∀ (l2 : Int32) (H : Hp) (r : Unit × Hp), kq2 l2 H = some r → ab_V y_M_getsPlaces { frames := 3, cells := 0, slots := 0, locals := 71 } (po (.returned none) r.2) 0 0 0 0 2 [some (.ref p0), some (.ref p1), some (.int l2), none, none] [] (hpw H)) (hk84 : ∀ (l2 : Int32) (l3 : Int32) (H : Hp) (r : Unit × Hp), kq84 l2 l3 H = some r → ab_V y_M_getsPlaces { frames := 3, cells := 0, slots := 0, locals := 71 } (po (.returned none) r.2) 0 0 0 0 84 [some (.ref p0), some (.ref p1), some (.int l2), some (.int l3), none] [] (hpw H)) {l2 : Int32} {l3 : Int32} {H : Hp} {r : Unit × Hp} (hF : B_M_getsPlaces_168 N p0 p1 kq2 kq84 l2 l3 H = some r) : ab_V y_M_getsPlaces { frames := 3, cells := 0, slots := 0, locals := 71 } (po (.returned none) r.2) 0 0 0 0 168 [some (.ref p0), some (.ref p1), some (.int l2), some (.int l3), none] [] (hpw H) := by
  unfold B_M_getsPlaces_168 at hF
  refine ab_iinc (v := l3 + 1) (lv' := [some (.ref p0), some (.ref p1), some (.int l2), some (.int (l3 + 1)), none]) d_M_getsPlaces_168 rfl rfl (by decide) rfl ?_
  refine ab_goto (tgt := 84) d_M_getsPlaces_171 (by decide) ?_
  exact hk84 l2 (l3 + 1) H r hF
def B_M_getsPlaces_106 (N : Nat) (p0 : Nat) (p1 : Nat) (kq2 : Int32 → Hp → Option (Unit × Hp)) (kq84 : Int32 → Int32 → Hp → Option (Unit × Hp)) : Nat → Int32 → Int32 → Int32 → Hp → Option (Unit × Hp)
  | 0, _, _, _, _ => none
  | n + 1, l2, l3, l4, H =>
    ck (H.sh[p0]? = some (12, 0)) <|
    rf (H.P p0 3) fun a53 =>
    ck (H.sh[a53]? = some (14, 0)) <|
    rf (H.P a53 18) fun a56 =>
    ar H 100 a56 fun n58 =>
    ck (inb (l3 + (1 : Int32)) n58) <|
    bnd ((H.D a56 ((l3 + (1 : Int32))).toNatClampNeg)) fun x61 =>
    if x61 ≤ l4 then
    B_M_getsPlaces_168 N p0 p1 kq2 kq84 l2 l3 H
    else
    ck (H.sh[p1]? = some (13, 0)) <|
    rf (H.P p1 6) fun a64 =>
    ar H 100 a64 fun n66 =>
    ck (inb l2 n66) <|
    bnd ((H.D a64 (l2).toNatClampNeg)) fun x69 =>
    if ((x69 >>> (l3 &&& 31)) &&& (1 : Int32)) = (1 : Int32) then
    rf (H.P p1 7) fun a71 =>
    rf (H.P p0 3) fun a73 =>
    ck (H.sh[a73]? = some (14, 0)) <|
    rf (H.P a73 19) fun a76 =>
    ar H 100 a76 fun n78 =>
    ck (inb l4 n78) <|
    bnd ((H.D a76 (l4).toNatClampNeg)) fun x81 =>
    bC (F_M_getsOf N p0 x81 H) fun v83 H84 =>
    ar H84 100 a71 fun n85 =>
    ck (inb (((48 : Int32) * l2) + l4) n85) <|
    bnd (H84.sD a71 ((((48 : Int32) * l2) + l4)).toNatClampNeg v83) fun H88 =>
    B_M_getsPlaces_106 N p0 p1 kq2 kq84 n l2 l3 (l4 + 1) H88
    else
    B_M_getsPlaces_168 N p0 p1 kq2 kq84 l2 l3 H
termination_by structural n => n
set_option maxRecDepth 20000 in
set_option maxHeartbeats 2000000 in
theorem mB_M_getsPlaces_106 {N : Nat} {p0 : Nat} {p1 : Nat} {kq2 : Int32 → Hp → Option (Unit × Hp)} {kq84 : Int32 → Int32 → Hp → Option (Unit × Hp)} (hm2 : ∀ (l2 : Int32) (H : Hp) (r : Unit × Hp), kq2 l2 H = some r → Sa H r.2) (hm84 : ∀ (l2 : Int32) (l3 : Int32) (H : Hp) (r : Unit × Hp), kq84 l2 l3 H = some r → Sa H r.2) : ∀ (n : Nat) (l2 : Int32) (l3 : Int32) (l4 : Int32) (H : Hp) (r : Unit × Hp), B_M_getsPlaces_106 N p0 p1 kq2 kq84 n l2 l3 l4 H = some r → Sa H r.2 := by
  intro n
  induction n with
  | zero => intro l2 l3 l4 H r hF; rw [B_M_getsPlaces_106] at hF; cases hF
  | succ n ih =>
    intro l2 l3 l4 H r hF
    rw [B_M_getsPlaces_106] at hF
    have hm := Sa.rf H
    obtain ⟨q89, hG⟩ := ck_s hF; clear hF
    obtain ⟨a90, e91, hF⟩ := rf_s hG; clear hG
    obtain ⟨q92, hG⟩ := ck_s hF; clear hF
    obtain ⟨a93, e94, hF⟩ := rf_s hG; clear hG
    obtain ⟨n95, q96, hG⟩ := ar_s hF; clear hF
    obtain ⟨q97, hF⟩ := ck_s hG; clear hG
    obtain ⟨x98, -, hG⟩ := bnd_g hF; clear hF
    rcases ite_s hG with ⟨q_8, hF⟩ | ⟨q_8, hF⟩
    · clear hG
      exact hm.tr (mB_M_getsPlaces_168 hm2 hm84 hF)
    · clear hG
      obtain ⟨q100, hG⟩ := ck_s hF; clear hF
      obtain ⟨a101, e102, hF⟩ := rf_s hG; clear hG
      obtain ⟨n103, q104, hG⟩ := ar_s hF; clear hF
      obtain ⟨q105, hF⟩ := ck_s hG; clear hG
      obtain ⟨x106, -, hG⟩ := bnd_g hF; clear hF
      rcases ite_s hG with ⟨q_9, hF⟩ | ⟨q_9, hF⟩
      · clear hG
        obtain ⟨a108, e109, hG⟩ := rf_s hF; clear hF
        obtain ⟨a110, e111, hF⟩ := rf_s hG; clear hG
        obtain ⟨q112, hG⟩ := ck_s hF; clear hF
        obtain ⟨a113, e114, hF⟩ := rf_s hG; clear hG
        obtain ⟨n115, q116, hG⟩ := ar_s hF; clear hF
        obtain ⟨q117, hF⟩ := ck_s hG; clear hG
        obtain ⟨x118, -, hG⟩ := bnd_g hF; clear hF
        obtain ⟨v120, H121, z119, hF⟩ := bC_s hG; clear hG
        replace hm : Sa H H121 := hm.tr (m_M_getsOf z119)
        obtain ⟨n122, q123, hG⟩ := ar_s hF; clear hF
        obtain ⟨q124, hF⟩ := ck_s hG; clear hG
        obtain ⟨H125, eH125, hG⟩ := bnd_g hF; clear hF
        replace hm : Sa H H125 := by rw [eH125]; exact hm
        exact hm.tr (ih l2 l3 (l4 + 1) H125 r hG)
      · clear hG
        exact hm.tr (mB_M_getsPlaces_168 hm2 hm84 hF)
set_option maxRecDepth 20000 in
set_option maxHeartbeats 2000000 in
theorem kB_M_getsPlaces_106 {N : Nat} {p0 : Nat} {p1 : Nat} {kq2 : Int32 → Hp → Option (Unit × Hp)} {kq84 : Int32 → Int32 → Hp → Option (Unit × Hp)} (hm2 : ∀ (l2 : Int32) (H : Hp) (r : Unit × Hp), kq2 l2 H = some r → Sa H r.2) (hm84 : ∀ (l2 : Int32) (l3 : Int32) (H : Hp) (r : Unit × Hp), kq84 l2 l3 H = some r → Sa H r.2) (hk2 : ∀ (l2 : Int32) (H : Hp) (r : Unit × Hp), kq2 l2 H = some r → ab_V y_M_getsPlaces { frames := 3, cells := 0, slots := 0, locals := 71 } (po (.returned none) r.2) 0 0 0 0 2 [some (.ref p0), some (.ref p1), some (.int l2), none, none] [] (hpw H)) (hk84 : ∀ (l2 : Int32) (l3 : Int32) (H : Hp) (r : Unit × Hp), kq84 l2 l3 H = some r → ab_V y_M_getsPlaces { frames := 3, cells := 0, slots := 0, locals := 71 } (po (.returned none) r.2) 0 0 0 0 84 [some (.ref p0), some (.ref p1), some (.int l2), some (.int l3), none] [] (hpw H)) : ∀ (n : Nat) (l2 : Int32) (l3 : Int32) (l4 : Int32) (H : Hp) (r : Unit × Hp), B_M_getsPlaces_106 N p0 p1 kq2 kq84 n l2 l3 l4 H = some r → ab_V y_M_getsPlaces { frames := 3, cells := 0, slots := 0, locals := 71 } (po (.returned none) r.2) 0 0 0 0 106 [some (.ref p0), some (.ref p1), some (.int l2), some (.int l3), some (.int l4)] [] (hpw H) := by
  intro n
  induction n with
  | zero => intro l2 l3 l4 H r hF; rw [B_M_getsPlaces_106] at hF; cases hF
  | succ n ih =>
    intro l2 l3 l4 H r hF
    rw [B_M_getsPlaces_106] at hF
    refine ab_iload d_M_getsPlaces_106 rfl ?_
    refine ab_aload_n d_M_getsPlaces_108 rfl rfl rfl ?_
    obtain ⟨q52, hG⟩ := ck_s hF; clear hF
    obtain ⟨a53, e54, hF⟩ := rf_s hG; clear hG
    refine hp_getR (f := 3) d_M_getsPlaces_109 q52 (by decide) rfl (by decide) (k9 236 rfl rfl) rfl e54 ?_
    obtain ⟨q55, hG⟩ := ck_s hF; clear hF
    obtain ⟨a56, e57, hF⟩ := rf_s hG; clear hG
    refine hp_getRN (f := 18) d_M_getsPlaces_112 q55 (by decide) rfl (by decide) (k8 187 rfl rfl) rfl e57 ?_
    refine ab_iload_n d_M_getsPlaces_115 rfl rfl ?_
    refine ab_iconst (v := 1) d_M_getsPlaces_116 (by decide) ?_
    refine ab_iadd d_M_getsPlaces_117 ?_
    obtain ⟨n58, q59, hG⟩ := ar_s hF; clear hF
    obtain ⟨q60, hF⟩ := ck_s hG; clear hG
    refine hp_iald d_M_getsPlaces_118 tI q59 q60 ?_
    refine ab_topi (fun x61 ex61 => ?_)
    replace hF := bnd_s ex61 hF
    refine ab_icmp_ge (tgt := 168) d_M_getsPlaces_119 (by decide) (fun q62 => ?_) (fun q62 => ?_)
    · rw [if_pos q62] at hF
      refine ab_le (lv' := [some (.ref p0), some (.ref p1), some (.int l2), some (.int l3), none]) ⟨rfl, ⟨rfl, ⟨rfl, ⟨rfl, trivial⟩⟩⟩⟩ ?_
      exact kB_M_getsPlaces_168 hm2 hm84 hk2 hk84 hF
    · rw [if_neg q62] at hF
      refine ab_aload_n d_M_getsPlaces_122 rfl rfl rfl ?_
      obtain ⟨q63, hG⟩ := ck_s hF; clear hF
      obtain ⟨a64, e65, hF⟩ := rf_s hG; clear hG
      refine hp_getRN (f := 6) d_M_getsPlaces_123 q63 (by decide) rfl (by decide) (k9 106 rfl rfl) rfl e65 ?_
      refine ab_iload_n d_M_getsPlaces_126 rfl rfl ?_
      obtain ⟨n66, q67, hG⟩ := ar_s hF; clear hF
      obtain ⟨q68, hF⟩ := ck_s hG; clear hG
      refine hp_iald d_M_getsPlaces_127 tI q67 q68 ?_
      refine ab_topi (fun x69 ex69 => ?_)
      replace hF := bnd_s ex69 hF
      refine ab_iload_n d_M_getsPlaces_128 rfl rfl ?_
      refine ab_ishr d_M_getsPlaces_129 ?_
      refine ab_iconst (v := 1) d_M_getsPlaces_130 (by decide) ?_
      refine ab_iand d_M_getsPlaces_131 ?_
      refine ab_iconst (v := 1) d_M_getsPlaces_132 (by decide) ?_
      refine ab_icmp_ne (tgt := 168) d_M_getsPlaces_133 (by decide) (fun q70 => ?_) (fun q70 => ?_)
      · rw [if_neg q70] at hF
        refine ab_le (lv' := [some (.ref p0), some (.ref p1), some (.int l2), some (.int l3), none]) ⟨rfl, ⟨rfl, ⟨rfl, ⟨rfl, trivial⟩⟩⟩⟩ ?_
        exact kB_M_getsPlaces_168 hm2 hm84 hk2 hk84 hF
      · rw [if_pos q70] at hF
        refine ab_aload_n d_M_getsPlaces_136 rfl rfl rfl ?_
        obtain ⟨a71, e72, hG⟩ := rf_s hF; clear hF
        refine hp_getRN (f := 7) d_M_getsPlaces_137 q63 (by decide) rfl (by decide) (k9 110 rfl rfl) rfl e72 ?_
        refine ab_bipush (v := 48) d_M_getsPlaces_140 (by decide) ?_
        refine ab_iload_n d_M_getsPlaces_142 rfl rfl ?_
        refine ab_imul d_M_getsPlaces_143 ?_
        refine ab_iload d_M_getsPlaces_144 rfl ?_
        refine ab_iadd d_M_getsPlaces_146 ?_
        refine ab_aload_n d_M_getsPlaces_147 rfl rfl rfl ?_
        refine ab_aload_n d_M_getsPlaces_148 rfl rfl rfl ?_
        obtain ⟨a73, e74, hF⟩ := rf_s hG; clear hG
        refine hp_getR (f := 3) d_M_getsPlaces_149 q52 (by decide) rfl (by decide) (k9 236 rfl rfl) rfl e74 ?_
        obtain ⟨q75, hG⟩ := ck_s hF; clear hF
        obtain ⟨a76, e77, hF⟩ := rf_s hG; clear hG
        refine hp_getRN (f := 19) d_M_getsPlaces_152 q75 (by decide) rfl (by decide) (k8 191 rfl rfl) rfl e77 ?_
        refine ab_iload d_M_getsPlaces_155 rfl ?_
        obtain ⟨n78, q79, hG⟩ := ar_s hF; clear hF
        obtain ⟨q80, hF⟩ := ck_s hG; clear hG
        refine hp_iald d_M_getsPlaces_157 tI q79 q80 ?_
        refine ab_topi (fun x81 ex81 => ?_)
        replace hF := bnd_s ex81 hF
        obtain ⟨v83, H84, z82, hG⟩ := bC_s hF; clear hF
        refine hp_callV_a (v := .int v83) (H1 := H84) (As := [.int x81]) (rest := [.int (((48 : Int32) * l2) + l4), .ref a71]) d_M_getsPlaces_158 (k_M_getsOf z82) (ab_mkC s_M_getsOf (Nat.le_of_ble_eq_true rfl) (Nat.le_of_ble_eq_true rfl) (Nat.le_refl 0) (Nat.le_refl 0)) (k13 77 rfl rfl) i_M_getsOf v_M_getsOf q52 (by decide) rfl rfl (Nat.le_of_ble_eq_true rfl) ?_
        have s_6 : Sa H H84 := (m_M_getsOf z82)
        obtain ⟨n85, q86, hF⟩ := ar_s hG; clear hG
        rw [(s_6).1] at q86
        obtain ⟨q87, hG⟩ := ck_s hF; clear hF
        refine hp_iast d_M_getsPlaces_161 tI (by rw [(s_6).1]; exact q86) q87 ?_
        refine hp_gen (fun H88 eH88 => ?_)
        replace hG := bnd_s eH88 hG
        have s_7 : Sa H H88 := by rw [eH88]; exact s_6
        refine ab_iinc (v := l4 + 1) (lv' := [some (.ref p0), some (.ref p1), some (.int l2), some (.int l3), some (.int (l4 + 1))]) d_M_getsPlaces_162 rfl rfl (by decide) rfl ?_
        refine ab_goto (tgt := 106) d_M_getsPlaces_165 (by decide) ?_
        exact ih l2 l3 (l4 + 1) H88 r hG
def B_M_getsPlaces_84 (N : Nat) (p0 : Nat) (p1 : Nat) (kq2 : Int32 → Hp → Option (Unit × Hp)) : Nat → Int32 → Int32 → Hp → Option (Unit × Hp)
  | 0, _, _, _ => none
  | n + 1, l2, l3, H =>
    ck (H.sh[p0]? = some (12, 0)) <|
    rf (H.P p0 3) fun a38 =>
    ck (H.sh[a38]? = some (14, 0)) <|
    bnd ((H.D a38 16)) fun x41 =>
    if x41 ≤ l3 then
    kq2 (l2 + 1) H
    else
    rf (H.P p0 3) fun a43 =>
    ck (H.sh[a43]? = some (14, 0)) <|
    rf (H.P a43 18) fun a46 =>
    ar H 100 a46 fun n48 =>
    ck (inb l3 n48) <|
    bnd ((H.D a46 (l3).toNatClampNeg)) fun x51 =>
    B_M_getsPlaces_106 N p0 p1 kq2 (fun l2 l3 H => B_M_getsPlaces_84 N p0 p1 kq2 n l2 l3 H) N l2 l3 x51 H
termination_by structural n => n
set_option maxRecDepth 20000 in
set_option maxHeartbeats 2000000 in
theorem mB_M_getsPlaces_84 {N : Nat} {p0 : Nat} {p1 : Nat} {kq2 : Int32 → Hp → Option (Unit × Hp)} (hm2 : ∀ (l2 : Int32) (H : Hp) (r : Unit × Hp), kq2 l2 H = some r → Sa H r.2) : ∀ (n : Nat) (l2 : Int32) (l3 : Int32) (H : Hp) (r : Unit × Hp), B_M_getsPlaces_84 N p0 p1 kq2 n l2 l3 H = some r → Sa H r.2 := by
  intro n
  induction n with
  | zero => intro l2 l3 H r hF; rw [B_M_getsPlaces_84] at hF; cases hF
  | succ n ih =>
    intro l2 l3 H r hF
    rw [B_M_getsPlaces_84] at hF
    have hm := Sa.rf H
    obtain ⟨q126, hG⟩ := ck_s hF; clear hF
    obtain ⟨a127, e128, hF⟩ := rf_s hG; clear hG
    obtain ⟨q129, hG⟩ := ck_s hF; clear hF
    obtain ⟨x130, -, hF⟩ := bnd_g hG; clear hG
    rcases ite_s hF with ⟨q_12, hG⟩ | ⟨q_12, hG⟩
    · clear hF
      exact hm.tr (hm2 (l2 + 1) H r hG)
    · clear hF
      obtain ⟨a132, e133, hF⟩ := rf_s hG; clear hG
      obtain ⟨q134, hG⟩ := ck_s hF; clear hF
      obtain ⟨a135, e136, hF⟩ := rf_s hG; clear hG
      obtain ⟨n137, q138, hG⟩ := ar_s hF; clear hF
      obtain ⟨q139, hF⟩ := ck_s hG; clear hG
      obtain ⟨x140, -, hG⟩ := bnd_g hF; clear hF
      exact hm.tr (mB_M_getsPlaces_106 hm2 ih N l2 l3 x140 H r hG)
set_option maxRecDepth 20000 in
set_option maxHeartbeats 2000000 in
theorem kB_M_getsPlaces_84 {N : Nat} {p0 : Nat} {p1 : Nat} {kq2 : Int32 → Hp → Option (Unit × Hp)} (hm2 : ∀ (l2 : Int32) (H : Hp) (r : Unit × Hp), kq2 l2 H = some r → Sa H r.2) (hk2 : ∀ (l2 : Int32) (H : Hp) (r : Unit × Hp), kq2 l2 H = some r → ab_V y_M_getsPlaces { frames := 3, cells := 0, slots := 0, locals := 71 } (po (.returned none) r.2) 0 0 0 0 2 [some (.ref p0), some (.ref p1), some (.int l2), none, none] [] (hpw H)) : ∀ (n : Nat) (l2 : Int32) (l3 : Int32) (H : Hp) (r : Unit × Hp), B_M_getsPlaces_84 N p0 p1 kq2 n l2 l3 H = some r → ab_V y_M_getsPlaces { frames := 3, cells := 0, slots := 0, locals := 71 } (po (.returned none) r.2) 0 0 0 0 84 [some (.ref p0), some (.ref p1), some (.int l2), some (.int l3), none] [] (hpw H) := by
  intro n
  induction n with
  | zero => intro l2 l3 H r hF; rw [B_M_getsPlaces_84] at hF; cases hF
  | succ n ih =>
    intro l2 l3 H r hF
    rw [B_M_getsPlaces_84] at hF
    refine ab_iload_n d_M_getsPlaces_84 rfl rfl ?_
    refine ab_aload_n d_M_getsPlaces_85 rfl rfl rfl ?_
    obtain ⟨q37, hG⟩ := ck_s hF; clear hF
    obtain ⟨a38, e39, hF⟩ := rf_s hG; clear hG
    refine hp_getR (f := 3) d_M_getsPlaces_86 q37 (by decide) rfl (by decide) (k9 236 rfl rfl) rfl e39 ?_
    obtain ⟨q40, hG⟩ := ck_s hF; clear hF
    refine hp_getIN (f := 16) d_M_getsPlaces_89 q40 (by decide) rfl (by decide) (k8 180 rfl rfl) rfl ?_
    refine ab_topi (fun x41 ex41 => ?_)
    replace hG := bnd_s ex41 hG
    refine ab_icmp_ge (tgt := 174) d_M_getsPlaces_92 (by decide) (fun q42 => ?_) (fun q42 => ?_)
    · rw [if_pos q42] at hG
      refine ab_iinc (v := l2 + 1) (lv' := [some (.ref p0), some (.ref p1), some (.int (l2 + 1)), some (.int l3), none]) d_M_getsPlaces_174 rfl rfl (by decide) rfl ?_
      refine ab_goto (tgt := 2) d_M_getsPlaces_177 (by decide) ?_
      refine ab_le (lv' := [some (.ref p0), some (.ref p1), some (.int (l2 + 1)), none, none]) ⟨rfl, ⟨rfl, ⟨rfl, trivial⟩⟩⟩ ?_
      exact hk2 (l2 + 1) H r hG
    · rw [if_neg q42] at hG
      refine ab_aload_n d_M_getsPlaces_95 rfl rfl rfl ?_
      obtain ⟨a43, e44, hF⟩ := rf_s hG; clear hG
      refine hp_getR (f := 3) d_M_getsPlaces_96 q37 (by decide) rfl (by decide) (k9 236 rfl rfl) rfl e44 ?_
      obtain ⟨q45, hG⟩ := ck_s hF; clear hF
      obtain ⟨a46, e47, hF⟩ := rf_s hG; clear hG
      refine hp_getRN (f := 18) d_M_getsPlaces_99 q45 (by decide) rfl (by decide) (k8 187 rfl rfl) rfl e47 ?_
      refine ab_iload_n d_M_getsPlaces_102 rfl rfl ?_
      obtain ⟨n48, q49, hG⟩ := ar_s hF; clear hF
      obtain ⟨q50, hF⟩ := ck_s hG; clear hG
      refine hp_iald d_M_getsPlaces_103 tI q49 q50 ?_
      refine ab_topi (fun x51 ex51 => ?_)
      replace hF := bnd_s ex51 hF
      refine ab_istore (lv' := [some (.ref p0), some (.ref p1), some (.int l2), some (.int l3), some (.int x51)]) d_M_getsPlaces_104 (by decide) rfl ?_
      exact kB_M_getsPlaces_106 hm2 (mB_M_getsPlaces_84 hm2 n) hk2 ih N l2 l3 x51 H r hF
def B_M_getsPlaces_81 (N : Nat) (p0 : Nat) (p1 : Nat) (kq2 : Int32 → Hp → Option (Unit × Hp)) (l2 : Int32) (w0 : Nat) (w1 : Int32) (w2 : Int32) (H : Hp) : Option (Unit × Hp) :=
    ar H 100 w0 fun n33 =>
    ck (inb w1 n33) <|
    bnd (H.sD w0 (w1).toNatClampNeg w2) fun H36 =>
    B_M_getsPlaces_84 N p0 p1 kq2 N l2 0 H36
set_option maxRecDepth 20000 in
set_option maxHeartbeats 2000000 in
theorem mB_M_getsPlaces_81 {N : Nat} {p0 : Nat} {p1 : Nat} {kq2 : Int32 → Hp → Option (Unit × Hp)} (hm2 : ∀ (l2 : Int32) (H : Hp) (r : Unit × Hp), kq2 l2 H = some r → Sa H r.2) {l2 : Int32} {w0 : Nat} {w1 : Int32} {w2 : Int32} {H : Hp} {r : Unit × Hp} (hF : B_M_getsPlaces_81 N p0 p1 kq2 l2 w0 w1 w2 H = some r) : Sa H r.2 := by
  unfold B_M_getsPlaces_81 at hF
  have hm := Sa.rf H
  obtain ⟨n141, q142, hG⟩ := ar_s hF; clear hF
  obtain ⟨q143, hF⟩ := ck_s hG; clear hG
  obtain ⟨H144, eH144, hG⟩ := bnd_g hF; clear hF
  replace hm : Sa H H144 := by rw [eH144]; exact hm
  exact hm.tr (mB_M_getsPlaces_84 hm2 N l2 0 H144 r hG)
set_option maxRecDepth 20000 in
set_option maxHeartbeats 2000000 in
theorem kB_M_getsPlaces_81 {N : Nat} {p0 : Nat} {p1 : Nat} {kq2 : Int32 → Hp → Option (Unit × Hp)} (hm2 : ∀ (l2 : Int32) (H : Hp) (r : Unit × Hp), kq2 l2 H = some r → Sa H r.2) (hk2 : ∀ (l2 : Int32) (H : Hp) (r : Unit × Hp), kq2 l2 H = some r → ab_V y_M_getsPlaces { frames := 3, cells := 0, slots := 0, locals := 71 } (po (.returned none) r.2) 0 0 0 0 2 [some (.ref p0), some (.ref p1), some (.int l2), none, none] [] (hpw H)) {l2 : Int32} {w0 : Nat} {w1 : Int32} {w2 : Int32} {H : Hp} {r : Unit × Hp} (hF : B_M_getsPlaces_81 N p0 p1 kq2 l2 w0 w1 w2 H = some r) : ab_V y_M_getsPlaces { frames := 3, cells := 0, slots := 0, locals := 71 } (po (.returned none) r.2) 0 0 0 0 81 [some (.ref p0), some (.ref p1), some (.int l2), none, none] [.int w2, .int w1, .ref w0] (hpw H) := by
  unfold B_M_getsPlaces_81 at hF
  obtain ⟨n33, q34, hG⟩ := ar_s hF; clear hF
  obtain ⟨q35, hF⟩ := ck_s hG; clear hG
  refine hp_iast d_M_getsPlaces_81 tI q34 q35 ?_
  refine hp_gen (fun H36 eH36 => ?_)
  replace hF := bnd_s eH36 hF
  have s_5 : Sa H H36 := by rw [eH36]; exact Sa.rf _
  refine ab_iconst (v := 0) d_M_getsPlaces_82 (by decide) ?_
  refine ab_istore_n (lv' := [some (.ref p0), some (.ref p1), some (.int l2), some (.int 0), none]) d_M_getsPlaces_83 rfl (by decide) rfl ?_
  exact kB_M_getsPlaces_84 hm2 hk2 N l2 0 H36 r hF
def B_M_getsPlaces_45 (N : Nat) (p0 : Nat) (p1 : Nat) (kq2 : Int32 → Hp → Option (Unit × Hp)) (l2 : Int32) (w0 : Nat) (w1 : Int32) (w2 : Int32) (H : Hp) : Option (Unit × Hp) :=
    ar H 102 w0 fun n19 =>
    ck (inb w1 n19) <|
    bnd (H.sD w0 (w1).toNatClampNeg (vp_nar .boolean w2)) fun H22 =>
    ck (H22.sh[p1]? = some (13, 0)) <|
    rf (H22.P p1 6) fun a24 =>
    rf (H22.P p1 5) fun a26 =>
    ar H22 102 a26 fun n28 =>
    ck (inb l2 n28) <|
    bnd ((H22.D a26 (l2).toNatClampNeg)) fun x31 =>
    if x31 = (0 : Int32) then
    B_M_getsPlaces_81 N p0 p1 kq2 l2 a24 l2 0 H22
    else
    ck (H22.sh[p0]? = some (12, 0)) <|
    rf (H22.P p0 3) fun a146 =>
    ck (H22.sh[a146]? = some (14, 0)) <|
    bnd ((H22.D a146 16)) fun x149 =>
    bC (F_M_gets N p0 (2 : Int32) (0 : Int32) (((1 : Int32) <<< (x149 &&& 31)) - (1 : Int32)) H22) fun v151 H152 =>
    B_M_getsPlaces_81 N p0 p1 kq2 l2 a24 l2 v151 H152
set_option maxRecDepth 20000 in
set_option maxHeartbeats 2000000 in
theorem mB_M_getsPlaces_45 {N : Nat} {p0 : Nat} {p1 : Nat} {kq2 : Int32 → Hp → Option (Unit × Hp)} (hm2 : ∀ (l2 : Int32) (H : Hp) (r : Unit × Hp), kq2 l2 H = some r → Sa H r.2) {l2 : Int32} {w0 : Nat} {w1 : Int32} {w2 : Int32} {H : Hp} {r : Unit × Hp} (hF : B_M_getsPlaces_45 N p0 p1 kq2 l2 w0 w1 w2 H = some r) : Sa H r.2 := by
  unfold B_M_getsPlaces_45 at hF
  have hm := Sa.rf H
  obtain ⟨n153, q154, hG⟩ := ar_s hF; clear hF
  obtain ⟨q155, hF⟩ := ck_s hG; clear hG
  obtain ⟨H156, eH156, hG⟩ := bnd_g hF; clear hF
  replace hm : Sa H H156 := by rw [eH156]; exact hm
  obtain ⟨q157, hF⟩ := ck_s hG; clear hG
  obtain ⟨a158, e159, hG⟩ := rf_s hF; clear hF
  obtain ⟨a160, e161, hF⟩ := rf_s hG; clear hG
  obtain ⟨n162, q163, hG⟩ := ar_s hF; clear hF
  obtain ⟨q164, hF⟩ := ck_s hG; clear hG
  obtain ⟨x165, -, hG⟩ := bnd_g hF; clear hF
  rcases ite_s hG with ⟨q_16, hF⟩ | ⟨q_16, hF⟩
  · clear hG
    exact hm.tr (mB_M_getsPlaces_81 hm2 hF)
  · clear hG
    obtain ⟨q167, hG⟩ := ck_s hF; clear hF
    obtain ⟨a168, e169, hF⟩ := rf_s hG; clear hG
    obtain ⟨q170, hG⟩ := ck_s hF; clear hF
    obtain ⟨x171, -, hF⟩ := bnd_g hG; clear hG
    obtain ⟨v173, H174, z172, hG⟩ := bC_s hF; clear hF
    replace hm : Sa H H174 := hm.tr (m_M_gets z172)
    exact hm.tr (mB_M_getsPlaces_81 hm2 hG)
set_option maxRecDepth 20000 in
set_option maxHeartbeats 2000000 in
theorem kB_M_getsPlaces_45 {N : Nat} {p0 : Nat} {p1 : Nat} {kq2 : Int32 → Hp → Option (Unit × Hp)} (hm2 : ∀ (l2 : Int32) (H : Hp) (r : Unit × Hp), kq2 l2 H = some r → Sa H r.2) (hk2 : ∀ (l2 : Int32) (H : Hp) (r : Unit × Hp), kq2 l2 H = some r → ab_V y_M_getsPlaces { frames := 3, cells := 0, slots := 0, locals := 71 } (po (.returned none) r.2) 0 0 0 0 2 [some (.ref p0), some (.ref p1), some (.int l2), none, none] [] (hpw H)) {l2 : Int32} {w0 : Nat} {w1 : Int32} {w2 : Int32} {H : Hp} {r : Unit × Hp} (hF : B_M_getsPlaces_45 N p0 p1 kq2 l2 w0 w1 w2 H = some r) : ab_V y_M_getsPlaces { frames := 3, cells := 0, slots := 0, locals := 71 } (po (.returned none) r.2) 0 0 0 0 45 [some (.ref p0), some (.ref p1), some (.int l2), none, none] [.int w2, .int w1, .ref w0] (hpw H) := by
  unfold B_M_getsPlaces_45 at hF
  obtain ⟨n19, q20, hG⟩ := ar_s hF; clear hF
  obtain ⟨q21, hF⟩ := ck_s hG; clear hG
  refine hp_zast d_M_getsPlaces_45 tZ q20 q21 ?_
  refine hp_gen (fun H22 eH22 => ?_)
  replace hF := bnd_s eH22 hF
  have s_4 : Sa H H22 := by rw [eH22]; exact Sa.rf _
  refine ab_aload_n d_M_getsPlaces_46 rfl rfl rfl ?_
  obtain ⟨q23, hG⟩ := ck_s hF; clear hF
  rw [(s_4).1] at q23
  obtain ⟨a24, e25, hF⟩ := rf_s hG; clear hG
  refine hp_getRN (f := 6) d_M_getsPlaces_47 (by rw [(s_4).1]; exact q23) (by decide) rfl (by decide) (k9 106 rfl rfl) rfl e25 ?_
  refine ab_iload_n d_M_getsPlaces_50 rfl rfl ?_
  refine ab_aload_n d_M_getsPlaces_51 rfl rfl rfl ?_
  obtain ⟨a26, e27, hG⟩ := rf_s hF; clear hF
  refine hp_getRN (f := 5) d_M_getsPlaces_52 (by rw [(s_4).1]; exact q23) (by decide) rfl (by decide) (k9 102 rfl rfl) rfl e27 ?_
  refine ab_iload_n d_M_getsPlaces_55 rfl rfl ?_
  obtain ⟨n28, q29, hF⟩ := ar_s hG; clear hG
  rw [(s_4).1] at q29
  obtain ⟨q30, hG⟩ := ck_s hF; clear hF
  refine hp_zald d_M_getsPlaces_56 tZ (by rw [(s_4).1]; exact q29) q30 ?_
  refine ab_topi (fun x31 ex31 => ?_)
  replace hG := bnd_s ex31 hG
  refine ab_if_eq (tgt := 80) d_M_getsPlaces_57 (by decide) (fun q32 => ?_) (fun q32 => ?_)
  · rw [if_pos q32] at hG
    refine ab_iconst (v := 0) d_M_getsPlaces_80 (by decide) ?_
    exact kB_M_getsPlaces_81 hm2 hk2 hG
  · rw [if_neg q32] at hG
    refine ab_aload_n d_M_getsPlaces_60 rfl rfl rfl ?_
    refine ab_iconst (v := 2) d_M_getsPlaces_61 (by decide) ?_
    refine ab_iconst (v := 0) d_M_getsPlaces_62 (by decide) ?_
    refine ab_iconst (v := 1) d_M_getsPlaces_63 (by decide) ?_
    refine ab_aload_n d_M_getsPlaces_64 rfl rfl rfl ?_
    obtain ⟨q145, hF⟩ := ck_s hG; clear hG
    rw [(s_4).1] at q145
    obtain ⟨a146, e147, hG⟩ := rf_s hF; clear hF
    refine hp_getR (f := 3) d_M_getsPlaces_65 (by rw [(s_4).1]; exact q145) (by decide) rfl (by decide) (k9 236 rfl rfl) rfl e147 ?_
    obtain ⟨q148, hF⟩ := ck_s hG; clear hG
    rw [(s_4).1] at q148
    refine hp_getIN (f := 16) d_M_getsPlaces_68 (by rw [(s_4).1]; exact q148) (by decide) rfl (by decide) (k8 180 rfl rfl) rfl ?_
    refine ab_topi (fun x149 ex149 => ?_)
    replace hF := bnd_s ex149 hF
    refine ab_ishl d_M_getsPlaces_71 ?_
    refine ab_iconst (v := 1) d_M_getsPlaces_72 (by decide) ?_
    refine ab_isub d_M_getsPlaces_73 ?_
    obtain ⟨v151, H152, z150, hG⟩ := bC_s hF; clear hF
    refine hp_callV_a (v := .int v151) (H1 := H152) (As := [.int 2, .int 0, .int (((1 : Int32) <<< (x149 &&& 31)) - (1 : Int32))]) (rest := [.int l2, .ref a24]) d_M_getsPlaces_74 (k_M_gets z150) (ab_mkC s_M_gets (Nat.le_of_ble_eq_true rfl) (Nat.le_of_ble_eq_true rfl) (Nat.le_refl 0) (Nat.le_refl 0)) (k13 66 rfl rfl) i_M_gets v_M_gets (by rw [(s_4).1]; exact q145) (by decide) rfl rfl (Nat.le_of_ble_eq_true rfl) ?_
    have s_14 : Sa H H152 := (s_4).tr (m_M_gets z150)
    refine ab_goto (tgt := 81) d_M_getsPlaces_77 (by decide) ?_
    exact kB_M_getsPlaces_81 hm2 hk2 hG
def B_M_getsPlaces_2 (N : Nat) (p0 : Nat) (p1 : Nat) : Nat → Int32 → Hp → Option (Unit × Hp)
  | 0, _, _ => none
  | n + 1, l2, H =>
    if (256 : Int32) ≤ l2 then
    some ((), H)
    else
    ck (H.sh[p1]? = some (13, 0)) <|
    rf (H.P p1 4) fun a3 =>
    ck (H.sh[p0]? = some (12, 0)) <|
    bC (F_M_gets N p0 (4 : Int32) (0 : Int32) (8000000 : Int32) H) fun v7 H8 =>
    ar H8 100 a3 fun n9 =>
    ck (inb l2 n9) <|
    bnd (H8.sD a3 (l2).toNatClampNeg v7) fun H12 =>
    rf (H12.P p1 5) fun a13 =>
    bC (F_M_gets N p0 (1 : Int32) (0 : Int32) (1 : Int32) H12) fun v16 H17 =>
    if v16 = (1 : Int32) then
    B_M_getsPlaces_45 N p0 p1 (fun l2 H => B_M_getsPlaces_2 N p0 p1 n l2 H) l2 a13 l2 1 H17
    else
    B_M_getsPlaces_45 N p0 p1 (fun l2 H => B_M_getsPlaces_2 N p0 p1 n l2 H) l2 a13 l2 0 H17
termination_by structural n => n
set_option maxRecDepth 20000 in
set_option maxHeartbeats 2000000 in
theorem mB_M_getsPlaces_2 {N : Nat} {p0 : Nat} {p1 : Nat} : ∀ (n : Nat) (l2 : Int32) (H : Hp) (r : Unit × Hp), B_M_getsPlaces_2 N p0 p1 n l2 H = some r → Sa H r.2 := by
  intro n
  induction n with
  | zero => intro l2 H r hF; rw [B_M_getsPlaces_2] at hF; cases hF
  | succ n ih =>
    intro l2 H r hF
    rw [B_M_getsPlaces_2] at hF
    have hm := Sa.rf H
    rcases ite_s hF with ⟨q_18, hG⟩ | ⟨q_18, hG⟩
    · clear hF
      have hr := Option.some.inj hG; subst hr
      exact hm
    · clear hF
      obtain ⟨q176, hF⟩ := ck_s hG; clear hG
      obtain ⟨a177, e178, hG⟩ := rf_s hF; clear hF
      obtain ⟨q179, hF⟩ := ck_s hG; clear hG
      obtain ⟨v181, H182, z180, hG⟩ := bC_s hF; clear hF
      replace hm : Sa H H182 := hm.tr (m_M_gets z180)
      obtain ⟨n183, q184, hF⟩ := ar_s hG; clear hG
      obtain ⟨q185, hG⟩ := ck_s hF; clear hF
      obtain ⟨H186, eH186, hF⟩ := bnd_g hG; clear hG
      replace hm : Sa H H186 := by rw [eH186]; exact hm
      obtain ⟨a187, e188, hG⟩ := rf_s hF; clear hF
      obtain ⟨v190, H191, z189, hF⟩ := bC_s hG; clear hG
      replace hm : Sa H H191 := hm.tr (m_M_gets z189)
      rcases ite_s hF with ⟨q_22, hG⟩ | ⟨q_22, hG⟩
      · clear hF
        exact hm.tr (mB_M_getsPlaces_45 ih hG)
      · clear hF
        exact hm.tr (mB_M_getsPlaces_45 ih hG)
set_option maxRecDepth 20000 in
set_option maxHeartbeats 2000000 in
theorem kB_M_getsPlaces_2 {N : Nat} {p0 : Nat} {p1 : Nat} : ∀ (n : Nat) (l2 : Int32) (H : Hp) (r : Unit × Hp), B_M_getsPlaces_2 N p0 p1 n l2 H = some r → ab_V y_M_getsPlaces { frames := 3, cells := 0, slots := 0, locals := 71 } (po (.returned none) r.2) 0 0 0 0 2 [some (.ref p0), some (.ref p1), some (.int l2), none, none] [] (hpw H) := by
  intro n
  induction n with
  | zero => intro l2 H r hF; rw [B_M_getsPlaces_2] at hF; cases hF
  | succ n ih =>
    intro l2 H r hF
    rw [B_M_getsPlaces_2] at hF
    refine ab_iload_n d_M_getsPlaces_2 rfl rfl ?_
    refine ab_sipush (v := 256) d_M_getsPlaces_3 (by decide) ?_
    refine ab_icmp_ge (tgt := 180) d_M_getsPlaces_6 (by decide) (fun q1 => ?_) (fun q1 => ?_)
    · rw [if_pos q1] at hF
      exact ab_vret d_M_getsPlaces_180 rfl (Nat.le_refl _) (Nat.le_refl _) (by have hr := Option.some.inj hF; subst hr; exact ⟨rfl, rfl⟩)
    · rw [if_neg q1] at hF
      refine ab_aload_n d_M_getsPlaces_9 rfl rfl rfl ?_
      obtain ⟨q2, hG⟩ := ck_s hF; clear hF
      obtain ⟨a3, e4, hF⟩ := rf_s hG; clear hG
      refine hp_getRN (f := 4) d_M_getsPlaces_10 q2 (by decide) rfl (by decide) (k9 99 rfl rfl) rfl e4 ?_
      refine ab_iload_n d_M_getsPlaces_13 rfl rfl ?_
      refine ab_aload_n d_M_getsPlaces_14 rfl rfl rfl ?_
      refine ab_iconst (v := 4) d_M_getsPlaces_15 (by decide) ?_
      refine ab_iconst (v := 0) d_M_getsPlaces_16 (by decide) ?_
      refine ab_ldcw d_M_getsPlaces_17 (k13 76 rfl rfl) ?_
      obtain ⟨q5, hG⟩ := ck_s hF; clear hF
      obtain ⟨v7, H8, z6, hF⟩ := bC_s hG; clear hG
      refine hp_callV_a (v := .int v7) (H1 := H8) (As := [.int 4, .int 0, .int 8000000]) (rest := [.int l2, .ref a3]) d_M_getsPlaces_20 (k_M_gets z6) (ab_mkC s_M_gets (Nat.le_of_ble_eq_true rfl) (Nat.le_of_ble_eq_true rfl) (Nat.le_refl 0) (Nat.le_refl 0)) (k13 66 rfl rfl) i_M_gets v_M_gets q5 (by decide) rfl rfl (Nat.le_of_ble_eq_true rfl) ?_
      have s_1 : Sa H H8 := (m_M_gets z6)
      obtain ⟨n9, q10, hG⟩ := ar_s hF; clear hF
      rw [(s_1).1] at q10
      obtain ⟨q11, hF⟩ := ck_s hG; clear hG
      refine hp_iast d_M_getsPlaces_23 tI (by rw [(s_1).1]; exact q10) q11 ?_
      refine hp_gen (fun H12 eH12 => ?_)
      replace hF := bnd_s eH12 hF
      have s_2 : Sa H H12 := by rw [eH12]; exact s_1
      refine ab_aload_n d_M_getsPlaces_24 rfl rfl rfl ?_
      obtain ⟨a13, e14, hG⟩ := rf_s hF; clear hF
      refine hp_getRN (f := 5) d_M_getsPlaces_25 (by rw [(s_2).1]; exact q2) (by decide) rfl (by decide) (k9 102 rfl rfl) rfl e14 ?_
      refine ab_iload_n d_M_getsPlaces_28 rfl rfl ?_
      refine ab_aload_n d_M_getsPlaces_29 rfl rfl rfl ?_
      refine ab_iconst (v := 1) d_M_getsPlaces_30 (by decide) ?_
      refine ab_iconst (v := 0) d_M_getsPlaces_31 (by decide) ?_
      refine ab_iconst (v := 1) d_M_getsPlaces_32 (by decide) ?_
      obtain ⟨v16, H17, z15, hF⟩ := bC_s hG; clear hG
      refine hp_callV_a (v := .int v16) (H1 := H17) (As := [.int 1, .int 0, .int 1]) (rest := [.int l2, .ref a13]) d_M_getsPlaces_33 (k_M_gets z15) (ab_mkC s_M_gets (Nat.le_of_ble_eq_true rfl) (Nat.le_of_ble_eq_true rfl) (Nat.le_refl 0) (Nat.le_refl 0)) (k13 66 rfl rfl) i_M_gets v_M_gets (by rw [(s_2).1]; exact q5) (by decide) rfl rfl (Nat.le_of_ble_eq_true rfl) ?_
      have s_3 : Sa H H17 := (s_2).tr (m_M_gets z15)
      refine ab_iconst (v := 1) d_M_getsPlaces_36 (by decide) ?_
      refine ab_icmp_ne (tgt := 44) d_M_getsPlaces_37 (by decide) (fun q18 => ?_) (fun q18 => ?_)
      · rw [if_neg q18] at hF
        refine ab_iconst (v := 0) d_M_getsPlaces_44 (by decide) ?_
        exact kB_M_getsPlaces_45 (mB_M_getsPlaces_2 n) ih hF
      · rw [if_pos q18] at hF
        refine ab_iconst (v := 1) d_M_getsPlaces_40 (by decide) ?_
        refine ab_goto (tgt := 45) d_M_getsPlaces_41 (by decide) ?_
        exact kB_M_getsPlaces_45 (mB_M_getsPlaces_2 n) ih hF
def F_M_getsPlaces (N : Nat) (p0 : Nat) (p1 : Nat) (H : Hp) : Option (Unit × Hp) :=
    B_M_getsPlaces_2 N p0 p1 N 0 H
set_option maxRecDepth 20000 in
set_option maxHeartbeats 2000000 in
theorem m_M_getsPlaces {N : Nat} {p0 : Nat} {p1 : Nat} {H : Hp} {r : Unit × Hp} (hF : F_M_getsPlaces N p0 p1 H = some r) : Sa H r.2 := by
  unfold F_M_getsPlaces at hF
  have hm := Sa.rf H
  exact hm.tr (mB_M_getsPlaces_2 N 0 H r hF)
set_option maxRecDepth 20000 in
set_option maxHeartbeats 2000000 in
theorem k_M_getsPlaces {N : Nat} {p0 : Nat} {p1 : Nat} {H : Hp} {r : Unit × Hp} (hF : F_M_getsPlaces N p0 p1 H = some r) : ab_M y_M_getsPlaces { frames := 3, cells := 0, slots := 0, locals := 71 } [.ref p0, .ref p1] (hpw H) (po (.returned none) r.2) := by
  unfold F_M_getsPlaces at hF
  refine ab_of2 (lv := [some (.ref p0), some (.ref p1), none, none, none]) 3 rfl rfl (Nat.le_of_ble_eq_true rfl) ?_
  refine ab_iconst (v := 0) d_M_getsPlaces_0 (by decide) ?_
  refine ab_istore_n (lv' := [some (.ref p0), some (.ref p1), some (.int 0), none, none]) d_M_getsPlaces_1 rfl (by decide) rfl ?_
  exact kB_M_getsPlaces_2 N 0 H r hF
def y_M_getsPending : ab_Y := (⟨"WorldEngineModel", "getsPending", "(LWorldEngineModel$World;)V"⟩, prog_14_method_55_code, 4, none, [])
theorem d_M_getsPending_0 : decode y_M_getsPending.2.1 0 = .ok (.aload_n 1, 1) := by decide +kernel
theorem d_M_getsPending_1 : decode y_M_getsPending.2.1 1 = .ok (.aload_n 0, 1) := by decide +kernel
theorem d_M_getsPending_2 : decode y_M_getsPending.2.1 2 = .ok (.iconst 2, 1) := by decide +kernel
theorem d_M_getsPending_3 : decode y_M_getsPending.2.1 3 = .ok (.iconst 0, 1) := by decide +kernel
theorem d_M_getsPending_4 : decode y_M_getsPending.2.1 4 = .ok (.sipush 256, 3) := by decide +kernel
theorem d_M_getsPending_7 : decode y_M_getsPending.2.1 7 = .ok (.invokevirtual 359, 3) := by decide +kernel
theorem d_M_getsPending_10 : decode y_M_getsPending.2.1 10 = .ok (.putfield 195, 3) := by decide +kernel
theorem d_M_getsPending_13 : decode y_M_getsPending.2.1 13 = .ok (.iconst 0, 1) := by decide +kernel
theorem d_M_getsPending_14 : decode y_M_getsPending.2.1 14 = .ok (.istore_n 2, 1) := by decide +kernel
theorem d_M_getsPending_15 : decode y_M_getsPending.2.1 15 = .ok (.iload_n 2, 1) := by decide +kernel
theorem d_M_getsPending_16 : decode y_M_getsPending.2.1 16 = .ok (.aload_n 1, 1) := by decide +kernel
theorem d_M_getsPending_17 : decode y_M_getsPending.2.1 17 = .ok (.getfield 195, 3) := by decide +kernel
theorem d_M_getsPending_20 : decode y_M_getsPending.2.1 20 = .ok (.if_icmp .ge 134, 3) := by decide +kernel
theorem d_M_getsPending_23 : decode y_M_getsPending.2.1 23 = .ok (.aload_n 0, 1) := by decide +kernel
theorem d_M_getsPending_24 : decode y_M_getsPending.2.1 24 = .ok (.getfield 353, 3) := by decide +kernel
theorem d_M_getsPending_27 : decode y_M_getsPending.2.1 27 = .ok (.ifCond .ge 127, 3) := by decide +kernel
theorem d_M_getsPending_30 : decode y_M_getsPending.2.1 30 = .ok (.aload_n 1, 1) := by decide +kernel
theorem d_M_getsPending_31 : decode y_M_getsPending.2.1 31 = .ok (.getfield 201, 3) := by decide +kernel
theorem d_M_getsPending_34 : decode y_M_getsPending.2.1 34 = .ok (.iload_n 2, 1) := by decide +kernel
theorem d_M_getsPending_35 : decode y_M_getsPending.2.1 35 = .ok (.aload_n 0, 1) := by decide +kernel
theorem d_M_getsPending_36 : decode y_M_getsPending.2.1 36 = .ok (.iconst 1, 1) := by decide +kernel
theorem d_M_getsPending_37 : decode y_M_getsPending.2.1 37 = .ok (.iconst 0, 1) := by decide +kernel
theorem d_M_getsPending_38 : decode y_M_getsPending.2.1 38 = .ok (.aload_n 0, 1) := by decide +kernel
theorem d_M_getsPending_39 : decode y_M_getsPending.2.1 39 = .ok (.getfield 16, 3) := by decide +kernel
theorem d_M_getsPending_42 : decode y_M_getsPending.2.1 42 = .ok (.getfield 341, 3) := by decide +kernel
theorem d_M_getsPending_45 : decode y_M_getsPending.2.1 45 = .ok (.iconst 1, 1) := by decide +kernel
theorem d_M_getsPending_46 : decode y_M_getsPending.2.1 46 = .ok (.isub, 1) := by decide +kernel
theorem d_M_getsPending_47 : decode y_M_getsPending.2.1 47 = .ok (.invokevirtual 359, 3) := by decide +kernel
theorem d_M_getsPending_50 : decode y_M_getsPending.2.1 50 = .ok (.iastore, 1) := by decide +kernel
theorem d_M_getsPending_51 : decode y_M_getsPending.2.1 51 = .ok (.aload_n 1, 1) := by decide +kernel
theorem d_M_getsPending_52 : decode y_M_getsPending.2.1 52 = .ok (.getfield 208, 3) := by decide +kernel
theorem d_M_getsPending_55 : decode y_M_getsPending.2.1 55 = .ok (.iload_n 2, 1) := by decide +kernel
theorem d_M_getsPending_56 : decode y_M_getsPending.2.1 56 = .ok (.aload_n 0, 1) := by decide +kernel
theorem d_M_getsPending_57 : decode y_M_getsPending.2.1 57 = .ok (.iconst 4, 1) := by decide +kernel
theorem d_M_getsPending_58 : decode y_M_getsPending.2.1 58 = .ok (.aload_n 1, 1) := by decide +kernel
theorem d_M_getsPending_59 : decode y_M_getsPending.2.1 59 = .ok (.getfield 145, 3) := by decide +kernel
theorem d_M_getsPending_62 : decode y_M_getsPending.2.1 62 = .ok (.iconst 1, 1) := by decide +kernel
theorem d_M_getsPending_63 : decode y_M_getsPending.2.1 63 = .ok (.iadd, 1) := by decide +kernel
theorem d_M_getsPending_64 : decode y_M_getsPending.2.1 64 = .ok (.aload_n 1, 1) := by decide +kernel
theorem d_M_getsPending_65 : decode y_M_getsPending.2.1 65 = .ok (.getfield 145, 3) := by decide +kernel
theorem d_M_getsPending_68 : decode y_M_getsPending.2.1 68 = .ok (.bipush 16, 2) := by decide +kernel
theorem d_M_getsPending_70 : decode y_M_getsPending.2.1 70 = .ok (.iadd, 1) := by decide +kernel
theorem d_M_getsPending_71 : decode y_M_getsPending.2.1 71 = .ok (.invokevirtual 359, 3) := by decide +kernel
theorem d_M_getsPending_74 : decode y_M_getsPending.2.1 74 = .ok (.iastore, 1) := by decide +kernel
theorem d_M_getsPending_75 : decode y_M_getsPending.2.1 75 = .ok (.aload_n 1, 1) := by decide +kernel
theorem d_M_getsPending_76 : decode y_M_getsPending.2.1 76 = .ok (.getfield 211, 3) := by decide +kernel
theorem d_M_getsPending_79 : decode y_M_getsPending.2.1 79 = .ok (.iload_n 2, 1) := by decide +kernel
theorem d_M_getsPending_80 : decode y_M_getsPending.2.1 80 = .ok (.aload_n 0, 1) := by decide +kernel
theorem d_M_getsPending_81 : decode y_M_getsPending.2.1 81 = .ok (.iconst 4, 1) := by decide +kernel
theorem d_M_getsPending_82 : decode y_M_getsPending.2.1 82 = .ok (.iconst (-1), 1) := by decide +kernel
theorem d_M_getsPending_83 : decode y_M_getsPending.2.1 83 = .ok (.ldc_w 363, 3) := by decide +kernel
theorem d_M_getsPending_86 : decode y_M_getsPending.2.1 86 = .ok (.invokevirtual 359, 3) := by decide +kernel
theorem d_M_getsPending_89 : decode y_M_getsPending.2.1 89 = .ok (.iastore, 1) := by decide +kernel
theorem d_M_getsPending_90 : decode y_M_getsPending.2.1 90 = .ok (.iconst 0, 1) := by decide +kernel
theorem d_M_getsPending_91 : decode y_M_getsPending.2.1 91 = .ok (.istore_n 3, 1) := by decide +kernel
theorem d_M_getsPending_92 : decode y_M_getsPending.2.1 92 = .ok (.iload_n 3, 1) := by decide +kernel
theorem d_M_getsPending_93 : decode y_M_getsPending.2.1 93 = .ok (.aload_n 0, 1) := by decide +kernel
theorem d_M_getsPending_94 : decode y_M_getsPending.2.1 94 = .ok (.getfield 16, 3) := by decide +kernel
theorem d_M_getsPending_97 : decode y_M_getsPending.2.1 97 = .ok (.getfield 310, 3) := by decide +kernel
theorem d_M_getsPending_100 : decode y_M_getsPending.2.1 100 = .ok (.aload_n 1, 1) := by decide +kernel
theorem d_M_getsPending_101 : decode y_M_getsPending.2.1 101 = .ok (.getfield 201, 3) := by decide +kernel
theorem d_M_getsPending_104 : decode y_M_getsPending.2.1 104 = .ok (.iload_n 2, 1) := by decide +kernel
theorem d_M_getsPending_105 : decode y_M_getsPending.2.1 105 = .ok (.iaload, 1) := by decide +kernel
theorem d_M_getsPending_106 : decode y_M_getsPending.2.1 106 = .ok (.iaload, 1) := by decide +kernel
theorem d_M_getsPending_107 : decode y_M_getsPending.2.1 107 = .ok (.if_icmp .ge 41, 3) := by decide +kernel
theorem d_M_getsPending_110 : decode y_M_getsPending.2.1 110 = .ok (.aload_n 1, 1) := by decide +kernel
theorem d_M_getsPending_111 : decode y_M_getsPending.2.1 111 = .ok (.getfield 214, 3) := by decide +kernel
theorem d_M_getsPending_114 : decode y_M_getsPending.2.1 114 = .ok (.iconst 4, 1) := by decide +kernel
theorem d_M_getsPending_115 : decode y_M_getsPending.2.1 115 = .ok (.iload_n 2, 1) := by decide +kernel
theorem d_M_getsPending_116 : decode y_M_getsPending.2.1 116 = .ok (.imul, 1) := by decide +kernel
theorem d_M_getsPending_117 : decode y_M_getsPending.2.1 117 = .ok (.iload_n 3, 1) := by decide +kernel
theorem d_M_getsPending_118 : decode y_M_getsPending.2.1 118 = .ok (.iadd, 1) := by decide +kernel
theorem d_M_getsPending_119 : decode y_M_getsPending.2.1 119 = .ok (.aload_n 0, 1) := by decide +kernel
theorem d_M_getsPending_120 : decode y_M_getsPending.2.1 120 = .ok (.aload_n 0, 1) := by decide +kernel
theorem d_M_getsPending_121 : decode y_M_getsPending.2.1 121 = .ok (.getfield 16, 3) := by decide +kernel
theorem d_M_getsPending_124 : decode y_M_getsPending.2.1 124 = .ok (.getfield 344, 3) := by decide +kernel
theorem d_M_getsPending_127 : decode y_M_getsPending.2.1 127 = .ok (.iconst 4, 1) := by decide +kernel
theorem d_M_getsPending_128 : decode y_M_getsPending.2.1 128 = .ok (.aload_n 1, 1) := by decide +kernel
theorem d_M_getsPending_129 : decode y_M_getsPending.2.1 129 = .ok (.getfield 201, 3) := by decide +kernel
theorem d_M_getsPending_132 : decode y_M_getsPending.2.1 132 = .ok (.iload_n 2, 1) := by decide +kernel
theorem d_M_getsPending_133 : decode y_M_getsPending.2.1 133 = .ok (.iaload, 1) := by decide +kernel
theorem d_M_getsPending_134 : decode y_M_getsPending.2.1 134 = .ok (.imul, 1) := by decide +kernel
theorem d_M_getsPending_135 : decode y_M_getsPending.2.1 135 = .ok (.iload_n 3, 1) := by decide +kernel
theorem d_M_getsPending_136 : decode y_M_getsPending.2.1 136 = .ok (.iadd, 1) := by decide +kernel
theorem d_M_getsPending_137 : decode y_M_getsPending.2.1 137 = .ok (.iaload, 1) := by decide +kernel
theorem d_M_getsPending_138 : decode y_M_getsPending.2.1 138 = .ok (.invokevirtual 368, 3) := by decide +kernel
theorem d_M_getsPending_141 : decode y_M_getsPending.2.1 141 = .ok (.iastore, 1) := by decide +kernel
theorem d_M_getsPending_142 : decode y_M_getsPending.2.1 142 = .ok (.iinc 3 1, 3) := by decide +kernel
theorem d_M_getsPending_145 : decode y_M_getsPending.2.1 145 = .ok (.goto (-53), 3) := by decide +kernel
theorem d_M_getsPending_148 : decode y_M_getsPending.2.1 148 = .ok (.iinc 2 1, 3) := by decide +kernel
theorem d_M_getsPending_151 : decode y_M_getsPending.2.1 151 = .ok (.goto (-136), 3) := by decide +kernel
theorem d_M_getsPending_154 : decode y_M_getsPending.2.1 154 = .ok (.return_, 1) := by decide +kernel
theorem s_M_getsPending : ab_Stat y_M_getsPending 1 := ⟨(k13 84 rfl rfl), (k1 19 rfl rfl), ⟨by decide, by decide⟩, by decide +kernel⟩
theorem i_M_getsPending : Cond.instanceMethod y_M_getsPending.1 ∈ ab_T := (k13 83 rfl rfl)
theorem v_M_getsPending : Cond.selects "WorldEngineModel" y_M_getsPending.1 y_M_getsPending.1 ∈ ab_T := ab_s (List.mem_of_getElem? (i := 216) rfl) rfl
def B_M_getsPending_92 (N : Nat) (p0 : Nat) (p1 : Nat) (kq15 : Int32 → Hp → Option (Unit × Hp)) : Nat → Int32 → Int32 → Hp → Option (Unit × Hp)
  | 0, _, _, _ => none
  | n + 1, l2, l3, H =>
    ck (H.sh[p0]? = some (12, 0)) <|
    rf (H.P p0 3) fun a47 =>
    ck (H.sh[a47]? = some (14, 0)) <|
    rf (H.P a47 23) fun a50 =>
    ck (H.sh[p1]? = some (13, 0)) <|
    rf (H.P p1 9) fun a53 =>
    ar H 100 a53 fun n55 =>
    ck (inb l2 n55) <|
    bnd ((H.D a53 (l2).toNatClampNeg)) fun x58 =>
    ar H 100 a50 fun n59 =>
    ck (inb x58 n59) <|
    bnd ((H.D a50 (x58).toNatClampNeg)) fun x62 =>
    if x62 ≤ l3 then
    kq15 (l2 + 1) H
    else
    rf (H.P p1 12) fun a64 =>
    rf (H.P p0 3) fun a66 =>
    ck (H.sh[a66]? = some (14, 0)) <|
    rf (H.P a66 24) fun a69 =>
    rf (H.P p1 9) fun a71 =>
    ar H 100 a71 fun n73 =>
    ck (inb l2 n73) <|
    bnd ((H.D a71 (l2).toNatClampNeg)) fun x76 =>
    ar H 100 a69 fun n77 =>
    ck (inb (((4 : Int32) * x76) + l3) n77) <|
    bnd ((H.D a69 ((((4 : Int32) * x76) + l3)).toNatClampNeg)) fun x80 =>
    bC (F_M_getsOf N p0 x80 H) fun v82 H83 =>
    ar H83 100 a64 fun n84 =>
    ck (inb (((4 : Int32) * l2) + l3) n84) <|
    bnd (H83.sD a64 ((((4 : Int32) * l2) + l3)).toNatClampNeg v82) fun H87 =>
    B_M_getsPending_92 N p0 p1 kq15 n l2 (l3 + 1) H87
termination_by structural n => n
set_option maxRecDepth 20000 in
set_option maxHeartbeats 2000000 in
theorem mB_M_getsPending_92 {N : Nat} {p0 : Nat} {p1 : Nat} {kq15 : Int32 → Hp → Option (Unit × Hp)} (hm15 : ∀ (l2 : Int32) (H : Hp) (r : Unit × Hp), kq15 l2 H = some r → Sa H r.2) : ∀ (n : Nat) (l2 : Int32) (l3 : Int32) (H : Hp) (r : Unit × Hp), B_M_getsPending_92 N p0 p1 kq15 n l2 l3 H = some r → Sa H r.2 := by
  intro n
  induction n with
  | zero => intro l2 l3 H r hF; rw [B_M_getsPending_92] at hF; cases hF
  | succ n ih =>
    intro l2 l3 H r hF
    rw [B_M_getsPending_92] at hF
    have hm := Sa.rf H
    obtain ⟨q88, hG⟩ := ck_s hF; clear hF
    obtain ⟨a89, e90, hF⟩ := rf_s hG; clear hG
    obtain ⟨q91, hG⟩ := ck_s hF; clear hF
    obtain ⟨a92, e93, hF⟩ := rf_s hG; clear hG
    obtain ⟨q94, hG⟩ := ck_s hF; clear hF
    obtain ⟨a95, e96, hF⟩ := rf_s hG; clear hG
    obtain ⟨n97, q98, hG⟩ := ar_s hF; clear hF
    obtain ⟨q99, hF⟩ := ck_s hG; clear hG
    obtain ⟨x100, -, hG⟩ := bnd_g hF; clear hF
    obtain ⟨n101, q102, hF⟩ := ar_s hG; clear hG
    obtain ⟨q103, hG⟩ := ck_s hF; clear hF
    obtain ⟨x104, -, hF⟩ := bnd_g hG; clear hG
    rcases ite_s hF with ⟨q_11, hG⟩ | ⟨q_11, hG⟩
    · clear hF
      exact hm.tr (hm15 (l2 + 1) H r hG)
    · clear hF
      obtain ⟨a106, e107, hF⟩ := rf_s hG; clear hG
      obtain ⟨a108, e109, hG⟩ := rf_s hF; clear hF
      obtain ⟨q110, hF⟩ := ck_s hG; clear hG
      obtain ⟨a111, e112, hG⟩ := rf_s hF; clear hF
      obtain ⟨a113, e114, hF⟩ := rf_s hG; clear hG
      obtain ⟨n115, q116, hG⟩ := ar_s hF; clear hF
      obtain ⟨q117, hF⟩ := ck_s hG; clear hG
      obtain ⟨x118, -, hG⟩ := bnd_g hF; clear hF
      obtain ⟨n119, q120, hF⟩ := ar_s hG; clear hG
      obtain ⟨q121, hG⟩ := ck_s hF; clear hF
      obtain ⟨x122, -, hF⟩ := bnd_g hG; clear hG
      obtain ⟨v124, H125, z123, hG⟩ := bC_s hF; clear hF
      replace hm : Sa H H125 := hm.tr (m_M_getsOf z123)
      obtain ⟨n126, q127, hF⟩ := ar_s hG; clear hG
      obtain ⟨q128, hG⟩ := ck_s hF; clear hF
      obtain ⟨H129, eH129, hF⟩ := bnd_g hG; clear hG
      replace hm : Sa H H129 := by rw [eH129]; exact hm
      exact hm.tr (ih l2 (l3 + 1) H129 r hF)
set_option maxRecDepth 20000 in
set_option maxHeartbeats 2000000 in
theorem kB_M_getsPending_92 {N : Nat} {p0 : Nat} {p1 : Nat} {kq15 : Int32 → Hp → Option (Unit × Hp)} (hm15 : ∀ (l2 : Int32) (H : Hp) (r : Unit × Hp), kq15 l2 H = some r → Sa H r.2) (hk15 : ∀ (l2 : Int32) (H : Hp) (r : Unit × Hp), kq15 l2 H = some r → ab_V y_M_getsPending { frames := 3, cells := 0, slots := 0, locals := 71 } (po (.returned none) r.2) 0 0 0 0 15 [some (.ref p0), some (.ref p1), some (.int l2), none] [] (hpw H)) : ∀ (n : Nat) (l2 : Int32) (l3 : Int32) (H : Hp) (r : Unit × Hp), B_M_getsPending_92 N p0 p1 kq15 n l2 l3 H = some r → ab_V y_M_getsPending { frames := 3, cells := 0, slots := 0, locals := 71 } (po (.returned none) r.2) 0 0 0 0 92 [some (.ref p0), some (.ref p1), some (.int l2), some (.int l3)] [] (hpw H) := by
  intro n
  induction n with
  | zero => intro l2 l3 H r hF; rw [B_M_getsPending_92] at hF; cases hF
  | succ n ih =>
    intro l2 l3 H r hF
    rw [B_M_getsPending_92] at hF
    refine ab_iload_n d_M_getsPending_92 rfl rfl ?_
    refine ab_aload_n d_M_getsPending_93 rfl rfl rfl ?_
    obtain ⟨q46, hG⟩ := ck_s hF; clear hF
    obtain ⟨a47, e48, hF⟩ := rf_s hG; clear hG
    refine hp_getR (f := 3) d_M_getsPending_94 q46 (by decide) rfl (by decide) (k9 236 rfl rfl) rfl e48 ?_
    obtain ⟨q49, hG⟩ := ck_s hF; clear hF
    obtain ⟨a50, e51, hF⟩ := rf_s hG; clear hG
    refine hp_getRN (f := 23) d_M_getsPending_97 q49 (by decide) rfl (by decide) (k8 200 rfl rfl) rfl e51 ?_
    refine ab_aload_n d_M_getsPending_100 rfl rfl rfl ?_
    obtain ⟨q52, hG⟩ := ck_s hF; clear hF
    obtain ⟨a53, e54, hF⟩ := rf_s hG; clear hG
    refine hp_getRN (f := 9) d_M_getsPending_101 q52 (by decide) rfl (by decide) (k9 115 rfl rfl) rfl e54 ?_
    refine ab_iload_n d_M_getsPending_104 rfl rfl ?_
    obtain ⟨n55, q56, hG⟩ := ar_s hF; clear hF
    obtain ⟨q57, hF⟩ := ck_s hG; clear hG
    refine hp_iald d_M_getsPending_105 tI q56 q57 ?_
    refine ab_topi (fun x58 ex58 => ?_)
    replace hF := bnd_s ex58 hF
    obtain ⟨n59, q60, hG⟩ := ar_s hF; clear hF
    obtain ⟨q61, hF⟩ := ck_s hG; clear hG
    refine hp_iald d_M_getsPending_106 tI q60 q61 ?_
    refine ab_topi (fun x62 ex62 => ?_)
    replace hF := bnd_s ex62 hF
    refine ab_icmp_ge (tgt := 148) d_M_getsPending_107 (by decide) (fun q63 => ?_) (fun q63 => ?_)
    · rw [if_pos q63] at hF
      refine ab_iinc (v := l2 + 1) (lv' := [some (.ref p0), some (.ref p1), some (.int (l2 + 1)), some (.int l3)]) d_M_getsPending_148 rfl rfl (by decide) rfl ?_
      refine ab_goto (tgt := 15) d_M_getsPending_151 (by decide) ?_
      refine ab_le (lv' := [some (.ref p0), some (.ref p1), some (.int (l2 + 1)), none]) ⟨rfl, ⟨rfl, ⟨rfl, trivial⟩⟩⟩ ?_
      exact hk15 (l2 + 1) H r hF
    · rw [if_neg q63] at hF
      refine ab_aload_n d_M_getsPending_110 rfl rfl rfl ?_
      obtain ⟨a64, e65, hG⟩ := rf_s hF; clear hF
      refine hp_getRN (f := 12) d_M_getsPending_111 q52 (by decide) rfl (by decide) (k9 124 rfl rfl) rfl e65 ?_
      refine ab_iconst (v := 4) d_M_getsPending_114 (by decide) ?_
      refine ab_iload_n d_M_getsPending_115 rfl rfl ?_
      refine ab_imul d_M_getsPending_116 ?_
      refine ab_iload_n d_M_getsPending_117 rfl rfl ?_
      refine ab_iadd d_M_getsPending_118 ?_
      refine ab_aload_n d_M_getsPending_119 rfl rfl rfl ?_
      refine ab_aload_n d_M_getsPending_120 rfl rfl rfl ?_
      obtain ⟨a66, e67, hF⟩ := rf_s hG; clear hG
      refine hp_getR (f := 3) d_M_getsPending_121 q46 (by decide) rfl (by decide) (k9 236 rfl rfl) rfl e67 ?_
      obtain ⟨q68, hG⟩ := ck_s hF; clear hF
      obtain ⟨a69, e70, hF⟩ := rf_s hG; clear hG
      refine hp_getRN (f := 24) d_M_getsPending_124 q68 (by decide) rfl (by decide) (k8 203 rfl rfl) rfl e70 ?_
      refine ab_iconst (v := 4) d_M_getsPending_127 (by decide) ?_
      refine ab_aload_n d_M_getsPending_128 rfl rfl rfl ?_
      obtain ⟨a71, e72, hG⟩ := rf_s hF; clear hF
      refine hp_getRN (f := 9) d_M_getsPending_129 q52 (by decide) rfl (by decide) (k9 115 rfl rfl) rfl e72 ?_
      refine ab_iload_n d_M_getsPending_132 rfl rfl ?_
      obtain ⟨n73, q74, hF⟩ := ar_s hG; clear hG
      obtain ⟨q75, hG⟩ := ck_s hF; clear hF
      refine hp_iald d_M_getsPending_133 tI q74 q75 ?_
      refine ab_topi (fun x76 ex76 => ?_)
      replace hG := bnd_s ex76 hG
      refine ab_imul d_M_getsPending_134 ?_
      refine ab_iload_n d_M_getsPending_135 rfl rfl ?_
      refine ab_iadd d_M_getsPending_136 ?_
      obtain ⟨n77, q78, hF⟩ := ar_s hG; clear hG
      obtain ⟨q79, hG⟩ := ck_s hF; clear hF
      refine hp_iald d_M_getsPending_137 tI q78 q79 ?_
      refine ab_topi (fun x80 ex80 => ?_)
      replace hG := bnd_s ex80 hG
      obtain ⟨v82, H83, z81, hF⟩ := bC_s hG; clear hG
      refine hp_callV_a (v := .int v82) (H1 := H83) (As := [.int x80]) (rest := [.int (((4 : Int32) * l2) + l3), .ref a64]) d_M_getsPending_138 (k_M_getsOf z81) (ab_mkC s_M_getsOf (Nat.le_of_ble_eq_true rfl) (Nat.le_of_ble_eq_true rfl) (Nat.le_refl 0) (Nat.le_refl 0)) (k13 77 rfl rfl) i_M_getsOf v_M_getsOf q46 (by decide) rfl rfl (Nat.le_of_ble_eq_true rfl) ?_
      have s_9 : Sa H H83 := (m_M_getsOf z81)
      obtain ⟨n84, q85, hG⟩ := ar_s hF; clear hF
      rw [(s_9).1] at q85
      obtain ⟨q86, hF⟩ := ck_s hG; clear hG
      refine hp_iast d_M_getsPending_141 tI (by rw [(s_9).1]; exact q85) q86 ?_
      refine hp_gen (fun H87 eH87 => ?_)
      replace hF := bnd_s eH87 hF
      have s_10 : Sa H H87 := by rw [eH87]; exact s_9
      refine ab_iinc (v := l3 + 1) (lv' := [some (.ref p0), some (.ref p1), some (.int l2), some (.int (l3 + 1))]) d_M_getsPending_142 rfl rfl (by decide) rfl ?_
      refine ab_goto (tgt := 92) d_M_getsPending_145 (by decide) ?_
      exact ih l2 (l3 + 1) H87 r hF
def B_M_getsPending_15 (N : Nat) (p0 : Nat) (p1 : Nat) : Nat → Int32 → Hp → Option (Unit × Hp)
  | 0, _, _ => none
  | n + 1, l2, H =>
    ck (H.sh[p1]? = some (13, 0)) <|
    bnd ((H.D p1 8)) fun x8 =>
    if x8 ≤ l2 then
    some ((), H)
    else
    ck (H.sh[p0]? = some (12, 0)) <|
    bnd ((H.D p0 28)) fun x11 =>
    if (0 : Int32) ≤ x11 then
    some ((), H)
    else
    rf (H.P p1 9) fun a13 =>
    rf (H.P p0 3) fun a15 =>
    ck (H.sh[a15]? = some (14, 0)) <|
    bnd ((H.D a15 21)) fun x18 =>
    bC (F_M_gets N p0 (1 : Int32) (0 : Int32) (x18 - (1 : Int32)) H) fun v20 H21 =>
    ar H21 100 a13 fun n22 =>
    ck (inb l2 n22) <|
    bnd (H21.sD a13 (l2).toNatClampNeg v20) fun H25 =>
    rf (H25.P p1 10) fun a26 =>
    bnd ((H25.D p1 0)) fun x28 =>
    bnd ((H25.D p1 0)) fun x29 =>
    bC (F_M_gets N p0 (4 : Int32) (x28 + (1 : Int32)) (x29 + (16 : Int32)) H25) fun v31 H32 =>
    ar H32 100 a26 fun n33 =>
    ck (inb l2 n33) <|
    bnd (H32.sD a26 (l2).toNatClampNeg v31) fun H36 =>
    rf (H36.P p1 11) fun a37 =>
    bC (F_M_gets N p0 (4 : Int32) ((-1) : Int32) (2147483647 : Int32) H36) fun v40 H41 =>
    ar H41 100 a37 fun n42 =>
    ck (inb l2 n42) <|
    bnd (H41.sD a37 (l2).toNatClampNeg v40) fun H45 =>
    B_M_getsPending_92 N p0 p1 (fun l2 H => B_M_getsPending_15 N p0 p1 n l2 H) N l2 0 H45
termination_by structural n => n
set_option maxRecDepth 20000 in
set_option maxHeartbeats 2000000 in
theorem mB_M_getsPending_15 {N : Nat} {p0 : Nat} {p1 : Nat} : ∀ (n : Nat) (l2 : Int32) (H : Hp) (r : Unit × Hp), B_M_getsPending_15 N p0 p1 n l2 H = some r → Sa H r.2 := by
  intro n
  induction n with
  | zero => intro l2 H r hF; rw [B_M_getsPending_15] at hF; cases hF
  | succ n ih =>
    intro l2 H r hF
    rw [B_M_getsPending_15] at hF
    have hm := Sa.rf H
    obtain ⟨q130, hG⟩ := ck_s hF; clear hF
    obtain ⟨x131, -, hF⟩ := bnd_g hG; clear hG
    rcases ite_s hF with ⟨q_14, hG⟩ | ⟨q_14, hG⟩
    · clear hF
      have hr := Option.some.inj hG; subst hr
      exact hm
    · clear hF
      obtain ⟨q133, hF⟩ := ck_s hG; clear hG
      obtain ⟨x134, -, hG⟩ := bnd_g hF; clear hF
      rcases ite_s hG with ⟨q_15, hF⟩ | ⟨q_15, hF⟩
      · clear hG
        have hr := Option.some.inj hF; subst hr
        exact hm
      · clear hG
        obtain ⟨a136, e137, hG⟩ := rf_s hF; clear hF
        obtain ⟨a138, e139, hF⟩ := rf_s hG; clear hG
        obtain ⟨q140, hG⟩ := ck_s hF; clear hF
        obtain ⟨x141, -, hF⟩ := bnd_g hG; clear hG
        obtain ⟨v143, H144, z142, hG⟩ := bC_s hF; clear hF
        replace hm : Sa H H144 := hm.tr (m_M_gets z142)
        obtain ⟨n145, q146, hF⟩ := ar_s hG; clear hG
        obtain ⟨q147, hG⟩ := ck_s hF; clear hF
        obtain ⟨H148, eH148, hF⟩ := bnd_g hG; clear hG
        replace hm : Sa H H148 := by rw [eH148]; exact hm
        obtain ⟨a149, e150, hG⟩ := rf_s hF; clear hF
        obtain ⟨x151, -, hF⟩ := bnd_g hG; clear hG
        obtain ⟨x152, -, hG⟩ := bnd_g hF; clear hF
        obtain ⟨v154, H155, z153, hF⟩ := bC_s hG; clear hG
        replace hm : Sa H H155 := hm.tr (m_M_gets z153)
        obtain ⟨n156, q157, hG⟩ := ar_s hF; clear hF
        obtain ⟨q158, hF⟩ := ck_s hG; clear hG
        obtain ⟨H159, eH159, hG⟩ := bnd_g hF; clear hF
        replace hm : Sa H H159 := by rw [eH159]; exact hm
        obtain ⟨a160, e161, hF⟩ := rf_s hG; clear hG
        obtain ⟨v163, H164, z162, hG⟩ := bC_s hF; clear hF
        replace hm : Sa H H164 := hm.tr (m_M_gets z162)
        obtain ⟨n165, q166, hF⟩ := ar_s hG; clear hG
        obtain ⟨q167, hG⟩ := ck_s hF; clear hF
        obtain ⟨H168, eH168, hF⟩ := bnd_g hG; clear hG
        replace hm : Sa H H168 := by rw [eH168]; exact hm
        exact hm.tr (mB_M_getsPending_92 ih N l2 0 H168 r hF)
set_option maxRecDepth 20000 in
set_option maxHeartbeats 2000000 in
theorem kB_M_getsPending_15 {N : Nat} {p0 : Nat} {p1 : Nat} : ∀ (n : Nat) (l2 : Int32) (H : Hp) (r : Unit × Hp), B_M_getsPending_15 N p0 p1 n l2 H = some r → ab_V y_M_getsPending { frames := 3, cells := 0, slots := 0, locals := 71 } (po (.returned none) r.2) 0 0 0 0 15 [some (.ref p0), some (.ref p1), some (.int l2), none] [] (hpw H) := by
  intro n
  induction n with
  | zero => intro l2 H r hF; rw [B_M_getsPending_15] at hF; cases hF
  | succ n ih =>
    intro l2 H r hF
    rw [B_M_getsPending_15] at hF
    refine ab_iload_n d_M_getsPending_15 rfl rfl ?_
    refine ab_aload_n d_M_getsPending_16 rfl rfl rfl ?_
    obtain ⟨q7, hG⟩ := ck_s hF; clear hF
    refine hp_getIN (f := 8) d_M_getsPending_17 q7 (by decide) rfl (by decide) (k9 112 rfl rfl) rfl ?_
    refine ab_topi (fun x8 ex8 => ?_)
    replace hG := bnd_s ex8 hG
    refine ab_icmp_ge (tgt := 154) d_M_getsPending_20 (by decide) (fun q9 => ?_) (fun q9 => ?_)
    · rw [if_pos q9] at hG
      exact ab_vret d_M_getsPending_154 rfl (Nat.le_refl _) (Nat.le_refl _) (by have hr := Option.some.inj hG; subst hr; exact ⟨rfl, rfl⟩)
    · rw [if_neg q9] at hG
      refine ab_aload_n d_M_getsPending_23 rfl rfl rfl ?_
      obtain ⟨q10, hF⟩ := ck_s hG; clear hG
      refine hp_getI (f := 28) d_M_getsPending_24 q10 (by decide) rfl (by decide) (k10 21 rfl rfl) rfl ?_
      refine ab_topi (fun x11 ex11 => ?_)
      replace hF := bnd_s ex11 hF
      refine ab_if_ge (tgt := 154) d_M_getsPending_27 (by decide) (fun q12 => ?_) (fun q12 => ?_)
      · rw [if_pos q12] at hF
        exact ab_vret d_M_getsPending_154 rfl (Nat.le_refl _) (Nat.le_refl _) (by have hr := Option.some.inj hF; subst hr; exact ⟨rfl, rfl⟩)
      · rw [if_neg q12] at hF
        refine ab_aload_n d_M_getsPending_30 rfl rfl rfl ?_
        obtain ⟨a13, e14, hG⟩ := rf_s hF; clear hF
        refine hp_getRN (f := 9) d_M_getsPending_31 q7 (by decide) rfl (by decide) (k9 115 rfl rfl) rfl e14 ?_
        refine ab_iload_n d_M_getsPending_34 rfl rfl ?_
        refine ab_aload_n d_M_getsPending_35 rfl rfl rfl ?_
        refine ab_iconst (v := 1) d_M_getsPending_36 (by decide) ?_
        refine ab_iconst (v := 0) d_M_getsPending_37 (by decide) ?_
        refine ab_aload_n d_M_getsPending_38 rfl rfl rfl ?_
        obtain ⟨a15, e16, hF⟩ := rf_s hG; clear hG
        refine hp_getR (f := 3) d_M_getsPending_39 q10 (by decide) rfl (by decide) (k9 236 rfl rfl) rfl e16 ?_
        obtain ⟨q17, hG⟩ := ck_s hF; clear hF
        refine hp_getIN (f := 21) d_M_getsPending_42 q17 (by decide) rfl (by decide) (k8 195 rfl rfl) rfl ?_
        refine ab_topi (fun x18 ex18 => ?_)
        replace hG := bnd_s ex18 hG
        refine ab_iconst (v := 1) d_M_getsPending_45 (by decide) ?_
        refine ab_isub d_M_getsPending_46 ?_
        obtain ⟨v20, H21, z19, hF⟩ := bC_s hG; clear hG
        refine hp_callV_a (v := .int v20) (H1 := H21) (As := [.int 1, .int 0, .int (x18 - (1 : Int32))]) (rest := [.int l2, .ref a13]) d_M_getsPending_47 (k_M_gets z19) (ab_mkC s_M_gets (Nat.le_of_ble_eq_true rfl) (Nat.le_of_ble_eq_true rfl) (Nat.le_refl 0) (Nat.le_refl 0)) (k13 66 rfl rfl) i_M_gets v_M_gets q10 (by decide) rfl rfl (Nat.le_of_ble_eq_true rfl) ?_
        have s_3 : Sa H H21 := (m_M_gets z19)
        obtain ⟨n22, q23, hG⟩ := ar_s hF; clear hF
        rw [(s_3).1] at q23
        obtain ⟨q24, hF⟩ := ck_s hG; clear hG
        refine hp_iast d_M_getsPending_50 tI (by rw [(s_3).1]; exact q23) q24 ?_
        refine hp_gen (fun H25 eH25 => ?_)
        replace hF := bnd_s eH25 hF
        have s_4 : Sa H H25 := by rw [eH25]; exact s_3
        refine ab_aload_n d_M_getsPending_51 rfl rfl rfl ?_
        obtain ⟨a26, e27, hG⟩ := rf_s hF; clear hF
        refine hp_getRN (f := 10) d_M_getsPending_52 (by rw [(s_4).1]; exact q7) (by decide) rfl (by decide) (k9 118 rfl rfl) rfl e27 ?_
        refine ab_iload_n d_M_getsPending_55 rfl rfl ?_
        refine ab_aload_n d_M_getsPending_56 rfl rfl rfl ?_
        refine ab_iconst (v := 4) d_M_getsPending_57 (by decide) ?_
        refine ab_aload_n d_M_getsPending_58 rfl rfl rfl ?_
        refine hp_getIN (f := 0) d_M_getsPending_59 (by rw [(s_4).1]; exact q7) (by decide) rfl (by decide) (k9 89 rfl rfl) rfl ?_
        refine ab_topi (fun x28 ex28 => ?_)
        replace hG := bnd_s ex28 hG
        refine ab_iconst (v := 1) d_M_getsPending_62 (by decide) ?_
        refine ab_iadd d_M_getsPending_63 ?_
        refine ab_aload_n d_M_getsPending_64 rfl rfl rfl ?_
        refine hp_getIN (f := 0) d_M_getsPending_65 (by rw [(s_4).1]; exact q7) (by decide) rfl (by decide) (k9 89 rfl rfl) rfl ?_
        refine ab_topi (fun x29 ex29 => ?_)
        replace hG := bnd_s ex29 hG
        refine ab_bipush (v := 16) d_M_getsPending_68 (by decide) ?_
        refine ab_iadd d_M_getsPending_70 ?_
        obtain ⟨v31, H32, z30, hF⟩ := bC_s hG; clear hG
        refine hp_callV_a (v := .int v31) (H1 := H32) (As := [.int 4, .int (x28 + (1 : Int32)), .int (x29 + (16 : Int32))]) (rest := [.int l2, .ref a26]) d_M_getsPending_71 (k_M_gets z30) (ab_mkC s_M_gets (Nat.le_of_ble_eq_true rfl) (Nat.le_of_ble_eq_true rfl) (Nat.le_refl 0) (Nat.le_refl 0)) (k13 66 rfl rfl) i_M_gets v_M_gets (by rw [(s_4).1]; exact q10) (by decide) rfl rfl (Nat.le_of_ble_eq_true rfl) ?_
        have s_5 : Sa H H32 := (s_4).tr (m_M_gets z30)
        obtain ⟨n33, q34, hG⟩ := ar_s hF; clear hF
        rw [(s_5).1] at q34
        obtain ⟨q35, hF⟩ := ck_s hG; clear hG
        refine hp_iast d_M_getsPending_74 tI (by rw [(s_5).1]; exact q34) q35 ?_
        refine hp_gen (fun H36 eH36 => ?_)
        replace hF := bnd_s eH36 hF
        have s_6 : Sa H H36 := by rw [eH36]; exact s_5
        refine ab_aload_n d_M_getsPending_75 rfl rfl rfl ?_
        obtain ⟨a37, e38, hG⟩ := rf_s hF; clear hF
        refine hp_getRN (f := 11) d_M_getsPending_76 (by rw [(s_6).1]; exact q7) (by decide) rfl (by decide) (k9 121 rfl rfl) rfl e38 ?_
        refine ab_iload_n d_M_getsPending_79 rfl rfl ?_
        refine ab_aload_n d_M_getsPending_80 rfl rfl rfl ?_
        refine ab_iconst (v := 4) d_M_getsPending_81 (by decide) ?_
        refine ab_iconst (v := (-1)) d_M_getsPending_82 (by decide) ?_
        refine ab_ldcw d_M_getsPending_83 (k13 71 rfl rfl) ?_
        obtain ⟨v40, H41, z39, hF⟩ := bC_s hG; clear hG
        refine hp_callV_a (v := .int v40) (H1 := H41) (As := [.int 4, .int (-1), .int 2147483647]) (rest := [.int l2, .ref a37]) d_M_getsPending_86 (k_M_gets z39) (ab_mkC s_M_gets (Nat.le_of_ble_eq_true rfl) (Nat.le_of_ble_eq_true rfl) (Nat.le_refl 0) (Nat.le_refl 0)) (k13 66 rfl rfl) i_M_gets v_M_gets (by rw [(s_6).1]; exact q10) (by decide) rfl rfl (Nat.le_of_ble_eq_true rfl) ?_
        have s_7 : Sa H H41 := (s_6).tr (m_M_gets z39)
        obtain ⟨n42, q43, hG⟩ := ar_s hF; clear hF
        rw [(s_7).1] at q43
        obtain ⟨q44, hF⟩ := ck_s hG; clear hG
        refine hp_iast d_M_getsPending_89 tI (by rw [(s_7).1]; exact q43) q44 ?_
        refine hp_gen (fun H45 eH45 => ?_)
        replace hF := bnd_s eH45 hF
        have s_8 : Sa H H45 := by rw [eH45]; exact s_7
        refine ab_iconst (v := 0) d_M_getsPending_90 (by decide) ?_
        refine ab_istore_n (lv' := [some (.ref p0), some (.ref p1), some (.int l2), some (.int 0)]) d_M_getsPending_91 rfl (by decide) rfl ?_
        exact kB_M_getsPending_92 (mB_M_getsPending_15 n) ih N l2 0 H45 r hF
def F_M_getsPending (N : Nat) (p0 : Nat) (p1 : Nat) (H : Hp) : Option (Unit × Hp) :=
    ck (H.sh[p0]? = some (12, 0)) <|
    bC (F_M_gets N p0 (2 : Int32) (0 : Int32) (256 : Int32) H) fun v3 H4 =>
    ck (H4.sh[p1]? = some (13, 0)) <|
    bnd (H4.sD p1 8 v3) fun H6 =>
    B_M_getsPending_15 N p0 p1 N 0 H6
set_option maxRecDepth 20000 in
set_option maxHeartbeats 2000000 in
theorem m_M_getsPending {N : Nat} {p0 : Nat} {p1 : Nat} {H : Hp} {r : Unit × Hp} (hF : F_M_getsPending N p0 p1 H = some r) : Sa H r.2 := by
  unfold F_M_getsPending at hF
  have hm := Sa.rf H
  obtain ⟨q169, hG⟩ := ck_s hF; clear hF
  obtain ⟨v171, H172, z170, hF⟩ := bC_s hG; clear hG
  replace hm : Sa H H172 := hm.tr (m_M_gets z170)
  obtain ⟨q173, hG⟩ := ck_s hF; clear hF
  obtain ⟨H174, eH174, hF⟩ := bnd_g hG; clear hG
  replace hm : Sa H H174 := by rw [eH174]; exact hm
  exact hm.tr (mB_M_getsPending_15 N 0 H174 r hF)
set_option maxRecDepth 20000 in
set_option maxHeartbeats 2000000 in
theorem k_M_getsPending {N : Nat} {p0 : Nat} {p1 : Nat} {H : Hp} {r : Unit × Hp} (hF : F_M_getsPending N p0 p1 H = some r) : ab_M y_M_getsPending { frames := 3, cells := 0, slots := 0, locals := 71 } [.ref p0, .ref p1] (hpw H) (po (.returned none) r.2) := by
  unfold F_M_getsPending at hF
  refine ab_of2 (lv := [some (.ref p0), some (.ref p1), none, none]) 2 rfl rfl (Nat.le_of_ble_eq_true rfl) ?_
  refine ab_aload_n d_M_getsPending_0 rfl rfl rfl ?_
  refine ab_aload_n d_M_getsPending_1 rfl rfl rfl ?_
  refine ab_iconst (v := 2) d_M_getsPending_2 (by decide) ?_
  refine ab_iconst (v := 0) d_M_getsPending_3 (by decide) ?_
  refine ab_sipush (v := 256) d_M_getsPending_4 (by decide) ?_
  obtain ⟨q1, hG⟩ := ck_s hF; clear hF
  obtain ⟨v3, H4, z2, hF⟩ := bC_s hG; clear hG
  refine hp_callV_a (v := .int v3) (H1 := H4) (As := [.int 2, .int 0, .int 256]) (rest := [.ref p1]) d_M_getsPending_7 (k_M_gets z2) (ab_mkC s_M_gets (Nat.le_of_ble_eq_true rfl) (Nat.le_of_ble_eq_true rfl) (Nat.le_refl 0) (Nat.le_refl 0)) (k13 66 rfl rfl) i_M_gets v_M_gets q1 (by decide) rfl rfl (Nat.le_of_ble_eq_true rfl) ?_
  have s_1 : Sa H H4 := (m_M_gets z2)
  obtain ⟨q5, hG⟩ := ck_s hF; clear hF
  rw [(s_1).1] at q5
  refine hp_putIN (v := v3) (f := 8) d_M_getsPending_10 (by rw [(s_1).1]; exact q5) (by decide) rfl (by decide) (k9 112 rfl rfl) rfl rfl (fun _ => rfl) (fun _ => rfl) rfl ?_
  refine hp_gen (fun H6 eH6 => ?_)
  replace hG := bnd_s eH6 hG
  have s_2 : Sa H H6 := by rw [eH6]; exact s_1
  refine ab_iconst (v := 0) d_M_getsPending_13 (by decide) ?_
  refine ab_istore_n (lv' := [some (.ref p0), some (.ref p1), some (.int 0), none]) d_M_getsPending_14 rfl (by decide) rfl ?_
  exact kB_M_getsPending_15 N 0 H6 r hG
def y_M_load : ab_Y := (⟨"WorldEngineModel", "load", "()I"⟩, prog_14_method_56_code, 2, (some FieldType.int), [])
theorem d_M_load_0 : decode y_M_load.2.1 0 = .ok (.aload_n 0, 1) := by decide +kernel
theorem d_M_load_1 : decode y_M_load.2.1 1 = .ok (.iconst 0, 1) := by decide +kernel
theorem d_M_load_2 : decode y_M_load.2.1 2 = .ok (.putfield 83, 3) := by decide +kernel
theorem d_M_load_5 : decode y_M_load.2.1 5 = .ok (.aload_n 0, 1) := by decide +kernel
theorem d_M_load_6 : decode y_M_load.2.1 6 = .ok (.invokevirtual 148, 3) := by decide +kernel
theorem d_M_load_9 : decode y_M_load.2.1 9 = .ok (.ifCond .ne 7, 3) := by decide +kernel
theorem d_M_load_12 : decode y_M_load.2.1 12 = .ok (.ldc_w 371, 3) := by decide +kernel
theorem d_M_load_15 : decode y_M_load.2.1 15 = .ok (.ireturn, 1) := by decide +kernel
theorem d_M_load_16 : decode y_M_load.2.1 16 = .ok (.aload_n 0, 1) := by decide +kernel
theorem d_M_load_17 : decode y_M_load.2.1 17 = .ok (.getfield 113, 3) := by decide +kernel
theorem d_M_load_20 : decode y_M_load.2.1 20 = .ok (.ifCond .ne 7, 3) := by decide +kernel
theorem d_M_load_23 : decode y_M_load.2.1 23 = .ok (.ldc_w 372, 3) := by decide +kernel
theorem d_M_load_26 : decode y_M_load.2.1 26 = .ok (.ireturn, 1) := by decide +kernel
theorem d_M_load_27 : decode y_M_load.2.1 27 = .ok (.aload_n 0, 1) := by decide +kernel
theorem d_M_load_28 : decode y_M_load.2.1 28 = .ok (.iconst 0, 1) := by decide +kernel
theorem d_M_load_29 : decode y_M_load.2.1 29 = .ok (.putfield 356, 3) := by decide +kernel
theorem d_M_load_32 : decode y_M_load.2.1 32 = .ok (.aload_n 0, 1) := by decide +kernel
theorem d_M_load_33 : decode y_M_load.2.1 33 = .ok (.iconst (-1), 1) := by decide +kernel
theorem d_M_load_34 : decode y_M_load.2.1 34 = .ok (.putfield 353, 3) := by decide +kernel
theorem d_M_load_37 : decode y_M_load.2.1 37 = .ok (.aload_n 0, 1) := by decide +kernel
theorem d_M_load_38 : decode y_M_load.2.1 38 = .ok (.getfield 40, 3) := by decide +kernel
theorem d_M_load_41 : decode y_M_load.2.1 41 = .ok (.astore_n 1, 1) := by decide +kernel
theorem d_M_load_42 : decode y_M_load.2.1 42 = .ok (.aload_n 1, 1) := by decide +kernel
theorem d_M_load_43 : decode y_M_load.2.1 43 = .ok (.invokevirtual 123, 3) := by decide +kernel
theorem d_M_load_46 : decode y_M_load.2.1 46 = .ok (.aload_n 0, 1) := by decide +kernel
theorem d_M_load_47 : decode y_M_load.2.1 47 = .ok (.invokevirtual 373, 3) := by decide +kernel
theorem d_M_load_50 : decode y_M_load.2.1 50 = .ok (.aload_n 1, 1) := by decide +kernel
theorem d_M_load_51 : decode y_M_load.2.1 51 = .ok (.aload_n 0, 1) := by decide +kernel
theorem d_M_load_52 : decode y_M_load.2.1 52 = .ok (.iconst 4, 1) := by decide +kernel
theorem d_M_load_53 : decode y_M_load.2.1 53 = .ok (.iconst 0, 1) := by decide +kernel
theorem d_M_load_54 : decode y_M_load.2.1 54 = .ok (.ldc 251, 2) := by decide +kernel
theorem d_M_load_56 : decode y_M_load.2.1 56 = .ok (.invokevirtual 359, 3) := by decide +kernel
theorem d_M_load_59 : decode y_M_load.2.1 59 = .ok (.putfield 145, 3) := by decide +kernel
theorem d_M_load_62 : decode y_M_load.2.1 62 = .ok (.aload_n 1, 1) := by decide +kernel
theorem d_M_load_63 : decode y_M_load.2.1 63 = .ok (.aload_n 0, 1) := by decide +kernel
theorem d_M_load_64 : decode y_M_load.2.1 64 = .ok (.iconst 4, 1) := by decide +kernel
theorem d_M_load_65 : decode y_M_load.2.1 65 = .ok (.ldc_w 362, 3) := by decide +kernel
theorem d_M_load_68 : decode y_M_load.2.1 68 = .ok (.ldc_w 363, 3) := by decide +kernel
theorem d_M_load_71 : decode y_M_load.2.1 71 = .ok (.invokevirtual 359, 3) := by decide +kernel
theorem d_M_load_74 : decode y_M_load.2.1 74 = .ok (.putfield 126, 3) := by decide +kernel
theorem d_M_load_77 : decode y_M_load.2.1 77 = .ok (.aload_n 1, 1) := by decide +kernel
theorem d_M_load_78 : decode y_M_load.2.1 78 = .ok (.aload_n 0, 1) := by decide +kernel
theorem d_M_load_79 : decode y_M_load.2.1 79 = .ok (.iconst 4, 1) := by decide +kernel
theorem d_M_load_80 : decode y_M_load.2.1 80 = .ok (.iconst 0, 1) := by decide +kernel
theorem d_M_load_81 : decode y_M_load.2.1 81 = .ok (.ldc 251, 2) := by decide +kernel
theorem d_M_load_83 : decode y_M_load.2.1 83 = .ok (.invokevirtual 359, 3) := by decide +kernel
theorem d_M_load_86 : decode y_M_load.2.1 86 = .ok (.putfield 317, 3) := by decide +kernel
theorem d_M_load_89 : decode y_M_load.2.1 89 = .ok (.aload_n 1, 1) := by decide +kernel
theorem d_M_load_90 : decode y_M_load.2.1 90 = .ok (.aload_n 0, 1) := by decide +kernel
theorem d_M_load_91 : decode y_M_load.2.1 91 = .ok (.iconst 4, 1) := by decide +kernel
theorem d_M_load_92 : decode y_M_load.2.1 92 = .ok (.iconst 0, 1) := by decide +kernel
theorem d_M_load_93 : decode y_M_load.2.1 93 = .ok (.ldc 251, 2) := by decide +kernel
theorem d_M_load_95 : decode y_M_load.2.1 95 = .ok (.invokevirtual 359, 3) := by decide +kernel
theorem d_M_load_98 : decode y_M_load.2.1 98 = .ok (.putfield 320, 3) := by decide +kernel
theorem d_M_load_101 : decode y_M_load.2.1 101 = .ok (.aload_n 0, 1) := by decide +kernel
theorem d_M_load_102 : decode y_M_load.2.1 102 = .ok (.aload_n 1, 1) := by decide +kernel
theorem d_M_load_103 : decode y_M_load.2.1 103 = .ok (.invokevirtual 376, 3) := by decide +kernel
theorem d_M_load_106 : decode y_M_load.2.1 106 = .ok (.aload_n 0, 1) := by decide +kernel
theorem d_M_load_107 : decode y_M_load.2.1 107 = .ok (.aload_n 1, 1) := by decide +kernel
theorem d_M_load_108 : decode y_M_load.2.1 108 = .ok (.invokevirtual 379, 3) := by decide +kernel
theorem d_M_load_111 : decode y_M_load.2.1 111 = .ok (.aload_n 0, 1) := by decide +kernel
theorem d_M_load_112 : decode y_M_load.2.1 112 = .ok (.getfield 353, 3) := by decide +kernel
theorem d_M_load_115 : decode y_M_load.2.1 115 = .ok (.ifCond .ge 22, 3) := by decide +kernel
theorem d_M_load_118 : decode y_M_load.2.1 118 = .ok (.aload_n 0, 1) := by decide +kernel
theorem d_M_load_119 : decode y_M_load.2.1 119 = .ok (.getfield 356, 3) := by decide +kernel
theorem d_M_load_122 : decode y_M_load.2.1 122 = .ok (.aload_n 0, 1) := by decide +kernel
theorem d_M_load_123 : decode y_M_load.2.1 123 = .ok (.getfield 323, 3) := by decide +kernel
theorem d_M_load_126 : decode y_M_load.2.1 126 = .ok (.if_icmp .ge 11, 3) := by decide +kernel
theorem d_M_load_129 : decode y_M_load.2.1 129 = .ok (.aload_n 0, 1) := by decide +kernel
theorem d_M_load_130 : decode y_M_load.2.1 130 = .ok (.aload_n 0, 1) := by decide +kernel
theorem d_M_load_131 : decode y_M_load.2.1 131 = .ok (.getfield 356, 3) := by decide +kernel
theorem d_M_load_134 : decode y_M_load.2.1 134 = .ok (.putfield 353, 3) := by decide +kernel
theorem d_M_load_137 : decode y_M_load.2.1 137 = .ok (.aload_n 0, 1) := by decide +kernel
theorem d_M_load_138 : decode y_M_load.2.1 138 = .ok (.getfield 353, 3) := by decide +kernel
theorem d_M_load_141 : decode y_M_load.2.1 141 = .ok (.ifCond .lt 10, 3) := by decide +kernel
theorem d_M_load_144 : decode y_M_load.2.1 144 = .ok (.iconst (-1), 1) := by decide +kernel
theorem d_M_load_145 : decode y_M_load.2.1 145 = .ok (.aload_n 0, 1) := by decide +kernel
theorem d_M_load_146 : decode y_M_load.2.1 146 = .ok (.getfield 353, 3) := by decide +kernel
theorem d_M_load_149 : decode y_M_load.2.1 149 = .ok (.isub, 1) := by decide +kernel
theorem d_M_load_150 : decode y_M_load.2.1 150 = .ok (.ireturn, 1) := by decide +kernel
theorem d_M_load_151 : decode y_M_load.2.1 151 = .ok (.aload_n 0, 1) := by decide +kernel
theorem d_M_load_152 : decode y_M_load.2.1 152 = .ok (.aload_n 0, 1) := by decide +kernel
theorem d_M_load_153 : decode y_M_load.2.1 153 = .ok (.getfield 37, 3) := by decide +kernel
theorem d_M_load_156 : decode y_M_load.2.1 156 = .ok (.putfield 40, 3) := by decide +kernel
theorem d_M_load_159 : decode y_M_load.2.1 159 = .ok (.aload_n 0, 1) := by decide +kernel
theorem d_M_load_160 : decode y_M_load.2.1 160 = .ok (.aload_n 1, 1) := by decide +kernel
theorem d_M_load_161 : decode y_M_load.2.1 161 = .ok (.putfield 37, 3) := by decide +kernel
theorem d_M_load_164 : decode y_M_load.2.1 164 = .ok (.aload_n 0, 1) := by decide +kernel
theorem d_M_load_165 : decode y_M_load.2.1 165 = .ok (.getfield 33, 3) := by decide +kernel
theorem d_M_load_168 : decode y_M_load.2.1 168 = .ok (.aload_n 0, 1) := by decide +kernel
theorem d_M_load_169 : decode y_M_load.2.1 169 = .ok (.getfield 37, 3) := by decide +kernel
theorem d_M_load_172 : decode y_M_load.2.1 172 = .ok (.invokevirtual 129, 3) := by decide +kernel
theorem d_M_load_175 : decode y_M_load.2.1 175 = .ok (.aload_n 0, 1) := by decide +kernel
theorem d_M_load_176 : decode y_M_load.2.1 176 = .ok (.invokevirtual 133, 3) := by decide +kernel
theorem d_M_load_179 : decode y_M_load.2.1 179 = .ok (.iconst 0, 1) := by decide +kernel
theorem d_M_load_180 : decode y_M_load.2.1 180 = .ok (.ireturn, 1) := by decide +kernel
theorem s_M_load : ab_Stat y_M_load 0 := ⟨(k13 55 rfl rfl), (k1 19 rfl rfl), ⟨by decide, by decide⟩, by decide +kernel⟩
theorem i_M_load : Cond.instanceMethod y_M_load.1 ∈ ab_T := (k13 53 rfl rfl)
theorem v_M_load : Cond.selects "WorldEngineModel" y_M_load.1 y_M_load.1 ∈ ab_T := (k13 54 rfl rfl)
def B_M_load_137 (N : Nat) (p0 : Nat) (l1 : Nat) (H : Hp) : Option (Int32 × Hp) :=
    ck (H.sh[p0]? = some (12, 0)) <|
    bnd ((H.D p0 28)) fun x45 =>
    if x45 < (0 : Int32) then
    rf (H.P p0 9) fun a47 =>
    bnd (H.sP p0 10 (.ref a47)) fun H49 =>
    bnd (H49.sP p0 9 (.ref l1)) fun H50 =>
    rf (H50.P p0 8) fun a51 =>
    rf (H50.P p0 9) fun a53 =>
    ck (H50.sh[a51]? = some (13, 0)) <|
    bC (F_MWorld_copies N a51 a53 H50) fun v57 H58 =>
    bC (F_M_forgets N p0 H58) fun v60 H61 =>
    some (0, H61)
    else
    bnd ((H.D p0 28)) fun x62 =>
    some (((-1) : Int32) - x62, H)
set_option maxRecDepth 20000 in
set_option maxHeartbeats 2000000 in
theorem mB_M_load_137 {N : Nat} {p0 : Nat} {l1 : Nat} {H : Hp} {r : Int32 × Hp} (hF : B_M_load_137 N p0 l1 H = some r) : Sa H r.2 := by
  unfold B_M_load_137 at hF
  have hm := Sa.rf H
  obtain ⟨q63, hG⟩ := ck_s hF; clear hF
  obtain ⟨x64, -, hF⟩ := bnd_g hG; clear hG
  rcases ite_s hF with ⟨q_21, hG⟩ | ⟨q_21, hG⟩
  · clear hF
    obtain ⟨a66, e67, hF⟩ := rf_s hG; clear hG
    obtain ⟨H68, eH68, hG⟩ := bnd_g hF; clear hF
    replace hm : Sa H H68 := by rw [eH68]; exact hm
    obtain ⟨H69, eH69, hF⟩ := bnd_g hG; clear hG
    replace hm : Sa H H69 := by rw [eH69]; exact hm
    obtain ⟨a70, e71, hG⟩ := rf_s hF; clear hF
    obtain ⟨a72, e73, hF⟩ := rf_s hG; clear hG
    obtain ⟨q74, hG⟩ := ck_s hF; clear hF
    obtain ⟨v76, H77, z75, hF⟩ := bC_s hG; clear hG
    replace hm : Sa H H77 := hm.tr (m_MWorld_copies z75)
    obtain ⟨v79, H80, z78, hG⟩ := bC_s hF; clear hF
    replace hm : Sa H H80 := hm.tr (m_M_forgets z78)
    have hr := Option.some.inj hG; subst hr
    exact hm
  · clear hF
    obtain ⟨x81, -, hF⟩ := bnd_g hG; clear hG
    have hr := Option.some.inj hF; subst hr
    exact hm
set_option maxRecDepth 20000 in
set_option maxHeartbeats 2000000 in
theorem kB_M_load_137 {N : Nat} {p0 : Nat} {l1 : Nat} {H : Hp} {r : Int32 × Hp} (hF : B_M_load_137 N p0 l1 H = some r) : ab_V y_M_load { frames := 4, cells := 0, slots := 0, locals := 95 } (po (.returned (some (.int r.1))) r.2) 0 0 0 0 137 [some (.ref p0), some (.ref l1)] [] (hpw H) := by
  unfold B_M_load_137 at hF
  refine ab_aload_n d_M_load_137 rfl rfl rfl ?_
  obtain ⟨q44, hG⟩ := ck_s hF; clear hF
  refine hp_getI (f := 28) d_M_load_138 q44 (by decide) rfl (by decide) (k10 21 rfl rfl) rfl ?_
  refine ab_topi (fun x45 ex45 => ?_)
  replace hG := bnd_s ex45 hG
  refine ab_if_lt (tgt := 151) d_M_load_141 (by decide) (fun q46 => ?_) (fun q46 => ?_)
  · rw [if_pos q46] at hG
    refine ab_aload_n d_M_load_151 rfl rfl rfl ?_
    refine ab_aload_n d_M_load_152 rfl rfl rfl ?_
    obtain ⟨a47, e48, hF⟩ := rf_s hG; clear hG
    refine hp_getR (f := 9) d_M_load_153 q44 (by decide) rfl (by decide) (k10 2 rfl rfl) rfl e48 ?_
    refine hp_putP (v := .ref a47) (f := 10) d_M_load_156 q44 (by decide) rfl (by decide) (k10 3 rfl rfl) rfl rfl (fun _ => rfl) (fun _ => rfl) rfl ?_
    refine hp_gen (fun H49 eH49 => ?_)
    replace hF := bnd_s eH49 hF
    have s_17 : Sa H H49 := by rw [eH49]; exact Sa.rf _
    refine ab_aload_n d_M_load_159 rfl rfl rfl ?_
    refine ab_aload_n d_M_load_160 rfl rfl rfl ?_
    refine hp_putP (v := .ref l1) (f := 9) d_M_load_161 (by rw [(s_17).1]; exact q44) (by decide) rfl (by decide) (k10 2 rfl rfl) rfl rfl (fun _ => rfl) (fun _ => rfl) rfl ?_
    refine hp_gen (fun H50 eH50 => ?_)
    replace hF := bnd_s eH50 hF
    have s_18 : Sa H H50 := by rw [eH50]; exact s_17
    refine ab_aload_n d_M_load_164 rfl rfl rfl ?_
    obtain ⟨a51, e52, hG⟩ := rf_s hF; clear hF
    refine hp_getR (f := 8) d_M_load_165 (by rw [(s_18).1]; exact q44) (by decide) rfl (by decide) (k10 1 rfl rfl) rfl e52 ?_
    refine ab_aload_n d_M_load_168 rfl rfl rfl ?_
    obtain ⟨a53, e54, hF⟩ := rf_s hG; clear hG
    refine hp_getR (f := 9) d_M_load_169 (by rw [(s_18).1]; exact q44) (by decide) rfl (by decide) (k10 2 rfl rfl) rfl e54 ?_
    obtain ⟨q55, hG⟩ := ck_s hF; clear hF
    rw [(s_18).1] at q55
    obtain ⟨v57, H58, z56, hF⟩ := bC_s hG; clear hG
    refine hp_callV_v (H1 := H58) (As := [.ref a53]) (rest := []) d_M_load_172 (k_MWorld_copies z56) (ab_mkC s_MWorld_copies (Nat.le_of_ble_eq_true rfl) (Nat.le_of_ble_eq_true rfl) (Nat.le_refl 0) (Nat.le_refl 0)) (k11 146 rfl rfl) i_MWorld_copies v_MWorld_copies (by rw [(s_18).1]; exact q55) (by decide) rfl rfl (Nat.le_of_ble_eq_true rfl) ?_
    have s_19 : Sa H H58 := (s_18).tr (m_MWorld_copies z56)
    refine ab_aload_n d_M_load_175 rfl rfl rfl ?_
    obtain ⟨v60, H61, z59, hG⟩ := bC_s hF; clear hF
    refine hp_callV_v (H1 := H61) (As := []) (rest := []) d_M_load_176 (k_M_forgets z59) (ab_mkC s_M_forgets (Nat.le_of_ble_eq_true rfl) (Nat.le_of_ble_eq_true rfl) (Nat.le_refl 0) (Nat.le_refl 0)) (k11 154 rfl rfl) i_M_forgets v_M_forgets (by rw [(s_19).1]; exact q44) (by decide) rfl rfl (Nat.le_of_ble_eq_true rfl) ?_
    have s_20 : Sa H H61 := (s_19).tr (m_M_forgets z59)
    refine ab_iconst (v := 0) d_M_load_179 (by decide) ?_
    exact ab_iret d_M_load_180 rfl (Nat.le_refl _) (Nat.le_refl _) (by have hr := Option.some.inj hG; subst hr; exact ⟨rfl, rfl⟩)
  · rw [if_neg q46] at hG
    refine ab_iconst (v := (-1)) d_M_load_144 (by decide) ?_
    refine ab_aload_n d_M_load_145 rfl rfl rfl ?_
    refine hp_getI (f := 28) d_M_load_146 q44 (by decide) rfl (by decide) (k10 21 rfl rfl) rfl ?_
    refine ab_topi (fun x62 ex62 => ?_)
    replace hG := bnd_s ex62 hG
    refine ab_isub d_M_load_149 ?_
    exact ab_iret d_M_load_150 rfl (Nat.le_refl _) (Nat.le_refl _) (by have hr := Option.some.inj hG; subst hr; exact ⟨rfl, rfl⟩)
def F_M_load (N : Nat) (p0 : Nat) (H : Hp) : Option (Int32 × Hp) :=
    ck (H.sh[p0]? = some (12, 0)) <|
    bnd (H.sD p0 0 (0 : Int32)) fun H2 =>
    bC (F_M_isQuiet N p0 H2) fun v4 H5 =>
    if v4 = (0 : Int32) then
    some ((-1000000), H5)
    else
    bnd ((H5.D p0 5)) fun x7 =>
    if x7 = (0 : Int32) then
    some ((-2000000), H5)
    else
    bnd (H5.sD p0 27 (0 : Int32)) fun H9 =>
    bnd (H9.sD p0 28 ((-1) : Int32)) fun H10 =>
    rf (H10.P p0 10) fun a11 =>
    ck (H10.sh[a11]? = some (13, 0)) <|
    bC (F_MWorld_begin N a11 H10) fun v15 H16 =>
    bC (F_M_getsTables N p0 H16) fun v18 H19 =>
    bC (F_M_gets N p0 (4 : Int32) (0 : Int32) (1000000000 : Int32) H19) fun v21 H22 =>
    bnd (H22.sD a11 0 v21) fun H23 =>
    bC (F_M_gets N p0 (4 : Int32) ((-2147483648) : Int32) (2147483647 : Int32) H23) fun v25 H26 =>
    bnd (H26.sD a11 1 v25) fun H27 =>
    bC (F_M_gets N p0 (4 : Int32) (0 : Int32) (1000000000 : Int32) H27) fun v29 H30 =>
    bnd (H30.sD a11 2 v29) fun H31 =>
    bC (F_M_gets N p0 (4 : Int32) (0 : Int32) (1000000000 : Int32) H31) fun v33 H34 =>
    bnd (H34.sD a11 3 v33) fun H35 =>
    bC (F_M_getsPlaces N p0 a11 H35) fun v37 H38 =>
    bC (F_M_getsPending N p0 a11 H38) fun v40 H41 =>
    bnd ((H41.D p0 28)) fun x42 =>
    if (0 : Int32) ≤ x42 then
    B_M_load_137 N p0 a11 H41
    else
    bnd ((H41.D p0 27)) fun x82 =>
    bnd ((H41.D p0 22)) fun x83 =>
    if x83 ≤ x82 then
    B_M_load_137 N p0 a11 H41
    else
    bnd ((H41.D p0 27)) fun x85 =>
    bnd (H41.sD p0 28 x85) fun H86 =>
    B_M_load_137 N p0 a11 H86
set_option maxRecDepth 20000 in
set_option maxHeartbeats 2000000 in
theorem m_M_load {N : Nat} {p0 : Nat} {H : Hp} {r : Int32 × Hp} (hF : F_M_load N p0 H = some r) : Sa H r.2 := by
  unfold F_M_load at hF
  have hm := Sa.rf H
  obtain ⟨q87, hG⟩ := ck_s hF; clear hF
  obtain ⟨H88, eH88, hF⟩ := bnd_g hG; clear hG
  replace hm : Sa H H88 := by rw [eH88]; exact hm
  obtain ⟨v90, H91, z89, hG⟩ := bC_s hF; clear hF
  replace hm : Sa H H91 := hm.tr (m_M_isQuiet z89)
  rcases ite_s hG with ⟨q_29, hF⟩ | ⟨q_29, hF⟩
  · clear hG
    have hr := Option.some.inj hF; subst hr
    exact hm
  · clear hG
    obtain ⟨x93, -, hG⟩ := bnd_g hF; clear hF
    rcases ite_s hG with ⟨q_30, hF⟩ | ⟨q_30, hF⟩
    · clear hG
      have hr := Option.some.inj hF; subst hr
      exact hm
    · clear hG
      obtain ⟨H95, eH95, hG⟩ := bnd_g hF; clear hF
      replace hm : Sa H H95 := by rw [eH95]; exact hm
      obtain ⟨H96, eH96, hF⟩ := bnd_g hG; clear hG
      replace hm : Sa H H96 := by rw [eH96]; exact hm
      obtain ⟨a97, e98, hG⟩ := rf_s hF; clear hF
      obtain ⟨q99, hF⟩ := ck_s hG; clear hG
      obtain ⟨v101, H102, z100, hG⟩ := bC_s hF; clear hF
      replace hm : Sa H H102 := hm.tr (m_MWorld_begin z100)
      obtain ⟨v104, H105, z103, hF⟩ := bC_s hG; clear hG
      replace hm : Sa H H105 := hm.tr (m_M_getsTables z103)
      obtain ⟨v107, H108, z106, hG⟩ := bC_s hF; clear hF
      replace hm : Sa H H108 := hm.tr (m_M_gets z106)
      obtain ⟨H109, eH109, hF⟩ := bnd_g hG; clear hG
      replace hm : Sa H H109 := by rw [eH109]; exact hm
      obtain ⟨v111, H112, z110, hG⟩ := bC_s hF; clear hF
      replace hm : Sa H H112 := hm.tr (m_M_gets z110)
      obtain ⟨H113, eH113, hF⟩ := bnd_g hG; clear hG
      replace hm : Sa H H113 := by rw [eH113]; exact hm
      obtain ⟨v115, H116, z114, hG⟩ := bC_s hF; clear hF
      replace hm : Sa H H116 := hm.tr (m_M_gets z114)
      obtain ⟨H117, eH117, hF⟩ := bnd_g hG; clear hG
      replace hm : Sa H H117 := by rw [eH117]; exact hm
      obtain ⟨v119, H120, z118, hG⟩ := bC_s hF; clear hF
      replace hm : Sa H H120 := hm.tr (m_M_gets z118)
      obtain ⟨H121, eH121, hF⟩ := bnd_g hG; clear hG
      replace hm : Sa H H121 := by rw [eH121]; exact hm
      obtain ⟨v123, H124, z122, hG⟩ := bC_s hF; clear hF
      replace hm : Sa H H124 := hm.tr (m_M_getsPlaces z122)
      obtain ⟨v126, H127, z125, hF⟩ := bC_s hG; clear hG
      replace hm : Sa H H127 := hm.tr (m_M_getsPending z125)
      obtain ⟨x128, -, hG⟩ := bnd_g hF; clear hF
      rcases ite_s hG with ⟨q_45, hF⟩ | ⟨q_45, hF⟩
      · clear hG
        exact hm.tr (mB_M_load_137 hF)
      · clear hG
        obtain ⟨x130, -, hG⟩ := bnd_g hF; clear hF
        obtain ⟨x131, -, hF⟩ := bnd_g hG; clear hG
        rcases ite_s hF with ⟨q_46, hG⟩ | ⟨q_46, hG⟩
        · clear hF
          exact hm.tr (mB_M_load_137 hG)
        · clear hF
          obtain ⟨x133, -, hF⟩ := bnd_g hG; clear hG
          obtain ⟨H134, eH134, hG⟩ := bnd_g hF; clear hF
          replace hm : Sa H H134 := by rw [eH134]; exact hm
          exact hm.tr (mB_M_load_137 hG)
set_option maxRecDepth 20000 in
set_option maxHeartbeats 2000000 in
theorem k_M_load {N : Nat} {p0 : Nat} {H : Hp} {r : Int32 × Hp} (hF : F_M_load N p0 H = some r) : ab_M y_M_load { frames := 4, cells := 0, slots := 0, locals := 95 } [.ref p0] (hpw H) (po (.returned (some (.int r.1))) r.2) := by
  unfold F_M_load at hF
  refine ab_of2 (lv := [some (.ref p0), none]) 1 rfl rfl (Nat.le_of_ble_eq_true rfl) ?_
  refine ab_aload_n d_M_load_0 rfl rfl rfl ?_
  refine ab_iconst (v := 0) d_M_load_1 (by decide) ?_
  obtain ⟨q1, hG⟩ := ck_s hF; clear hF
  refine hp_putI (v := 0) (f := 0) d_M_load_2 q1 (by decide) rfl (by decide) (k9 233 rfl rfl) rfl rfl (fun _ => rfl) (fun _ => rfl) rfl ?_
  refine hp_gen (fun H2 eH2 => ?_)
  replace hG := bnd_s eH2 hG
  have s_1 : Sa H H2 := by rw [eH2]; exact Sa.rf _
  refine ab_aload_n d_M_load_5 rfl rfl rfl ?_
  obtain ⟨v4, H5, z3, hF⟩ := bC_s hG; clear hG
  refine hp_callV_a (v := .int v4) (H1 := H5) (As := []) (rest := []) d_M_load_6 (k_M_isQuiet z3) (ab_mkC s_M_isQuiet (Nat.le_of_ble_eq_true rfl) (Nat.le_of_ble_eq_true rfl) (Nat.le_refl 0) (Nat.le_refl 0)) (k11 166 rfl rfl) i_M_isQuiet v_M_isQuiet (by rw [(s_1).1]; exact q1) (by decide) rfl rfl (Nat.le_of_ble_eq_true rfl) ?_
  have s_2 : Sa H H5 := (s_1).tr (m_M_isQuiet z3)
  refine ab_if_ne (tgt := 16) d_M_load_9 (by decide) (fun q6 => ?_) (fun q6 => ?_)
  · rw [if_neg q6] at hF
    refine ab_aload_n d_M_load_16 rfl rfl rfl ?_
    refine hp_getI (f := 5) d_M_load_17 (by rw [(s_2).1]; exact q1) (by decide) rfl (by decide) (k9 238 rfl rfl) rfl ?_
    refine ab_topi (fun x7 ex7 => ?_)
    replace hF := bnd_s ex7 hF
    refine ab_if_ne (tgt := 27) d_M_load_20 (by decide) (fun q8 => ?_) (fun q8 => ?_)
    · rw [if_neg q8] at hF
      refine ab_aload_n d_M_load_27 rfl rfl rfl ?_
      refine ab_iconst (v := 0) d_M_load_28 (by decide) ?_
      refine hp_putI (v := 0) (f := 27) d_M_load_29 (by rw [(s_2).1]; exact q1) (by decide) rfl (by decide) (k10 20 rfl rfl) rfl rfl (fun _ => rfl) (fun _ => rfl) rfl ?_
      refine hp_gen (fun H9 eH9 => ?_)
      replace hF := bnd_s eH9 hF
      have s_3 : Sa H H9 := by rw [eH9]; exact s_2
      refine ab_aload_n d_M_load_32 rfl rfl rfl ?_
      refine ab_iconst (v := (-1)) d_M_load_33 (by decide) ?_
      refine hp_putI (v := (-1)) (f := 28) d_M_load_34 (by rw [(s_3).1]; exact q1) (by decide) rfl (by decide) (k10 21 rfl rfl) rfl rfl (fun _ => rfl) (fun _ => rfl) rfl ?_
      refine hp_gen (fun H10 eH10 => ?_)
      replace hF := bnd_s eH10 hF
      have s_4 : Sa H H10 := by rw [eH10]; exact s_3
      refine ab_aload_n d_M_load_37 rfl rfl rfl ?_
      obtain ⟨a11, e12, hG⟩ := rf_s hF; clear hF
      refine hp_getR (f := 10) d_M_load_38 (by rw [(s_4).1]; exact q1) (by decide) rfl (by decide) (k10 3 rfl rfl) rfl e12 ?_
      refine ab_astore_n (lv' := [some (.ref p0), some (.ref a11)]) d_M_load_41 rfl (by decide) rfl rfl ?_
      refine ab_aload_n d_M_load_42 rfl rfl rfl ?_
      obtain ⟨q13, hF⟩ := ck_s hG; clear hG
      rw [(s_4).1] at q13
      obtain ⟨v15, H16, z14, hG⟩ := bC_s hF; clear hF
      refine hp_callV_v (H1 := H16) (As := []) (rest := []) d_M_load_43 (k_MWorld_begin z14) (ab_mkC s_MWorld_begin (Nat.le_of_ble_eq_true rfl) (Nat.le_of_ble_eq_true rfl) (Nat.le_refl 0) (Nat.le_refl 0)) (k11 145 rfl rfl) i_MWorld_begin v_MWorld_begin (by rw [(s_4).1]; exact q13) (by decide) rfl rfl (Nat.le_of_ble_eq_true rfl) ?_
      have s_5 : Sa H H16 := (s_4).tr (m_MWorld_begin z14)
      refine ab_aload_n d_M_load_46 rfl rfl rfl ?_
      obtain ⟨v18, H19, z17, hF⟩ := bC_s hG; clear hG
      refine hp_callV_v (H1 := H19) (As := []) (rest := []) d_M_load_47 (k_M_getsTables z17) (ab_mkC s_M_getsTables (Nat.le_of_ble_eq_true rfl) (Nat.le_of_ble_eq_true rfl) (Nat.le_refl 0) (Nat.le_refl 0)) (k13 58 rfl rfl) i_M_getsTables v_M_getsTables (by rw [(s_5).1]; exact q1) (by decide) rfl rfl (Nat.le_of_ble_eq_true rfl) ?_
      have s_6 : Sa H H19 := (s_5).tr (m_M_getsTables z17)
      refine ab_aload_n d_M_load_50 rfl rfl rfl ?_
      refine ab_aload_n d_M_load_51 rfl rfl rfl ?_
      refine ab_iconst (v := 4) d_M_load_52 (by decide) ?_
      refine ab_iconst (v := 0) d_M_load_53 (by decide) ?_
      refine ab_ldc d_M_load_54 (k11 201 rfl rfl) ?_
      obtain ⟨v21, H22, z20, hG⟩ := bC_s hF; clear hF
      refine hp_callV_a (v := .int v21) (H1 := H22) (As := [.int 4, .int 0, .int 1000000000]) (rest := [.ref a11]) d_M_load_56 (k_M_gets z20) (ab_mkC s_M_gets (Nat.le_of_ble_eq_true rfl) (Nat.le_of_ble_eq_true rfl) (Nat.le_refl 0) (Nat.le_refl 0)) (k13 66 rfl rfl) i_M_gets v_M_gets (by rw [(s_6).1]; exact q1) (by decide) rfl rfl (Nat.le_of_ble_eq_true rfl) ?_
      have s_7 : Sa H H22 := (s_6).tr (m_M_gets z20)
      refine hp_putIN (v := v21) (f := 0) d_M_load_59 (by rw [(s_7).1]; exact q13) (by decide) rfl (by decide) (k9 89 rfl rfl) rfl rfl (fun _ => rfl) (fun _ => rfl) rfl ?_
      refine hp_gen (fun H23 eH23 => ?_)
      replace hG := bnd_s eH23 hG
      have s_8 : Sa H H23 := by rw [eH23]; exact s_7
      refine ab_aload_n d_M_load_62 rfl rfl rfl ?_
      refine ab_aload_n d_M_load_63 rfl rfl rfl ?_
      refine ab_iconst (v := 4) d_M_load_64 (by decide) ?_
      refine ab_ldcw d_M_load_65 (k13 70 rfl rfl) ?_
      refine ab_ldcw d_M_load_68 (k13 71 rfl rfl) ?_
      obtain ⟨v25, H26, z24, hF⟩ := bC_s hG; clear hG
      refine hp_callV_a (v := .int v25) (H1 := H26) (As := [.int 4, .int (-2147483648), .int 2147483647]) (rest := [.ref a11]) d_M_load_71 (k_M_gets z24) (ab_mkC s_M_gets (Nat.le_of_ble_eq_true rfl) (Nat.le_of_ble_eq_true rfl) (Nat.le_refl 0) (Nat.le_refl 0)) (k13 66 rfl rfl) i_M_gets v_M_gets (by rw [(s_8).1]; exact q1) (by decide) rfl rfl (Nat.le_of_ble_eq_true rfl) ?_
      have s_9 : Sa H H26 := (s_8).tr (m_M_gets z24)
      refine hp_putIN (v := v25) (f := 1) d_M_load_74 (by rw [(s_9).1]; exact q13) (by decide) rfl (by decide) (k9 91 rfl rfl) rfl rfl (fun _ => rfl) (fun _ => rfl) rfl ?_
      refine hp_gen (fun H27 eH27 => ?_)
      replace hF := bnd_s eH27 hF
      have s_10 : Sa H H27 := by rw [eH27]; exact s_9
      refine ab_aload_n d_M_load_77 rfl rfl rfl ?_
      refine ab_aload_n d_M_load_78 rfl rfl rfl ?_
      refine ab_iconst (v := 4) d_M_load_79 (by decide) ?_
      refine ab_iconst (v := 0) d_M_load_80 (by decide) ?_
      refine ab_ldc d_M_load_81 (k11 201 rfl rfl) ?_
      obtain ⟨v29, H30, z28, hG⟩ := bC_s hF; clear hF
      refine hp_callV_a (v := .int v29) (H1 := H30) (As := [.int 4, .int 0, .int 1000000000]) (rest := [.ref a11]) d_M_load_83 (k_M_gets z28) (ab_mkC s_M_gets (Nat.le_of_ble_eq_true rfl) (Nat.le_of_ble_eq_true rfl) (Nat.le_refl 0) (Nat.le_refl 0)) (k13 66 rfl rfl) i_M_gets v_M_gets (by rw [(s_10).1]; exact q1) (by decide) rfl rfl (Nat.le_of_ble_eq_true rfl) ?_
      have s_11 : Sa H H30 := (s_10).tr (m_M_gets z28)
      refine hp_putIN (v := v29) (f := 2) d_M_load_86 (by rw [(s_11).1]; exact q13) (by decide) rfl (by decide) (k9 94 rfl rfl) rfl rfl (fun _ => rfl) (fun _ => rfl) rfl ?_
      refine hp_gen (fun H31 eH31 => ?_)
      replace hG := bnd_s eH31 hG
      have s_12 : Sa H H31 := by rw [eH31]; exact s_11
      refine ab_aload_n d_M_load_89 rfl rfl rfl ?_
      refine ab_aload_n d_M_load_90 rfl rfl rfl ?_
      refine ab_iconst (v := 4) d_M_load_91 (by decide) ?_
      refine ab_iconst (v := 0) d_M_load_92 (by decide) ?_
      refine ab_ldc d_M_load_93 (k11 201 rfl rfl) ?_
      obtain ⟨v33, H34, z32, hF⟩ := bC_s hG; clear hG
      refine hp_callV_a (v := .int v33) (H1 := H34) (As := [.int 4, .int 0, .int 1000000000]) (rest := [.ref a11]) d_M_load_95 (k_M_gets z32) (ab_mkC s_M_gets (Nat.le_of_ble_eq_true rfl) (Nat.le_of_ble_eq_true rfl) (Nat.le_refl 0) (Nat.le_refl 0)) (k13 66 rfl rfl) i_M_gets v_M_gets (by rw [(s_12).1]; exact q1) (by decide) rfl rfl (Nat.le_of_ble_eq_true rfl) ?_
      have s_13 : Sa H H34 := (s_12).tr (m_M_gets z32)
      refine hp_putIN (v := v33) (f := 3) d_M_load_98 (by rw [(s_13).1]; exact q13) (by decide) rfl (by decide) (k9 97 rfl rfl) rfl rfl (fun _ => rfl) (fun _ => rfl) rfl ?_
      refine hp_gen (fun H35 eH35 => ?_)
      replace hF := bnd_s eH35 hF
      have s_14 : Sa H H35 := by rw [eH35]; exact s_13
      refine ab_aload_n d_M_load_101 rfl rfl rfl ?_
      refine ab_aload_n d_M_load_102 rfl rfl rfl ?_
      obtain ⟨v37, H38, z36, hG⟩ := bC_s hF; clear hF
      refine hp_callV_v (H1 := H38) (As := [.ref a11]) (rest := []) d_M_load_103 (k_M_getsPlaces z36) (ab_mkC s_M_getsPlaces (Nat.le_of_ble_eq_true rfl) (Nat.le_of_ble_eq_true rfl) (Nat.le_refl 0) (Nat.le_refl 0)) (k13 72 rfl rfl) i_M_getsPlaces v_M_getsPlaces (by rw [(s_14).1]; exact q1) (by decide) rfl rfl (Nat.le_of_ble_eq_true rfl) ?_
      have s_15 : Sa H H38 := (s_14).tr (m_M_getsPlaces z36)
      refine ab_aload_n d_M_load_106 rfl rfl rfl ?_
      refine ab_aload_n d_M_load_107 rfl rfl rfl ?_
      obtain ⟨v40, H41, z39, hF⟩ := bC_s hG; clear hG
      refine hp_callV_v (H1 := H41) (As := [.ref a11]) (rest := []) d_M_load_108 (k_M_getsPending z39) (ab_mkC s_M_getsPending (Nat.le_of_ble_eq_true rfl) (Nat.le_of_ble_eq_true rfl) (Nat.le_refl 0) (Nat.le_refl 0)) (k13 81 rfl rfl) i_M_getsPending v_M_getsPending (by rw [(s_15).1]; exact q1) (by decide) rfl rfl (Nat.le_of_ble_eq_true rfl) ?_
      have s_16 : Sa H H41 := (s_15).tr (m_M_getsPending z39)
      refine ab_aload_n d_M_load_111 rfl rfl rfl ?_
      refine hp_getI (f := 28) d_M_load_112 (by rw [(s_16).1]; exact q1) (by decide) rfl (by decide) (k10 21 rfl rfl) rfl ?_
      refine ab_topi (fun x42 ex42 => ?_)
      replace hF := bnd_s ex42 hF
      refine ab_if_ge (tgt := 137) d_M_load_115 (by decide) (fun q43 => ?_) (fun q43 => ?_)
      · rw [if_pos q43] at hF
        exact kB_M_load_137 hF
      · rw [if_neg q43] at hF
        refine ab_aload_n d_M_load_118 rfl rfl rfl ?_
        refine hp_getI (f := 27) d_M_load_119 (by rw [(s_16).1]; exact q1) (by decide) rfl (by decide) (k10 20 rfl rfl) rfl ?_
        refine ab_topi (fun x82 ex82 => ?_)
        replace hF := bnd_s ex82 hF
        refine ab_aload_n d_M_load_122 rfl rfl rfl ?_
        refine hp_getI (f := 22) d_M_load_123 (by rw [(s_16).1]; exact q1) (by decide) rfl (by decide) (k10 15 rfl rfl) rfl ?_
        refine ab_topi (fun x83 ex83 => ?_)
        replace hF := bnd_s ex83 hF
        refine ab_icmp_ge (tgt := 137) d_M_load_126 (by decide) (fun q84 => ?_) (fun q84 => ?_)
        · rw [if_pos q84] at hF
          exact kB_M_load_137 hF
        · rw [if_neg q84] at hF
          refine ab_aload_n d_M_load_129 rfl rfl rfl ?_
          refine ab_aload_n d_M_load_130 rfl rfl rfl ?_
          refine hp_getI (f := 27) d_M_load_131 (by rw [(s_16).1]; exact q1) (by decide) rfl (by decide) (k10 20 rfl rfl) rfl ?_
          refine ab_topi (fun x85 ex85 => ?_)
          replace hF := bnd_s ex85 hF
          refine hp_putI (v := x85) (f := 28) d_M_load_134 (by rw [(s_16).1]; exact q1) (by decide) rfl (by decide) (k10 21 rfl rfl) rfl rfl (fun _ => rfl) (fun _ => rfl) rfl ?_
          refine hp_gen (fun H86 eH86 => ?_)
          replace hF := bnd_s eH86 hF
          have s_26 : Sa H H86 := by rw [eH86]; exact s_16
          exact kB_M_load_137 hF
    · rw [if_pos q8] at hF
      refine ab_ldcw d_M_load_23 (k13 57 rfl rfl) ?_
      exact ab_iret d_M_load_26 rfl (Nat.le_refl _) (Nat.le_refl _) (by have hr := Option.some.inj hF; subst hr; exact ⟨rfl, rfl⟩)
  · rw [if_pos q6] at hF
    refine ab_ldcw d_M_load_12 (k13 56 rfl rfl) ?_
    exact ab_iret d_M_load_15 rfl (Nat.le_refl _) (Nat.le_refl _) (by have hr := Option.some.inj hF; subst hr; exact ⟨rfl, rfl⟩)
