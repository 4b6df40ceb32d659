def y_MText_prefab : ab_Y := (⟨"WorldEngineModel$Text", "prefab", "()V"⟩, prog_16_method_31_code, 7, none, [])
theorem d_MText_prefab_0 : decode y_MText_prefab.2.1 0 = .ok (.aload_n 0, 1) := by decide +kernel
theorem d_MText_prefab_1 : decode y_MText_prefab.2.1 1 = .ok (.aload_n 0, 1) := by decide +kernel
theorem d_MText_prefab_2 : decode y_MText_prefab.2.1 2 = .ok (.getfield 222, 3) := by decide +kernel
theorem d_MText_prefab_5 : decode y_MText_prefab.2.1 5 = .ok (.bipush 16, 2) := by decide +kernel
theorem d_MText_prefab_7 : decode y_MText_prefab.2.1 7 = .ok (.invokevirtual 246, 3) := by decide +kernel
theorem d_MText_prefab_10 : decode y_MText_prefab.2.1 10 = .ok (.aload_n 0, 1) := by decide +kernel
theorem d_MText_prefab_11 : decode y_MText_prefab.2.1 11 = .ok (.getfield 222, 3) := by decide +kernel
theorem d_MText_prefab_14 : decode y_MText_prefab.2.1 14 = .ok (.istore_n 1, 1) := by decide +kernel
theorem d_MText_prefab_15 : decode y_MText_prefab.2.1 15 = .ok (.aload_n 0, 1) := by decide +kernel
theorem d_MText_prefab_16 : decode y_MText_prefab.2.1 16 = .ok (.iconst 4, 1) := by decide +kernel
theorem d_MText_prefab_17 : decode y_MText_prefab.2.1 17 = .ok (.iload_n 1, 1) := by decide +kernel
theorem d_MText_prefab_18 : decode y_MText_prefab.2.1 18 = .ok (.invokevirtual 249, 3) := by decide +kernel
theorem d_MText_prefab_21 : decode y_MText_prefab.2.1 21 = .ok (.istore_n 2, 1) := by decide +kernel
theorem d_MText_prefab_22 : decode y_MText_prefab.2.1 22 = .ok (.aload_n 0, 1) := by decide +kernel
theorem d_MText_prefab_23 : decode y_MText_prefab.2.1 23 = .ok (.getfield 185, 3) := by decide +kernel
theorem d_MText_prefab_26 : decode y_MText_prefab.2.1 26 = .ok (.ifCond .le 4, 3) := by decide +kernel
theorem d_MText_prefab_29 : decode y_MText_prefab.2.1 29 = .ok (.return_, 1) := by decide +kernel
theorem d_MText_prefab_30 : decode y_MText_prefab.2.1 30 = .ok (.aload_n 0, 1) := by decide +kernel
theorem d_MText_prefab_31 : decode y_MText_prefab.2.1 31 = .ok (.dup, 1) := by decide +kernel
theorem d_MText_prefab_32 : decode y_MText_prefab.2.1 32 = .ok (.getfield 222, 3) := by decide +kernel
theorem d_MText_prefab_35 : decode y_MText_prefab.2.1 35 = .ok (.iconst 1, 1) := by decide +kernel
theorem d_MText_prefab_36 : decode y_MText_prefab.2.1 36 = .ok (.iadd, 1) := by decide +kernel
theorem d_MText_prefab_37 : decode y_MText_prefab.2.1 37 = .ok (.putfield 222, 3) := by decide +kernel
theorem d_MText_prefab_40 : decode y_MText_prefab.2.1 40 = .ok (.aload_n 0, 1) := by decide +kernel
theorem d_MText_prefab_41 : decode y_MText_prefab.2.1 41 = .ok (.getfield 68, 3) := by decide +kernel
theorem d_MText_prefab_44 : decode y_MText_prefab.2.1 44 = .ok (.iload_n 1, 1) := by decide +kernel
theorem d_MText_prefab_45 : decode y_MText_prefab.2.1 45 = .ok (.iconst 0, 1) := by decide +kernel
theorem d_MText_prefab_46 : decode y_MText_prefab.2.1 46 = .ok (.iastore, 1) := by decide +kernel
theorem d_MText_prefab_47 : decode y_MText_prefab.2.1 47 = .ok (.iconst 0, 1) := by decide +kernel
theorem d_MText_prefab_48 : decode y_MText_prefab.2.1 48 = .ok (.istore_n 3, 1) := by decide +kernel
theorem d_MText_prefab_49 : decode y_MText_prefab.2.1 49 = .ok (.aload_n 0, 1) := by decide +kernel
theorem d_MText_prefab_50 : decode y_MText_prefab.2.1 50 = .ok (.bipush 123, 2) := by decide +kernel
theorem d_MText_prefab_52 : decode y_MText_prefab.2.1 52 = .ok (.invokevirtual 204, 3) := by decide +kernel
theorem d_MText_prefab_55 : decode y_MText_prefab.2.1 55 = .ok (.aload_n 0, 1) := by decide +kernel
theorem d_MText_prefab_56 : decode y_MText_prefab.2.1 56 = .ok (.getfield 185, 3) := by decide +kernel
theorem d_MText_prefab_59 : decode y_MText_prefab.2.1 59 = .ok (.ifCond .ne 156, 3) := by decide +kernel
theorem d_MText_prefab_62 : decode y_MText_prefab.2.1 62 = .ok (.aload_n 0, 1) := by decide +kernel
theorem d_MText_prefab_63 : decode y_MText_prefab.2.1 63 = .ok (.bipush 125, 2) := by decide +kernel
theorem d_MText_prefab_65 : decode y_MText_prefab.2.1 65 = .ok (.invokevirtual 197, 3) := by decide +kernel
theorem d_MText_prefab_68 : decode y_MText_prefab.2.1 68 = .ok (.ifCond .ne 147, 3) := by decide +kernel
theorem d_MText_prefab_71 : decode y_MText_prefab.2.1 71 = .ok (.aload_n 0, 1) := by decide +kernel
theorem d_MText_prefab_72 : decode y_MText_prefab.2.1 72 = .ok (.invokevirtual 240, 3) := by decide +kernel
theorem d_MText_prefab_75 : decode y_MText_prefab.2.1 75 = .ok (.istore 4, 2) := by decide +kernel
theorem d_MText_prefab_77 : decode y_MText_prefab.2.1 77 = .ok (.aload_n 0, 1) := by decide +kernel
theorem d_MText_prefab_78 : decode y_MText_prefab.2.1 78 = .ok (.getfield 185, 3) := by decide +kernel
theorem d_MText_prefab_81 : decode y_MText_prefab.2.1 81 = .ok (.ifCond .ne 16, 3) := by decide +kernel
theorem d_MText_prefab_84 : decode y_MText_prefab.2.1 84 = .ok (.iload_n 3, 1) := by decide +kernel
theorem d_MText_prefab_85 : decode y_MText_prefab.2.1 85 = .ok (.bipush 8, 2) := by decide +kernel
theorem d_MText_prefab_87 : decode y_MText_prefab.2.1 87 = .ok (.if_icmp .ne 10, 3) := by decide +kernel
theorem d_MText_prefab_90 : decode y_MText_prefab.2.1 90 = .ok (.aload_n 0, 1) := by decide +kernel
theorem d_MText_prefab_91 : decode y_MText_prefab.2.1 91 = .ok (.iconst 2, 1) := by decide +kernel
theorem d_MText_prefab_92 : decode y_MText_prefab.2.1 92 = .ok (.iload 4, 2) := by decide +kernel
theorem d_MText_prefab_94 : decode y_MText_prefab.2.1 94 = .ok (.invokevirtual 200, 3) := by decide +kernel
theorem d_MText_prefab_97 : decode y_MText_prefab.2.1 97 = .ok (.aload_n 0, 1) := by decide +kernel
theorem d_MText_prefab_98 : decode y_MText_prefab.2.1 98 = .ok (.iload 4, 2) := by decide +kernel
theorem d_MText_prefab_100 : decode y_MText_prefab.2.1 100 = .ok (.aload_n 0, 1) := by decide +kernel
theorem d_MText_prefab_101 : decode y_MText_prefab.2.1 101 = .ok (.getfield 68, 3) := by decide +kernel
theorem d_MText_prefab_104 : decode y_MText_prefab.2.1 104 = .ok (.iload_n 1, 1) := by decide +kernel
theorem d_MText_prefab_105 : decode y_MText_prefab.2.1 105 = .ok (.iaload, 1) := by decide +kernel
theorem d_MText_prefab_106 : decode y_MText_prefab.2.1 106 = .ok (.iconst 0, 1) := by decide +kernel
theorem d_MText_prefab_107 : decode y_MText_prefab.2.1 107 = .ok (.ldc_w 263, 3) := by decide +kernel
theorem d_MText_prefab_110 : decode y_MText_prefab.2.1 110 = .ok (.invokevirtual 264, 3) := by decide +kernel
theorem d_MText_prefab_113 : decode y_MText_prefab.2.1 113 = .ok (.istore 5, 2) := by decide +kernel
theorem d_MText_prefab_115 : decode y_MText_prefab.2.1 115 = .ok (.aload_n 0, 1) := by decide +kernel
theorem d_MText_prefab_116 : decode y_MText_prefab.2.1 116 = .ok (.getfield 185, 3) := by decide +kernel
theorem d_MText_prefab_119 : decode y_MText_prefab.2.1 119 = .ok (.ifCond .le 4, 3) := by decide +kernel
theorem d_MText_prefab_122 : decode y_MText_prefab.2.1 122 = .ok (.return_, 1) := by decide +kernel
theorem d_MText_prefab_123 : decode y_MText_prefab.2.1 123 = .ok (.aload_n 0, 1) := by decide +kernel
theorem d_MText_prefab_124 : decode y_MText_prefab.2.1 124 = .ok (.getfield 68, 3) := by decide +kernel
theorem d_MText_prefab_127 : decode y_MText_prefab.2.1 127 = .ok (.iload_n 1, 1) := by decide +kernel
theorem d_MText_prefab_128 : decode y_MText_prefab.2.1 128 = .ok (.dup2, 1) := by decide +kernel
theorem d_MText_prefab_129 : decode y_MText_prefab.2.1 129 = .ok (.iaload, 1) := by decide +kernel
theorem d_MText_prefab_130 : decode y_MText_prefab.2.1 130 = .ok (.iconst 1, 1) := by decide +kernel
theorem d_MText_prefab_131 : decode y_MText_prefab.2.1 131 = .ok (.iload 5, 2) := by decide +kernel
theorem d_MText_prefab_133 : decode y_MText_prefab.2.1 133 = .ok (.ishl, 1) := by decide +kernel
theorem d_MText_prefab_134 : decode y_MText_prefab.2.1 134 = .ok (.ior, 1) := by decide +kernel
theorem d_MText_prefab_135 : decode y_MText_prefab.2.1 135 = .ok (.iastore, 1) := by decide +kernel
theorem d_MText_prefab_136 : decode y_MText_prefab.2.1 136 = .ok (.iinc 3 1, 3) := by decide +kernel
theorem d_MText_prefab_139 : decode y_MText_prefab.2.1 139 = .ok (.aload_n 0, 1) := by decide +kernel
theorem d_MText_prefab_140 : decode y_MText_prefab.2.1 140 = .ok (.getfield 47, 3) := by decide +kernel
theorem d_MText_prefab_143 : decode y_MText_prefab.2.1 143 = .ok (.iload 5, 2) := by decide +kernel
theorem d_MText_prefab_145 : decode y_MText_prefab.2.1 145 = .ok (.iaload, 1) := by decide +kernel
theorem d_MText_prefab_146 : decode y_MText_prefab.2.1 146 = .ok (.istore 6, 2) := by decide +kernel
theorem d_MText_prefab_148 : decode y_MText_prefab.2.1 148 = .ok (.iload 6, 2) := by decide +kernel
theorem d_MText_prefab_150 : decode y_MText_prefab.2.1 150 = .ok (.aload_n 0, 1) := by decide +kernel
theorem d_MText_prefab_151 : decode y_MText_prefab.2.1 151 = .ok (.getfield 47, 3) := by decide +kernel
theorem d_MText_prefab_154 : decode y_MText_prefab.2.1 154 = .ok (.iload 5, 2) := by decide +kernel
theorem d_MText_prefab_156 : decode y_MText_prefab.2.1 156 = .ok (.iconst 1, 1) := by decide +kernel
theorem d_MText_prefab_157 : decode y_MText_prefab.2.1 157 = .ok (.iadd, 1) := by decide +kernel
theorem d_MText_prefab_158 : decode y_MText_prefab.2.1 158 = .ok (.iaload, 1) := by decide +kernel
theorem d_MText_prefab_159 : decode y_MText_prefab.2.1 159 = .ok (.if_icmp .ge 31, 3) := by decide +kernel
theorem d_MText_prefab_162 : decode y_MText_prefab.2.1 162 = .ok (.aload_n 0, 1) := by decide +kernel
theorem d_MText_prefab_163 : decode y_MText_prefab.2.1 163 = .ok (.getfield 71, 3) := by decide +kernel
theorem d_MText_prefab_166 : decode y_MText_prefab.2.1 166 = .ok (.bipush 48, 2) := by decide +kernel
theorem d_MText_prefab_168 : decode y_MText_prefab.2.1 168 = .ok (.iload_n 1, 1) := by decide +kernel
theorem d_MText_prefab_169 : decode y_MText_prefab.2.1 169 = .ok (.imul, 1) := by decide +kernel
theorem d_MText_prefab_170 : decode y_MText_prefab.2.1 170 = .ok (.iload 6, 2) := by decide +kernel
theorem d_MText_prefab_172 : decode y_MText_prefab.2.1 172 = .ok (.iadd, 1) := by decide +kernel
theorem d_MText_prefab_173 : decode y_MText_prefab.2.1 173 = .ok (.aload_n 0, 1) := by decide +kernel
theorem d_MText_prefab_174 : decode y_MText_prefab.2.1 174 = .ok (.getfield 50, 3) := by decide +kernel
theorem d_MText_prefab_177 : decode y_MText_prefab.2.1 177 = .ok (.iload 6, 2) := by decide +kernel
theorem d_MText_prefab_179 : decode y_MText_prefab.2.1 179 = .ok (.iaload, 1) := by decide +kernel
theorem d_MText_prefab_180 : decode y_MText_prefab.2.1 180 = .ok (.invokestatic 268, 3) := by decide +kernel
theorem d_MText_prefab_183 : decode y_MText_prefab.2.1 183 = .ok (.iastore, 1) := by decide +kernel
theorem d_MText_prefab_184 : decode y_MText_prefab.2.1 184 = .ok (.iinc 6 1, 3) := by decide +kernel
theorem d_MText_prefab_187 : decode y_MText_prefab.2.1 187 = .ok (.goto (-39), 3) := by decide +kernel
theorem d_MText_prefab_190 : decode y_MText_prefab.2.1 190 = .ok (.aload_n 0, 1) := by decide +kernel
theorem d_MText_prefab_191 : decode y_MText_prefab.2.1 191 = .ok (.bipush 40, 2) := by decide +kernel
theorem d_MText_prefab_193 : decode y_MText_prefab.2.1 193 = .ok (.invokevirtual 197, 3) := by decide +kernel
theorem d_MText_prefab_196 : decode y_MText_prefab.2.1 196 = .ok (.ifCond .eq 10, 3) := by decide +kernel
theorem d_MText_prefab_199 : decode y_MText_prefab.2.1 199 = .ok (.aload_n 0, 1) := by decide +kernel
theorem d_MText_prefab_200 : decode y_MText_prefab.2.1 200 = .ok (.iload_n 1, 1) := by decide +kernel
theorem d_MText_prefab_201 : decode y_MText_prefab.2.1 201 = .ok (.iload 5, 2) := by decide +kernel
theorem d_MText_prefab_203 : decode y_MText_prefab.2.1 203 = .ok (.invokevirtual 271, 3) := by decide +kernel
theorem d_MText_prefab_206 : decode y_MText_prefab.2.1 206 = .ok (.aload_n 0, 1) := by decide +kernel
theorem d_MText_prefab_207 : decode y_MText_prefab.2.1 207 = .ok (.bipush 59, 2) := by decide +kernel
theorem d_MText_prefab_209 : decode y_MText_prefab.2.1 209 = .ok (.invokevirtual 204, 3) := by decide +kernel
theorem d_MText_prefab_212 : decode y_MText_prefab.2.1 212 = .ok (.goto (-157), 3) := by decide +kernel
theorem d_MText_prefab_215 : decode y_MText_prefab.2.1 215 = .ok (.return_, 1) := by decide +kernel
theorem s_MText_prefab : ab_Stat y_MText_prefab 0 := ⟨(k10 215 rfl rfl), (k1 20 rfl rfl), ⟨by decide, by decide⟩, by decide +kernel⟩
theorem i_MText_prefab : Cond.instanceMethod y_MText_prefab.1 ∈ ab_T := (k10 214 rfl rfl)
theorem v_MText_prefab : Cond.selects "WorldEngineModel$Text" y_MText_prefab.1 y_MText_prefab.1 ∈ ab_T := ab_s (List.mem_of_getElem? (i := 128) rfl) rfl
def B_MText_prefab_206 (N : Nat) (p0 : Nat) (kq55 : Int32 → Int32 → Hp → Option (Unit × Hp)) (l1 : Int32) (l3 : Int32) (H : Hp) : Option (Unit × Hp) :=
    ck (H.sh[p0]? = some (14, 0)) <|
    bC (F_MText_takes N p0 (59 : Int32) H) fun v75 H76 =>
    kq55 l1 l3 H76
set_option maxRecDepth 20000 in
set_option maxHeartbeats 2000000 in
theorem mB_MText_prefab_206 {N : Nat} {p0 : Nat} {kq55 : Int32 → Int32 → Hp → Option (Unit × Hp)} (hm55 : ∀ (l1 : Int32) (l3 : Int32) (H : Hp) (r : Unit × Hp), kq55 l1 l3 H = some r → Sa H r.2) {l1 : Int32} {l3 : Int32} {H : Hp} {r : Unit × Hp} (hF : B_MText_prefab_206 N p0 kq55 l1 l3 H = some r) : Sa H r.2 := by
  unfold B_MText_prefab_206 at hF
  have hm := Sa.rf H
  obtain ⟨q77, hG⟩ := ck_s hF; clear hF
  obtain ⟨v79, H80, z78, hF⟩ := bC_s hG; clear hG
  replace hm : Sa H H80 := hm.tr (m_MText_takes z78)
  exact hm.tr (hm55 l1 l3 H80 r hF)
set_option maxRecDepth 20000 in
set_option maxHeartbeats 2000000 in
theorem kB_MText_prefab_206 {N : Nat} {p0 : Nat} {kq55 : Int32 → Int32 → Hp → Option (Unit × Hp)} (hm55 : ∀ (l1 : Int32) (l3 : Int32) (H : Hp) (r : Unit × Hp), kq55 l1 l3 H = some r → Sa H r.2) (hk55 : ∀ (l1 : Int32) (l3 : Int32) (H : Hp) (r : Unit × Hp), kq55 l1 l3 H = some r → ab_V y_MText_prefab { frames := 5, cells := 0, slots := 0, locals := 119 } (po (.returned none) r.2) 0 0 0 0 55 [some (.ref p0), some (.int l1), none, some (.int l3), none, none, none] [] (hpw H)) {l1 : Int32} {l3 : Int32} {H : Hp} {r : Unit × Hp} (hF : B_MText_prefab_206 N p0 kq55 l1 l3 H = some r) : ab_V y_MText_prefab { frames := 5, cells := 0, slots := 0, locals := 119 } (po (.returned none) r.2) 0 0 0 0 206 [some (.ref p0), some (.int l1), none, some (.int l3), none, none, none] [] (hpw H) := by
  unfold B_MText_prefab_206 at hF
  refine ab_aload_n d_MText_prefab_206 rfl rfl rfl ?_
  refine ab_bipush (v := 59) d_MText_prefab_207 (by decide) ?_
  obtain ⟨q73, hG⟩ := ck_s hF; clear hF
  obtain ⟨v75, H76, z74, hF⟩ := bC_s hG; clear hG
  refine hp_callV_v (H1 := H76) (As := [.int 59]) (rest := []) d_MText_prefab_209 (k_MText_takes z74) (ab_mkC s_MText_takes (Nat.le_of_ble_eq_true rfl) (Nat.le_of_ble_eq_true rfl) (Nat.le_refl 0) (Nat.le_refl 0)) (k10 172 rfl rfl) i_MText_takes v_MText_takes q73 (by decide) rfl rfl (Nat.le_of_ble_eq_true rfl) ?_
  have s_11 : Sa H H76 := (m_MText_takes z74)
  refine ab_goto (tgt := 55) d_MText_prefab_212 (by decide) ?_
  exact hk55 l1 l3 H76 r hF
def B_MText_prefab_148 (N : Nat) (p0 : Nat) (kq55 : Int32 → Int32 → Hp → Option (Unit × Hp)) : Nat → Int32 → Int32 → Int32 → Int32 → Hp → Option (Unit × Hp)
  | 0, _, _, _, _, _ => none
  | n + 1, l1, l3, l5, l6, H =>
    ck (H.sh[p0]? = some (14, 0)) <|
    rf (H.P p0 18) fun a62 =>
    ar H 100 a62 fun n64 =>
    ck (inb (l5 + (1 : Int32)) n64) <|
    bnd ((H.D a62 ((l5 + (1 : Int32))).toNatClampNeg)) fun x67 =>
    if x67 ≤ l6 then
    bC (F_MText_accepts N p0 (40 : Int32) H) fun v70 H71 =>
    if v70 = (0 : Int32) then
    B_MText_prefab_206 N p0 kq55 l1 l3 H71
    else
    bC (F_MText_values N p0 l1 l5 H71) fun v82 H83 =>
    B_MText_prefab_206 N p0 kq55 l1 l3 H83
    else
    rf (H.P p0 28) fun a84 =>
    rf (H.P p0 19) fun a86 =>
    ar H 100 a86 fun n88 =>
    ck (inb l6 n88) <|
    bnd ((H.D a86 (l6).toNatClampNeg)) fun x91 =>
    bC (F_M_first N x91 H) fun v93 H94 =>
    ar H94 100 a84 fun n95 =>
    ck (inb (((48 : Int32) * l1) + l6) n95) <|
    bnd (H94.sD a84 ((((48 : Int32) * l1) + l6)).toNatClampNeg v93) fun H98 =>
    B_MText_prefab_148 N p0 kq55 n l1 l3 l5 (l6 + 1) H98
termination_by structural n => n
set_option maxRecDepth 20000 in
set_option maxHeartbeats 2000000 in
theorem mB_MText_prefab_148 {N : Nat} {p0 : Nat} {kq55 : Int32 → Int32 → Hp → Option (Unit × Hp)} (hm55 : ∀ (l1 : Int32) (l3 : Int32) (H : Hp) (r : Unit × Hp), kq55 l1 l3 H = some r → Sa H r.2) : ∀ (n : Nat) (l1 : Int32) (l3 : Int32) (l5 : Int32) (l6 : Int32) (H : Hp) (r : Unit × Hp), B_MText_prefab_148 N p0 kq55 n l1 l3 l5 l6 H = some r → Sa H r.2 := by
  intro n
  induction n with
  | zero => intro l1 l3 l5 l6 H r hF; rw [B_MText_prefab_148] at hF; cases hF
  | succ n ih =>
    intro l1 l3 l5 l6 H r hF
    rw [B_MText_prefab_148] at hF
    have hm := Sa.rf H
    obtain ⟨q99, hG⟩ := ck_s hF; clear hF
    obtain ⟨a100, e101, hF⟩ := rf_s hG; clear hG
    obtain ⟨n102, q103, hG⟩ := ar_s hF; clear hF
    obtain ⟨q104, hF⟩ := ck_s hG; clear hG
    obtain ⟨x105, -, hG⟩ := bnd_g hF; clear hF
    rcases ite_s hG with ⟨q_16, hF⟩ | ⟨q_16, hF⟩
    · clear hG
      obtain ⟨v108, H109, z107, hG⟩ := bC_s hF; clear hF
      replace hm : Sa H H109 := hm.tr (m_MText_accepts z107)
      rcases ite_s hG with ⟨q_18, hF⟩ | ⟨q_18, hF⟩
      · clear hG
        exact hm.tr (mB_MText_prefab_206 hm55 hF)
      · clear hG
        obtain ⟨v112, H113, z111, hG⟩ := bC_s hF; clear hF
        replace hm : Sa H H113 := hm.tr (m_MText_values z111)
        exact hm.tr (mB_MText_prefab_206 hm55 hG)
    · clear hG
      obtain ⟨a114, e115, hG⟩ := rf_s hF; clear hF
      obtain ⟨a116, e117, hF⟩ := rf_s hG; clear hG
      obtain ⟨n118, q119, hG⟩ := ar_s hF; clear hF
      obtain ⟨q120, hF⟩ := ck_s hG; clear hG
      obtain ⟨x121, -, hG⟩ := bnd_g hF; clear hF
      obtain ⟨v123, H124, z122, hF⟩ := bC_s hG; clear hG
      replace hm : Sa H H124 := hm.tr (m_M_first z122)
      obtain ⟨n125, q126, hG⟩ := ar_s hF; clear hF
      obtain ⟨q127, hF⟩ := ck_s hG; clear hG
      obtain ⟨H128, eH128, hG⟩ := bnd_g hF; clear hF
      replace hm : Sa H H128 := by rw [eH128]; exact hm
      exact hm.tr (ih l1 l3 l5 (l6 + 1) H128 r hG)
set_option maxRecDepth 20000 in
set_option maxHeartbeats 2000000 in
theorem kB_MText_prefab_148 {N : Nat} {p0 : Nat} {kq55 : Int32 → Int32 → Hp → Option (Unit × Hp)} (hm55 : ∀ (l1 : Int32) (l3 : Int32) (H : Hp) (r : Unit × Hp), kq55 l1 l3 H = some r → Sa H r.2) (hk55 : ∀ (l1 : Int32) (l3 : Int32) (H : Hp) (r : Unit × Hp), kq55 l1 l3 H = some r → ab_V y_MText_prefab { frames := 5, cells := 0, slots := 0, locals := 119 } (po (.returned none) r.2) 0 0 0 0 55 [some (.ref p0), some (.int l1), none, some (.int l3), none, none, none] [] (hpw H)) : ∀ (n : Nat) (l1 : Int32) (l3 : Int32) (l5 : Int32) (l6 : Int32) (H : Hp) (r : Unit × Hp), B_MText_prefab_148 N p0 kq55 n l1 l3 l5 l6 H = some r → ab_V y_MText_prefab { frames := 5, cells := 0, slots := 0, locals := 119 } (po (.returned none) r.2) 0 0 0 0 148 [some (.ref p0), some (.int l1), none, some (.int l3), none, some (.int l5), some (.int l6)] [] (hpw H) := by
  intro n
  induction n with
  | zero => intro l1 l3 l5 l6 H r hF; rw [B_MText_prefab_148] at hF; cases hF
  | succ n ih =>
    intro l1 l3 l5 l6 H r hF
    rw [B_MText_prefab_148] at hF
    refine ab_iload d_MText_prefab_148 rfl ?_
    refine ab_aload_n d_MText_prefab_150 rfl rfl rfl ?_
    obtain ⟨q61, hG⟩ := ck_s hF; clear hF
    obtain ⟨a62, e63, hF⟩ := rf_s hG; clear hG
    refine hp_getR (f := 18) d_MText_prefab_151 q61 (by decide) rfl (by decide) (k8 184 rfl rfl) rfl e63 ?_
    refine ab_iload d_MText_prefab_154 rfl ?_
    refine ab_iconst (v := 1) d_MText_prefab_156 (by decide) ?_
    refine ab_iadd d_MText_prefab_157 ?_
    obtain ⟨n64, q65, hG⟩ := ar_s hF; clear hF
    obtain ⟨q66, hF⟩ := ck_s hG; clear hG
    refine hp_iald d_MText_prefab_158 tI q65 q66 ?_
    refine ab_topi (fun x67 ex67 => ?_)
    replace hF := bnd_s ex67 hF
    refine ab_icmp_ge (tgt := 190) d_MText_prefab_159 (by decide) (fun q68 => ?_) (fun q68 => ?_)
    · rw [if_pos q68] at hF
      refine ab_aload_n d_MText_prefab_190 rfl rfl rfl ?_
      refine ab_bipush (v := 40) d_MText_prefab_191 (by decide) ?_
      obtain ⟨v70, H71, z69, hG⟩ := bC_s hF; clear hF
      refine hp_callV_a (v := .int v70) (H1 := H71) (As := [.int 40]) (rest := []) d_MText_prefab_193 (k_MText_accepts z69) (ab_mkC s_MText_accepts (Nat.le_of_ble_eq_true rfl) (Nat.le_of_ble_eq_true rfl) (Nat.le_refl 0) (Nat.le_refl 0)) (k10 176 rfl rfl) i_MText_accepts v_MText_accepts q61 (by decide) rfl rfl (Nat.le_of_ble_eq_true rfl) ?_
      have s_10 : Sa H H71 := (m_MText_accepts z69)
      refine ab_if_eq (tgt := 206) d_MText_prefab_196 (by decide) (fun q72 => ?_) (fun q72 => ?_)
      · rw [if_pos q72] at hG
        refine ab_le (lv' := [some (.ref p0), some (.int l1), none, some (.int l3), none, none, none]) ⟨rfl, ⟨rfl, ⟨rfl, trivial⟩⟩⟩ ?_
        exact kB_MText_prefab_206 hm55 hk55 hG
      · rw [if_neg q72] at hG
        refine ab_aload_n d_MText_prefab_199 rfl rfl rfl ?_
        refine ab_iload_n d_MText_prefab_200 rfl rfl ?_
        refine ab_iload d_MText_prefab_201 rfl ?_
        obtain ⟨v82, H83, z81, hF⟩ := bC_s hG; clear hG
        refine hp_callV_v (H1 := H83) (As := [.int l1, .int l5]) (rest := []) d_MText_prefab_203 (k_MText_values z81) (ab_mkC s_MText_values (Nat.le_of_ble_eq_true rfl) (Nat.le_of_ble_eq_true rfl) (Nat.le_refl 0) (Nat.le_refl 0)) (k10 236 rfl rfl) i_MText_values v_MText_values (by rw [(s_10).1]; exact q61) (by decide) rfl rfl (Nat.le_of_ble_eq_true rfl) ?_
        have s_13 : Sa H H83 := (s_10).tr (m_MText_values z81)
        refine ab_le (lv' := [some (.ref p0), some (.int l1), none, some (.int l3), none, none, none]) ⟨rfl, ⟨rfl, ⟨rfl, trivial⟩⟩⟩ ?_
        exact kB_MText_prefab_206 hm55 hk55 hF
    · rw [if_neg q68] at hF
      refine ab_aload_n d_MText_prefab_162 rfl rfl rfl ?_
      obtain ⟨a84, e85, hG⟩ := rf_s hF; clear hF
      refine hp_getR (f := 28) d_MText_prefab_163 q61 (by decide) rfl (by decide) (k8 209 rfl rfl) rfl e85 ?_
      refine ab_bipush (v := 48) d_MText_prefab_166 (by decide) ?_
      refine ab_iload_n d_MText_prefab_168 rfl rfl ?_
      refine ab_imul d_MText_prefab_169 ?_
      refine ab_iload d_MText_prefab_170 rfl ?_
      refine ab_iadd d_MText_prefab_172 ?_
      refine ab_aload_n d_MText_prefab_173 rfl rfl rfl ?_
      obtain ⟨a86, e87, hF⟩ := rf_s hG; clear hG
      refine hp_getR (f := 19) d_MText_prefab_174 q61 (by decide) rfl (by decide) (k8 188 rfl rfl) rfl e87 ?_
      refine ab_iload d_MText_prefab_177 rfl ?_
      obtain ⟨n88, q89, hG⟩ := ar_s hF; clear hF
      obtain ⟨q90, hF⟩ := ck_s hG; clear hG
      refine hp_iald d_MText_prefab_179 tI q89 q90 ?_
      refine ab_topi (fun x91 ex91 => ?_)
      replace hF := bnd_s ex91 hF
      obtain ⟨v93, H94, z92, hG⟩ := bC_s hF; clear hF
      refine hp_callSN_a (v := .int v93) (H1 := H94) (As := [.int x91]) (rest := [.int (((48 : Int32) * l1) + l6), .ref a84]) d_MText_prefab_180 (k_M_first z92) (ab_mkC s_M_first (Nat.le_of_ble_eq_true rfl) (Nat.le_of_ble_eq_true rfl) (Nat.le_refl 0) (Nat.le_refl 0)) (k10 233 rfl rfl) t_M_first rfl (Nat.le_of_ble_eq_true rfl) ?_
      have s_14 : Sa H H94 := (m_M_first z92)
      obtain ⟨n95, q96, hF⟩ := ar_s hG; clear hG
      rw [(s_14).1] at q96
      obtain ⟨q97, hG⟩ := ck_s hF; clear hF
      refine hp_iast d_MText_prefab_183 tI (by rw [(s_14).1]; exact q96) q97 ?_
      refine hp_gen (fun H98 eH98 => ?_)
      replace hG := bnd_s eH98 hG
      have s_15 : Sa H H98 := by rw [eH98]; exact s_14
      refine ab_iinc (v := l6 + 1) (lv' := [some (.ref p0), some (.int l1), none, some (.int l3), none, some (.int l5), some (.int (l6 + 1))]) d_MText_prefab_184 rfl rfl (by decide) rfl ?_
      refine ab_goto (tgt := 148) d_MText_prefab_187 (by decide) ?_
      exact ih l1 l3 l5 (l6 + 1) H98 r hG
def B_MText_prefab_97 (N : Nat) (p0 : Nat) (kq55 : Int32 → Int32 → Hp → Option (Unit × Hp)) (l1 : Int32) (l3 : Int32) (l4 : Int32) (H : Hp) : Option (Unit × Hp) :=
    ck (H.sh[p0]? = some (14, 0)) <|
    rf (H.P p0 27) fun a36 =>
    ar H 100 a36 fun n38 =>
    ck (inb l1 n38) <|
    bnd ((H.D a36 (l1).toNatClampNeg)) fun x41 =>
    bC (F_MText_componentOf N p0 l4 x41 (0 : Int32) (65535 : Int32) H) fun v43 H44 =>
    bnd ((H44.D p0 9)) fun x45 =>
    if x45 ≤ (0 : Int32) then
    rf (H44.P p0 27) fun a47 =>
    ar H44 100 a47 fun n49 =>
    ck (inb l1 n49) <|
    bnd ((H44.D a47 (l1).toNatClampNeg)) fun x52 =>
    ck (inb l1 n49) <|
    bnd (H44.sD a47 (l1).toNatClampNeg (x52 ||| ((1 : Int32) <<< (v43 &&& 31)))) fun H54 =>
    rf (H54.P p0 18) fun a55 =>
    ar H54 100 a55 fun n57 =>
    ck (inb v43 n57) <|
    bnd ((H54.D a55 (v43).toNatClampNeg)) fun x60 =>
    B_MText_prefab_148 N p0 kq55 N l1 (l3 + 1) v43 x60 H54
    else
    some ((), H44)
set_option maxRecDepth 20000 in
set_option maxHeartbeats 2000000 in
theorem mB_MText_prefab_97 {N : Nat} {p0 : Nat} {kq55 : Int32 → Int32 → Hp → Option (Unit × Hp)} (hm55 : ∀ (l1 : Int32) (l3 : Int32) (H : Hp) (r : Unit × Hp), kq55 l1 l3 H = some r → Sa H r.2) {l1 : Int32} {l3 : Int32} {l4 : Int32} {H : Hp} {r : Unit × Hp} (hF : B_MText_prefab_97 N p0 kq55 l1 l3 l4 H = some r) : Sa H r.2 := by
  unfold B_MText_prefab_97 at hF
  have hm := Sa.rf H
  obtain ⟨q129, hG⟩ := ck_s hF; clear hF
  obtain ⟨a130, e131, hF⟩ := rf_s hG; clear hG
  obtain ⟨n132, q133, hG⟩ := ar_s hF; clear hF
  obtain ⟨q134, hF⟩ := ck_s hG; clear hG
  obtain ⟨x135, -, hG⟩ := bnd_g hF; clear hF
  obtain ⟨v137, H138, z136, hF⟩ := bC_s hG; clear hG
  replace hm : Sa H H138 := hm.tr (m_MText_componentOf z136)
  obtain ⟨x139, -, hG⟩ := bnd_g hF; clear hF
  rcases ite_s hG with ⟨q_23, hF⟩ | ⟨q_23, hF⟩
  · clear hG
    obtain ⟨a141, e142, hG⟩ := rf_s hF; clear hF
    obtain ⟨n143, q144, hF⟩ := ar_s hG; clear hG
    obtain ⟨q145, hG⟩ := ck_s hF; clear hF
    obtain ⟨x146, -, hF⟩ := bnd_g hG; clear hG
    obtain ⟨q147, hG⟩ := ck_s hF; clear hF
    obtain ⟨H148, eH148, hF⟩ := bnd_g hG; clear hG
    replace hm : Sa H H148 := by rw [eH148]; exact hm
    obtain ⟨a149, e150, hG⟩ := rf_s hF; clear hF
    obtain ⟨n151, q152, hF⟩ := ar_s hG; clear hG
    obtain ⟨q153, hG⟩ := ck_s hF; clear hF
    obtain ⟨x154, -, hF⟩ := bnd_g hG; clear hG
    exact hm.tr (mB_MText_prefab_148 hm55 N l1 (l3 + 1) v137 x154 H148 r hF)
  · clear hG
    have hr := Option.some.inj hF; subst hr
    exact hm
set_option maxRecDepth 20000 in
set_option maxHeartbeats 2000000 in
theorem kB_MText_prefab_97 {N : Nat} {p0 : Nat} {kq55 : Int32 → Int32 → Hp → Option (Unit × Hp)} (hm55 : ∀ (l1 : Int32) (l3 : Int32) (H : Hp) (r : Unit × Hp), kq55 l1 l3 H = some r → Sa H r.2) (hk55 : ∀ (l1 : Int32) (l3 : Int32) (H : Hp) (r : Unit × Hp), kq55 l1 l3 H = some r → ab_V y_MText_prefab { frames := 5, cells := 0, slots := 0, locals := 119 } (po (.returned none) r.2) 0 0 0 0 55 [some (.ref p0), some (.int l1), none, some (.int l3), none, none, none] [] (hpw H)) {l1 : Int32} {l3 : Int32} {l4 : Int32} {H : Hp} {r : Unit × Hp} (hF : B_MText_prefab_97 N p0 kq55 l1 l3 l4 H = some r) : ab_V y_MText_prefab { frames := 5, cells := 0, slots := 0, locals := 119 } (po (.returned none) r.2) 0 0 0 0 97 [some (.ref p0), some (.int l1), none, some (.int l3), some (.int l4), none, none] [] (hpw H) := by
  unfold B_MText_prefab_97 at hF
  refine ab_aload_n d_MText_prefab_97 rfl rfl rfl ?_
  refine ab_iload d_MText_prefab_98 rfl ?_
  refine ab_aload_n d_MText_prefab_100 rfl rfl rfl ?_
  obtain ⟨q35, hG⟩ := ck_s hF; clear hF
  obtain ⟨a36, e37, hF⟩ := rf_s hG; clear hG
  refine hp_getR (f := 27) d_MText_prefab_101 q35 (by decide) rfl (by decide) (k8 207 rfl rfl) rfl e37 ?_
  refine ab_iload_n d_MText_prefab_104 rfl rfl ?_
  obtain ⟨n38, q39, hG⟩ := ar_s hF; clear hF
  obtain ⟨q40, hF⟩ := ck_s hG; clear hG
  refine hp_iald d_MText_prefab_105 tI q39 q40 ?_
  refine ab_topi (fun x41 ex41 => ?_)
  replace hF := bnd_s ex41 hF
  refine ab_iconst (v := 0) d_MText_prefab_106 (by decide) ?_
  refine ab_ldcw d_MText_prefab_107 (k10 216 rfl rfl) ?_
  obtain ⟨v43, H44, z42, hG⟩ := bC_s hF; clear hF
  refine hp_callV_a (v := .int v43) (H1 := H44) (As := [.int l4, .int x41, .int 0, .int 65535]) (rest := []) d_MText_prefab_110 (k_MText_componentOf z42) (ab_mkC s_MText_componentOf (Nat.le_of_ble_eq_true rfl) (Nat.le_of_ble_eq_true rfl) (Nat.le_refl 0) (Nat.le_refl 0)) (k10 217 rfl rfl) i_MText_componentOf v_MText_componentOf q35 (by decide) rfl rfl (Nat.le_of_ble_eq_true rfl) ?_
  have s_8 : Sa H H44 := (m_MText_componentOf z42)
  refine ab_istore (lv' := [some (.ref p0), some (.int l1), none, some (.int l3), some (.int l4), some (.int v43), none]) d_MText_prefab_113 (by decide) rfl ?_
  refine ab_aload_n d_MText_prefab_115 rfl rfl rfl ?_
  refine hp_getI (f := 9) d_MText_prefab_116 (by rw [(s_8).1]; exact q35) (by decide) rfl (by decide) (k8 172 rfl rfl) rfl ?_
  refine ab_topi (fun x45 ex45 => ?_)
  replace hG := bnd_s ex45 hG
  refine ab_if_le (tgt := 123) d_MText_prefab_119 (by decide) (fun q46 => ?_) (fun q46 => ?_)
  · rw [if_pos q46] at hG
    refine ab_aload_n d_MText_prefab_123 rfl rfl rfl ?_
    obtain ⟨a47, e48, hF⟩ := rf_s hG; clear hG
    refine hp_getR (f := 27) d_MText_prefab_124 (by rw [(s_8).1]; exact q35) (by decide) rfl (by decide) (k8 207 rfl rfl) rfl e48 ?_
    refine ab_iload_n d_MText_prefab_127 rfl rfl ?_
    refine ab_dup2_11 d_MText_prefab_128 rfl rfl ?_
    obtain ⟨n49, q50, hG⟩ := ar_s hF; clear hF
    rw [(s_8).1] at q50
    obtain ⟨q51, hF⟩ := ck_s hG; clear hG
    refine hp_iald d_MText_prefab_129 tI (by rw [(s_8).1]; exact q50) q51 ?_
    refine ab_topi (fun x52 ex52 => ?_)
    replace hF := bnd_s ex52 hF
    refine ab_iconst (v := 1) d_MText_prefab_130 (by decide) ?_
    refine ab_iload d_MText_prefab_131 rfl ?_
    refine ab_ishl d_MText_prefab_133 ?_
    refine ab_ior d_MText_prefab_134 ?_
    obtain ⟨q53, hG⟩ := ck_s hF; clear hF
    refine hp_iast d_MText_prefab_135 tI (by rw [(s_8).1]; exact q50) q53 ?_
    refine hp_gen (fun H54 eH54 => ?_)
    replace hG := bnd_s eH54 hG
    have s_9 : Sa H H54 := by rw [eH54]; exact s_8
    refine ab_iinc (v := l3 + 1) (lv' := [some (.ref p0), some (.int l1), none, some (.int (l3 + 1)), some (.int l4), some (.int v43), none]) d_MText_prefab_136 rfl rfl (by decide) rfl ?_
    refine ab_aload_n d_MText_prefab_139 rfl rfl rfl ?_
    obtain ⟨a55, e56, hF⟩ := rf_s hG; clear hG
    refine hp_getR (f := 18) d_MText_prefab_140 (by rw [(s_9).1]; exact q35) (by decide) rfl (by decide) (k8 184 rfl rfl) rfl e56 ?_
    refine ab_iload d_MText_prefab_143 rfl ?_
    obtain ⟨n57, q58, hG⟩ := ar_s hF; clear hF
    rw [(s_9).1] at q58
    obtain ⟨q59, hF⟩ := ck_s hG; clear hG
    refine hp_iald d_MText_prefab_145 tI (by rw [(s_9).1]; exact q58) q59 ?_
    refine ab_topi (fun x60 ex60 => ?_)
    replace hF := bnd_s ex60 hF
    refine ab_istore (lv' := [some (.ref p0), some (.int l1), none, some (.int (l3 + 1)), some (.int l4), some (.int v43), some (.int x60)]) d_MText_prefab_146 (by decide) rfl ?_
    refine ab_le (lv' := [some (.ref p0), some (.int l1), none, some (.int (l3 + 1)), none, some (.int v43), some (.int x60)]) ⟨rfl, ⟨rfl, ⟨rfl, ⟨rfl, ⟨rfl, trivial⟩⟩⟩⟩⟩ ?_
    exact kB_MText_prefab_148 hm55 hk55 N l1 (l3 + 1) v43 x60 H54 r hF
  · rw [if_neg q46] at hG
    exact ab_vret d_MText_prefab_122 rfl (Nat.le_refl _) (Nat.le_refl _) (by have hr := Option.some.inj hG; subst hr; exact ⟨rfl, rfl⟩)
def B_MText_prefab_55 (N : Nat) (p0 : Nat) : Nat → Int32 → Int32 → Hp → Option (Unit × Hp)
  | 0, _, _, _ => none
  | n + 1, l1, l3, H =>
    ck (H.sh[p0]? = some (14, 0)) <|
    bnd ((H.D p0 9)) fun x24 =>
    if x24 = (0 : Int32) then
    bC (F_MText_accepts N p0 (125 : Int32) H) fun v27 H28 =>
    if v27 = (0 : Int32) then
    bC (F_MText_name N p0 H28) fun v31 H32 =>
    bnd ((H32.D p0 9)) fun x33 =>
    if x33 = (0 : Int32) then
    if l3 = (8 : Int32) then
    bC (F_MText_fails N p0 (2 : Int32) v31 H32) fun v157 H158 =>
    B_MText_prefab_97 N p0 (fun l1 l3 H => B_MText_prefab_55 N p0 n l1 l3 H) l1 l3 v31 H158
    else
    B_MText_prefab_97 N p0 (fun l1 l3 H => B_MText_prefab_55 N p0 n l1 l3 H) l1 l3 v31 H32
    else
    B_MText_prefab_97 N p0 (fun l1 l3 H => B_MText_prefab_55 N p0 n l1 l3 H) l1 l3 v31 H32
    else
    some ((), H28)
    else
    some ((), H)
termination_by structural n => n
set_option maxRecDepth 20000 in
set_option maxHeartbeats 2000000 in
theorem mB_MText_prefab_55 {N : Nat} {p0 : Nat} : ∀ (n : Nat) (l1 : Int32) (l3 : Int32) (H : Hp) (r : Unit × Hp), B_MText_prefab_55 N p0 n l1 l3 H = some r → Sa H r.2 := by
  intro n
  induction n with
  | zero => intro l1 l3 H r hF; rw [B_MText_prefab_55] at hF; cases hF
  | succ n ih =>
    intro l1 l3 H r hF
    rw [B_MText_prefab_55] at hF
    have hm := Sa.rf H
    obtain ⟨q159, hG⟩ := ck_s hF; clear hF
    obtain ⟨x160, -, hF⟩ := bnd_g hG; clear hG
    rcases ite_s hF with ⟨q_26, hG⟩ | ⟨q_26, hG⟩
    · clear hF
      obtain ⟨v163, H164, z162, hF⟩ := bC_s hG; clear hG
      replace hm : Sa H H164 := hm.tr (m_MText_accepts z162)
      rcases ite_s hF with ⟨q_28, hG⟩ | ⟨q_28, hG⟩
      · clear hF
        obtain ⟨v167, H168, z166, hF⟩ := bC_s hG; clear hG
        replace hm : Sa H H168 := hm.tr (m_MText_name z166)
        obtain ⟨x169, -, hG⟩ := bnd_g hF; clear hF
        rcases ite_s hG with ⟨q_30, hF⟩ | ⟨q_30, hF⟩
        · clear hG
          rcases ite_s hF with ⟨q_31, hG⟩ | ⟨q_31, hG⟩
          · clear hF
            obtain ⟨v173, H174, z172, hF⟩ := bC_s hG; clear hG
            replace hm : Sa H H174 := hm.tr (m_MText_fails z172)
            exact hm.tr (mB_MText_prefab_97 ih hF)
          · clear hF
            exact hm.tr (mB_MText_prefab_97 ih hG)
        · clear hG
          exact hm.tr (mB_MText_prefab_97 ih hF)
      · clear hF
        have hr := Option.some.inj hG; subst hr
        exact hm
    · clear hF
      have hr := Option.some.inj hG; subst hr
      exact hm
set_option maxRecDepth 20000 in
set_option maxHeartbeats 2000000 in
theorem kB_MText_prefab_55 {N : Nat} {p0 : Nat} : ∀ (n : Nat) (l1 : Int32) (l3 : Int32) (H : Hp) (r : Unit × Hp), B_MText_prefab_55 N p0 n l1 l3 H = some r → ab_V y_MText_prefab { frames := 5, cells := 0, slots := 0, locals := 119 } (po (.returned none) r.2) 0 0 0 0 55 [some (.ref p0), some (.int l1), none, some (.int l3), none, none, none] [] (hpw H) := by
  intro n
  induction n with
  | zero => intro l1 l3 H r hF; rw [B_MText_prefab_55] at hF; cases hF
  | succ n ih =>
    intro l1 l3 H r hF
    rw [B_MText_prefab_55] at hF
    refine ab_aload_n d_MText_prefab_55 rfl rfl rfl ?_
    obtain ⟨q23, hG⟩ := ck_s hF; clear hF
    refine hp_getI (f := 9) d_MText_prefab_56 q23 (by decide) rfl (by decide) (k8 172 rfl rfl) rfl ?_
    refine ab_topi (fun x24 ex24 => ?_)
    replace hG := bnd_s ex24 hG
    refine ab_if_ne (tgt := 215) d_MText_prefab_59 (by decide) (fun q25 => ?_) (fun q25 => ?_)
    · rw [if_neg q25] at hG
      exact ab_vret d_MText_prefab_215 rfl (Nat.le_refl _) (Nat.le_refl _) (by have hr := Option.some.inj hG; subst hr; exact ⟨rfl, rfl⟩)
    · rw [if_pos q25] at hG
      refine ab_aload_n d_MText_prefab_62 rfl rfl rfl ?_
      refine ab_bipush (v := 125) d_MText_prefab_63 (by decide) ?_
      obtain ⟨v27, H28, z26, hF⟩ := bC_s hG; clear hG
      refine hp_callV_a (v := .int v27) (H1 := H28) (As := [.int 125]) (rest := []) d_MText_prefab_65 (k_MText_accepts z26) (ab_mkC s_MText_accepts (Nat.le_of_ble_eq_true rfl) (Nat.le_of_ble_eq_true rfl) (Nat.le_refl 0) (Nat.le_refl 0)) (k10 176 rfl rfl) i_MText_accepts v_MText_accepts q23 (by decide) rfl rfl (Nat.le_of_ble_eq_true rfl) ?_
      have s_6 : Sa H H28 := (m_MText_accepts z26)
      refine ab_if_ne (tgt := 215) d_MText_prefab_68 (by decide) (fun q29 => ?_) (fun q29 => ?_)
      · rw [if_neg q29] at hF
        exact ab_vret d_MText_prefab_215 rfl (Nat.le_refl _) (Nat.le_refl _) (by have hr := Option.some.inj hF; subst hr; exact ⟨rfl, rfl⟩)
      · rw [if_pos q29] at hF
        refine ab_aload_n d_MText_prefab_71 rfl rfl rfl ?_
        obtain ⟨v31, H32, z30, hG⟩ := bC_s hF; clear hF
        refine hp_callV_a (v := .int v31) (H1 := H32) (As := []) (rest := []) d_MText_prefab_72 (k_MText_name z30) (ab_mkC s_MText_name (Nat.le_of_ble_eq_true rfl) (Nat.le_of_ble_eq_true rfl) (Nat.le_refl 0) (Nat.le_refl 0)) (k10 168 rfl rfl) i_MText_name v_MText_name (by rw [(s_6).1]; exact q23) (by decide) rfl rfl (Nat.le_of_ble_eq_true rfl) ?_
        have s_7 : Sa H H32 := (s_6).tr (m_MText_name z30)
        refine ab_istore (lv' := [some (.ref p0), some (.int l1), none, some (.int l3), some (.int v31), none, none]) d_MText_prefab_75 (by decide) rfl ?_
        refine ab_aload_n d_MText_prefab_77 rfl rfl rfl ?_
        refine hp_getI (f := 9) d_MText_prefab_78 (by rw [(s_7).1]; exact q23) (by decide) rfl (by decide) (k8 172 rfl rfl) rfl ?_
        refine ab_topi (fun x33 ex33 => ?_)
        replace hG := bnd_s ex33 hG
        refine ab_if_ne (tgt := 97) d_MText_prefab_81 (by decide) (fun q34 => ?_) (fun q34 => ?_)
        · rw [if_neg q34] at hG
          exact kB_MText_prefab_97 (mB_MText_prefab_55 n) ih hG
        · rw [if_pos q34] at hG
          refine ab_iload_n d_MText_prefab_84 rfl rfl ?_
          refine ab_bipush (v := 8) d_MText_prefab_85 (by decide) ?_
          refine ab_icmp_ne (tgt := 97) d_MText_prefab_87 (by decide) (fun q155 => ?_) (fun q155 => ?_)
          · rw [if_neg q155] at hG
            exact kB_MText_prefab_97 (mB_MText_prefab_55 n) ih hG
          · rw [if_pos q155] at hG
            refine ab_aload_n d_MText_prefab_90 rfl rfl rfl ?_
            refine ab_iconst (v := 2) d_MText_prefab_91 (by decide) ?_
            refine ab_iload d_MText_prefab_92 rfl ?_
            obtain ⟨v157, H158, z156, hF⟩ := bC_s hG; clear hG
            refine hp_callV_v (H1 := H158) (As := [.int 2, .int v31]) (rest := []) d_MText_prefab_94 (k_MText_fails z156) (ab_mkC s_MText_fails (Nat.le_of_ble_eq_true rfl) (Nat.le_of_ble_eq_true rfl) (Nat.le_refl 0) (Nat.le_refl 0)) (k10 160 rfl rfl) i_MText_fails v_MText_fails (by rw [(s_7).1]; exact q23) (by decide) rfl rfl (Nat.le_of_ble_eq_true rfl) ?_
            have s_25 : Sa H H158 := (s_7).tr (m_MText_fails z156)
            exact kB_MText_prefab_97 (mB_MText_prefab_55 n) ih hF
def F_MText_prefab (N : Nat) (p0 : Nat) (H : Hp) : Option (Unit × Hp) :=
    ck (H.sh[p0]? = some (14, 0)) <|
    bnd ((H.D p0 26)) fun x2 =>
    bC (F_MText_begins N p0 x2 (16 : Int32) H) fun v4 H5 =>
    bnd ((H5.D p0 26)) fun x6 =>
    bC (F_MText_told N p0 (4 : Int32) x6 H5) fun v8 H9 =>
    bnd ((H9.D p0 9)) fun x10 =>
    if x10 ≤ (0 : Int32) then
    bnd ((H9.D p0 26)) fun x12 =>
    bnd (H9.sD p0 26 (x12 + (1 : Int32))) fun H13 =>
    rf (H13.P p0 27) fun a14 =>
    ar H13 100 a14 fun n16 =>
    ck (inb x6 n16) <|
    bnd (H13.sD a14 (x6).toNatClampNeg (0 : Int32)) fun H19 =>
    bC (F_MText_takes N p0 (123 : Int32) H19) fun v21 H22 =>
    B_MText_prefab_55 N p0 N x6 0 H22
    else
    some ((), H9)
set_option maxRecDepth 20000 in
set_option maxHeartbeats 2000000 in
theorem m_MText_prefab {N : Nat} {p0 : Nat} {H : Hp} {r : Unit × Hp} (hF : F_MText_prefab N p0 H = some r) : Sa H r.2 := by
  unfold F_MText_prefab at hF
  have hm := Sa.rf H
  obtain ⟨q175, hG⟩ := ck_s hF; clear hF
  obtain ⟨x176, -, hF⟩ := bnd_g hG; clear hG
  obtain ⟨v178, H179, z177, hG⟩ := bC_s hF; clear hF
  replace hm : Sa H H179 := hm.tr (m_MText_begins z177)
  obtain ⟨x180, -, hF⟩ := bnd_g hG; clear hG
  obtain ⟨v182, H183, z181, hG⟩ := bC_s hF; clear hF
  replace hm : Sa H H183 := hm.tr (m_MText_told z181)
  obtain ⟨x184, -, hF⟩ := bnd_g hG; clear hG
  rcases ite_s hF with ⟨q_35, hG⟩ | ⟨q_35, hG⟩
  · clear hF
    obtain ⟨x186, -, hF⟩ := bnd_g hG; clear hG
    obtain ⟨H187, eH187, hG⟩ := bnd_g hF; clear hF
    replace hm : Sa H H187 := by rw [eH187]; exact hm
    obtain ⟨a188, e189, hF⟩ := rf_s hG; clear hG
    obtain ⟨n190, q191, hG⟩ := ar_s hF; clear hF
    obtain ⟨q192, hF⟩ := ck_s hG; clear hG
    obtain ⟨H193, eH193, hG⟩ := bnd_g hF; clear hF
    replace hm : Sa H H193 := by rw [eH193]; exact hm
    obtain ⟨v195, H196, z194, hF⟩ := bC_s hG; clear hG
    replace hm : Sa H H196 := hm.tr (m_MText_takes z194)
    exact hm.tr (mB_MText_prefab_55 N x180 0 H196 r hF)
  · clear hF
    have hr := Option.some.inj hG; subst hr
    exact hm
set_option maxRecDepth 20000 in
set_option maxHeartbeats 2000000 in
theorem k_MText_prefab {N : Nat} {p0 : Nat} {H : Hp} {r : Unit × Hp} (hF : F_MText_prefab N p0 H = some r) : ab_M y_MText_prefab { frames := 5, cells := 0, slots := 0, locals := 119 } [.ref p0] (hpw H) (po (.returned none) r.2) := by
  unfold F_MText_prefab at hF
  refine ab_of2 (lv := [some (.ref p0), none, none, none, none, none, none]) 6 rfl rfl (Nat.le_of_ble_eq_true rfl) ?_
  refine ab_aload_n d_MText_prefab_0 rfl rfl rfl ?_
  refine ab_aload_n d_MText_prefab_1 rfl rfl rfl ?_
  obtain ⟨q1, hG⟩ := ck_s hF; clear hF
  refine hp_getI (f := 26) d_MText_prefab_2 q1 (by decide) rfl (by decide) (k8 205 rfl rfl) rfl ?_
  refine ab_topi (fun x2 ex2 => ?_)
  replace hG := bnd_s ex2 hG
  refine ab_bipush (v := 16) d_MText_prefab_5 (by decide) ?_
  obtain ⟨v4, H5, z3, hF⟩ := bC_s hG; clear hG
  refine hp_callV_v (H1 := H5) (As := [.int x2, .int 16]) (rest := []) d_MText_prefab_7 (k_MText_begins z3) (ab_mkC s_MText_begins (Nat.le_of_ble_eq_true rfl) (Nat.le_of_ble_eq_true rfl) (Nat.le_refl 0) (Nat.le_refl 0)) (k10 156 rfl rfl) i_MText_begins v_MText_begins q1 (by decide) rfl rfl (Nat.le_of_ble_eq_true rfl) ?_
  have s_1 : Sa H H5 := (m_MText_begins z3)
  refine ab_aload_n d_MText_prefab_10 rfl rfl rfl ?_
  refine hp_getI (f := 26) d_MText_prefab_11 (by rw [(s_1).1]; exact q1) (by decide) rfl (by decide) (k8 205 rfl rfl) rfl ?_
  refine ab_topi (fun x6 ex6 => ?_)
  replace hF := bnd_s ex6 hF
  refine ab_istore_n (lv' := [some (.ref p0), some (.int x6), none, none, none, none, none]) d_MText_prefab_14 rfl (by decide) rfl ?_
  refine ab_aload_n d_MText_prefab_15 rfl rfl rfl ?_
  refine ab_iconst (v := 4) d_MText_prefab_16 (by decide) ?_
  refine ab_iload_n d_MText_prefab_17 rfl rfl ?_
  obtain ⟨v8, H9, z7, hG⟩ := bC_s hF; clear hF
  refine hp_callV_a (v := .int v8) (H1 := H9) (As := [.int 4, .int x6]) (rest := []) d_MText_prefab_18 (k_MText_told z7) (ab_mkC s_MText_told (Nat.le_of_ble_eq_true rfl) (Nat.le_of_ble_eq_true rfl) (Nat.le_refl 0) (Nat.le_refl 0)) (k10 164 rfl rfl) i_MText_told v_MText_told (by rw [(s_1).1]; exact q1) (by decide) rfl rfl (Nat.le_of_ble_eq_true rfl) ?_
  have s_2 : Sa H H9 := (s_1).tr (m_MText_told z7)
  refine ab_istore_n (lv' := [some (.ref p0), some (.int x6), some (.int v8), none, none, none, none]) d_MText_prefab_21 rfl (by decide) rfl ?_
  refine ab_aload_n d_MText_prefab_22 rfl rfl rfl ?_
  refine hp_getI (f := 9) d_MText_prefab_23 (by rw [(s_2).1]; exact q1) (by decide) rfl (by decide) (k8 172 rfl rfl) rfl ?_
  refine ab_topi (fun x10 ex10 => ?_)
  replace hG := bnd_s ex10 hG
  refine ab_if_le (tgt := 30) d_MText_prefab_26 (by decide) (fun q11 => ?_) (fun q11 => ?_)
  · rw [if_pos q11] at hG
    refine ab_aload_n d_MText_prefab_30 rfl rfl rfl ?_
    refine ab_dup d_MText_prefab_31 rfl ?_
    refine hp_getI (f := 26) d_MText_prefab_32 (by rw [(s_2).1]; exact q1) (by decide) rfl (by decide) (k8 205 rfl rfl) rfl ?_
    refine ab_topi (fun x12 ex12 => ?_)
    replace hG := bnd_s ex12 hG
    refine ab_iconst (v := 1) d_MText_prefab_35 (by decide) ?_
    refine ab_iadd d_MText_prefab_36 ?_
    refine hp_putI (v := x12 + (1 : Int32)) (f := 26) d_MText_prefab_37 (by rw [(s_2).1]; exact q1) (by decide) rfl (by decide) (k8 205 rfl rfl) rfl rfl (fun _ => rfl) (fun _ => rfl) rfl ?_
    refine hp_gen (fun H13 eH13 => ?_)
    replace hG := bnd_s eH13 hG
    have s_3 : Sa H H13 := by rw [eH13]; exact s_2
    refine ab_aload_n d_MText_prefab_40 rfl rfl rfl ?_
    obtain ⟨a14, e15, hF⟩ := rf_s hG; clear hG
    refine hp_getR (f := 27) d_MText_prefab_41 (by rw [(s_3).1]; exact q1) (by decide) rfl (by decide) (k8 207 rfl rfl) rfl e15 ?_
    refine ab_iload_n d_MText_prefab_44 rfl rfl ?_
    refine ab_iconst (v := 0) d_MText_prefab_45 (by decide) ?_
    obtain ⟨n16, q17, hG⟩ := ar_s hF; clear hF
    rw [(s_3).1] at q17
    obtain ⟨q18, hF⟩ := ck_s hG; clear hG
    refine hp_iast d_MText_prefab_46 tI (by rw [(s_3).1]; exact q17) q18 ?_
    refine hp_gen (fun H19 eH19 => ?_)
    replace hF := bnd_s eH19 hF
    have s_4 : Sa H H19 := by rw [eH19]; exact s_3
    refine ab_iconst (v := 0) d_MText_prefab_47 (by decide) ?_
    refine ab_istore_n (lv' := [some (.ref p0), some (.int x6), some (.int v8), some (.int 0), none, none, none]) d_MText_prefab_48 rfl (by decide) rfl ?_
    refine ab_aload_n d_MText_prefab_49 rfl rfl rfl ?_
    refine ab_bipush (v := 123) d_MText_prefab_50 (by decide) ?_
    obtain ⟨v21, H22, z20, hG⟩ := bC_s hF; clear hF
    refine hp_callV_v (H1 := H22) (As := [.int 123]) (rest := []) d_MText_prefab_52 (k_MText_takes z20) (ab_mkC s_MText_takes (Nat.le_of_ble_eq_true rfl) (Nat.le_of_ble_eq_true rfl) (Nat.le_refl 0) (Nat.le_refl 0)) (k10 172 rfl rfl) i_MText_takes v_MText_takes (by rw [(s_4).1]; exact q1) (by decide) rfl rfl (Nat.le_of_ble_eq_true rfl) ?_
    have s_5 : Sa H H22 := (s_4).tr (m_MText_takes z20)
    refine ab_le (lv' := [some (.ref p0), some (.int x6), none, some (.int 0), none, none, none]) ⟨rfl, ⟨rfl, ⟨rfl, trivial⟩⟩⟩ ?_
    exact kB_MText_prefab_55 N x6 0 H22 r hG
  · rw [if_neg q11] at hG
    exact ab_vret d_MText_prefab_29 rfl (Nat.le_refl _) (Nat.le_refl _) (by have hr := Option.some.inj hG; subst hr; exact ⟨rfl, rfl⟩)
def y_MText_systemNames : ab_Y := (⟨"WorldEngineModel$Text", "systemNames", "()I"⟩, prog_16_method_39_code, 6, (some FieldType.int), [])
theorem d_MText_systemNames_0 : decode y_MText_systemNames.2.1 0 = .ok (.iconst 0, 1) := by decide +kernel
theorem d_MText_systemNames_1 : decode y_MText_systemNames.2.1 1 = .ok (.istore_n 1, 1) := by decide +kernel
theorem d_MText_systemNames_2 : decode y_MText_systemNames.2.1 2 = .ok (.iconst 1, 1) := by decide +kernel
theorem d_MText_systemNames_3 : decode y_MText_systemNames.2.1 3 = .ok (.istore_n 2, 1) := by decide +kernel
theorem d_MText_systemNames_4 : decode y_MText_systemNames.2.1 4 = .ok (.aload_n 0, 1) := by decide +kernel
theorem d_MText_systemNames_5 : decode y_MText_systemNames.2.1 5 = .ok (.getfield 185, 3) := by decide +kernel
theorem d_MText_systemNames_8 : decode y_MText_systemNames.2.1 8 = .ok (.ifCond .ne 103, 3) := by decide +kernel
theorem d_MText_systemNames_11 : decode y_MText_systemNames.2.1 11 = .ok (.iload_n 2, 1) := by decide +kernel
theorem d_MText_systemNames_12 : decode y_MText_systemNames.2.1 12 = .ok (.ifCond .eq 99, 3) := by decide +kernel
theorem d_MText_systemNames_15 : decode y_MText_systemNames.2.1 15 = .ok (.aload_n 0, 1) := by decide +kernel
theorem d_MText_systemNames_16 : decode y_MText_systemNames.2.1 16 = .ok (.invokevirtual 240, 3) := by decide +kernel
theorem d_MText_systemNames_19 : decode y_MText_systemNames.2.1 19 = .ok (.istore_n 3, 1) := by decide +kernel
theorem d_MText_systemNames_20 : decode y_MText_systemNames.2.1 20 = .ok (.aload_n 0, 1) := by decide +kernel
theorem d_MText_systemNames_21 : decode y_MText_systemNames.2.1 21 = .ok (.getfield 185, 3) := by decide +kernel
theorem d_MText_systemNames_24 : decode y_MText_systemNames.2.1 24 = .ok (.ifCond .le 7, 3) := by decide +kernel
theorem d_MText_systemNames_27 : decode y_MText_systemNames.2.1 27 = .ok (.iconst (-1), 1) := by decide +kernel
theorem d_MText_systemNames_28 : decode y_MText_systemNames.2.1 28 = .ok (.goto 8, 3) := by decide +kernel
theorem d_MText_systemNames_31 : decode y_MText_systemNames.2.1 31 = .ok (.aload_n 0, 1) := by decide +kernel
theorem d_MText_systemNames_32 : decode y_MText_systemNames.2.1 32 = .ok (.iload_n 3, 1) := by decide +kernel
theorem d_MText_systemNames_33 : decode y_MText_systemNames.2.1 33 = .ok (.invokevirtual 243, 3) := by decide +kernel
theorem d_MText_systemNames_36 : decode y_MText_systemNames.2.1 36 = .ok (.istore 4, 2) := by decide +kernel
theorem d_MText_systemNames_38 : decode y_MText_systemNames.2.1 38 = .ok (.iload 4, 2) := by decide +kernel
theorem d_MText_systemNames_40 : decode y_MText_systemNames.2.1 40 = .ok (.ifCond .lt 35, 3) := by decide +kernel
theorem d_MText_systemNames_43 : decode y_MText_systemNames.2.1 43 = .ok (.aload_n 0, 1) := by decide +kernel
theorem d_MText_systemNames_44 : decode y_MText_systemNames.2.1 44 = .ok (.getfield 38, 3) := by decide +kernel
theorem d_MText_systemNames_47 : decode y_MText_systemNames.2.1 47 = .ok (.iload 4, 2) := by decide +kernel
theorem d_MText_systemNames_49 : decode y_MText_systemNames.2.1 49 = .ok (.iaload, 1) := by decide +kernel
theorem d_MText_systemNames_50 : decode y_MText_systemNames.2.1 50 = .ok (.iconst 5, 1) := by decide +kernel
theorem d_MText_systemNames_51 : decode y_MText_systemNames.2.1 51 = .ok (.if_icmp .ne 24, 3) := by decide +kernel
theorem d_MText_systemNames_54 : decode y_MText_systemNames.2.1 54 = .ok (.iload_n 1, 1) := by decide +kernel
theorem d_MText_systemNames_55 : decode y_MText_systemNames.2.1 55 = .ok (.aload_n 0, 1) := by decide +kernel
theorem d_MText_systemNames_56 : decode y_MText_systemNames.2.1 56 = .ok (.getfield 41, 3) := by decide +kernel
theorem d_MText_systemNames_59 : decode y_MText_systemNames.2.1 59 = .ok (.iload 4, 2) := by decide +kernel
theorem d_MText_systemNames_61 : decode y_MText_systemNames.2.1 61 = .ok (.iaload, 1) := by decide +kernel
theorem d_MText_systemNames_62 : decode y_MText_systemNames.2.1 62 = .ok (.ishr, 1) := by decide +kernel
theorem d_MText_systemNames_63 : decode y_MText_systemNames.2.1 63 = .ok (.iconst 1, 1) := by decide +kernel
theorem d_MText_systemNames_64 : decode y_MText_systemNames.2.1 64 = .ok (.iand, 1) := by decide +kernel
theorem d_MText_systemNames_65 : decode y_MText_systemNames.2.1 65 = .ok (.iconst 1, 1) := by decide +kernel
theorem d_MText_systemNames_66 : decode y_MText_systemNames.2.1 66 = .ok (.if_icmp .ne 9, 3) := by decide +kernel
theorem d_MText_systemNames_69 : decode y_MText_systemNames.2.1 69 = .ok (.aload_n 0, 1) := by decide +kernel
theorem d_MText_systemNames_70 : decode y_MText_systemNames.2.1 70 = .ok (.iconst 3, 1) := by decide +kernel
theorem d_MText_systemNames_71 : decode y_MText_systemNames.2.1 71 = .ok (.iload_n 3, 1) := by decide +kernel
theorem d_MText_systemNames_72 : decode y_MText_systemNames.2.1 72 = .ok (.invokevirtual 200, 3) := by decide +kernel
theorem d_MText_systemNames_75 : decode y_MText_systemNames.2.1 75 = .ok (.aload_n 0, 1) := by decide +kernel
theorem d_MText_systemNames_76 : decode y_MText_systemNames.2.1 76 = .ok (.iload_n 3, 1) := by decide +kernel
theorem d_MText_systemNames_77 : decode y_MText_systemNames.2.1 77 = .ok (.iconst 5, 1) := by decide +kernel
theorem d_MText_systemNames_78 : decode y_MText_systemNames.2.1 78 = .ok (.invokevirtual 290, 3) := by decide +kernel
theorem d_MText_systemNames_81 : decode y_MText_systemNames.2.1 81 = .ok (.istore 5, 2) := by decide +kernel
theorem d_MText_systemNames_83 : decode y_MText_systemNames.2.1 83 = .ok (.iload_n 1, 1) := by decide +kernel
theorem d_MText_systemNames_84 : decode y_MText_systemNames.2.1 84 = .ok (.aload_n 0, 1) := by decide +kernel
theorem d_MText_systemNames_85 : decode y_MText_systemNames.2.1 85 = .ok (.getfield 185, 3) := by decide +kernel
theorem d_MText_systemNames_88 : decode y_MText_systemNames.2.1 88 = .ok (.ifCond .ne 10, 3) := by decide +kernel
theorem d_MText_systemNames_91 : decode y_MText_systemNames.2.1 91 = .ok (.iconst 1, 1) := by decide +kernel
theorem d_MText_systemNames_92 : decode y_MText_systemNames.2.1 92 = .ok (.iload 5, 2) := by decide +kernel
theorem d_MText_systemNames_94 : decode y_MText_systemNames.2.1 94 = .ok (.ishl, 1) := by decide +kernel
theorem d_MText_systemNames_95 : decode y_MText_systemNames.2.1 95 = .ok (.goto 4, 3) := by decide +kernel
theorem d_MText_systemNames_98 : decode y_MText_systemNames.2.1 98 = .ok (.iconst 0, 1) := by decide +kernel
theorem d_MText_systemNames_99 : decode y_MText_systemNames.2.1 99 = .ok (.ior, 1) := by decide +kernel
theorem d_MText_systemNames_100 : decode y_MText_systemNames.2.1 100 = .ok (.istore_n 1, 1) := by decide +kernel
theorem d_MText_systemNames_101 : decode y_MText_systemNames.2.1 101 = .ok (.aload_n 0, 1) := by decide +kernel
theorem d_MText_systemNames_102 : decode y_MText_systemNames.2.1 102 = .ok (.bipush 44, 2) := by decide +kernel
theorem d_MText_systemNames_104 : decode y_MText_systemNames.2.1 104 = .ok (.invokevirtual 197, 3) := by decide +kernel
theorem d_MText_systemNames_107 : decode y_MText_systemNames.2.1 107 = .ok (.istore_n 2, 1) := by decide +kernel
theorem d_MText_systemNames_108 : decode y_MText_systemNames.2.1 108 = .ok (.goto (-104), 3) := by decide +kernel
theorem d_MText_systemNames_111 : decode y_MText_systemNames.2.1 111 = .ok (.iload_n 1, 1) := by decide +kernel
theorem d_MText_systemNames_112 : decode y_MText_systemNames.2.1 112 = .ok (.ireturn, 1) := by decide +kernel
theorem s_MText_systemNames : ab_Stat y_MText_systemNames 0 := ⟨(k11 18 rfl rfl), (k1 20 rfl rfl), ⟨by decide, by decide⟩, by decide +kernel⟩
theorem i_MText_systemNames : Cond.instanceMethod y_MText_systemNames.1 ∈ ab_T := (k11 17 rfl rfl)
theorem v_MText_systemNames : Cond.selects "WorldEngineModel$Text" y_MText_systemNames.1 y_MText_systemNames.1 ∈ ab_T := ab_s (List.mem_of_getElem? (i := 136) rfl) rfl
def B_MText_systemNames_99 (N : Nat) (p0 : Nat) (kq4 : Int32 → Int32 → Hp → Option (Int32 × Hp)) (w0 : Int32) (w1 : Int32) (H : Hp) : Option (Int32 × Hp) :=
    ck (H.sh[p0]? = some (14, 0)) <|
    bC (F_MText_accepts N p0 (44 : Int32) H) fun v22 H23 =>
    kq4 (w0 ||| w1) v22 H23
set_option maxRecDepth 20000 in
set_option maxHeartbeats 2000000 in
theorem mB_MText_systemNames_99 {N : Nat} {p0 : Nat} {kq4 : Int32 → Int32 → Hp → Option (Int32 × Hp)} (hm4 : ∀ (l1 : Int32) (l2 : Int32) (H : Hp) (r : Int32 × Hp), kq4 l1 l2 H = some r → Sa H r.2) {w0 : Int32} {w1 : Int32} {H : Hp} {r : Int32 × Hp} (hF : B_MText_systemNames_99 N p0 kq4 w0 w1 H = some r) : Sa H r.2 := by
  unfold B_MText_systemNames_99 at hF
  have hm := Sa.rf H
  obtain ⟨q24, hG⟩ := ck_s hF; clear hF
  obtain ⟨v26, H27, z25, hF⟩ := bC_s hG; clear hG
  replace hm : Sa H H27 := hm.tr (m_MText_accepts z25)
  exact hm.tr (hm4 (w0 ||| w1) v26 H27 r hF)
set_option maxRecDepth 20000 in
set_option maxHeartbeats 2000000 in
theorem kB_MText_systemNames_99 {N : Nat} {p0 : Nat} {kq4 : Int32 → Int32 → Hp → Option (Int32 × Hp)} (hm4 : ∀ (l1 : Int32) (l2 : Int32) (H : Hp) (r : Int32 × Hp), kq4 l1 l2 H = some r → Sa H r.2) (hk4 : ∀ (l1 : Int32) (l2 : Int32) (H : Hp) (r : Int32 × Hp), kq4 l1 l2 H = some r → ab_V y_MText_systemNames { frames := 4, cells := 0, slots := 0, locals := 92 } (po (.returned (some (.int r.1))) r.2) 0 0 0 0 4 [some (.ref p0), some (.int l1), some (.int l2), none, none, none] [] (hpw H)) {w0 : Int32} {w1 : Int32} {H : Hp} {r : Int32 × Hp} (hF : B_MText_systemNames_99 N p0 kq4 w0 w1 H = some r) : ab_V y_MText_systemNames { frames := 4, cells := 0, slots := 0, locals := 92 } (po (.returned (some (.int r.1))) r.2) 0 0 0 0 99 [some (.ref p0), none, none, none, none, none] [.int w1, .int w0] (hpw H) := by
  unfold B_MText_systemNames_99 at hF
  refine ab_ior d_MText_systemNames_99 ?_
  refine ab_istore_n (lv' := [some (.ref p0), some (.int (w0 ||| w1)), none, none, none, none]) d_MText_systemNames_100 rfl (by decide) rfl ?_
  refine ab_aload_n d_MText_systemNames_101 rfl rfl rfl ?_
  refine ab_bipush (v := 44) d_MText_systemNames_102 (by decide) ?_
  obtain ⟨q20, hG⟩ := ck_s hF; clear hF
  obtain ⟨v22, H23, z21, hF⟩ := bC_s hG; clear hG
  refine hp_callV_a (v := .int v22) (H1 := H23) (As := [.int 44]) (rest := []) d_MText_systemNames_104 (k_MText_accepts z21) (ab_mkC s_MText_accepts (Nat.le_of_ble_eq_true rfl) (Nat.le_of_ble_eq_true rfl) (Nat.le_refl 0) (Nat.le_refl 0)) (k10 176 rfl rfl) i_MText_accepts v_MText_accepts q20 (by decide) rfl rfl (Nat.le_of_ble_eq_true rfl) ?_
  have s_4 : Sa H H23 := (m_MText_accepts z21)
  refine ab_istore_n (lv' := [some (.ref p0), some (.int (w0 ||| w1)), some (.int v22), none, none, none]) d_MText_systemNames_107 rfl (by decide) rfl ?_
  refine ab_goto (tgt := 4) d_MText_systemNames_108 (by decide) ?_
  exact hk4 (w0 ||| w1) v22 H23 r hF
def B_MText_systemNames_75 (N : Nat) (p0 : Nat) (kq4 : Int32 → Int32 → Hp → Option (Int32 × Hp)) (l1 : Int32) (l3 : Int32) (H : Hp) : Option (Int32 × Hp) :=
    ck (H.sh[p0]? = some (14, 0)) <|
    bC (F_MText_numberOf N p0 l3 (5 : Int32) H) fun v16 H17 =>
    bnd ((H17.D p0 9)) fun x18 =>
    if x18 = (0 : Int32) then
    B_MText_systemNames_99 N p0 kq4 l1 ((1 : Int32) <<< (v16 &&& 31)) H17
    else
    B_MText_systemNames_99 N p0 kq4 l1 0 H17
set_option maxRecDepth 20000 in
set_option maxHeartbeats 2000000 in
theorem mB_MText_systemNames_75 {N : Nat} {p0 : Nat} {kq4 : Int32 → Int32 → Hp → Option (Int32 × Hp)} (hm4 : ∀ (l1 : Int32) (l2 : Int32) (H : Hp) (r : Int32 × Hp), kq4 l1 l2 H = some r → Sa H r.2) {l1 : Int32} {l3 : Int32} {H : Hp} {r : Int32 × Hp} (hF : B_MText_systemNames_75 N p0 kq4 l1 l3 H = some r) : Sa H r.2 := by
  unfold B_MText_systemNames_75 at hF
  have hm := Sa.rf H
  obtain ⟨q28, hG⟩ := ck_s hF; clear hF
  obtain ⟨v30, H31, z29, hF⟩ := bC_s hG; clear hG
  replace hm : Sa H H31 := hm.tr (m_MText_numberOf z29)
  obtain ⟨x32, -, hG⟩ := bnd_g hF; clear hF
  rcases ite_s hG with ⟨q_7, hF⟩ | ⟨q_7, hF⟩
  · clear hG
    exact hm.tr (mB_MText_systemNames_99 hm4 hF)
  · clear hG
    exact hm.tr (mB_MText_systemNames_99 hm4 hF)
set_option maxRecDepth 20000 in
set_option maxHeartbeats 2000000 in
theorem kB_MText_systemNames_75 {N : Nat} {p0 : Nat} {kq4 : Int32 → Int32 → Hp → Option (Int32 × Hp)} (hm4 : ∀ (l1 : Int32) (l2 : Int32) (H : Hp) (r : Int32 × Hp), kq4 l1 l2 H = some r → Sa H r.2) (hk4 : ∀ (l1 : Int32) (l2 : Int32) (H : Hp) (r : Int32 × Hp), kq4 l1 l2 H = some r → ab_V y_MText_systemNames { frames := 4, cells := 0, slots := 0, locals := 92 } (po (.returned (some (.int r.1))) r.2) 0 0 0 0 4 [some (.ref p0), some (.int l1), some (.int l2), none, none, none] [] (hpw H)) {l1 : Int32} {l3 : Int32} {H : Hp} {r : Int32 × Hp} (hF : B_MText_systemNames_75 N p0 kq4 l1 l3 H = some r) : ab_V y_MText_systemNames { frames := 4, cells := 0, slots := 0, locals := 92 } (po (.returned (some (.int r.1))) r.2) 0 0 0 0 75 [some (.ref p0), some (.int l1), none, some (.int l3), none, none] [] (hpw H) := by
  unfold B_MText_systemNames_75 at hF
  refine ab_aload_n d_MText_systemNames_75 rfl rfl rfl ?_
  refine ab_iload_n d_MText_systemNames_76 rfl rfl ?_
  refine ab_iconst (v := 5) d_MText_systemNames_77 (by decide) ?_
  obtain ⟨q14, hG⟩ := ck_s hF; clear hF
  obtain ⟨v16, H17, z15, hF⟩ := bC_s hG; clear hG
  refine hp_callV_a (v := .int v16) (H1 := H17) (As := [.int l3, .int 5]) (rest := []) d_MText_systemNames_78 (k_MText_numberOf z15) (ab_mkC s_MText_numberOf (Nat.le_of_ble_eq_true rfl) (Nat.le_of_ble_eq_true rfl) (Nat.le_refl 0) (Nat.le_refl 0)) (k10 225 rfl rfl) i_MText_numberOf v_MText_numberOf q14 (by decide) rfl rfl (Nat.le_of_ble_eq_true rfl) ?_
  have s_3 : Sa H H17 := (m_MText_numberOf z15)
  refine ab_istore (lv' := [some (.ref p0), some (.int l1), none, some (.int l3), none, some (.int v16)]) d_MText_systemNames_81 (by decide) rfl ?_
  refine ab_iload_n d_MText_systemNames_83 rfl rfl ?_
  refine ab_aload_n d_MText_systemNames_84 rfl rfl rfl ?_
  refine hp_getI (f := 9) d_MText_systemNames_85 (by rw [(s_3).1]; exact q14) (by decide) rfl (by decide) (k8 172 rfl rfl) rfl ?_
  refine ab_topi (fun x18 ex18 => ?_)
  replace hF := bnd_s ex18 hF
  refine ab_if_ne (tgt := 98) d_MText_systemNames_88 (by decide) (fun q19 => ?_) (fun q19 => ?_)
  · rw [if_neg q19] at hF
    refine ab_iconst (v := 0) d_MText_systemNames_98 (by decide) ?_
    refine ab_le (lv' := [some (.ref p0), none, none, none, none, none]) ⟨rfl, trivial⟩ ?_
    exact kB_MText_systemNames_99 hm4 hk4 hF
  · rw [if_pos q19] at hF
    refine ab_iconst (v := 1) d_MText_systemNames_91 (by decide) ?_
    refine ab_iload d_MText_systemNames_92 rfl ?_
    refine ab_ishl d_MText_systemNames_94 ?_
    refine ab_goto (tgt := 99) d_MText_systemNames_95 (by decide) ?_
    refine ab_le (lv' := [some (.ref p0), none, none, none, none, none]) ⟨rfl, trivial⟩ ?_
    exact kB_MText_systemNames_99 hm4 hk4 hF
def B_MText_systemNames_36 (N : Nat) (p0 : Nat) (kq4 : Int32 → Int32 → Hp → Option (Int32 × Hp)) (l1 : Int32) (l3 : Int32) (w0 : Int32) (H : Hp) : Option (Int32 × Hp) :=
    if w0 < (0 : Int32) then
    B_MText_systemNames_75 N p0 kq4 l1 l3 H
    else
    ck (H.sh[p0]? = some (14, 0)) <|
    rf (H.P p0 14) fun a35 =>
    ar H 100 a35 fun n37 =>
    ck (inb w0 n37) <|
    bnd ((H.D a35 (w0).toNatClampNeg)) fun x40 =>
    if x40 = (5 : Int32) then
    rf (H.P p0 15) fun a42 =>
    ar H 100 a42 fun n44 =>
    ck (inb w0 n44) <|
    bnd ((H.D a42 (w0).toNatClampNeg)) fun x47 =>
    if ((l1 >>> (x47 &&& 31)) &&& (1 : Int32)) = (1 : Int32) then
    bC (F_MText_fails N p0 (3 : Int32) l3 H) fun v50 H51 =>
    B_MText_systemNames_75 N p0 kq4 l1 l3 H51
    else
    B_MText_systemNames_75 N p0 kq4 l1 l3 H
    else
    B_MText_systemNames_75 N p0 kq4 l1 l3 H
set_option maxRecDepth 20000 in
set_option maxHeartbeats 2000000 in
theorem mB_MText_systemNames_36 {N : Nat} {p0 : Nat} {kq4 : Int32 → Int32 → Hp → Option (Int32 × Hp)} (hm4 : ∀ (l1 : Int32) (l2 : Int32) (H : Hp) (r : Int32 × Hp), kq4 l1 l2 H = some r → Sa H r.2) {l1 : Int32} {l3 : Int32} {w0 : Int32} {H : Hp} {r : Int32 × Hp} (hF : B_MText_systemNames_36 N p0 kq4 l1 l3 w0 H = some r) : Sa H r.2 := by
  unfold B_MText_systemNames_36 at hF
  have hm := Sa.rf H
  rcases ite_s hF with ⟨q_9, hG⟩ | ⟨q_9, hG⟩
  · clear hF
    exact hm.tr (mB_MText_systemNames_75 hm4 hG)
  · clear hF
    obtain ⟨q53, hF⟩ := ck_s hG; clear hG
    obtain ⟨a54, e55, hG⟩ := rf_s hF; clear hF
    obtain ⟨n56, q57, hF⟩ := ar_s hG; clear hG
    obtain ⟨q58, hG⟩ := ck_s hF; clear hF
    obtain ⟨x59, -, hF⟩ := bnd_g hG; clear hG
    rcases ite_s hF with ⟨q_10, hG⟩ | ⟨q_10, hG⟩
    · clear hF
      obtain ⟨a61, e62, hF⟩ := rf_s hG; clear hG
      obtain ⟨n63, q64, hG⟩ := ar_s hF; clear hF
      obtain ⟨q65, hF⟩ := ck_s hG; clear hG
      obtain ⟨x66, -, hG⟩ := bnd_g hF; clear hF
      rcases ite_s hG with ⟨q_11, hF⟩ | ⟨q_11, hF⟩
      · clear hG
        obtain ⟨v69, H70, z68, hG⟩ := bC_s hF; clear hF
        replace hm : Sa H H70 := hm.tr (m_MText_fails z68)
        exact hm.tr (mB_MText_systemNames_75 hm4 hG)
      · clear hG
        exact hm.tr (mB_MText_systemNames_75 hm4 hF)
    · clear hF
      exact hm.tr (mB_MText_systemNames_75 hm4 hG)
set_option maxRecDepth 20000 in
set_option maxHeartbeats 2000000 in
theorem kB_MText_systemNames_36 {N : Nat} {p0 : Nat} {kq4 : Int32 → Int32 → Hp → Option (Int32 × Hp)} (hm4 : ∀ (l1 : Int32) (l2 : Int32) (H : Hp) (r : Int32 × Hp), kq4 l1 l2 H = some r → Sa H r.2) (hk4 : ∀ (l1 : Int32) (l2 : Int32) (H : Hp) (r : Int32 × Hp), kq4 l1 l2 H = some r → ab_V y_MText_systemNames { frames := 4, cells := 0, slots := 0, locals := 92 } (po (.returned (some (.int r.1))) r.2) 0 0 0 0 4 [some (.ref p0), some (.int l1), some (.int l2), none, none, none] [] (hpw H)) {l1 : Int32} {l3 : Int32} {w0 : Int32} {H : Hp} {r : Int32 × Hp} (hF : B_MText_systemNames_36 N p0 kq4 l1 l3 w0 H = some r) : ab_V y_MText_systemNames { frames := 4, cells := 0, slots := 0, locals := 92 } (po (.returned (some (.int r.1))) r.2) 0 0 0 0 36 [some (.ref p0), some (.int l1), none, some (.int l3), none, none] [.int w0] (hpw H) := by
  unfold B_MText_systemNames_36 at hF
  refine ab_istore (lv' := [some (.ref p0), some (.int l1), none, some (.int l3), some (.int w0), none]) d_MText_systemNames_36 (by decide) rfl ?_
  refine ab_iload d_MText_systemNames_38 rfl ?_
  refine ab_if_lt (tgt := 75) d_MText_systemNames_40 (by decide) (fun q13 => ?_) (fun q13 => ?_)
  · rw [if_pos q13] at hF
    refine ab_le (lv' := [some (.ref p0), some (.int l1), none, some (.int l3), none, none]) ⟨rfl, ⟨rfl, ⟨rfl, trivial⟩⟩⟩ ?_
    exact kB_MText_systemNames_75 hm4 hk4 hF
  · rw [if_neg q13] at hF
    refine ab_aload_n d_MText_systemNames_43 rfl rfl rfl ?_
    obtain ⟨q34, hG⟩ := ck_s hF; clear hF
    obtain ⟨a35, e36, hF⟩ := rf_s hG; clear hG
    refine hp_getR (f := 14) d_MText_systemNames_44 q34 (by decide) rfl (by decide) (k8 178 rfl rfl) rfl e36 ?_
    refine ab_iload d_MText_systemNames_47 rfl ?_
    obtain ⟨n37, q38, hG⟩ := ar_s hF; clear hF
    obtain ⟨q39, hF⟩ := ck_s hG; clear hG
    refine hp_iald d_MText_systemNames_49 tI q38 q39 ?_
    refine ab_topi (fun x40 ex40 => ?_)
    replace hF := bnd_s ex40 hF
    refine ab_iconst (v := 5) d_MText_systemNames_50 (by decide) ?_
    refine ab_icmp_ne (tgt := 75) d_MText_systemNames_51 (by decide) (fun q41 => ?_) (fun q41 => ?_)
    · rw [if_neg q41] at hF
      refine ab_le (lv' := [some (.ref p0), some (.int l1), none, some (.int l3), none, none]) ⟨rfl, ⟨rfl, ⟨rfl, trivial⟩⟩⟩ ?_
      exact kB_MText_systemNames_75 hm4 hk4 hF
    · rw [if_pos q41] at hF
      refine ab_iload_n d_MText_systemNames_54 rfl rfl ?_
      refine ab_aload_n d_MText_systemNames_55 rfl rfl rfl ?_
      obtain ⟨a42, e43, hG⟩ := rf_s hF; clear hF
      refine hp_getR (f := 15) d_MText_systemNames_56 q34 (by decide) rfl (by decide) (k8 179 rfl rfl) rfl e43 ?_
      refine ab_iload d_MText_systemNames_59 rfl ?_
      obtain ⟨n44, q45, hF⟩ := ar_s hG; clear hG
      obtain ⟨q46, hG⟩ := ck_s hF; clear hF
      refine hp_iald d_MText_systemNames_61 tI q45 q46 ?_
      refine ab_topi (fun x47 ex47 => ?_)
      replace hG := bnd_s ex47 hG
      refine ab_ishr d_MText_systemNames_62 ?_
      refine ab_iconst (v := 1) d_MText_systemNames_63 (by decide) ?_
      refine ab_iand d_MText_systemNames_64 ?_
      refine ab_iconst (v := 1) d_MText_systemNames_65 (by decide) ?_
      refine ab_icmp_ne (tgt := 75) d_MText_systemNames_66 (by decide) (fun q48 => ?_) (fun q48 => ?_)
      · rw [if_neg q48] at hG
        refine ab_le (lv' := [some (.ref p0), some (.int l1), none, some (.int l3), none, none]) ⟨rfl, ⟨rfl, ⟨rfl, trivial⟩⟩⟩ ?_
        exact kB_MText_systemNames_75 hm4 hk4 hG
      · rw [if_pos q48] at hG
        refine ab_aload_n d_MText_systemNames_69 rfl rfl rfl ?_
        refine ab_iconst (v := 3) d_MText_systemNames_70 (by decide) ?_
        refine ab_iload_n d_MText_systemNames_71 rfl rfl ?_
        obtain ⟨v50, H51, z49, hF⟩ := bC_s hG; clear hG
        refine hp_callV_v (H1 := H51) (As := [.int 3, .int l3]) (rest := []) d_MText_systemNames_72 (k_MText_fails z49) (ab_mkC s_MText_fails (Nat.le_of_ble_eq_true rfl) (Nat.le_of_ble_eq_true rfl) (Nat.le_refl 0) (Nat.le_refl 0)) (k10 160 rfl rfl) i_MText_fails v_MText_fails q34 (by decide) rfl rfl (Nat.le_of_ble_eq_true rfl) ?_
        have s_8 : Sa H H51 := (m_MText_fails z49)
        refine ab_le (lv' := [some (.ref p0), some (.int l1), none, some (.int l3), none, none]) ⟨rfl, ⟨rfl, ⟨rfl, trivial⟩⟩⟩ ?_
        exact kB_MText_systemNames_75 hm4 hk4 hF
def B_MText_systemNames_4 (N : Nat) (p0 : Nat) : Nat → Int32 → Int32 → Hp → Option (Int32 × Hp)
  | 0, _, _, _ => none
  | n + 1, l1, l2, H =>
    ck (H.sh[p0]? = some (14, 0)) <|
    bnd ((H.D p0 9)) fun x2 =>
    if x2 = (0 : Int32) then
    if l2 = (0 : Int32) then
    some (l1, H)
    else
    bC (F_MText_name N p0 H) fun v6 H7 =>
    bnd ((H7.D p0 9)) fun x8 =>
    if x8 ≤ (0 : Int32) then
    bC (F_MText_index N p0 v6 H7) fun v11 H12 =>
    B_MText_systemNames_36 N p0 (fun l1 l2 H => B_MText_systemNames_4 N p0 n l1 l2 H) l1 v6 v11 H12
    else
    B_MText_systemNames_36 N p0 (fun l1 l2 H => B_MText_systemNames_4 N p0 n l1 l2 H) l1 v6 (-1) H7
    else
    some (l1, H)
termination_by structural n => n
set_option maxRecDepth 20000 in
set_option maxHeartbeats 2000000 in
theorem mB_MText_systemNames_4 {N : Nat} {p0 : Nat} : ∀ (n : Nat) (l1 : Int32) (l2 : Int32) (H : Hp) (r : Int32 × Hp), B_MText_systemNames_4 N p0 n l1 l2 H = some r → Sa H r.2 := by
  intro n
  induction n with
  | zero => intro l1 l2 H r hF; rw [B_MText_systemNames_4] at hF; cases hF
  | succ n ih =>
    intro l1 l2 H r hF
    rw [B_MText_systemNames_4] at hF
    have hm := Sa.rf H
    obtain ⟨q71, hG⟩ := ck_s hF; clear hF
    obtain ⟨x72, -, hF⟩ := bnd_g hG; clear hG
    rcases ite_s hF with ⟨q_13, hG⟩ | ⟨q_13, hG⟩
    · clear hF
      rcases ite_s hG with ⟨q_14, hF⟩ | ⟨q_14, hF⟩
      · clear hG
        have hr := Option.some.inj hF; subst hr
        exact hm
      · clear hG
        obtain ⟨v76, H77, z75, hG⟩ := bC_s hF; clear hF
        replace hm : Sa H H77 := hm.tr (m_MText_name z75)
        obtain ⟨x78, -, hF⟩ := bnd_g hG; clear hG
        rcases ite_s hF with ⟨q_16, hG⟩ | ⟨q_16, hG⟩
        · clear hF
          obtain ⟨v81, H82, z80, hF⟩ := bC_s hG; clear hG
          replace hm : Sa H H82 := hm.tr (m_MText_index z80)
          exact hm.tr (mB_MText_systemNames_36 ih hF)
        · clear hF
          exact hm.tr (mB_MText_systemNames_36 ih hG)
    · clear hF
      have hr := Option.some.inj hG; subst hr
      exact hm
set_option maxRecDepth 20000 in
set_option maxHeartbeats 2000000 in
theorem kB_MText_systemNames_4 {N : Nat} {p0 : Nat} : ∀ (n : Nat) (l1 : Int32) (l2 : Int32) (H : Hp) (r : Int32 × Hp), B_MText_systemNames_4 N p0 n l1 l2 H = some r → ab_V y_MText_systemNames { frames := 4, cells := 0, slots := 0, locals := 92 } (po (.returned (some (.int r.1))) r.2) 0 0 0 0 4 [some (.ref p0), some (.int l1), some (.int l2), none, none, none] [] (hpw H) := by
  intro n
  induction n with
  | zero => intro l1 l2 H r hF; rw [B_MText_systemNames_4] at hF; cases hF
  | succ n ih =>
    intro l1 l2 H r hF
    rw [B_MText_systemNames_4] at hF
    refine ab_aload_n d_MText_systemNames_4 rfl rfl rfl ?_
    obtain ⟨q1, hG⟩ := ck_s hF; clear hF
    refine hp_getI (f := 9) d_MText_systemNames_5 q1 (by decide) rfl (by decide) (k8 172 rfl rfl) rfl ?_
    refine ab_topi (fun x2 ex2 => ?_)
    replace hG := bnd_s ex2 hG
    refine ab_if_ne (tgt := 111) d_MText_systemNames_8 (by decide) (fun q3 => ?_) (fun q3 => ?_)
    · rw [if_neg q3] at hG
      refine ab_iload_n d_MText_systemNames_111 rfl rfl ?_
      exact ab_iret d_MText_systemNames_112 rfl (Nat.le_refl _) (Nat.le_refl _) (by have hr := Option.some.inj hG; subst hr; exact ⟨rfl, rfl⟩)
    · rw [if_pos q3] at hG
      refine ab_iload_n d_MText_systemNames_11 rfl rfl ?_
      refine ab_if_eq (tgt := 111) d_MText_systemNames_12 (by decide) (fun q4 => ?_) (fun q4 => ?_)
      · rw [if_pos q4] at hG
        refine ab_iload_n d_MText_systemNames_111 rfl rfl ?_
        exact ab_iret d_MText_systemNames_112 rfl (Nat.le_refl _) (Nat.le_refl _) (by have hr := Option.some.inj hG; subst hr; exact ⟨rfl, rfl⟩)
      · rw [if_neg q4] at hG
        refine ab_aload_n d_MText_systemNames_15 rfl rfl rfl ?_
        obtain ⟨v6, H7, z5, hF⟩ := bC_s hG; clear hG
        refine hp_callV_a (v := .int v6) (H1 := H7) (As := []) (rest := []) d_MText_systemNames_16 (k_MText_name z5) (ab_mkC s_MText_name (Nat.le_of_ble_eq_true rfl) (Nat.le_of_ble_eq_true rfl) (Nat.le_refl 0) (Nat.le_refl 0)) (k10 168 rfl rfl) i_MText_name v_MText_name q1 (by decide) rfl rfl (Nat.le_of_ble_eq_true rfl) ?_
        have s_1 : Sa H H7 := (m_MText_name z5)
        refine ab_istore_n (lv' := [some (.ref p0), some (.int l1), some (.int l2), some (.int v6), none, none]) d_MText_systemNames_19 rfl (by decide) rfl ?_
        refine ab_aload_n d_MText_systemNames_20 rfl rfl rfl ?_
        refine hp_getI (f := 9) d_MText_systemNames_21 (by rw [(s_1).1]; exact q1) (by decide) rfl (by decide) (k8 172 rfl rfl) rfl ?_
        refine ab_topi (fun x8 ex8 => ?_)
        replace hF := bnd_s ex8 hF
        refine ab_if_le (tgt := 31) d_MText_systemNames_24 (by decide) (fun q9 => ?_) (fun q9 => ?_)
        · rw [if_pos q9] at hF
          refine ab_aload_n d_MText_systemNames_31 rfl rfl rfl ?_
          refine ab_iload_n d_MText_systemNames_32 rfl rfl ?_
          obtain ⟨v11, H12, z10, hG⟩ := bC_s hF; clear hF
          refine hp_callV_a (v := .int v11) (H1 := H12) (As := [.int v6]) (rest := []) d_MText_systemNames_33 (k_MText_index z10) (ab_mkC s_MText_index (Nat.le_of_ble_eq_true rfl) (Nat.le_of_ble_eq_true rfl) (Nat.le_refl 0) (Nat.le_refl 0)) (k10 184 rfl rfl) i_MText_index v_MText_index (by rw [(s_1).1]; exact q1) (by decide) rfl rfl (Nat.le_of_ble_eq_true rfl) ?_
          have s_2 : Sa H H12 := (s_1).tr (m_MText_index z10)
          refine ab_le (lv' := [some (.ref p0), some (.int l1), none, some (.int v6), none, none]) ⟨rfl, ⟨rfl, ⟨rfl, trivial⟩⟩⟩ ?_
          exact kB_MText_systemNames_36 (mB_MText_systemNames_4 n) ih hG
        · rw [if_neg q9] at hF
          refine ab_iconst (v := (-1)) d_MText_systemNames_27 (by decide) ?_
          refine ab_goto (tgt := 36) d_MText_systemNames_28 (by decide) ?_
          refine ab_le (lv' := [some (.ref p0), some (.int l1), none, some (.int v6), none, none]) ⟨rfl, ⟨rfl, ⟨rfl, trivial⟩⟩⟩ ?_
          exact kB_MText_systemNames_36 (mB_MText_systemNames_4 n) ih hF
def F_MText_systemNames (N : Nat) (p0 : Nat) (H : Hp) : Option (Int32 × Hp) :=
    B_MText_systemNames_4 N p0 N 0 1 H
set_option maxRecDepth 20000 in
set_option maxHeartbeats 2000000 in
theorem m_MText_systemNames {N : Nat} {p0 : Nat} {H : Hp} {r : Int32 × Hp} (hF : F_MText_systemNames N p0 H = some r) : Sa H r.2 := by
  unfold F_MText_systemNames at hF
  have hm := Sa.rf H
  exact hm.tr (mB_MText_systemNames_4 N 0 1 H r hF)
set_option maxRecDepth 20000 in
set_option maxHeartbeats 2000000 in
theorem k_MText_systemNames {N : Nat} {p0 : Nat} {H : Hp} {r : Int32 × Hp} (hF : F_MText_systemNames N p0 H = some r) : ab_M y_MText_systemNames { frames := 4, cells := 0, slots := 0, locals := 92 } [.ref p0] (hpw H) (po (.returned (some (.int r.1))) r.2) := by
  unfold F_MText_systemNames at hF
  refine ab_of2 (lv := [some (.ref p0), none, none, none, none, none]) 5 rfl rfl (Nat.le_of_ble_eq_true rfl) ?_
  refine ab_iconst (v := 0) d_MText_systemNames_0 (by decide) ?_
  refine ab_istore_n (lv' := [some (.ref p0), some (.int 0), none, none, none, none]) d_MText_systemNames_1 rfl (by decide) rfl ?_
  refine ab_iconst (v := 1) d_MText_systemNames_2 (by decide) ?_
  refine ab_istore_n (lv' := [some (.ref p0), some (.int 0), some (.int 1), none, none, none]) d_MText_systemNames_3 rfl (by decide) rfl ?_
  exact kB_MText_systemNames_4 N 0 1 H r hF
def y_MText_names : ab_Y := (⟨"WorldEngineModel$Text", "names", "(II)I"⟩, prog_16_method_38_code, 6, (some FieldType.int), [])
theorem d_MText_names_0 : decode y_MText_names.2.1 0 = .ok (.iconst 0, 1) := by decide +kernel
theorem d_MText_names_1 : decode y_MText_names.2.1 1 = .ok (.istore_n 3, 1) := by decide +kernel
theorem d_MText_names_2 : decode y_MText_names.2.1 2 = .ok (.iconst 1, 1) := by decide +kernel
theorem d_MText_names_3 : decode y_MText_names.2.1 3 = .ok (.istore 4, 2) := by decide +kernel
theorem d_MText_names_5 : decode y_MText_names.2.1 5 = .ok (.aload_n 0, 1) := by decide +kernel
theorem d_MText_names_6 : decode y_MText_names.2.1 6 = .ok (.getfield 185, 3) := by decide +kernel
theorem d_MText_names_9 : decode y_MText_names.2.1 9 = .ok (.ifCond .ne 50, 3) := by decide +kernel
theorem d_MText_names_12 : decode y_MText_names.2.1 12 = .ok (.iload 4, 2) := by decide +kernel
theorem d_MText_names_14 : decode y_MText_names.2.1 14 = .ok (.ifCond .eq 45, 3) := by decide +kernel
theorem d_MText_names_17 : decode y_MText_names.2.1 17 = .ok (.aload_n 0, 1) := by decide +kernel
theorem d_MText_names_18 : decode y_MText_names.2.1 18 = .ok (.aload_n 0, 1) := by decide +kernel
theorem d_MText_names_19 : decode y_MText_names.2.1 19 = .ok (.invokevirtual 240, 3) := by decide +kernel
theorem d_MText_names_22 : decode y_MText_names.2.1 22 = .ok (.iload_n 3, 1) := by decide +kernel
theorem d_MText_names_23 : decode y_MText_names.2.1 23 = .ok (.iload_n 1, 1) := by decide +kernel
theorem d_MText_names_24 : decode y_MText_names.2.1 24 = .ok (.iload_n 2, 1) := by decide +kernel
theorem d_MText_names_25 : decode y_MText_names.2.1 25 = .ok (.invokevirtual 264, 3) := by decide +kernel
theorem d_MText_names_28 : decode y_MText_names.2.1 28 = .ok (.istore 5, 2) := by decide +kernel
theorem d_MText_names_30 : decode y_MText_names.2.1 30 = .ok (.iload_n 3, 1) := by decide +kernel
theorem d_MText_names_31 : decode y_MText_names.2.1 31 = .ok (.aload_n 0, 1) := by decide +kernel
theorem d_MText_names_32 : decode y_MText_names.2.1 32 = .ok (.getfield 185, 3) := by decide +kernel
theorem d_MText_names_35 : decode y_MText_names.2.1 35 = .ok (.ifCond .ne 10, 3) := by decide +kernel
theorem d_MText_names_38 : decode y_MText_names.2.1 38 = .ok (.iconst 1, 1) := by decide +kernel
theorem d_MText_names_39 : decode y_MText_names.2.1 39 = .ok (.iload 5, 2) := by decide +kernel
theorem d_MText_names_41 : decode y_MText_names.2.1 41 = .ok (.ishl, 1) := by decide +kernel
theorem d_MText_names_42 : decode y_MText_names.2.1 42 = .ok (.goto 4, 3) := by decide +kernel
theorem d_MText_names_45 : decode y_MText_names.2.1 45 = .ok (.iconst 0, 1) := by decide +kernel
theorem d_MText_names_46 : decode y_MText_names.2.1 46 = .ok (.ior, 1) := by decide +kernel
theorem d_MText_names_47 : decode y_MText_names.2.1 47 = .ok (.istore_n 3, 1) := by decide +kernel
theorem d_MText_names_48 : decode y_MText_names.2.1 48 = .ok (.aload_n 0, 1) := by decide +kernel
theorem d_MText_names_49 : decode y_MText_names.2.1 49 = .ok (.bipush 44, 2) := by decide +kernel
theorem d_MText_names_51 : decode y_MText_names.2.1 51 = .ok (.invokevirtual 197, 3) := by decide +kernel
theorem d_MText_names_54 : decode y_MText_names.2.1 54 = .ok (.istore 4, 2) := by decide +kernel
theorem d_MText_names_56 : decode y_MText_names.2.1 56 = .ok (.goto (-51), 3) := by decide +kernel
theorem d_MText_names_59 : decode y_MText_names.2.1 59 = .ok (.iload_n 3, 1) := by decide +kernel
theorem d_MText_names_60 : decode y_MText_names.2.1 60 = .ok (.ireturn, 1) := by decide +kernel
theorem s_MText_names : ab_Stat y_MText_names 2 := ⟨(k11 22 rfl rfl), (k1 20 rfl rfl), ⟨by decide, by decide⟩, by decide +kernel⟩
theorem i_MText_names : Cond.instanceMethod y_MText_names.1 ∈ ab_T := (k11 21 rfl rfl)
theorem v_MText_names : Cond.selects "WorldEngineModel$Text" y_MText_names.1 y_MText_names.1 ∈ ab_T := ab_s (List.mem_of_getElem? (i := 137) rfl) rfl
def B_MText_names_46 (N : Nat) (p0 : Nat) (p1 : Int32) (p2 : Int32) (kq5 : Int32 → Int32 → Hp → Option (Int32 × Hp)) (w0 : Int32) (w1 : Int32) (H : Hp) : Option (Int32 × Hp) :=
    ck (H.sh[p0]? = some (14, 0)) <|
    bC (F_MText_accepts N p0 (44 : Int32) H) fun v15 H16 =>
    kq5 (w0 ||| w1) v15 H16
set_option maxRecDepth 20000 in
set_option maxHeartbeats 2000000 in
theorem mB_MText_names_46 {N : Nat} {p0 : Nat} {p1 : Int32} {p2 : Int32} {kq5 : Int32 → Int32 → Hp → Option (Int32 × Hp)} (hm5 : ∀ (l3 : Int32) (l4 : Int32) (H : Hp) (r : Int32 × Hp), kq5 l3 l4 H = some r → Sa H r.2) {w0 : Int32} {w1 : Int32} {H : Hp} {r : Int32 × Hp} (hF : B_MText_names_46 N p0 p1 p2 kq5 w0 w1 H = some r) : Sa H r.2 := by
  unfold B_MText_names_46 at hF
  have hm := Sa.rf H
  obtain ⟨q17, hG⟩ := ck_s hF; clear hF
  obtain ⟨v19, H20, z18, hF⟩ := bC_s hG; clear hG
  replace hm : Sa H H20 := hm.tr (m_MText_accepts z18)
  exact hm.tr (hm5 (w0 ||| w1) v19 H20 r hF)
set_option maxRecDepth 20000 in
set_option maxHeartbeats 2000000 in
theorem kB_MText_names_46 {N : Nat} {p0 : Nat} {p1 : Int32} {p2 : Int32} {kq5 : Int32 → Int32 → Hp → Option (Int32 × Hp)} (hm5 : ∀ (l3 : Int32) (l4 : Int32) (H : Hp) (r : Int32 × Hp), kq5 l3 l4 H = some r → Sa H r.2) (hk5 : ∀ (l3 : Int32) (l4 : Int32) (H : Hp) (r : Int32 × Hp), kq5 l3 l4 H = some r → ab_V y_MText_names { frames := 5, cells := 0, slots := 0, locals := 119 } (po (.returned (some (.int r.1))) r.2) 0 0 0 0 5 [some (.ref p0), some (.int p1), some (.int p2), some (.int l3), some (.int l4), none] [] (hpw H)) {w0 : Int32} {w1 : Int32} {H : Hp} {r : Int32 × Hp} (hF : B_MText_names_46 N p0 p1 p2 kq5 w0 w1 H = some r) : ab_V y_MText_names { frames := 5, cells := 0, slots := 0, locals := 119 } (po (.returned (some (.int r.1))) r.2) 0 0 0 0 46 [some (.ref p0), some (.int p1), some (.int p2), none, none, none] [.int w1, .int w0] (hpw H) := by
  unfold B_MText_names_46 at hF
  refine ab_ior d_MText_names_46 ?_
  refine ab_istore_n (lv' := [some (.ref p0), some (.int p1), some (.int p2), some (.int (w0 ||| w1)), none, none]) d_MText_names_47 rfl (by decide) rfl ?_
  refine ab_aload_n d_MText_names_48 rfl rfl rfl ?_
  refine ab_bipush (v := 44) d_MText_names_49 (by decide) ?_
  obtain ⟨q13, hG⟩ := ck_s hF; clear hF
  obtain ⟨v15, H16, z14, hF⟩ := bC_s hG; clear hG
  refine hp_callV_a (v := .int v15) (H1 := H16) (As := [.int 44]) (rest := []) d_MText_names_51 (k_MText_accepts z14) (ab_mkC s_MText_accepts (Nat.le_of_ble_eq_true rfl) (Nat.le_of_ble_eq_true rfl) (Nat.le_refl 0) (Nat.le_refl 0)) (k10 176 rfl rfl) i_MText_accepts v_MText_accepts q13 (by decide) rfl rfl (Nat.le_of_ble_eq_true rfl) ?_
  have s_3 : Sa H H16 := (m_MText_accepts z14)
  refine ab_istore (lv' := [some (.ref p0), some (.int p1), some (.int p2), some (.int (w0 ||| w1)), some (.int v15), none]) d_MText_names_54 (by decide) rfl ?_
  refine ab_goto (tgt := 5) d_MText_names_56 (by decide) ?_
  exact hk5 (w0 ||| w1) v15 H16 r hF
def B_MText_names_5 (N : Nat) (p0 : Nat) (p1 : Int32) (p2 : Int32) : Nat → Int32 → Int32 → Hp → Option (Int32 × Hp)
  | 0, _, _, _ => none
  | n + 1, l3, l4, H =>
    ck (H.sh[p0]? = some (14, 0)) <|
    bnd ((H.D p0 9)) fun x2 =>
    if x2 = (0 : Int32) then
    if l4 = (0 : Int32) then
    some (l3, H)
    else
    bC (F_MText_name N p0 H) fun v6 H7 =>
    bC (F_MText_componentOf N p0 v6 l3 p1 p2 H7) fun v9 H10 =>
    bnd ((H10.D p0 9)) fun x11 =>
    if x11 = (0 : Int32) then
    B_MText_names_46 N p0 p1 p2 (fun l3 l4 H => B_MText_names_5 N p0 p1 p2 n l3 l4 H) l3 ((1 : Int32) <<< (v9 &&& 31)) H10
    else
    B_MText_names_46 N p0 p1 p2 (fun l3 l4 H => B_MText_names_5 N p0 p1 p2 n l3 l4 H) l3 0 H10
    else
    some (l3, H)
termination_by structural n => n
set_option maxRecDepth 20000 in
set_option maxHeartbeats 2000000 in
theorem mB_MText_names_5 {N : Nat} {p0 : Nat} {p1 : Int32} {p2 : Int32} : ∀ (n : Nat) (l3 : Int32) (l4 : Int32) (H : Hp) (r : Int32 × Hp), B_MText_names_5 N p0 p1 p2 n l3 l4 H = some r → Sa H r.2 := by
  intro n
  induction n with
  | zero => intro l3 l4 H r hF; rw [B_MText_names_5] at hF; cases hF
  | succ n ih =>
    intro l3 l4 H r hF
    rw [B_MText_names_5] at hF
    have hm := Sa.rf H
    obtain ⟨q21, hG⟩ := ck_s hF; clear hF
    obtain ⟨x22, -, hF⟩ := bnd_g hG; clear hG
    rcases ite_s hF with ⟨q_5, hG⟩ | ⟨q_5, hG⟩
    · clear hF
      rcases ite_s hG with ⟨q_6, hF⟩ | ⟨q_6, hF⟩
      · clear hG
        have hr := Option.some.inj hF; subst hr
        exact hm
      · clear hG
        obtain ⟨v26, H27, z25, hG⟩ := bC_s hF; clear hF
        replace hm : Sa H H27 := hm.tr (m_MText_name z25)
        obtain ⟨v29, H30, z28, hF⟩ := bC_s hG; clear hG
        replace hm : Sa H H30 := hm.tr (m_MText_componentOf z28)
        obtain ⟨x31, -, hG⟩ := bnd_g hF; clear hF
        rcases ite_s hG with ⟨q_9, hF⟩ | ⟨q_9, hF⟩
        · clear hG
          exact hm.tr (mB_MText_names_46 ih hF)
        · clear hG
          exact hm.tr (mB_MText_names_46 ih hF)
    · clear hF
      have hr := Option.some.inj hG; subst hr
      exact hm
set_option maxRecDepth 20000 in
set_option maxHeartbeats 2000000 in
theorem kB_MText_names_5 {N : Nat} {p0 : Nat} {p1 : Int32} {p2 : Int32} : ∀ (n : Nat) (l3 : Int32) (l4 : Int32) (H : Hp) (r : Int32 × Hp), B_MText_names_5 N p0 p1 p2 n l3 l4 H = some r → ab_V y_MText_names { frames := 5, cells := 0, slots := 0, locals := 119 } (po (.returned (some (.int r.1))) r.2) 0 0 0 0 5 [some (.ref p0), some (.int p1), some (.int p2), some (.int l3), some (.int l4), none] [] (hpw H) := by
  intro n
  induction n with
  | zero => intro l3 l4 H r hF; rw [B_MText_names_5] at hF; cases hF
  | succ n ih =>
    intro l3 l4 H r hF
    rw [B_MText_names_5] at hF
    refine ab_aload_n d_MText_names_5 rfl rfl rfl ?_
    obtain ⟨q1, hG⟩ := ck_s hF; clear hF
    refine hp_getI (f := 9) d_MText_names_6 q1 (by decide) rfl (by decide) (k8 172 rfl rfl) rfl ?_
    refine ab_topi (fun x2 ex2 => ?_)
    replace hG := bnd_s ex2 hG
    refine ab_if_ne (tgt := 59) d_MText_names_9 (by decide) (fun q3 => ?_) (fun q3 => ?_)
    · rw [if_neg q3] at hG
      refine ab_iload_n d_MText_names_59 rfl rfl ?_
      exact ab_iret d_MText_names_60 rfl (Nat.le_refl _) (Nat.le_refl _) (by have hr := Option.some.inj hG; subst hr; exact ⟨rfl, rfl⟩)
    · rw [if_pos q3] at hG
      refine ab_iload d_MText_names_12 rfl ?_
      refine ab_if_eq (tgt := 59) d_MText_names_14 (by decide) (fun q4 => ?_) (fun q4 => ?_)
      · rw [if_pos q4] at hG
        refine ab_iload_n d_MText_names_59 rfl rfl ?_
        exact ab_iret d_MText_names_60 rfl (Nat.le_refl _) (Nat.le_refl _) (by have hr := Option.some.inj hG; subst hr; exact ⟨rfl, rfl⟩)
      · rw [if_neg q4] at hG
        refine ab_aload_n d_MText_names_17 rfl rfl rfl ?_
        refine ab_aload_n d_MText_names_18 rfl rfl rfl ?_
        obtain ⟨v6, H7, z5, hF⟩ := bC_s hG; clear hG
        refine hp_callV_a (v := .int v6) (H1 := H7) (As := []) (rest := [.ref p0]) d_MText_names_19 (k_MText_name z5) (ab_mkC s_MText_name (Nat.le_of_ble_eq_true rfl) (Nat.le_of_ble_eq_true rfl) (Nat.le_refl 0) (Nat.le_refl 0)) (k10 168 rfl rfl) i_MText_name v_MText_name q1 (by decide) rfl rfl (Nat.le_of_ble_eq_true rfl) ?_
        have s_1 : Sa H H7 := (m_MText_name z5)
        refine ab_iload_n d_MText_names_22 rfl rfl ?_
        refine ab_iload_n d_MText_names_23 rfl rfl ?_
        refine ab_iload_n d_MText_names_24 rfl rfl ?_
        obtain ⟨v9, H10, z8, hG⟩ := bC_s hF; clear hF
        refine hp_callV_a (v := .int v9) (H1 := H10) (As := [.int v6, .int l3, .int p1, .int p2]) (rest := []) d_MText_names_25 (k_MText_componentOf z8) (ab_mkC s_MText_componentOf (Nat.le_of_ble_eq_true rfl) (Nat.le_of_ble_eq_true rfl) (Nat.le_refl 0) (Nat.le_refl 0)) (k10 217 rfl rfl) i_MText_componentOf v_MText_componentOf (by rw [(s_1).1]; exact q1) (by decide) rfl rfl (Nat.le_of_ble_eq_true rfl) ?_
        have s_2 : Sa H H10 := (s_1).tr (m_MText_componentOf z8)
        refine ab_istore (lv' := [some (.ref p0), some (.int p1), some (.int p2), some (.int l3), some (.int l4), some (.int v9)]) d_MText_names_28 (by decide) rfl ?_
        refine ab_iload_n d_MText_names_30 rfl rfl ?_
        refine ab_aload_n d_MText_names_31 rfl rfl rfl ?_
        refine hp_getI (f := 9) d_MText_names_32 (by rw [(s_2).1]; exact q1) (by decide) rfl (by decide) (k8 172 rfl rfl) rfl ?_
        refine ab_topi (fun x11 ex11 => ?_)
        replace hG := bnd_s ex11 hG
        refine ab_if_ne (tgt := 45) d_MText_names_35 (by decide) (fun q12 => ?_) (fun q12 => ?_)
        · rw [if_neg q12] at hG
          refine ab_iconst (v := 0) d_MText_names_45 (by decide) ?_
          refine ab_le (lv' := [some (.ref p0), some (.int p1), some (.int p2), none, none, none]) ⟨rfl, ⟨rfl, ⟨rfl, trivial⟩⟩⟩ ?_
          exact kB_MText_names_46 (mB_MText_names_5 n) ih hG
        · rw [if_pos q12] at hG
          refine ab_iconst (v := 1) d_MText_names_38 (by decide) ?_
          refine ab_iload d_MText_names_39 rfl ?_
          refine ab_ishl d_MText_names_41 ?_
          refine ab_goto (tgt := 46) d_MText_names_42 (by decide) ?_
          refine ab_le (lv' := [some (.ref p0), some (.int p1), some (.int p2), none, none, none]) ⟨rfl, ⟨rfl, ⟨rfl, trivial⟩⟩⟩ ?_
          exact kB_MText_names_46 (mB_MText_names_5 n) ih hG
def F_MText_names (N : Nat) (p0 : Nat) (p1 : Int32) (p2 : Int32) (H : Hp) : Option (Int32 × Hp) :=
    B_MText_names_5 N p0 p1 p2 N 0 1 H
set_option maxRecDepth 20000 in
set_option maxHeartbeats 2000000 in
theorem m_MText_names {N : Nat} {p0 : Nat} {p1 : Int32} {p2 : Int32} {H : Hp} {r : Int32 × Hp} (hF : F_MText_names N p0 p1 p2 H = some r) : Sa H r.2 := by
  unfold F_MText_names at hF
  have hm := Sa.rf H
  exact hm.tr (mB_MText_names_5 N 0 1 H r hF)
set_option maxRecDepth 20000 in
set_option maxHeartbeats 2000000 in
theorem k_MText_names {N : Nat} {p0 : Nat} {p1 : Int32} {p2 : Int32} {H : Hp} {r : Int32 × Hp} (hF : F_MText_names N p0 p1 p2 H = some r) : ab_M y_MText_names { frames := 5, cells := 0, slots := 0, locals := 119 } [.ref p0, .int p1, .int p2] (hpw H) (po (.returned (some (.int r.1))) r.2) := by
  unfold F_MText_names at hF
  refine ab_of2 (lv := [some (.ref p0), some (.int p1), some (.int p2), none, none, none]) 3 rfl rfl (Nat.le_of_ble_eq_true rfl) ?_
  refine ab_iconst (v := 0) d_MText_names_0 (by decide) ?_
  refine ab_istore_n (lv' := [some (.ref p0), some (.int p1), some (.int p2), some (.int 0), none, none]) d_MText_names_1 rfl (by decide) rfl ?_
  refine ab_iconst (v := 1) d_MText_names_2 (by decide) ?_
  refine ab_istore (lv' := [some (.ref p0), some (.int p1), some (.int p2), some (.int 0), some (.int 1), none]) d_MText_names_3 (by decide) rfl ?_
  exact kB_MText_names_5 N 0 1 H r hF
def y_MText_plain : ab_Y := (⟨"WorldEngineModel$Text", "plain", "(I)I"⟩, prog_16_method_51_code, 1, (some FieldType.int), [])
theorem d_MText_plain_0 : decode y_MText_plain.2.1 0 = .ok (.iload_n 0, 1) := by decide +kernel
theorem d_MText_plain_1 : decode y_MText_plain.2.1 1 = .ok (.iconst 1, 1) := by decide +kernel
theorem d_MText_plain_2 : decode y_MText_plain.2.1 2 = .ok (.if_icmp .ne 7, 3) := by decide +kernel
theorem d_MText_plain_5 : decode y_MText_plain.2.1 5 = .ok (.iconst 0, 1) := by decide +kernel
theorem d_MText_plain_6 : decode y_MText_plain.2.1 6 = .ok (.goto 4, 3) := by decide +kernel
theorem d_MText_plain_9 : decode y_MText_plain.2.1 9 = .ok (.iload_n 0, 1) := by decide +kernel
theorem d_MText_plain_10 : decode y_MText_plain.2.1 10 = .ok (.ireturn, 1) := by decide +kernel
theorem s_MText_plain : ab_Stat y_MText_plain 1 := ⟨(k11 73 rfl rfl), (k1 20 rfl rfl), ⟨by decide, by decide⟩, by decide +kernel⟩
theorem t_MText_plain : Cond.static y_MText_plain.1 ∈ ab_T := (k11 72 rfl rfl)
def F_MText_plain (N : Nat) (p0 : Int32) (H : Hp) : Option (Int32 × Hp) :=
    if p0 = (1 : Int32) then
    some (0, H)
    else
    some (p0, H)
set_option maxRecDepth 20000 in
set_option maxHeartbeats 2000000 in
theorem m_MText_plain {N : Nat} {p0 : Int32} {H : Hp} {r : Int32 × Hp} (hF : F_MText_plain N p0 H = some r) : Sa H r.2 := by
  unfold F_MText_plain at hF
  have hm := Sa.rf H
  rcases ite_s hF with ⟨q_1, hG⟩ | ⟨q_1, hG⟩
  · clear hF
    have hr := Option.some.inj hG; subst hr
    exact hm
  · clear hF
    have hr := Option.some.inj hG; subst hr
    exact hm
set_option maxRecDepth 20000 in
set_option maxHeartbeats 2000000 in
theorem k_MText_plain {N : Nat} {p0 : Int32} {H : Hp} {r : Int32 × Hp} (hF : F_MText_plain N p0 H = some r) : ab_M y_MText_plain { frames := 0, cells := 0, slots := 0, locals := 0 } [.int p0] (hpw H) (po (.returned (some (.int r.1))) r.2) := by
  unfold F_MText_plain at hF
  refine ab_of2 (lv := [some (.int p0)]) 0 rfl rfl (Nat.le_of_ble_eq_true rfl) ?_
  refine ab_iload_n d_MText_plain_0 rfl rfl ?_
  refine ab_iconst (v := 1) d_MText_plain_1 (by decide) ?_
  refine ab_icmp_ne (tgt := 9) d_MText_plain_2 (by decide) (fun q1 => ?_) (fun q1 => ?_)
  · rw [if_neg q1] at hF
    refine ab_iload_n d_MText_plain_9 rfl rfl ?_
    exact ab_iret d_MText_plain_10 rfl (Nat.le_refl _) (Nat.le_refl _) (by have hr := Option.some.inj hF; subst hr; exact ⟨rfl, rfl⟩)
  · rw [if_pos q1] at hF
    refine ab_iconst (v := 0) d_MText_plain_5 (by decide) ?_
    refine ab_goto (tgt := 10) d_MText_plain_6 (by decide) ?_
    exact ab_iret d_MText_plain_10 rfl (Nat.le_refl _) (Nat.le_refl _) (by have hr := Option.some.inj hF; subst hr; exact ⟨rfl, rfl⟩)
def y_MText_memberName : ab_Y := (⟨"WorldEngineModel$Text", "memberName", "(I)I"⟩, prog_16_method_52_code, 4, (some FieldType.int), [])
theorem d_MText_memberName_0 : decode y_MText_memberName.2.1 0 = .ok (.aload_n 0, 1) := by decide +kernel
theorem d_MText_memberName_1 : decode y_MText_memberName.2.1 1 = .ok (.invokevirtual 240, 3) := by decide +kernel
theorem d_MText_memberName_4 : decode y_MText_memberName.2.1 4 = .ok (.istore_n 2, 1) := by decide +kernel
theorem d_MText_memberName_5 : decode y_MText_memberName.2.1 5 = .ok (.aload_n 0, 1) := by decide +kernel
theorem d_MText_memberName_6 : decode y_MText_memberName.2.1 6 = .ok (.getfield 185, 3) := by decide +kernel
theorem d_MText_memberName_9 : decode y_MText_memberName.2.1 9 = .ok (.ifCond .ne 13, 3) := by decide +kernel
theorem d_MText_memberName_12 : decode y_MText_memberName.2.1 12 = .ok (.aload_n 0, 1) := by decide +kernel
theorem d_MText_memberName_13 : decode y_MText_memberName.2.1 13 = .ok (.iload_n 1, 1) := by decide +kernel
theorem d_MText_memberName_14 : decode y_MText_memberName.2.1 14 = .ok (.aload_n 0, 1) := by decide +kernel
theorem d_MText_memberName_15 : decode y_MText_memberName.2.1 15 = .ok (.iload_n 2, 1) := by decide +kernel
theorem d_MText_memberName_16 : decode y_MText_memberName.2.1 16 = .ok (.invokevirtual 256, 3) := by decide +kernel
theorem d_MText_memberName_19 : decode y_MText_memberName.2.1 19 = .ok (.goto 4, 3) := by decide +kernel
theorem d_MText_memberName_22 : decode y_MText_memberName.2.1 22 = .ok (.iconst 0, 1) := by decide +kernel
theorem d_MText_memberName_23 : decode y_MText_memberName.2.1 23 = .ok (.istore_n 3, 1) := by decide +kernel
theorem d_MText_memberName_24 : decode y_MText_memberName.2.1 24 = .ok (.iload_n 3, 1) := by decide +kernel
theorem d_MText_memberName_25 : decode y_MText_memberName.2.1 25 = .ok (.ifCond .ge 9, 3) := by decide +kernel
theorem d_MText_memberName_28 : decode y_MText_memberName.2.1 28 = .ok (.aload_n 0, 1) := by decide +kernel
theorem d_MText_memberName_29 : decode y_MText_memberName.2.1 29 = .ok (.iconst 4, 1) := by decide +kernel
theorem d_MText_memberName_30 : decode y_MText_memberName.2.1 30 = .ok (.iload_n 2, 1) := by decide +kernel
theorem d_MText_memberName_31 : decode y_MText_memberName.2.1 31 = .ok (.invokevirtual 200, 3) := by decide +kernel
theorem d_MText_memberName_34 : decode y_MText_memberName.2.1 34 = .ok (.aload_n 0, 1) := by decide +kernel
theorem d_MText_memberName_35 : decode y_MText_memberName.2.1 35 = .ok (.getfield 32, 3) := by decide +kernel
theorem d_MText_memberName_38 : decode y_MText_memberName.2.1 38 = .ok (.iload_n 2, 1) := by decide +kernel
theorem d_MText_memberName_39 : decode y_MText_memberName.2.1 39 = .ok (.iload_n 3, 1) := by decide +kernel
theorem d_MText_memberName_40 : decode y_MText_memberName.2.1 40 = .ok (.iastore, 1) := by decide +kernel
theorem d_MText_memberName_41 : decode y_MText_memberName.2.1 41 = .ok (.iload_n 3, 1) := by decide +kernel
theorem d_MText_memberName_42 : decode y_MText_memberName.2.1 42 = .ok (.ifCond .ge 7, 3) := by decide +kernel
theorem d_MText_memberName_45 : decode y_MText_memberName.2.1 45 = .ok (.iconst 0, 1) := by decide +kernel
theorem d_MText_memberName_46 : decode y_MText_memberName.2.1 46 = .ok (.goto 4, 3) := by decide +kernel
theorem d_MText_memberName_49 : decode y_MText_memberName.2.1 49 = .ok (.iload_n 3, 1) := by decide +kernel
theorem d_MText_memberName_50 : decode y_MText_memberName.2.1 50 = .ok (.ireturn, 1) := by decide +kernel
theorem s_MText_memberName : ab_Stat y_MText_memberName 1 := ⟨(k11 77 rfl rfl), (k1 20 rfl rfl), ⟨by decide, by decide⟩, by decide +kernel⟩
theorem i_MText_memberName : Cond.instanceMethod y_MText_memberName.1 ∈ ab_T := (k11 76 rfl rfl)
theorem v_MText_memberName : Cond.selects "WorldEngineModel$Text" y_MText_memberName.1 y_MText_memberName.1 ∈ ab_T := ab_s (List.mem_of_getElem? (i := 150) rfl) rfl
def B_MText_memberName_34 (N : Nat) (p0 : Nat) (p1 : Int32) (l2 : Int32) (l3 : Int32) (H : Hp) : Option (Int32 × Hp) :=
    ck (H.sh[p0]? = some (14, 0)) <|
    rf (H.P p0 8) fun a9 =>
    ar H 100 a9 fun n11 =>
    ck (inb l2 n11) <|
    bnd (H.sD a9 (l2).toNatClampNeg l3) fun H14 =>
    if (0 : Int32) ≤ l3 then
    some (l3, H14)
    else
    some (0, H14)
set_option maxRecDepth 20000 in
set_option maxHeartbeats 2000000 in
theorem mB_MText_memberName_34 {N : Nat} {p0 : Nat} {p1 : Int32} {l2 : Int32} {l3 : Int32} {H : Hp} {r : Int32 × Hp} (hF : B_MText_memberName_34 N p0 p1 l2 l3 H = some r) : Sa H r.2 := by
  unfold B_MText_memberName_34 at hF
  have hm := Sa.rf H
  obtain ⟨q16, hG⟩ := ck_s hF; clear hF
  obtain ⟨a17, e18, hF⟩ := rf_s hG; clear hG
  obtain ⟨n19, q20, hG⟩ := ar_s hF; clear hF
  obtain ⟨q21, hF⟩ := ck_s hG; clear hG
  obtain ⟨H22, eH22, hG⟩ := bnd_g hF; clear hF
  replace hm : Sa H H22 := by rw [eH22]; exact hm
  rcases ite_s hG with ⟨q_4, hF⟩ | ⟨q_4, hF⟩
  · clear hG
    have hr := Option.some.inj hF; subst hr
    exact hm
  · clear hG
    have hr := Option.some.inj hF; subst hr
    exact hm
set_option maxRecDepth 20000 in
set_option maxHeartbeats 2000000 in
theorem kB_MText_memberName_34 {N : Nat} {p0 : Nat} {p1 : Int32} {l2 : Int32} {l3 : Int32} {H : Hp} {r : Int32 × Hp} (hF : B_MText_memberName_34 N p0 p1 l2 l3 H = some r) : ab_V y_MText_memberName { frames := 4, cells := 0, slots := 0, locals := 85 } (po (.returned (some (.int r.1))) r.2) 0 0 0 0 34 [some (.ref p0), some (.int p1), some (.int l2), some (.int l3)] [] (hpw H) := by
  unfold B_MText_memberName_34 at hF
  refine ab_aload_n d_MText_memberName_34 rfl rfl rfl ?_
  obtain ⟨q8, hG⟩ := ck_s hF; clear hF
  obtain ⟨a9, e10, hF⟩ := rf_s hG; clear hG
  refine hp_getR (f := 8) d_MText_memberName_35 q8 (by decide) rfl (by decide) (k8 169 rfl rfl) rfl e10 ?_
  refine ab_iload_n d_MText_memberName_38 rfl rfl ?_
  refine ab_iload_n d_MText_memberName_39 rfl rfl ?_
  obtain ⟨n11, q12, hG⟩ := ar_s hF; clear hF
  obtain ⟨q13, hF⟩ := ck_s hG; clear hG
  refine hp_iast d_MText_memberName_40 tI q12 q13 ?_
  refine hp_gen (fun H14 eH14 => ?_)
  replace hF := bnd_s eH14 hF
  have s_2 : Sa H H14 := by rw [eH14]; exact Sa.rf _
  refine ab_iload_n d_MText_memberName_41 rfl rfl ?_
  refine ab_if_ge (tgt := 49) d_MText_memberName_42 (by decide) (fun q15 => ?_) (fun q15 => ?_)
  · rw [if_pos q15] at hF
    refine ab_iload_n d_MText_memberName_49 rfl rfl ?_
    exact ab_iret d_MText_memberName_50 rfl (Nat.le_refl _) (Nat.le_refl _) (by have hr := Option.some.inj hF; subst hr; exact ⟨rfl, rfl⟩)
  · rw [if_neg q15] at hF
    refine ab_iconst (v := 0) d_MText_memberName_45 (by decide) ?_
    refine ab_goto (tgt := 50) d_MText_memberName_46 (by decide) ?_
    exact ab_iret d_MText_memberName_50 rfl (Nat.le_refl _) (Nat.le_refl _) (by have hr := Option.some.inj hF; subst hr; exact ⟨rfl, rfl⟩)
def B_MText_memberName_23 (N : Nat) (p0 : Nat) (p1 : Int32) (l2 : Int32) (w0 : Int32) (H : Hp) : Option (Int32 × Hp) :=
    if (0 : Int32) ≤ w0 then
    B_MText_memberName_34 N p0 p1 l2 w0 H
    else
    ck (H.sh[p0]? = some (14, 0)) <|
    bC (F_MText_fails N p0 (4 : Int32) l2 H) fun v26 H27 =>
    B_MText_memberName_34 N p0 p1 l2 w0 H27
set_option maxRecDepth 20000 in
set_option maxHeartbeats 2000000 in
theorem mB_MText_memberName_23 {N : Nat} {p0 : Nat} {p1 : Int32} {l2 : Int32} {w0 : Int32} {H : Hp} {r : Int32 × Hp} (hF : B_MText_memberName_23 N p0 p1 l2 w0 H = some r) : Sa H r.2 := by
  unfold B_MText_memberName_23 at hF
  have hm := Sa.rf H
  rcases ite_s hF with ⟨q_6, hG⟩ | ⟨q_6, hG⟩
  · clear hF
    exact hm.tr (mB_MText_memberName_34 hG)
  · clear hF
    obtain ⟨q29, hF⟩ := ck_s hG; clear hG
    obtain ⟨v31, H32, z30, hG⟩ := bC_s hF; clear hF
    replace hm : Sa H H32 := hm.tr (m_MText_fails z30)
    exact hm.tr (mB_MText_memberName_34 hG)
set_option maxRecDepth 20000 in
set_option maxHeartbeats 2000000 in
theorem kB_MText_memberName_23 {N : Nat} {p0 : Nat} {p1 : Int32} {l2 : Int32} {w0 : Int32} {H : Hp} {r : Int32 × Hp} (hF : B_MText_memberName_23 N p0 p1 l2 w0 H = some r) : ab_V y_MText_memberName { frames := 4, cells := 0, slots := 0, locals := 85 } (po (.returned (some (.int r.1))) r.2) 0 0 0 0 23 [some (.ref p0), some (.int p1), some (.int l2), none] [.int w0] (hpw H) := by
  unfold B_MText_memberName_23 at hF
  refine ab_istore_n (lv' := [some (.ref p0), some (.int p1), some (.int l2), some (.int w0)]) d_MText_memberName_23 rfl (by decide) rfl ?_
  refine ab_iload_n d_MText_memberName_24 rfl rfl ?_
  refine ab_if_ge (tgt := 34) d_MText_memberName_25 (by decide) (fun q7 => ?_) (fun q7 => ?_)
  · rw [if_pos q7] at hF
    exact kB_MText_memberName_34 hF
  · rw [if_neg q7] at hF
    refine ab_aload_n d_MText_memberName_28 rfl rfl rfl ?_
    refine ab_iconst (v := 4) d_MText_memberName_29 (by decide) ?_
    refine ab_iload_n d_MText_memberName_30 rfl rfl ?_
    obtain ⟨q24, hG⟩ := ck_s hF; clear hF
    obtain ⟨v26, H27, z25, hF⟩ := bC_s hG; clear hG
    refine hp_callV_v (H1 := H27) (As := [.int 4, .int l2]) (rest := []) d_MText_memberName_31 (k_MText_fails z25) (ab_mkC s_MText_fails (Nat.le_of_ble_eq_true rfl) (Nat.le_of_ble_eq_true rfl) (Nat.le_refl 0) (Nat.le_refl 0)) (k10 160 rfl rfl) i_MText_fails v_MText_fails q24 (by decide) rfl rfl (Nat.le_of_ble_eq_true rfl) ?_
    have s_5 : Sa H H27 := (m_MText_fails z25)
    exact kB_MText_memberName_34 hF
def F_MText_memberName (N : Nat) (p0 : Nat) (p1 : Int32) (H : Hp) : Option (Int32 × Hp) :=
    ck (H.sh[p0]? = some (14, 0)) <|
    bC (F_MText_name N p0 H) fun v3 H4 =>
    bnd ((H4.D p0 9)) fun x5 =>
    if x5 = (0 : Int32) then
    bC (F_MText_member N p0 p1 p0 v3 H4) fun v34 H35 =>
    B_MText_memberName_23 N p0 p1 v3 v34 H35
    else
    B_MText_memberName_23 N p0 p1 v3 0 H4
set_option maxRecDepth 20000 in
set_option maxHeartbeats 2000000 in
theorem m_MText_memberName {N : Nat} {p0 : Nat} {p1 : Int32} {H : Hp} {r : Int32 × Hp} (hF : F_MText_memberName N p0 p1 H = some r) : Sa H r.2 := by
  unfold F_MText_memberName at hF
  have hm := Sa.rf H
  obtain ⟨q36, hG⟩ := ck_s hF; clear hF
  obtain ⟨v38, H39, z37, hF⟩ := bC_s hG; clear hG
  replace hm : Sa H H39 := hm.tr (m_MText_name z37)
  obtain ⟨x40, -, hG⟩ := bnd_g hF; clear hF
  rcases ite_s hG with ⟨q_10, hF⟩ | ⟨q_10, hF⟩
  · clear hG
    obtain ⟨v43, H44, z42, hG⟩ := bC_s hF; clear hF
    replace hm : Sa H H44 := hm.tr (m_MText_member z42)
    exact hm.tr (mB_MText_memberName_23 hG)
  · clear hG
    exact hm.tr (mB_MText_memberName_23 hF)
set_option maxRecDepth 20000 in
set_option maxHeartbeats 2000000 in
theorem k_MText_memberName {N : Nat} {p0 : Nat} {p1 : Int32} {H : Hp} {r : Int32 × Hp} (hF : F_MText_memberName N p0 p1 H = some r) : ab_M y_MText_memberName { frames := 4, cells := 0, slots := 0, locals := 85 } [.ref p0, .int p1] (hpw H) (po (.returned (some (.int r.1))) r.2) := by
  unfold F_MText_memberName at hF
  refine ab_of2 (lv := [some (.ref p0), some (.int p1), none, none]) 2 rfl rfl (Nat.le_of_ble_eq_true rfl) ?_
  refine ab_aload_n d_MText_memberName_0 rfl rfl rfl ?_
  obtain ⟨q1, hG⟩ := ck_s hF; clear hF
  obtain ⟨v3, H4, z2, hF⟩ := bC_s hG; clear hG
  refine hp_callV_a (v := .int v3) (H1 := H4) (As := []) (rest := []) d_MText_memberName_1 (k_MText_name z2) (ab_mkC s_MText_name (Nat.le_of_ble_eq_true rfl) (Nat.le_of_ble_eq_true rfl) (Nat.le_refl 0) (Nat.le_refl 0)) (k10 168 rfl rfl) i_MText_name v_MText_name q1 (by decide) rfl rfl (Nat.le_of_ble_eq_true rfl) ?_
  have s_1 : Sa H H4 := (m_MText_name z2)
  refine ab_istore_n (lv' := [some (.ref p0), some (.int p1), some (.int v3), none]) d_MText_memberName_4 rfl (by decide) rfl ?_
  refine ab_aload_n d_MText_memberName_5 rfl rfl rfl ?_
  refine hp_getI (f := 9) d_MText_memberName_6 (by rw [(s_1).1]; exact q1) (by decide) rfl (by decide) (k8 172 rfl rfl) rfl ?_
  refine ab_topi (fun x5 ex5 => ?_)
  replace hF := bnd_s ex5 hF
  refine ab_if_ne (tgt := 22) d_MText_memberName_9 (by decide) (fun q6 => ?_) (fun q6 => ?_)
  · rw [if_neg q6] at hF
    refine ab_iconst (v := 0) d_MText_memberName_22 (by decide) ?_
    exact kB_MText_memberName_23 hF
  · rw [if_pos q6] at hF
    refine ab_aload_n d_MText_memberName_12 rfl rfl rfl ?_
    refine ab_iload_n d_MText_memberName_13 rfl rfl ?_
    refine ab_aload_n d_MText_memberName_14 rfl rfl rfl ?_
    refine ab_iload_n d_MText_memberName_15 rfl rfl ?_
    obtain ⟨v34, H35, z33, hG⟩ := bC_s hF; clear hF
    refine hp_callV_a (v := .int v34) (H1 := H35) (As := [.int p1, .ref p0, .int v3]) (rest := []) d_MText_memberName_16 (k_MText_member z33) (ab_mkC s_MText_member (Nat.le_of_ble_eq_true rfl) (Nat.le_of_ble_eq_true rfl) (Nat.le_refl 0) (Nat.le_refl 0)) (k10 200 rfl rfl) i_MText_member v_MText_member (by rw [(s_1).1]; exact q1) (by decide) rfl rfl (Nat.le_of_ble_eq_true rfl) ?_
    have s_8 : Sa H H35 := (s_1).tr (m_MText_member z33)
    refine ab_goto (tgt := 23) d_MText_memberName_19 (by decide) ?_
    exact kB_MText_memberName_23 hG
