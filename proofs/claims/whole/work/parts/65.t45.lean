def y_MText_word : ab_Y := (⟨"WorldEngineModel$Text", "word", "(I)I"⟩, prog_16_method_8_code, 7, (some FieldType.int), [])
theorem d_MText_word_0 : decode y_MText_word.2.1 0 = .ok (.iload_n 1, 1) := by decide +kernel
theorem d_MText_word_1 : decode y_MText_word.2.1 1 = .ok (.istore_n 2, 1) := by decide +kernel
theorem d_MText_word_2 : decode y_MText_word.2.1 2 = .ok (.aload_n 0, 1) := by decide +kernel
theorem d_MText_word_3 : decode y_MText_word.2.1 3 = .ok (.iload_n 2, 1) := by decide +kernel
theorem d_MText_word_4 : decode y_MText_word.2.1 4 = .ok (.invokevirtual 115, 3) := by decide +kernel
theorem d_MText_word_7 : decode y_MText_word.2.1 7 = .ok (.invokestatic 122, 3) := by decide +kernel
theorem d_MText_word_10 : decode y_MText_word.2.1 10 = .ok (.ifCond .ne 14, 3) := by decide +kernel
theorem d_MText_word_13 : decode y_MText_word.2.1 13 = .ok (.aload_n 0, 1) := by decide +kernel
theorem d_MText_word_14 : decode y_MText_word.2.1 14 = .ok (.iload_n 2, 1) := by decide +kernel
theorem d_MText_word_15 : decode y_MText_word.2.1 15 = .ok (.invokevirtual 115, 3) := by decide +kernel
theorem d_MText_word_18 : decode y_MText_word.2.1 18 = .ok (.invokestatic 129, 3) := by decide +kernel
theorem d_MText_word_21 : decode y_MText_word.2.1 21 = .ok (.ifCond .eq 9, 3) := by decide +kernel
theorem d_MText_word_24 : decode y_MText_word.2.1 24 = .ok (.iinc 2 1, 3) := by decide +kernel
theorem d_MText_word_27 : decode y_MText_word.2.1 27 = .ok (.goto (-25), 3) := by decide +kernel
theorem d_MText_word_30 : decode y_MText_word.2.1 30 = .ok (.iconst 1, 1) := by decide +kernel
theorem d_MText_word_31 : decode y_MText_word.2.1 31 = .ok (.istore_n 3, 1) := by decide +kernel
theorem d_MText_word_32 : decode y_MText_word.2.1 32 = .ok (.iconst 0, 1) := by decide +kernel
theorem d_MText_word_33 : decode y_MText_word.2.1 33 = .ok (.istore 4, 2) := by decide +kernel
theorem d_MText_word_35 : decode y_MText_word.2.1 35 = .ok (.iconst 0, 1) := by decide +kernel
theorem d_MText_word_36 : decode y_MText_word.2.1 36 = .ok (.istore 5, 2) := by decide +kernel
theorem d_MText_word_38 : decode y_MText_word.2.1 38 = .ok (.iload 5, 2) := by decide +kernel
theorem d_MText_word_40 : decode y_MText_word.2.1 40 = .ok (.ldc 139, 2) := by decide +kernel
theorem d_MText_word_42 : decode y_MText_word.2.1 42 = .ok (.invokevirtual 141, 3) := by decide +kernel
theorem d_MText_word_45 : decode y_MText_word.2.1 45 = .ok (.if_icmp .ge 119, 3) := by decide +kernel
theorem d_MText_word_48 : decode y_MText_word.2.1 48 = .ok (.iload_n 3, 1) := by decide +kernel
theorem d_MText_word_49 : decode y_MText_word.2.1 49 = .ok (.iconst 1, 1) := by decide +kernel
theorem d_MText_word_50 : decode y_MText_word.2.1 50 = .ok (.if_icmp .ne 114, 3) := by decide +kernel
theorem d_MText_word_53 : decode y_MText_word.2.1 53 = .ok (.iconst 0, 1) := by decide +kernel
theorem d_MText_word_54 : decode y_MText_word.2.1 54 = .ok (.istore 6, 2) := by decide +kernel
theorem d_MText_word_56 : decode y_MText_word.2.1 56 = .ok (.ldc 139, 2) := by decide +kernel
theorem d_MText_word_58 : decode y_MText_word.2.1 58 = .ok (.iload 5, 2) := by decide +kernel
theorem d_MText_word_60 : decode y_MText_word.2.1 60 = .ok (.iload 6, 2) := by decide +kernel
theorem d_MText_word_62 : decode y_MText_word.2.1 62 = .ok (.iadd, 1) := by decide +kernel
theorem d_MText_word_63 : decode y_MText_word.2.1 63 = .ok (.invokevirtual 147, 3) := by decide +kernel
theorem d_MText_word_66 : decode y_MText_word.2.1 66 = .ok (.bipush 32, 2) := by decide +kernel
theorem d_MText_word_68 : decode y_MText_word.2.1 68 = .ok (.if_icmp .eq 39, 3) := by decide +kernel
theorem d_MText_word_71 : decode y_MText_word.2.1 71 = .ok (.iload 6, 2) := by decide +kernel
theorem d_MText_word_73 : decode y_MText_word.2.1 73 = .ok (.iload_n 2, 1) := by decide +kernel
theorem d_MText_word_74 : decode y_MText_word.2.1 74 = .ok (.iload_n 1, 1) := by decide +kernel
theorem d_MText_word_75 : decode y_MText_word.2.1 75 = .ok (.isub, 1) := by decide +kernel
theorem d_MText_word_76 : decode y_MText_word.2.1 76 = .ok (.if_icmp .ge 31, 3) := by decide +kernel
theorem d_MText_word_79 : decode y_MText_word.2.1 79 = .ok (.ldc 139, 2) := by decide +kernel
theorem d_MText_word_81 : decode y_MText_word.2.1 81 = .ok (.iload 5, 2) := by decide +kernel
theorem d_MText_word_83 : decode y_MText_word.2.1 83 = .ok (.iload 6, 2) := by decide +kernel
theorem d_MText_word_85 : decode y_MText_word.2.1 85 = .ok (.iadd, 1) := by decide +kernel
theorem d_MText_word_86 : decode y_MText_word.2.1 86 = .ok (.invokevirtual 147, 3) := by decide +kernel
theorem d_MText_word_89 : decode y_MText_word.2.1 89 = .ok (.aload_n 0, 1) := by decide +kernel
theorem d_MText_word_90 : decode y_MText_word.2.1 90 = .ok (.getfield 11, 3) := by decide +kernel
theorem d_MText_word_93 : decode y_MText_word.2.1 93 = .ok (.iload_n 1, 1) := by decide +kernel
theorem d_MText_word_94 : decode y_MText_word.2.1 94 = .ok (.iload 6, 2) := by decide +kernel
theorem d_MText_word_96 : decode y_MText_word.2.1 96 = .ok (.iadd, 1) := by decide +kernel
theorem d_MText_word_97 : decode y_MText_word.2.1 97 = .ok (.baload, 1) := by decide +kernel
theorem d_MText_word_98 : decode y_MText_word.2.1 98 = .ok (.if_icmp .ne 9, 3) := by decide +kernel
theorem d_MText_word_101 : decode y_MText_word.2.1 101 = .ok (.iinc 6 1, 3) := by decide +kernel
theorem d_MText_word_104 : decode y_MText_word.2.1 104 = .ok (.goto (-48), 3) := by decide +kernel
theorem d_MText_word_107 : decode y_MText_word.2.1 107 = .ok (.iload 6, 2) := by decide +kernel
theorem d_MText_word_109 : decode y_MText_word.2.1 109 = .ok (.iload_n 2, 1) := by decide +kernel
theorem d_MText_word_110 : decode y_MText_word.2.1 110 = .ok (.iload_n 1, 1) := by decide +kernel
theorem d_MText_word_111 : decode y_MText_word.2.1 111 = .ok (.isub, 1) := by decide +kernel
theorem d_MText_word_112 : decode y_MText_word.2.1 112 = .ok (.if_icmp .ne 25, 3) := by decide +kernel
theorem d_MText_word_115 : decode y_MText_word.2.1 115 = .ok (.ldc 139, 2) := by decide +kernel
theorem d_MText_word_117 : decode y_MText_word.2.1 117 = .ok (.iload 5, 2) := by decide +kernel
theorem d_MText_word_119 : decode y_MText_word.2.1 119 = .ok (.iload 6, 2) := by decide +kernel
theorem d_MText_word_121 : decode y_MText_word.2.1 121 = .ok (.iadd, 1) := by decide +kernel
theorem d_MText_word_122 : decode y_MText_word.2.1 122 = .ok (.invokevirtual 147, 3) := by decide +kernel
theorem d_MText_word_125 : decode y_MText_word.2.1 125 = .ok (.bipush 32, 2) := by decide +kernel
theorem d_MText_word_127 : decode y_MText_word.2.1 127 = .ok (.if_icmp .ne 10, 3) := by decide +kernel
theorem d_MText_word_130 : decode y_MText_word.2.1 130 = .ok (.sipush 200, 3) := by decide +kernel
theorem d_MText_word_133 : decode y_MText_word.2.1 133 = .ok (.iload 4, 2) := by decide +kernel
theorem d_MText_word_135 : decode y_MText_word.2.1 135 = .ok (.iadd, 1) := by decide +kernel
theorem d_MText_word_136 : decode y_MText_word.2.1 136 = .ok (.istore_n 3, 1) := by decide +kernel
theorem d_MText_word_137 : decode y_MText_word.2.1 137 = .ok (.ldc 139, 2) := by decide +kernel
theorem d_MText_word_139 : decode y_MText_word.2.1 139 = .ok (.iload 5, 2) := by decide +kernel
theorem d_MText_word_141 : decode y_MText_word.2.1 141 = .ok (.invokevirtual 147, 3) := by decide +kernel
theorem d_MText_word_144 : decode y_MText_word.2.1 144 = .ok (.bipush 32, 2) := by decide +kernel
theorem d_MText_word_146 : decode y_MText_word.2.1 146 = .ok (.if_icmp .eq 9, 3) := by decide +kernel
theorem d_MText_word_149 : decode y_MText_word.2.1 149 = .ok (.iinc 5 1, 3) := by decide +kernel
theorem d_MText_word_152 : decode y_MText_word.2.1 152 = .ok (.goto (-15), 3) := by decide +kernel
theorem d_MText_word_155 : decode y_MText_word.2.1 155 = .ok (.iinc 5 1, 3) := by decide +kernel
theorem d_MText_word_158 : decode y_MText_word.2.1 158 = .ok (.iinc 4 1, 3) := by decide +kernel
theorem d_MText_word_161 : decode y_MText_word.2.1 161 = .ok (.goto (-123), 3) := by decide +kernel
theorem d_MText_word_164 : decode y_MText_word.2.1 164 = .ok (.aload_n 0, 1) := by decide +kernel
theorem d_MText_word_165 : decode y_MText_word.2.1 165 = .ok (.iload_n 3, 1) := by decide +kernel
theorem d_MText_word_166 : decode y_MText_word.2.1 166 = .ok (.iload_n 1, 1) := by decide +kernel
theorem d_MText_word_167 : decode y_MText_word.2.1 167 = .ok (.iload_n 2, 1) := by decide +kernel
theorem d_MText_word_168 : decode y_MText_word.2.1 168 = .ok (.invokevirtual 118, 3) := by decide +kernel
theorem d_MText_word_171 : decode y_MText_word.2.1 171 = .ok (.aload_n 0, 1) := by decide +kernel
theorem d_MText_word_172 : decode y_MText_word.2.1 172 = .ok (.getfield 28, 3) := by decide +kernel
theorem d_MText_word_175 : decode y_MText_word.2.1 175 = .ok (.aload_n 0, 1) := by decide +kernel
theorem d_MText_word_176 : decode y_MText_word.2.1 176 = .ok (.getfield 108, 3) := by decide +kernel
theorem d_MText_word_179 : decode y_MText_word.2.1 179 = .ok (.iconst 1, 1) := by decide +kernel
theorem d_MText_word_180 : decode y_MText_word.2.1 180 = .ok (.isub, 1) := by decide +kernel
theorem d_MText_word_181 : decode y_MText_word.2.1 181 = .ok (.iload_n 3, 1) := by decide +kernel
theorem d_MText_word_182 : decode y_MText_word.2.1 182 = .ok (.iconst 1, 1) := by decide +kernel
theorem d_MText_word_183 : decode y_MText_word.2.1 183 = .ok (.if_icmp .ne 15, 3) := by decide +kernel
theorem d_MText_word_186 : decode y_MText_word.2.1 186 = .ok (.iload_n 2, 1) := by decide +kernel
theorem d_MText_word_187 : decode y_MText_word.2.1 187 = .ok (.iload_n 1, 1) := by decide +kernel
theorem d_MText_word_188 : decode y_MText_word.2.1 188 = .ok (.isub, 1) := by decide +kernel
theorem d_MText_word_189 : decode y_MText_word.2.1 189 = .ok (.bipush 12, 2) := by decide +kernel
theorem d_MText_word_191 : decode y_MText_word.2.1 191 = .ok (.if_icmp .le 7, 3) := by decide +kernel
theorem d_MText_word_194 : decode y_MText_word.2.1 194 = .ok (.iconst 1, 1) := by decide +kernel
theorem d_MText_word_195 : decode y_MText_word.2.1 195 = .ok (.goto 4, 3) := by decide +kernel
theorem d_MText_word_198 : decode y_MText_word.2.1 198 = .ok (.iconst 0, 1) := by decide +kernel
theorem d_MText_word_199 : decode y_MText_word.2.1 199 = .ok (.bastore, 1) := by decide +kernel
theorem d_MText_word_200 : decode y_MText_word.2.1 200 = .ok (.iload_n 2, 1) := by decide +kernel
theorem d_MText_word_201 : decode y_MText_word.2.1 201 = .ok (.ireturn, 1) := by decide +kernel
theorem s_MText_word : ab_Stat y_MText_word 1 := ⟨(k10 130 rfl rfl), (k1 20 rfl rfl), ⟨by decide, by decide⟩, by decide +kernel⟩
theorem i_MText_word : Cond.instanceMethod y_MText_word.1 ∈ ab_T := (k10 129 rfl rfl)
theorem v_MText_word : Cond.selects "WorldEngineModel$Text" y_MText_word.1 y_MText_word.1 ∈ ab_T := ab_s (List.mem_of_getElem? (i := 111) rfl) rfl
def B_MText_word_24 (N : Nat) (p0 : Nat) (p1 : Int32) (kq2 : Int32 → Hp → Option (Int32 × Hp)) (l2 : Int32) (H : Hp) : Option (Int32 × Hp) :=
    kq2 (l2 + 1) H
set_option maxRecDepth 20000 in
set_option maxHeartbeats 2000000 in
theorem mB_MText_word_24 {N : Nat} {p0 : Nat} {p1 : Int32} {kq2 : Int32 → Hp → Option (Int32 × Hp)} (hm2 : ∀ (l2 : Int32) (H : Hp) (r : Int32 × Hp), kq2 l2 H = some r → Sa H r.2) {l2 : Int32} {H : Hp} {r : Int32 × Hp} (hF : B_MText_word_24 N p0 p1 kq2 l2 H = some r) : Sa H r.2 := by
  unfold B_MText_word_24 at hF
  have hm := Sa.rf H
  exact hm.tr (hm2 (l2 + 1) H r hF)
set_option maxRecDepth 20000 in
set_option maxHeartbeats 2000000 in
theorem kB_MText_word_24 {N : Nat} {p0 : Nat} {p1 : Int32} {kq2 : Int32 → Hp → Option (Int32 × Hp)} (hm2 : ∀ (l2 : Int32) (H : Hp) (r : Int32 × Hp), kq2 l2 H = some r → Sa H r.2) (hk2 : ∀ (l2 : Int32) (H : Hp) (r : Int32 × Hp), kq2 l2 H = some r → ab_V y_MText_word { frames := 4, cells := 0, slots := 0, locals := 85 } (po (.returned (some (.int r.1))) r.2) 0 0 0 0 2 [some (.ref p0), some (.int p1), some (.int l2), none, none, none, none] [] (hpw H)) {l2 : Int32} {H : Hp} {r : Int32 × Hp} (hF : B_MText_word_24 N p0 p1 kq2 l2 H = some r) : ab_V y_MText_word { frames := 4, cells := 0, slots := 0, locals := 85 } (po (.returned (some (.int r.1))) r.2) 0 0 0 0 24 [some (.ref p0), some (.int p1), some (.int l2), none, none, none, none] [] (hpw H) := by
  unfold B_MText_word_24 at hF
  refine ab_iinc (v := l2 + 1) (lv' := [some (.ref p0), some (.int p1), some (.int (l2 + 1)), none, none, none, none]) d_MText_word_24 rfl rfl (by decide) rfl ?_
  refine ab_goto (tgt := 2) d_MText_word_27 (by decide) ?_
  exact hk2 (l2 + 1) H r hF
def B_MText_word_164 (N : Nat) (p0 : Nat) (p1 : Int32) (l2 : Int32) (l3 : Int32) (H : Hp) : Option (Int32 × Hp) :=
    ck (H.sh[p0]? = some (14, 0)) <|
    bC (F_MText_token N p0 l3 p1 l2 H) fun v22 H23 =>
    rf (H23.P p0 7) fun a24 =>
    bnd ((H23.D p0 2)) fun x26 =>
    if l3 = (1 : Int32) then
    if (l2 - p1) ≤ (12 : Int32) then
    ar H23 102 a24 fun n33 =>
    ck (inb (x26 - (1 : Int32)) n33) <|
    bnd (H23.sD a24 ((x26 - (1 : Int32))).toNatClampNeg (vp_nar .boolean (0 : Int32))) fun H36 =>
    some (l2, H36)
    else
    ar H23 102 a24 fun n37 =>
    ck (inb (x26 - (1 : Int32)) n37) <|
    bnd (H23.sD a24 ((x26 - (1 : Int32))).toNatClampNeg (vp_nar .boolean (1 : Int32))) fun H40 =>
    some (l2, H40)
    else
    ar H23 102 a24 fun n28 =>
    ck (inb (x26 - (1 : Int32)) n28) <|
    bnd (H23.sD a24 ((x26 - (1 : Int32))).toNatClampNeg (vp_nar .boolean (0 : Int32))) fun H31 =>
    some (l2, H31)
set_option maxRecDepth 20000 in
set_option maxHeartbeats 2000000 in
theorem mB_MText_word_164 {N : Nat} {p0 : Nat} {p1 : Int32} {l2 : Int32} {l3 : Int32} {H : Hp} {r : Int32 × Hp} (hF : B_MText_word_164 N p0 p1 l2 l3 H = some r) : Sa H r.2 := by
  unfold B_MText_word_164 at hF
  have hm := Sa.rf H
  obtain ⟨q41, hG⟩ := ck_s hF; clear hF
  obtain ⟨v43, H44, z42, hF⟩ := bC_s hG; clear hG
  replace hm : Sa H H44 := hm.tr (m_MText_token z42)
  obtain ⟨a45, e46, hG⟩ := rf_s hF; clear hF
  obtain ⟨x47, -, hF⟩ := bnd_g hG; clear hG
  rcases ite_s hF with ⟨q_11, hG⟩ | ⟨q_11, hG⟩
  · clear hF
    rcases ite_s hG with ⟨q_12, hF⟩ | ⟨q_12, hF⟩
    · clear hG
      obtain ⟨n50, q51, hG⟩ := ar_s hF; clear hF
      obtain ⟨q52, hF⟩ := ck_s hG; clear hG
      obtain ⟨H53, eH53, hG⟩ := bnd_g hF; clear hF
      replace hm : Sa H H53 := by rw [eH53]; exact hm
      have hr := Option.some.inj hG; subst hr
      exact hm
    · clear hG
      obtain ⟨n54, q55, hG⟩ := ar_s hF; clear hF
      obtain ⟨q56, hF⟩ := ck_s hG; clear hG
      obtain ⟨H57, eH57, hG⟩ := bnd_g hF; clear hF
      replace hm : Sa H H57 := by rw [eH57]; exact hm
      have hr := Option.some.inj hG; subst hr
      exact hm
  · clear hF
    obtain ⟨n58, q59, hF⟩ := ar_s hG; clear hG
    obtain ⟨q60, hG⟩ := ck_s hF; clear hF
    obtain ⟨H61, eH61, hF⟩ := bnd_g hG; clear hG
    replace hm : Sa H H61 := by rw [eH61]; exact hm
    have hr := Option.some.inj hF; subst hr
    exact hm
set_option maxRecDepth 20000 in
set_option maxHeartbeats 2000000 in
theorem kB_MText_word_164 {N : Nat} {p0 : Nat} {p1 : Int32} {l2 : Int32} {l3 : Int32} {H : Hp} {r : Int32 × Hp} (hF : B_MText_word_164 N p0 p1 l2 l3 H = some r) : ab_V y_MText_word { frames := 4, cells := 0, slots := 0, locals := 85 } (po (.returned (some (.int r.1))) r.2) 0 0 0 0 164 [some (.ref p0), some (.int p1), some (.int l2), some (.int l3), none, none, none] [] (hpw H) := by
  unfold B_MText_word_164 at hF
  refine ab_aload_n d_MText_word_164 rfl rfl rfl ?_
  refine ab_iload_n d_MText_word_165 rfl rfl ?_
  refine ab_iload_n d_MText_word_166 rfl rfl ?_
  refine ab_iload_n d_MText_word_167 rfl rfl ?_
  obtain ⟨q20, hG⟩ := ck_s hF; clear hF
  obtain ⟨v22, H23, z21, hF⟩ := bC_s hG; clear hG
  refine hp_callV_v (H1 := H23) (As := [.int l3, .int p1, .int l2]) (rest := []) d_MText_word_168 (k_MText_token z21) (ab_mkC s_MText_token (Nat.le_of_ble_eq_true rfl) (Nat.le_of_ble_eq_true rfl) (Nat.le_refl 0) (Nat.le_refl 0)) (k10 120 rfl rfl) i_MText_token v_MText_token q20 (by decide) rfl rfl (Nat.le_of_ble_eq_true rfl) ?_
  have s_6 : Sa H H23 := (m_MText_token z21)
  refine ab_aload_n d_MText_word_171 rfl rfl rfl ?_
  obtain ⟨a24, e25, hG⟩ := rf_s hF; clear hF
  refine hp_getR (f := 7) d_MText_word_172 (by rw [(s_6).1]; exact q20) (by decide) rfl (by decide) (k8 168 rfl rfl) rfl e25 ?_
  refine ab_aload_n d_MText_word_175 rfl rfl rfl ?_
  refine hp_getI (f := 2) d_MText_word_176 (by rw [(s_6).1]; exact q20) (by decide) rfl (by decide) (k8 161 rfl rfl) rfl ?_
  refine ab_topi (fun x26 ex26 => ?_)
  replace hG := bnd_s ex26 hG
  refine ab_iconst (v := 1) d_MText_word_179 (by decide) ?_
  refine ab_isub d_MText_word_180 ?_
  refine ab_iload_n d_MText_word_181 rfl rfl ?_
  refine ab_iconst (v := 1) d_MText_word_182 (by decide) ?_
  refine ab_icmp_ne (tgt := 198) d_MText_word_183 (by decide) (fun q27 => ?_) (fun q27 => ?_)
  · rw [if_neg q27] at hG
    refine ab_iconst (v := 0) d_MText_word_198 (by decide) ?_
    obtain ⟨n28, q29, hF⟩ := ar_s hG; clear hG
    rw [(s_6).1] at q29
    obtain ⟨q30, hG⟩ := ck_s hF; clear hF
    refine hp_zast d_MText_word_199 tZ (by rw [(s_6).1]; exact q29) q30 ?_
    refine hp_gen (fun H31 eH31 => ?_)
    replace hG := bnd_s eH31 hG
    have s_7 : Sa H H31 := by rw [eH31]; exact s_6
    refine ab_iload_n d_MText_word_200 rfl rfl ?_
    exact ab_iret d_MText_word_201 rfl (Nat.le_refl _) (Nat.le_refl _) (by have hr := Option.some.inj hG; subst hr; exact ⟨rfl, rfl⟩)
  · rw [if_pos q27] at hG
    refine ab_iload_n d_MText_word_186 rfl rfl ?_
    refine ab_iload_n d_MText_word_187 rfl rfl ?_
    refine ab_isub d_MText_word_188 ?_
    refine ab_bipush (v := 12) d_MText_word_189 (by decide) ?_
    refine ab_icmp_le (tgt := 198) d_MText_word_191 (by decide) (fun q32 => ?_) (fun q32 => ?_)
    · rw [if_pos q32] at hG
      refine ab_iconst (v := 0) d_MText_word_198 (by decide) ?_
      obtain ⟨n33, q34, hF⟩ := ar_s hG; clear hG
      rw [(s_6).1] at q34
      obtain ⟨q35, hG⟩ := ck_s hF; clear hF
      refine hp_zast d_MText_word_199 tZ (by rw [(s_6).1]; exact q34) q35 ?_
      refine hp_gen (fun H36 eH36 => ?_)
      replace hG := bnd_s eH36 hG
      have s_8 : Sa H H36 := by rw [eH36]; exact s_6
      refine ab_iload_n d_MText_word_200 rfl rfl ?_
      exact ab_iret d_MText_word_201 rfl (Nat.le_refl _) (Nat.le_refl _) (by have hr := Option.some.inj hG; subst hr; exact ⟨rfl, rfl⟩)
    · rw [if_neg q32] at hG
      refine ab_iconst (v := 1) d_MText_word_194 (by decide) ?_
      refine ab_goto (tgt := 199) d_MText_word_195 (by decide) ?_
      obtain ⟨n37, q38, hF⟩ := ar_s hG; clear hG
      rw [(s_6).1] at q38
      obtain ⟨q39, hG⟩ := ck_s hF; clear hF
      refine hp_zast d_MText_word_199 tZ (by rw [(s_6).1]; exact q38) q39 ?_
      refine hp_gen (fun H40 eH40 => ?_)
      replace hG := bnd_s eH40 hG
      have s_9 : Sa H H40 := by rw [eH40]; exact s_6
      refine ab_iload_n d_MText_word_200 rfl rfl ?_
      exact ab_iret d_MText_word_201 rfl (Nat.le_refl _) (Nat.le_refl _) (by have hr := Option.some.inj hG; subst hr; exact ⟨rfl, rfl⟩)
def B_MText_word_137 (N : Nat) (p0 : Nat) (p1 : Int32) (kq38 : Int32 → Int32 → Int32 → Int32 → Hp → Option (Int32 × Hp)) : Nat → Int32 → Int32 → Int32 → Int32 → Hp → Option (Int32 × Hp)
  | 0, _, _, _, _, _ => none
  | n + 1, l2, l3, l4, l5, H =>
    bC (F_Str_charAt_K0 N l5 H) fun v69 H70 =>
    if v69 = (32 : Int32) then
    kq38 l2 l3 (l4 + 1) (l5 + 1) H70
    else
    B_MText_word_137 N p0 p1 kq38 n l2 l3 l4 (l5 + 1) H70
termination_by structural n => n
set_option maxRecDepth 20000 in
set_option maxHeartbeats 2000000 in
theorem mB_MText_word_137 {N : Nat} {p0 : Nat} {p1 : Int32} {kq38 : Int32 → Int32 → Int32 → Int32 → Hp → Option (Int32 × Hp)} (hm38 : ∀ (l2 : Int32) (l3 : Int32) (l4 : Int32) (l5 : Int32) (H : Hp) (r : Int32 × Hp), kq38 l2 l3 l4 l5 H = some r → Sa H r.2) : ∀ (n : Nat) (l2 : Int32) (l3 : Int32) (l4 : Int32) (l5 : Int32) (H : Hp) (r : Int32 × Hp), B_MText_word_137 N p0 p1 kq38 n l2 l3 l4 l5 H = some r → Sa H r.2 := by
  intro n
  induction n with
  | zero => intro l2 l3 l4 l5 H r hF; rw [B_MText_word_137] at hF; cases hF
  | succ n ih =>
    intro l2 l3 l4 l5 H r hF
    rw [B_MText_word_137] at hF
    have hm := Sa.rf H
    obtain ⟨v73, H74, z72, hG⟩ := bC_s hF; clear hF
    replace hm : Sa H H74 := hm.tr (m_Str_charAt_K0 z72)
    rcases ite_s hG with ⟨q_19, hF⟩ | ⟨q_19, hF⟩
    · clear hG
      exact hm.tr (hm38 l2 l3 (l4 + 1) (l5 + 1) H74 r hF)
    · clear hG
      exact hm.tr (ih l2 l3 l4 (l5 + 1) H74 r hF)
set_option maxRecDepth 20000 in
set_option maxHeartbeats 2000000 in
theorem kB_MText_word_137 {N : Nat} {p0 : Nat} {p1 : Int32} {kq38 : Int32 → Int32 → Int32 → Int32 → Hp → Option (Int32 × Hp)} (hm38 : ∀ (l2 : Int32) (l3 : Int32) (l4 : Int32) (l5 : Int32) (H : Hp) (r : Int32 × Hp), kq38 l2 l3 l4 l5 H = some r → Sa H r.2) (hk38 : ∀ (l2 : Int32) (l3 : Int32) (l4 : Int32) (l5 : Int32) (H : Hp) (r : Int32 × Hp), kq38 l2 l3 l4 l5 H = some r → ab_V y_MText_word { frames := 4, cells := 0, slots := 0, locals := 85 } (po (.returned (some (.int r.1))) r.2) 0 0 0 0 38 [some (.ref p0), some (.int p1), some (.int l2), some (.int l3), some (.int l4), some (.int l5), none] [] (hpw H)) : ∀ (n : Nat) (l2 : Int32) (l3 : Int32) (l4 : Int32) (l5 : Int32) (H : Hp) (r : Int32 × Hp), B_MText_word_137 N p0 p1 kq38 n l2 l3 l4 l5 H = some r → ab_V y_MText_word { frames := 4, cells := 0, slots := 0, locals := 85 } (po (.returned (some (.int r.1))) r.2) 0 0 0 0 137 [some (.ref p0), some (.int p1), some (.int l2), some (.int l3), some (.int l4), some (.int l5), none] [] (hpw H) := by
  intro n
  induction n with
  | zero => intro l2 l3 l4 l5 H r hF; rw [B_MText_word_137] at hF; cases hF
  | succ n ih =>
    intro l2 l3 l4 l5 H r hF
    rw [B_MText_word_137] at hF
    refine ab_ldcS (k0 := 0) d_MText_word_137 (List.mem_of_getElem? (i := 11) rfl) rfl rfl rfl ?_
    refine ab_iload d_MText_word_139 rfl ?_
    obtain ⟨v69, H70, z68, hG⟩ := bC_s hF; clear hF
    refine hp_callVK_a (k0 := 0) (v := .int v69) (H1 := H70) (As := [.int l5]) (rest := []) d_MText_word_141 (by decide) (k_Str_charAt_K0 z68) (ab_mkC s_Str_charAt (Nat.le_of_ble_eq_true rfl) (Nat.le_of_ble_eq_true rfl) (Nat.le_refl 0) (Nat.le_refl 0)) (k10 136 rfl rfl) i_Str_charAt v_Str_charAt rfl (Nat.le_of_ble_eq_true rfl) ?_
    have s_17 : Sa H H70 := (m_Str_charAt_K0 z68)
    refine ab_bipush (v := 32) d_MText_word_144 (by decide) ?_
    refine ab_icmp_eq (tgt := 155) d_MText_word_146 (by decide) (fun q71 => ?_) (fun q71 => ?_)
    · rw [if_pos q71] at hG
      refine ab_iinc (v := l5 + 1) (lv' := [some (.ref p0), some (.int p1), some (.int l2), some (.int l3), some (.int l4), some (.int (l5 + 1)), none]) d_MText_word_155 rfl rfl (by decide) rfl ?_
      refine ab_iinc (v := l4 + 1) (lv' := [some (.ref p0), some (.int p1), some (.int l2), some (.int l3), some (.int (l4 + 1)), some (.int (l5 + 1)), none]) d_MText_word_158 rfl rfl (by decide) rfl ?_
      refine ab_goto (tgt := 38) d_MText_word_161 (by decide) ?_
      exact hk38 l2 l3 (l4 + 1) (l5 + 1) H70 r hG
    · rw [if_neg q71] at hG
      refine ab_iinc (v := l5 + 1) (lv' := [some (.ref p0), some (.int p1), some (.int l2), some (.int l3), some (.int l4), some (.int (l5 + 1)), none]) d_MText_word_149 rfl rfl (by decide) rfl ?_
      refine ab_goto (tgt := 137) d_MText_word_152 (by decide) ?_
      exact ih l2 l3 l4 (l5 + 1) H70 r hG
def B_MText_word_107 (N : Nat) (p0 : Nat) (p1 : Int32) (kq38 : Int32 → Int32 → Int32 → Int32 → Hp → Option (Int32 × Hp)) (l2 : Int32) (l3 : Int32) (l4 : Int32) (l5 : Int32) (l6 : Int32) (H : Hp) : Option (Int32 × Hp) :=
    if l6 = (l2 - p1) then
    bC (F_Str_charAt_K0 N (l5 + l6) H) fun v77 H78 =>
    if v77 = (32 : Int32) then
    bnd (((200 : Int32) + l4)) fun x80 =>
    B_MText_word_137 N p0 p1 kq38 N l2 x80 l4 l5 H78
    else
    B_MText_word_137 N p0 p1 kq38 N l2 l3 l4 l5 H78
    else
    B_MText_word_137 N p0 p1 kq38 N l2 l3 l4 l5 H
set_option maxRecDepth 20000 in
set_option maxHeartbeats 2000000 in
theorem mB_MText_word_107 {N : Nat} {p0 : Nat} {p1 : Int32} {kq38 : Int32 → Int32 → Int32 → Int32 → Hp → Option (Int32 × Hp)} (hm38 : ∀ (l2 : Int32) (l3 : Int32) (l4 : Int32) (l5 : Int32) (H : Hp) (r : Int32 × Hp), kq38 l2 l3 l4 l5 H = some r → Sa H r.2) {l2 : Int32} {l3 : Int32} {l4 : Int32} {l5 : Int32} {l6 : Int32} {H : Hp} {r : Int32 × Hp} (hF : B_MText_word_107 N p0 p1 kq38 l2 l3 l4 l5 l6 H = some r) : Sa H r.2 := by
  unfold B_MText_word_107 at hF
  have hm := Sa.rf H
  rcases ite_s hF with ⟨q_21, hG⟩ | ⟨q_21, hG⟩
  · clear hF
    obtain ⟨v83, H84, z82, hF⟩ := bC_s hG; clear hG
    replace hm : Sa H H84 := hm.tr (m_Str_charAt_K0 z82)
    rcases ite_s hF with ⟨q_23, hG⟩ | ⟨q_23, hG⟩
    · clear hF
      obtain ⟨x86, -, hF⟩ := bnd_g hG; clear hG
      exact hm.tr (mB_MText_word_137 hm38 N l2 x86 l4 l5 H84 r hF)
    · clear hF
      exact hm.tr (mB_MText_word_137 hm38 N l2 l3 l4 l5 H84 r hG)
  · clear hF
    exact hm.tr (mB_MText_word_137 hm38 N l2 l3 l4 l5 H r hG)
set_option maxRecDepth 20000 in
set_option maxHeartbeats 2000000 in
theorem kB_MText_word_107 {N : Nat} {p0 : Nat} {p1 : Int32} {kq38 : Int32 → Int32 → Int32 → Int32 → Hp → Option (Int32 × Hp)} (hm38 : ∀ (l2 : Int32) (l3 : Int32) (l4 : Int32) (l5 : Int32) (H : Hp) (r : Int32 × Hp), kq38 l2 l3 l4 l5 H = some r → Sa H r.2) (hk38 : ∀ (l2 : Int32) (l3 : Int32) (l4 : Int32) (l5 : Int32) (H : Hp) (r : Int32 × Hp), kq38 l2 l3 l4 l5 H = some r → ab_V y_MText_word { frames := 4, cells := 0, slots := 0, locals := 85 } (po (.returned (some (.int r.1))) r.2) 0 0 0 0 38 [some (.ref p0), some (.int p1), some (.int l2), some (.int l3), some (.int l4), some (.int l5), none] [] (hpw H)) {l2 : Int32} {l3 : Int32} {l4 : Int32} {l5 : Int32} {l6 : Int32} {H : Hp} {r : Int32 × Hp} (hF : B_MText_word_107 N p0 p1 kq38 l2 l3 l4 l5 l6 H = some r) : ab_V y_MText_word { frames := 4, cells := 0, slots := 0, locals := 85 } (po (.returned (some (.int r.1))) r.2) 0 0 0 0 107 [some (.ref p0), some (.int p1), some (.int l2), some (.int l3), some (.int l4), some (.int l5), some (.int l6)] [] (hpw H) := by
  unfold B_MText_word_107 at hF
  refine ab_iload d_MText_word_107 rfl ?_
  refine ab_iload_n d_MText_word_109 rfl rfl ?_
  refine ab_iload_n d_MText_word_110 rfl rfl ?_
  refine ab_isub d_MText_word_111 ?_
  refine ab_icmp_ne (tgt := 137) d_MText_word_112 (by decide) (fun q67 => ?_) (fun q67 => ?_)
  · rw [if_neg q67] at hF
    refine ab_le (lv' := [some (.ref p0), some (.int p1), some (.int l2), some (.int l3), some (.int l4), some (.int l5), none]) ⟨rfl, ⟨rfl, ⟨rfl, ⟨rfl, ⟨rfl, ⟨rfl, trivial⟩⟩⟩⟩⟩⟩ ?_
    exact kB_MText_word_137 hm38 hk38 N l2 l3 l4 l5 H r hF
  · rw [if_pos q67] at hF
    refine ab_ldcS (k0 := 0) d_MText_word_115 (List.mem_of_getElem? (i := 11) rfl) rfl rfl rfl ?_
    refine ab_iload d_MText_word_117 rfl ?_
    refine ab_iload d_MText_word_119 rfl ?_
    refine ab_iadd d_MText_word_121 ?_
    obtain ⟨v77, H78, z76, hG⟩ := bC_s hF; clear hF
    refine hp_callVK_a (k0 := 0) (v := .int v77) (H1 := H78) (As := [.int (l5 + l6)]) (rest := []) d_MText_word_122 (by decide) (k_Str_charAt_K0 z76) (ab_mkC s_Str_charAt (Nat.le_of_ble_eq_true rfl) (Nat.le_of_ble_eq_true rfl) (Nat.le_refl 0) (Nat.le_refl 0)) (k10 136 rfl rfl) i_Str_charAt v_Str_charAt rfl (Nat.le_of_ble_eq_true rfl) ?_
    have s_20 : Sa H H78 := (m_Str_charAt_K0 z76)
    refine ab_bipush (v := 32) d_MText_word_125 (by decide) ?_
    refine ab_icmp_ne (tgt := 137) d_MText_word_127 (by decide) (fun q79 => ?_) (fun q79 => ?_)
    · rw [if_neg q79] at hG
      refine ab_le (lv' := [some (.ref p0), some (.int p1), some (.int l2), some (.int l3), some (.int l4), some (.int l5), none]) ⟨rfl, ⟨rfl, ⟨rfl, ⟨rfl, ⟨rfl, ⟨rfl, trivial⟩⟩⟩⟩⟩⟩ ?_
      exact kB_MText_word_137 hm38 hk38 N l2 l3 l4 l5 H78 r hG
    · rw [if_pos q79] at hG
      refine ab_sipush (v := 200) d_MText_word_130 (by decide) ?_
      refine ab_iload d_MText_word_133 rfl ?_
      refine ab_iadd d_MText_word_135 ?_
      refine ab_topi (fun x80 ex80 => ?_)
      replace hG := bnd_s ex80 hG
      refine ab_istore_n (lv' := [some (.ref p0), some (.int p1), some (.int l2), some (.int x80), some (.int l4), some (.int l5), some (.int l6)]) d_MText_word_136 rfl (by decide) rfl ?_
      refine ab_le (lv' := [some (.ref p0), some (.int p1), some (.int l2), some (.int x80), some (.int l4), some (.int l5), none]) ⟨rfl, ⟨rfl, ⟨rfl, ⟨rfl, ⟨rfl, ⟨rfl, trivial⟩⟩⟩⟩⟩⟩ ?_
      exact kB_MText_word_137 hm38 hk38 N l2 x80 l4 l5 H78 r hG
def B_MText_word_56 (N : Nat) (p0 : Nat) (p1 : Int32) (kq38 : Int32 → Int32 → Int32 → Int32 → Hp → Option (Int32 × Hp)) : Nat → Int32 → Int32 → Int32 → Int32 → Int32 → Hp → Option (Int32 × Hp)
  | 0, _, _, _, _, _, _ => none
  | n + 1, l2, l3, l4, l5, l6, H =>
    bC (F_Str_charAt_K0 N (l5 + l6) H) fun v64 H65 =>
    if v64 = (32 : Int32) then
    B_MText_word_107 N p0 p1 kq38 l2 l3 l4 l5 l6 H65
    else
    if (l2 - p1) ≤ l6 then
    B_MText_word_107 N p0 p1 kq38 l2 l3 l4 l5 l6 H65
    else
    bC (F_Str_charAt_K0 N (l5 + l6) H65) fun v89 H90 =>
    ck (H90.sh[p0]? = some (14, 0)) <|
    rf (H90.P p0 0) fun a92 =>
    ar H90 101 a92 fun n94 =>
    ck (inb (p1 + l6) n94) <|
    bnd ((H90.D a92 ((p1 + l6)).toNatClampNeg)) fun x97 =>
    if v89 = x97 then
    B_MText_word_56 N p0 p1 kq38 n l2 l3 l4 l5 (l6 + 1) H90
    else
    B_MText_word_107 N p0 p1 kq38 l2 l3 l4 l5 l6 H90
termination_by structural n => n
set_option maxRecDepth 20000 in
set_option maxHeartbeats 2000000 in
theorem mB_MText_word_56 {N : Nat} {p0 : Nat} {p1 : Int32} {kq38 : Int32 → Int32 → Int32 → Int32 → Hp → Option (Int32 × Hp)} (hm38 : ∀ (l2 : Int32) (l3 : Int32) (l4 : Int32) (l5 : Int32) (H : Hp) (r : Int32 × Hp), kq38 l2 l3 l4 l5 H = some r → Sa H r.2) : ∀ (n : Nat) (l2 : Int32) (l3 : Int32) (l4 : Int32) (l5 : Int32) (l6 : Int32) (H : Hp) (r : Int32 × Hp), B_MText_word_56 N p0 p1 kq38 n l2 l3 l4 l5 l6 H = some r → Sa H r.2 := by
  intro n
  induction n with
  | zero => intro l2 l3 l4 l5 l6 H r hF; rw [B_MText_word_56] at hF; cases hF
  | succ n ih =>
    intro l2 l3 l4 l5 l6 H r hF
    rw [B_MText_word_56] at hF
    have hm := Sa.rf H
    obtain ⟨v100, H101, z99, hG⟩ := bC_s hF; clear hF
    replace hm : Sa H H101 := hm.tr (m_Str_charAt_K0 z99)
    rcases ite_s hG with ⟨q_26, hF⟩ | ⟨q_26, hF⟩
    · clear hG
      exact hm.tr (mB_MText_word_107 hm38 hF)
    · clear hG
      rcases ite_s hF with ⟨q_27, hG⟩ | ⟨q_27, hG⟩
      · clear hF
        exact hm.tr (mB_MText_word_107 hm38 hG)
      · clear hF
        obtain ⟨v105, H106, z104, hF⟩ := bC_s hG; clear hG
        replace hm : Sa H H106 := hm.tr (m_Str_charAt_K0 z104)
        obtain ⟨q107, hG⟩ := ck_s hF; clear hF
        obtain ⟨a108, e109, hF⟩ := rf_s hG; clear hG
        obtain ⟨n110, q111, hG⟩ := ar_s hF; clear hF
        obtain ⟨q112, hF⟩ := ck_s hG; clear hG
        obtain ⟨x113, -, hG⟩ := bnd_g hF; clear hF
        rcases ite_s hG with ⟨q_29, hF⟩ | ⟨q_29, hF⟩
        · clear hG
          exact hm.tr (ih l2 l3 l4 l5 (l6 + 1) H106 r hF)
        · clear hG
          exact hm.tr (mB_MText_word_107 hm38 hF)
set_option maxRecDepth 20000 in
set_option maxHeartbeats 2000000 in
theorem kB_MText_word_56 {N : Nat} {p0 : Nat} {p1 : Int32} {kq38 : Int32 → Int32 → Int32 → Int32 → Hp → Option (Int32 × Hp)} (hm38 : ∀ (l2 : Int32) (l3 : Int32) (l4 : Int32) (l5 : Int32) (H : Hp) (r : Int32 × Hp), kq38 l2 l3 l4 l5 H = some r → Sa H r.2) (hk38 : ∀ (l2 : Int32) (l3 : Int32) (l4 : Int32) (l5 : Int32) (H : Hp) (r : Int32 × Hp), kq38 l2 l3 l4 l5 H = some r → ab_V y_MText_word { frames := 4, cells := 0, slots := 0, locals := 85 } (po (.returned (some (.int r.1))) r.2) 0 0 0 0 38 [some (.ref p0), some (.int p1), some (.int l2), some (.int l3), some (.int l4), some (.int l5), none] [] (hpw H)) : ∀ (n : Nat) (l2 : Int32) (l3 : Int32) (l4 : Int32) (l5 : Int32) (l6 : Int32) (H : Hp) (r : Int32 × Hp), B_MText_word_56 N p0 p1 kq38 n l2 l3 l4 l5 l6 H = some r → ab_V y_MText_word { frames := 4, cells := 0, slots := 0, locals := 85 } (po (.returned (some (.int r.1))) r.2) 0 0 0 0 56 [some (.ref p0), some (.int p1), some (.int l2), some (.int l3), some (.int l4), some (.int l5), some (.int l6)] [] (hpw H) := by
  intro n
  induction n with
  | zero => intro l2 l3 l4 l5 l6 H r hF; rw [B_MText_word_56] at hF; cases hF
  | succ n ih =>
    intro l2 l3 l4 l5 l6 H r hF
    rw [B_MText_word_56] at hF
    refine ab_ldcS (k0 := 0) d_MText_word_56 (List.mem_of_getElem? (i := 11) rfl) rfl rfl rfl ?_
    refine ab_iload d_MText_word_58 rfl ?_
    refine ab_iload d_MText_word_60 rfl ?_
    refine ab_iadd d_MText_word_62 ?_
    obtain ⟨v64, H65, z63, hG⟩ := bC_s hF; clear hF
    refine hp_callVK_a (k0 := 0) (v := .int v64) (H1 := H65) (As := [.int (l5 + l6)]) (rest := []) d_MText_word_63 (by decide) (k_Str_charAt_K0 z63) (ab_mkC s_Str_charAt (Nat.le_of_ble_eq_true rfl) (Nat.le_of_ble_eq_true rfl) (Nat.le_refl 0) (Nat.le_refl 0)) (k10 136 rfl rfl) i_Str_charAt v_Str_charAt rfl (Nat.le_of_ble_eq_true rfl) ?_
    have s_16 : Sa H H65 := (m_Str_charAt_K0 z63)
    refine ab_bipush (v := 32) d_MText_word_66 (by decide) ?_
    refine ab_icmp_eq (tgt := 107) d_MText_word_68 (by decide) (fun q66 => ?_) (fun q66 => ?_)
    · rw [if_pos q66] at hG
      exact kB_MText_word_107 hm38 hk38 hG
    · rw [if_neg q66] at hG
      refine ab_iload d_MText_word_71 rfl ?_
      refine ab_iload_n d_MText_word_73 rfl rfl ?_
      refine ab_iload_n d_MText_word_74 rfl rfl ?_
      refine ab_isub d_MText_word_75 ?_
      refine ab_icmp_ge (tgt := 107) d_MText_word_76 (by decide) (fun q87 => ?_) (fun q87 => ?_)
      · rw [if_pos q87] at hG
        exact kB_MText_word_107 hm38 hk38 hG
      · rw [if_neg q87] at hG
        refine ab_ldcS (k0 := 0) d_MText_word_79 (List.mem_of_getElem? (i := 11) rfl) rfl rfl rfl ?_
        refine ab_iload d_MText_word_81 rfl ?_
        refine ab_iload d_MText_word_83 rfl ?_
        refine ab_iadd d_MText_word_85 ?_
        obtain ⟨v89, H90, z88, hF⟩ := bC_s hG; clear hG
        refine hp_callVK_a (k0 := 0) (v := .int v89) (H1 := H90) (As := [.int (l5 + l6)]) (rest := []) d_MText_word_86 (by decide) (k_Str_charAt_K0 z88) (ab_mkC s_Str_charAt (Nat.le_of_ble_eq_true rfl) (Nat.le_of_ble_eq_true rfl) (Nat.le_refl 0) (Nat.le_refl 0)) (k10 136 rfl rfl) i_Str_charAt v_Str_charAt rfl (Nat.le_of_ble_eq_true rfl) ?_
        have s_24 : Sa H H90 := (s_16).tr (m_Str_charAt_K0 z88)
        refine ab_aload_n d_MText_word_89 rfl rfl rfl ?_
        obtain ⟨q91, hG⟩ := ck_s hF; clear hF
        rw [(s_24).1] at q91
        obtain ⟨a92, e93, hF⟩ := rf_s hG; clear hG
        refine hp_getR (f := 0) d_MText_word_90 (by rw [(s_24).1]; exact q91) (by decide) rfl (by decide) (k8 159 rfl rfl) rfl e93 ?_
        refine ab_iload_n d_MText_word_93 rfl rfl ?_
        refine ab_iload d_MText_word_94 rfl ?_
        refine ab_iadd d_MText_word_96 ?_
        obtain ⟨n94, q95, hG⟩ := ar_s hF; clear hF
        rw [(s_24).1] at q95
        obtain ⟨q96, hF⟩ := ck_s hG; clear hG
        refine hp_bald d_MText_word_97 tB (by rw [(s_24).1]; exact q95) q96 ?_
        refine ab_topi (fun x97 ex97 => ?_)
        replace hF := bnd_s ex97 hF
        refine ab_icmp_ne (tgt := 107) d_MText_word_98 (by decide) (fun q98 => ?_) (fun q98 => ?_)
        · rw [if_neg q98] at hF
          exact kB_MText_word_107 hm38 hk38 hF
        · rw [if_pos q98] at hF
          refine ab_iinc (v := l6 + 1) (lv' := [some (.ref p0), some (.int p1), some (.int l2), some (.int l3), some (.int l4), some (.int l5), some (.int (l6 + 1))]) d_MText_word_101 rfl rfl (by decide) rfl ?_
          refine ab_goto (tgt := 56) d_MText_word_104 (by decide) ?_
          exact ih l2 l3 l4 l5 (l6 + 1) H90 r hF
def B_MText_word_38 (N : Nat) (p0 : Nat) (p1 : Int32) : Nat → Int32 → Int32 → Int32 → Int32 → Hp → Option (Int32 × Hp)
  | 0, _, _, _, _, _ => none
  | n + 1, l2, l3, l4, l5, H =>
    bC (F_Str_length_K0 N  H) fun v17 H18 =>
    if v17 ≤ l5 then
    B_MText_word_164 N p0 p1 l2 l3 H18
    else
    if l3 = (1 : Int32) then
    B_MText_word_56 N p0 p1 (fun l2 l3 l4 l5 H => B_MText_word_38 N p0 p1 n l2 l3 l4 l5 H) N l2 l3 l4 l5 0 H18
    else
    B_MText_word_164 N p0 p1 l2 l3 H18
termination_by structural n => n
set_option maxRecDepth 20000 in
set_option maxHeartbeats 2000000 in
theorem mB_MText_word_38 {N : Nat} {p0 : Nat} {p1 : Int32} : ∀ (n : Nat) (l2 : Int32) (l3 : Int32) (l4 : Int32) (l5 : Int32) (H : Hp) (r : Int32 × Hp), B_MText_word_38 N p0 p1 n l2 l3 l4 l5 H = some r → Sa H r.2 := by
  intro n
  induction n with
  | zero => intro l2 l3 l4 l5 H r hF; rw [B_MText_word_38] at hF; cases hF
  | succ n ih =>
    intro l2 l3 l4 l5 H r hF
    rw [B_MText_word_38] at hF
    have hm := Sa.rf H
    obtain ⟨v116, H117, z115, hG⟩ := bC_s hF; clear hF
    replace hm : Sa H H117 := hm.tr (m_Str_length_K0 z115)
    rcases ite_s hG with ⟨q_31, hF⟩ | ⟨q_31, hF⟩
    · clear hG
      exact hm.tr (mB_MText_word_164 hF)
    · clear hG
      rcases ite_s hF with ⟨q_32, hG⟩ | ⟨q_32, hG⟩
      · clear hF
        exact hm.tr (mB_MText_word_56 ih N l2 l3 l4 l5 0 H117 r hG)
      · clear hF
        exact hm.tr (mB_MText_word_164 hG)
set_option maxRecDepth 20000 in
set_option maxHeartbeats 2000000 in
theorem kB_MText_word_38 {N : Nat} {p0 : Nat} {p1 : Int32} : ∀ (n : Nat) (l2 : Int32) (l3 : Int32) (l4 : Int32) (l5 : Int32) (H : Hp) (r : Int32 × Hp), B_MText_word_38 N p0 p1 n l2 l3 l4 l5 H = some r → ab_V y_MText_word { frames := 4, cells := 0, slots := 0, locals := 85 } (po (.returned (some (.int r.1))) r.2) 0 0 0 0 38 [some (.ref p0), some (.int p1), some (.int l2), some (.int l3), some (.int l4), some (.int l5), none] [] (hpw H) := by
  intro n
  induction n with
  | zero => intro l2 l3 l4 l5 H r hF; rw [B_MText_word_38] at hF; cases hF
  | succ n ih =>
    intro l2 l3 l4 l5 H r hF
    rw [B_MText_word_38] at hF
    refine ab_iload d_MText_word_38 rfl ?_
    refine ab_ldcS (k0 := 0) d_MText_word_40 (List.mem_of_getElem? (i := 11) rfl) rfl rfl rfl ?_
    obtain ⟨v17, H18, z16, hG⟩ := bC_s hF; clear hF
    refine hp_callVK_a (k0 := 0) (v := .int v17) (H1 := H18) (As := []) (rest := [.int l5]) d_MText_word_42 (by decide) (k_Str_length_K0 z16) (ab_mkC s_Str_length (Nat.le_of_ble_eq_true rfl) (Nat.le_of_ble_eq_true rfl) (Nat.le_refl 0) (Nat.le_refl 0)) (k10 135 rfl rfl) i_Str_length v_Str_length rfl (Nat.le_of_ble_eq_true rfl) ?_
    have s_5 : Sa H H18 := (m_Str_length_K0 z16)
    refine ab_icmp_ge (tgt := 164) d_MText_word_45 (by decide) (fun q19 => ?_) (fun q19 => ?_)
    · rw [if_pos q19] at hG
      refine ab_le (lv' := [some (.ref p0), some (.int p1), some (.int l2), some (.int l3), none, none, none]) ⟨rfl, ⟨rfl, ⟨rfl, ⟨rfl, trivial⟩⟩⟩⟩ ?_
      exact kB_MText_word_164 hG
    · rw [if_neg q19] at hG
      refine ab_iload_n d_MText_word_48 rfl rfl ?_
      refine ab_iconst (v := 1) d_MText_word_49 (by decide) ?_
      refine ab_icmp_ne (tgt := 164) d_MText_word_50 (by decide) (fun q62 => ?_) (fun q62 => ?_)
      · rw [if_neg q62] at hG
        refine ab_le (lv' := [some (.ref p0), some (.int p1), some (.int l2), some (.int l3), none, none, none]) ⟨rfl, ⟨rfl, ⟨rfl, ⟨rfl, trivial⟩⟩⟩⟩ ?_
        exact kB_MText_word_164 hG
      · rw [if_pos q62] at hG
        refine ab_iconst (v := 0) d_MText_word_53 (by decide) ?_
        refine ab_istore (lv' := [some (.ref p0), some (.int p1), some (.int l2), some (.int l3), some (.int l4), some (.int l5), some (.int 0)]) d_MText_word_54 (by decide) rfl ?_
        exact kB_MText_word_56 (mB_MText_word_38 n) ih N l2 l3 l4 l5 0 H18 r hG
def B_MText_word_2 (N : Nat) (p0 : Nat) (p1 : Int32) : Nat → Int32 → Hp → Option (Int32 × Hp)
  | 0, _, _ => none
  | n + 1, l2, H =>
    ck (H.sh[p0]? = some (14, 0)) <|
    bC (F_MText_letter N p0 l2 H) fun v3 H4 =>
    bC (F_MText_isLetter N v3 H4) fun v6 H7 =>
    if v6 = (0 : Int32) then
    bC (F_MText_letter N p0 l2 H7) fun v10 H11 =>
    bC (F_MText_isDigit N v10 H11) fun v13 H14 =>
    if v13 = (0 : Int32) then
    B_MText_word_38 N p0 p1 N l2 1 0 0 H14
    else
    B_MText_word_24 N p0 p1 (fun l2 H => B_MText_word_2 N p0 p1 n l2 H) l2 H14
    else
    B_MText_word_24 N p0 p1 (fun l2 H => B_MText_word_2 N p0 p1 n l2 H) l2 H7
termination_by structural n => n
set_option maxRecDepth 20000 in
set_option maxHeartbeats 2000000 in
theorem mB_MText_word_2 {N : Nat} {p0 : Nat} {p1 : Int32} : ∀ (n : Nat) (l2 : Int32) (H : Hp) (r : Int32 × Hp), B_MText_word_2 N p0 p1 n l2 H = some r → Sa H r.2 := by
  intro n
  induction n with
  | zero => intro l2 H r hF; rw [B_MText_word_2] at hF; cases hF
  | succ n ih =>
    intro l2 H r hF
    rw [B_MText_word_2] at hF
    have hm := Sa.rf H
    obtain ⟨q120, hG⟩ := ck_s hF; clear hF
    obtain ⟨v122, H123, z121, hF⟩ := bC_s hG; clear hG
    replace hm : Sa H H123 := hm.tr (m_MText_letter z121)
    obtain ⟨v125, H126, z124, hG⟩ := bC_s hF; clear hF
    replace hm : Sa H H126 := hm.tr (m_MText_isLetter z124)
    rcases ite_s hG with ⟨q_35, hF⟩ | ⟨q_35, hF⟩
    · clear hG
      obtain ⟨v129, H130, z128, hG⟩ := bC_s hF; clear hF
      replace hm : Sa H H130 := hm.tr (m_MText_letter z128)
      obtain ⟨v132, H133, z131, hF⟩ := bC_s hG; clear hG
      replace hm : Sa H H133 := hm.tr (m_MText_isDigit z131)
      rcases ite_s hF with ⟨q_38, hG⟩ | ⟨q_38, hG⟩
      · clear hF
        exact hm.tr (mB_MText_word_38 N l2 1 0 0 H133 r hG)
      · clear hF
        exact hm.tr (mB_MText_word_24 ih hG)
    · clear hG
      exact hm.tr (mB_MText_word_24 ih hF)
set_option maxRecDepth 20000 in
set_option maxHeartbeats 2000000 in
theorem kB_MText_word_2 {N : Nat} {p0 : Nat} {p1 : Int32} : ∀ (n : Nat) (l2 : Int32) (H : Hp) (r : Int32 × Hp), B_MText_word_2 N p0 p1 n l2 H = some r → ab_V y_MText_word { frames := 4, cells := 0, slots := 0, locals := 85 } (po (.returned (some (.int r.1))) r.2) 0 0 0 0 2 [some (.ref p0), some (.int p1), some (.int l2), none, none, none, none] [] (hpw H) := by
  intro n
  induction n with
  | zero => intro l2 H r hF; rw [B_MText_word_2] at hF; cases hF
  | succ n ih =>
    intro l2 H r hF
    rw [B_MText_word_2] at hF
    refine ab_aload_n d_MText_word_2 rfl rfl rfl ?_
    refine ab_iload_n d_MText_word_3 rfl rfl ?_
    obtain ⟨q1, hG⟩ := ck_s hF; clear hF
    obtain ⟨v3, H4, z2, hF⟩ := bC_s hG; clear hG
    refine hp_callV_a (v := .int v3) (H1 := H4) (As := [.int l2]) (rest := []) d_MText_word_4 (k_MText_letter z2) (ab_mkC s_MText_letter (Nat.le_of_ble_eq_true rfl) (Nat.le_of_ble_eq_true rfl) (Nat.le_refl 0) (Nat.le_refl 0)) (k10 116 rfl rfl) i_MText_letter v_MText_letter q1 (by decide) rfl rfl (Nat.le_of_ble_eq_true rfl) ?_
    have s_1 : Sa H H4 := (m_MText_letter z2)
    obtain ⟨v6, H7, z5, hG⟩ := bC_s hF; clear hF
    refine hp_callS_a (v := .int v6) (H1 := H7) (As := [.int v3]) (rest := []) d_MText_word_7 (k_MText_isLetter z5) (ab_mkC s_MText_isLetter (Nat.le_of_ble_eq_true rfl) (Nat.le_of_ble_eq_true rfl) (Nat.le_refl 0) (Nat.le_refl 0)) (k10 124 rfl rfl) t_MText_isLetter rfl (Nat.le_of_ble_eq_true rfl) ?_
    have s_2 : Sa H H7 := (s_1).tr (m_MText_isLetter z5)
    refine ab_if_ne (tgt := 24) d_MText_word_10 (by decide) (fun q8 => ?_) (fun q8 => ?_)
    · rw [if_neg q8] at hG
      exact kB_MText_word_24 (mB_MText_word_2 n) ih hG
    · rw [if_pos q8] at hG
      refine ab_aload_n d_MText_word_13 rfl rfl rfl ?_
      refine ab_iload_n d_MText_word_14 rfl rfl ?_
      obtain ⟨v10, H11, z9, hF⟩ := bC_s hG; clear hG
      refine hp_callV_a (v := .int v10) (H1 := H11) (As := [.int l2]) (rest := []) d_MText_word_15 (k_MText_letter z9) (ab_mkC s_MText_letter (Nat.le_of_ble_eq_true rfl) (Nat.le_of_ble_eq_true rfl) (Nat.le_refl 0) (Nat.le_refl 0)) (k10 116 rfl rfl) i_MText_letter v_MText_letter (by rw [(s_2).1]; exact q1) (by decide) rfl rfl (Nat.le_of_ble_eq_true rfl) ?_
      have s_3 : Sa H H11 := (s_2).tr (m_MText_letter z9)
      obtain ⟨v13, H14, z12, hG⟩ := bC_s hF; clear hF
      refine hp_callS_a (v := .int v13) (H1 := H14) (As := [.int v10]) (rest := []) d_MText_word_18 (k_MText_isDigit z12) (ab_mkC s_MText_isDigit (Nat.le_of_ble_eq_true rfl) (Nat.le_of_ble_eq_true rfl) (Nat.le_refl 0) (Nat.le_refl 0)) (k10 131 rfl rfl) t_MText_isDigit rfl (Nat.le_of_ble_eq_true rfl) ?_
      have s_4 : Sa H H14 := (s_3).tr (m_MText_isDigit z12)
      refine ab_if_eq (tgt := 30) d_MText_word_21 (by decide) (fun q15 => ?_) (fun q15 => ?_)
      · rw [if_pos q15] at hG
        refine ab_iconst (v := 1) d_MText_word_30 (by decide) ?_
        refine ab_istore_n (lv' := [some (.ref p0), some (.int p1), some (.int l2), some (.int 1), none, none, none]) d_MText_word_31 rfl (by decide) rfl ?_
        refine ab_iconst (v := 0) d_MText_word_32 (by decide) ?_
        refine ab_istore (lv' := [some (.ref p0), some (.int p1), some (.int l2), some (.int 1), some (.int 0), none, none]) d_MText_word_33 (by decide) rfl ?_
        refine ab_iconst (v := 0) d_MText_word_35 (by decide) ?_
        refine ab_istore (lv' := [some (.ref p0), some (.int p1), some (.int l2), some (.int 1), some (.int 0), some (.int 0), none]) d_MText_word_36 (by decide) rfl ?_
        exact kB_MText_word_38 N l2 1 0 0 H14 r hG
      · rw [if_neg q15] at hG
        exact kB_MText_word_24 (mB_MText_word_2 n) ih hG
def F_MText_word (N : Nat) (p0 : Nat) (p1 : Int32) (H : Hp) : Option (Int32 × Hp) :=
    B_MText_word_2 N p0 p1 N p1 H
set_option maxRecDepth 20000 in
set_option maxHeartbeats 2000000 in
theorem m_MText_word {N : Nat} {p0 : Nat} {p1 : Int32} {H : Hp} {r : Int32 × Hp} (hF : F_MText_word N p0 p1 H = some r) : Sa H r.2 := by
  unfold F_MText_word at hF
  have hm := Sa.rf H
  exact hm.tr (mB_MText_word_2 N p1 H r hF)
set_option maxRecDepth 20000 in
set_option maxHeartbeats 2000000 in
theorem k_MText_word {N : Nat} {p0 : Nat} {p1 : Int32} {H : Hp} {r : Int32 × Hp} (hF : F_MText_word N p0 p1 H = some r) : ab_M y_MText_word { frames := 4, cells := 0, slots := 0, locals := 85 } [.ref p0, .int p1] (hpw H) (po (.returned (some (.int r.1))) r.2) := by
  unfold F_MText_word at hF
  refine ab_of2 (lv := [some (.ref p0), some (.int p1), none, none, none, none, none]) 5 rfl rfl (Nat.le_of_ble_eq_true rfl) ?_
  refine ab_iload_n d_MText_word_0 rfl rfl ?_
  refine ab_istore_n (lv' := [some (.ref p0), some (.int p1), some (.int p1), none, none, none, none]) d_MText_word_1 rfl (by decide) rfl ?_
  exact kB_MText_word_2 N p1 H r hF
def y_MText_digits : ab_Y := (⟨"WorldEngineModel$Text", "digits", "(I)I"⟩, prog_16_method_9_code, 10, (some FieldType.int), [])
theorem d_MText_digits_0 : decode y_MText_digits.2.1 0 = .ok (.iload_n 1, 1) := by decide +kernel
theorem d_MText_digits_1 : decode y_MText_digits.2.1 1 = .ok (.istore_n 2, 1) := by decide +kernel
theorem d_MText_digits_2 : decode y_MText_digits.2.1 2 = .ok (.lconst 0, 1) := by decide +kernel
theorem d_MText_digits_3 : decode y_MText_digits.2.1 3 = .ok (.lstore_n 3, 1) := by decide +kernel
theorem d_MText_digits_4 : decode y_MText_digits.2.1 4 = .ok (.aload_n 0, 1) := by decide +kernel
theorem d_MText_digits_5 : decode y_MText_digits.2.1 5 = .ok (.iload_n 2, 1) := by decide +kernel
theorem d_MText_digits_6 : decode y_MText_digits.2.1 6 = .ok (.invokevirtual 115, 3) := by decide +kernel
theorem d_MText_digits_9 : decode y_MText_digits.2.1 9 = .ok (.invokestatic 129, 3) := by decide +kernel
theorem d_MText_digits_12 : decode y_MText_digits.2.1 12 = .ok (.ifCond .eq 39, 3) := by decide +kernel
theorem d_MText_digits_15 : decode y_MText_digits.2.1 15 = .ok (.lload_n 3, 1) := by decide +kernel
theorem d_MText_digits_16 : decode y_MText_digits.2.1 16 = .ok (.ldc2_w 153, 3) := by decide +kernel
theorem d_MText_digits_19 : decode y_MText_digits.2.1 19 = .ok (.lcmp, 1) := by decide +kernel
theorem d_MText_digits_20 : decode y_MText_digits.2.1 20 = .ok (.ifCond .le 7, 3) := by decide +kernel
theorem d_MText_digits_23 : decode y_MText_digits.2.1 23 = .ok (.lload_n 3, 1) := by decide +kernel
theorem d_MText_digits_24 : decode y_MText_digits.2.1 24 = .ok (.goto 20, 3) := by decide +kernel
theorem d_MText_digits_27 : decode y_MText_digits.2.1 27 = .ok (.ldc2_w 155, 3) := by decide +kernel
theorem d_MText_digits_30 : decode y_MText_digits.2.1 30 = .ok (.lload_n 3, 1) := by decide +kernel
theorem d_MText_digits_31 : decode y_MText_digits.2.1 31 = .ok (.lmul, 1) := by decide +kernel
theorem d_MText_digits_32 : decode y_MText_digits.2.1 32 = .ok (.aload_n 0, 1) := by decide +kernel
theorem d_MText_digits_33 : decode y_MText_digits.2.1 33 = .ok (.getfield 11, 3) := by decide +kernel
theorem d_MText_digits_36 : decode y_MText_digits.2.1 36 = .ok (.iload_n 2, 1) := by decide +kernel
theorem d_MText_digits_37 : decode y_MText_digits.2.1 37 = .ok (.baload, 1) := by decide +kernel
theorem d_MText_digits_38 : decode y_MText_digits.2.1 38 = .ok (.i2l, 1) := by decide +kernel
theorem d_MText_digits_39 : decode y_MText_digits.2.1 39 = .ok (.ladd, 1) := by decide +kernel
theorem d_MText_digits_40 : decode y_MText_digits.2.1 40 = .ok (.ldc2_w 157, 3) := by decide +kernel
theorem d_MText_digits_43 : decode y_MText_digits.2.1 43 = .ok (.lsub, 1) := by decide +kernel
theorem d_MText_digits_44 : decode y_MText_digits.2.1 44 = .ok (.lstore_n 3, 1) := by decide +kernel
theorem d_MText_digits_45 : decode y_MText_digits.2.1 45 = .ok (.iinc 2 1, 3) := by decide +kernel
theorem d_MText_digits_48 : decode y_MText_digits.2.1 48 = .ok (.goto (-44), 3) := by decide +kernel
theorem d_MText_digits_51 : decode y_MText_digits.2.1 51 = .ok (.aload_n 0, 1) := by decide +kernel
theorem d_MText_digits_52 : decode y_MText_digits.2.1 52 = .ok (.iload_n 2, 1) := by decide +kernel
theorem d_MText_digits_53 : decode y_MText_digits.2.1 53 = .ok (.invokevirtual 115, 3) := by decide +kernel
theorem d_MText_digits_56 : decode y_MText_digits.2.1 56 = .ok (.bipush 46, 2) := by decide +kernel
theorem d_MText_digits_58 : decode y_MText_digits.2.1 58 = .ok (.if_icmp .ne 16, 3) := by decide +kernel
theorem d_MText_digits_61 : decode y_MText_digits.2.1 61 = .ok (.aload_n 0, 1) := by decide +kernel
theorem d_MText_digits_62 : decode y_MText_digits.2.1 62 = .ok (.iload_n 2, 1) := by decide +kernel
theorem d_MText_digits_63 : decode y_MText_digits.2.1 63 = .ok (.iconst 1, 1) := by decide +kernel
theorem d_MText_digits_64 : decode y_MText_digits.2.1 64 = .ok (.iadd, 1) := by decide +kernel
theorem d_MText_digits_65 : decode y_MText_digits.2.1 65 = .ok (.invokevirtual 115, 3) := by decide +kernel
theorem d_MText_digits_68 : decode y_MText_digits.2.1 68 = .ok (.invokestatic 129, 3) := by decide +kernel
theorem d_MText_digits_71 : decode y_MText_digits.2.1 71 = .ok (.ifCond .ne 49, 3) := by decide +kernel
theorem d_MText_digits_74 : decode y_MText_digits.2.1 74 = .ok (.aload_n 0, 1) := by decide +kernel
theorem d_MText_digits_75 : decode y_MText_digits.2.1 75 = .ok (.iconst 2, 1) := by decide +kernel
theorem d_MText_digits_76 : decode y_MText_digits.2.1 76 = .ok (.iload_n 1, 1) := by decide +kernel
theorem d_MText_digits_77 : decode y_MText_digits.2.1 77 = .ok (.iload_n 2, 1) := by decide +kernel
theorem d_MText_digits_78 : decode y_MText_digits.2.1 78 = .ok (.invokevirtual 118, 3) := by decide +kernel
theorem d_MText_digits_81 : decode y_MText_digits.2.1 81 = .ok (.aload_n 0, 1) := by decide +kernel
theorem d_MText_digits_82 : decode y_MText_digits.2.1 82 = .ok (.getfield 28, 3) := by decide +kernel
theorem d_MText_digits_85 : decode y_MText_digits.2.1 85 = .ok (.aload_n 0, 1) := by decide +kernel
theorem d_MText_digits_86 : decode y_MText_digits.2.1 86 = .ok (.getfield 108, 3) := by decide +kernel
theorem d_MText_digits_89 : decode y_MText_digits.2.1 89 = .ok (.iconst 1, 1) := by decide +kernel
theorem d_MText_digits_90 : decode y_MText_digits.2.1 90 = .ok (.isub, 1) := by decide +kernel
theorem d_MText_digits_91 : decode y_MText_digits.2.1 91 = .ok (.lload_n 3, 1) := by decide +kernel
theorem d_MText_digits_92 : decode y_MText_digits.2.1 92 = .ok (.ldc2_w 153, 3) := by decide +kernel
theorem d_MText_digits_95 : decode y_MText_digits.2.1 95 = .ok (.lcmp, 1) := by decide +kernel
theorem d_MText_digits_96 : decode y_MText_digits.2.1 96 = .ok (.ifCond .le 7, 3) := by decide +kernel
theorem d_MText_digits_99 : decode y_MText_digits.2.1 99 = .ok (.iconst 1, 1) := by decide +kernel
theorem d_MText_digits_100 : decode y_MText_digits.2.1 100 = .ok (.goto 4, 3) := by decide +kernel
theorem d_MText_digits_103 : decode y_MText_digits.2.1 103 = .ok (.iconst 0, 1) := by decide +kernel
theorem d_MText_digits_104 : decode y_MText_digits.2.1 104 = .ok (.bastore, 1) := by decide +kernel
theorem d_MText_digits_105 : decode y_MText_digits.2.1 105 = .ok (.aload_n 0, 1) := by decide +kernel
theorem d_MText_digits_106 : decode y_MText_digits.2.1 106 = .ok (.getfield 25, 3) := by decide +kernel
theorem d_MText_digits_109 : decode y_MText_digits.2.1 109 = .ok (.aload_n 0, 1) := by decide +kernel
theorem d_MText_digits_110 : decode y_MText_digits.2.1 110 = .ok (.getfield 108, 3) := by decide +kernel
theorem d_MText_digits_113 : decode y_MText_digits.2.1 113 = .ok (.iconst 1, 1) := by decide +kernel
theorem d_MText_digits_114 : decode y_MText_digits.2.1 114 = .ok (.isub, 1) := by decide +kernel
theorem d_MText_digits_115 : decode y_MText_digits.2.1 115 = .ok (.lload_n 3, 1) := by decide +kernel
theorem d_MText_digits_116 : decode y_MText_digits.2.1 116 = .ok (.l2i, 1) := by decide +kernel
theorem d_MText_digits_117 : decode y_MText_digits.2.1 117 = .ok (.iastore, 1) := by decide +kernel
theorem d_MText_digits_118 : decode y_MText_digits.2.1 118 = .ok (.iload_n 2, 1) := by decide +kernel
theorem d_MText_digits_119 : decode y_MText_digits.2.1 119 = .ok (.ireturn, 1) := by decide +kernel
theorem d_MText_digits_120 : decode y_MText_digits.2.1 120 = .ok (.iinc 2 1, 3) := by decide +kernel
theorem d_MText_digits_123 : decode y_MText_digits.2.1 123 = .ok (.iload_n 2, 1) := by decide +kernel
theorem d_MText_digits_124 : decode y_MText_digits.2.1 124 = .ok (.istore 5, 2) := by decide +kernel
theorem d_MText_digits_126 : decode y_MText_digits.2.1 126 = .ok (.lconst 0, 1) := by decide +kernel
theorem d_MText_digits_127 : decode y_MText_digits.2.1 127 = .ok (.lstore 6, 2) := by decide +kernel
theorem d_MText_digits_129 : decode y_MText_digits.2.1 129 = .ok (.lconst 1, 1) := by decide +kernel
theorem d_MText_digits_130 : decode y_MText_digits.2.1 130 = .ok (.lstore 8, 2) := by decide +kernel
theorem d_MText_digits_132 : decode y_MText_digits.2.1 132 = .ok (.aload_n 0, 1) := by decide +kernel
theorem d_MText_digits_133 : decode y_MText_digits.2.1 133 = .ok (.iload_n 2, 1) := by decide +kernel
theorem d_MText_digits_134 : decode y_MText_digits.2.1 134 = .ok (.invokevirtual 115, 3) := by decide +kernel
theorem d_MText_digits_137 : decode y_MText_digits.2.1 137 = .ok (.invokestatic 129, 3) := by decide +kernel
theorem d_MText_digits_140 : decode y_MText_digits.2.1 140 = .ok (.ifCond .eq 45, 3) := by decide +kernel
theorem d_MText_digits_143 : decode y_MText_digits.2.1 143 = .ok (.iload_n 2, 1) := by decide +kernel
theorem d_MText_digits_144 : decode y_MText_digits.2.1 144 = .ok (.iload 5, 2) := by decide +kernel
theorem d_MText_digits_146 : decode y_MText_digits.2.1 146 = .ok (.isub, 1) := by decide +kernel
theorem d_MText_digits_147 : decode y_MText_digits.2.1 147 = .ok (.iconst 4, 1) := by decide +kernel
theorem d_MText_digits_148 : decode y_MText_digits.2.1 148 = .ok (.if_icmp .ge 31, 3) := by decide +kernel
theorem d_MText_digits_151 : decode y_MText_digits.2.1 151 = .ok (.ldc2_w 155, 3) := by decide +kernel
theorem d_MText_digits_154 : decode y_MText_digits.2.1 154 = .ok (.lload 6, 2) := by decide +kernel
theorem d_MText_digits_156 : decode y_MText_digits.2.1 156 = .ok (.lmul, 1) := by decide +kernel
theorem d_MText_digits_157 : decode y_MText_digits.2.1 157 = .ok (.aload_n 0, 1) := by decide +kernel
theorem d_MText_digits_158 : decode y_MText_digits.2.1 158 = .ok (.getfield 11, 3) := by decide +kernel
theorem d_MText_digits_161 : decode y_MText_digits.2.1 161 = .ok (.iload_n 2, 1) := by decide +kernel
theorem d_MText_digits_162 : decode y_MText_digits.2.1 162 = .ok (.baload, 1) := by decide +kernel
theorem d_MText_digits_163 : decode y_MText_digits.2.1 163 = .ok (.i2l, 1) := by decide +kernel
theorem d_MText_digits_164 : decode y_MText_digits.2.1 164 = .ok (.ladd, 1) := by decide +kernel
theorem d_MText_digits_165 : decode y_MText_digits.2.1 165 = .ok (.ldc2_w 157, 3) := by decide +kernel
theorem d_MText_digits_168 : decode y_MText_digits.2.1 168 = .ok (.lsub, 1) := by decide +kernel
theorem d_MText_digits_169 : decode y_MText_digits.2.1 169 = .ok (.lstore 6, 2) := by decide +kernel
theorem d_MText_digits_171 : decode y_MText_digits.2.1 171 = .ok (.lload 8, 2) := by decide +kernel
theorem d_MText_digits_173 : decode y_MText_digits.2.1 173 = .ok (.ldc2_w 155, 3) := by decide +kernel
theorem d_MText_digits_176 : decode y_MText_digits.2.1 176 = .ok (.lmul, 1) := by decide +kernel
theorem d_MText_digits_177 : decode y_MText_digits.2.1 177 = .ok (.lstore 8, 2) := by decide +kernel
theorem d_MText_digits_179 : decode y_MText_digits.2.1 179 = .ok (.iinc 2 1, 3) := by decide +kernel
theorem d_MText_digits_182 : decode y_MText_digits.2.1 182 = .ok (.goto (-50), 3) := by decide +kernel
theorem d_MText_digits_185 : decode y_MText_digits.2.1 185 = .ok (.aload_n 0, 1) := by decide +kernel
theorem d_MText_digits_186 : decode y_MText_digits.2.1 186 = .ok (.iconst 3, 1) := by decide +kernel
theorem d_MText_digits_187 : decode y_MText_digits.2.1 187 = .ok (.iload_n 1, 1) := by decide +kernel
theorem d_MText_digits_188 : decode y_MText_digits.2.1 188 = .ok (.iload_n 2, 1) := by decide +kernel
theorem d_MText_digits_189 : decode y_MText_digits.2.1 189 = .ok (.invokevirtual 118, 3) := by decide +kernel
theorem d_MText_digits_192 : decode y_MText_digits.2.1 192 = .ok (.aload_n 0, 1) := by decide +kernel
theorem d_MText_digits_193 : decode y_MText_digits.2.1 193 = .ok (.getfield 28, 3) := by decide +kernel
theorem d_MText_digits_196 : decode y_MText_digits.2.1 196 = .ok (.aload_n 0, 1) := by decide +kernel
theorem d_MText_digits_197 : decode y_MText_digits.2.1 197 = .ok (.getfield 108, 3) := by decide +kernel
theorem d_MText_digits_200 : decode y_MText_digits.2.1 200 = .ok (.iconst 1, 1) := by decide +kernel
theorem d_MText_digits_201 : decode y_MText_digits.2.1 201 = .ok (.isub, 1) := by decide +kernel
theorem d_MText_digits_202 : decode y_MText_digits.2.1 202 = .ok (.lload_n 3, 1) := by decide +kernel
theorem d_MText_digits_203 : decode y_MText_digits.2.1 203 = .ok (.ldc2_w 159, 3) := by decide +kernel
theorem d_MText_digits_206 : decode y_MText_digits.2.1 206 = .ok (.lcmp, 1) := by decide +kernel
theorem d_MText_digits_207 : decode y_MText_digits.2.1 207 = .ok (.ifCond .gt 11, 3) := by decide +kernel
theorem d_MText_digits_210 : decode y_MText_digits.2.1 210 = .ok (.iload_n 2, 1) := by decide +kernel
theorem d_MText_digits_211 : decode y_MText_digits.2.1 211 = .ok (.iload 5, 2) := by decide +kernel
theorem d_MText_digits_213 : decode y_MText_digits.2.1 213 = .ok (.isub, 1) := by decide +kernel
theorem d_MText_digits_214 : decode y_MText_digits.2.1 214 = .ok (.iconst 4, 1) := by decide +kernel
theorem d_MText_digits_215 : decode y_MText_digits.2.1 215 = .ok (.if_icmp .le 7, 3) := by decide +kernel
theorem d_MText_digits_218 : decode y_MText_digits.2.1 218 = .ok (.iconst 1, 1) := by decide +kernel
theorem d_MText_digits_219 : decode y_MText_digits.2.1 219 = .ok (.goto 4, 3) := by decide +kernel
theorem d_MText_digits_222 : decode y_MText_digits.2.1 222 = .ok (.iconst 0, 1) := by decide +kernel
theorem d_MText_digits_223 : decode y_MText_digits.2.1 223 = .ok (.bastore, 1) := by decide +kernel
theorem d_MText_digits_224 : decode y_MText_digits.2.1 224 = .ok (.aload_n 0, 1) := by decide +kernel
theorem d_MText_digits_225 : decode y_MText_digits.2.1 225 = .ok (.getfield 25, 3) := by decide +kernel
theorem d_MText_digits_228 : decode y_MText_digits.2.1 228 = .ok (.aload_n 0, 1) := by decide +kernel
theorem d_MText_digits_229 : decode y_MText_digits.2.1 229 = .ok (.getfield 108, 3) := by decide +kernel
theorem d_MText_digits_232 : decode y_MText_digits.2.1 232 = .ok (.iconst 1, 1) := by decide +kernel
theorem d_MText_digits_233 : decode y_MText_digits.2.1 233 = .ok (.isub, 1) := by decide +kernel
theorem d_MText_digits_234 : decode y_MText_digits.2.1 234 = .ok (.ldc2_w 161, 3) := by decide +kernel
theorem d_MText_digits_237 : decode y_MText_digits.2.1 237 = .ok (.lload_n 3, 1) := by decide +kernel
theorem d_MText_digits_238 : decode y_MText_digits.2.1 238 = .ok (.lmul, 1) := by decide +kernel
theorem d_MText_digits_239 : decode y_MText_digits.2.1 239 = .ok (.ldc2_w 163, 3) := by decide +kernel
theorem d_MText_digits_242 : decode y_MText_digits.2.1 242 = .ok (.lload 6, 2) := by decide +kernel
theorem d_MText_digits_244 : decode y_MText_digits.2.1 244 = .ok (.lmul, 1) := by decide +kernel
theorem d_MText_digits_245 : decode y_MText_digits.2.1 245 = .ok (.lload 8, 2) := by decide +kernel
theorem d_MText_digits_247 : decode y_MText_digits.2.1 247 = .ok (.ladd, 1) := by decide +kernel
theorem d_MText_digits_248 : decode y_MText_digits.2.1 248 = .ok (.ldc2_w 165, 3) := by decide +kernel
theorem d_MText_digits_251 : decode y_MText_digits.2.1 251 = .ok (.lload 8, 2) := by decide +kernel
theorem d_MText_digits_253 : decode y_MText_digits.2.1 253 = .ok (.lmul, 1) := by decide +kernel
theorem d_MText_digits_254 : decode y_MText_digits.2.1 254 = .ok (.ldiv, 1) := by decide +kernel
theorem d_MText_digits_255 : decode y_MText_digits.2.1 255 = .ok (.ladd, 1) := by decide +kernel
theorem d_MText_digits_256 : decode y_MText_digits.2.1 256 = .ok (.l2i, 1) := by decide +kernel
theorem d_MText_digits_257 : decode y_MText_digits.2.1 257 = .ok (.iastore, 1) := by decide +kernel
theorem d_MText_digits_258 : decode y_MText_digits.2.1 258 = .ok (.iload_n 2, 1) := by decide +kernel
theorem d_MText_digits_259 : decode y_MText_digits.2.1 259 = .ok (.ireturn, 1) := by decide +kernel
theorem s_MText_digits : ab_Stat y_MText_digits 1 := ⟨(k10 140 rfl rfl), (k1 20 rfl rfl), ⟨by decide, by decide⟩, by decide +kernel⟩
theorem i_MText_digits : Cond.instanceMethod y_MText_digits.1 ∈ ab_T := (k10 139 rfl rfl)
theorem v_MText_digits : Cond.selects "WorldEngineModel$Text" y_MText_digits.1 y_MText_digits.1 ∈ ab_T := ab_s (List.mem_of_getElem? (i := 112) rfl) rfl
def B_MText_digits_104 (N : Nat) (p0 : Nat) (p1 : Int32) (l2 : Int32) (l3 : Int64) (w0 : Nat) (w1 : Int32) (w2 : Int32) (H : Hp) : Option (Int32 × Hp) :=
    ar H 102 w0 fun n21 =>
    ck (inb w1 n21) <|
    bnd (H.sD w0 (w1).toNatClampNeg (vp_nar .boolean w2)) fun H24 =>
    ck (H24.sh[p0]? = some (14, 0)) <|
    rf (H24.P p0 6) fun a26 =>
    bnd ((H24.D p0 2)) fun x28 =>
    ar H24 100 a26 fun n29 =>
    ck (inb (x28 - (1 : Int32)) n29) <|
    bnd (H24.sD a26 ((x28 - (1 : Int32))).toNatClampNeg ((l3 : Int64).toInt32)) fun H32 =>
    some (l2, H32)
set_option maxRecDepth 20000 in
set_option maxHeartbeats 2000000 in
theorem mB_MText_digits_104 {N : Nat} {p0 : Nat} {p1 : Int32} {l2 : Int32} {l3 : Int64} {w0 : Nat} {w1 : Int32} {w2 : Int32} {H : Hp} {r : Int32 × Hp} (hF : B_MText_digits_104 N p0 p1 l2 l3 w0 w1 w2 H = some r) : Sa H r.2 := by
  unfold B_MText_digits_104 at hF
  have hm := Sa.rf H
  obtain ⟨n33, q34, hG⟩ := ar_s hF; clear hF
  obtain ⟨q35, hF⟩ := ck_s hG; clear hG
  obtain ⟨H36, eH36, hG⟩ := bnd_g hF; clear hF
  replace hm : Sa H H36 := by rw [eH36]; exact hm
  obtain ⟨q37, hF⟩ := ck_s hG; clear hG
  obtain ⟨a38, e39, hG⟩ := rf_s hF; clear hF
  obtain ⟨x40, -, hF⟩ := bnd_g hG; clear hG
  obtain ⟨n41, q42, hG⟩ := ar_s hF; clear hF
  obtain ⟨q43, hF⟩ := ck_s hG; clear hG
  obtain ⟨H44, eH44, hG⟩ := bnd_g hF; clear hF
  replace hm : Sa H H44 := by rw [eH44]; exact hm
  have hr := Option.some.inj hG; subst hr
  exact hm
set_option maxRecDepth 20000 in
set_option maxHeartbeats 2000000 in
theorem kB_MText_digits_104 {N : Nat} {p0 : Nat} {p1 : Int32} {l2 : Int32} {l3 : Int64} {w0 : Nat} {w1 : Int32} {w2 : Int32} {H : Hp} {r : Int32 × Hp} (hF : B_MText_digits_104 N p0 p1 l2 l3 w0 w1 w2 H = some r) : ab_V y_MText_digits { frames := 1, cells := 0, slots := 0, locals := 23 } (po (.returned (some (.int r.1))) r.2) 0 0 0 0 104 [some (.ref p0), some (.int p1), some (.int l2), some (.long l3), none, none, none, none, none, none] [.int w2, .int w1, .ref w0] (hpw H) := by
  unfold B_MText_digits_104 at hF
  obtain ⟨n21, q22, hG⟩ := ar_s hF; clear hF
  obtain ⟨q23, hF⟩ := ck_s hG; clear hG
  refine hp_zast d_MText_digits_104 tZ q22 q23 ?_
  refine hp_gen (fun H24 eH24 => ?_)
  replace hF := bnd_s eH24 hF
  have s_5 : Sa H H24 := by rw [eH24]; exact Sa.rf _
  refine ab_aload_n d_MText_digits_105 rfl rfl rfl ?_
  obtain ⟨q25, hG⟩ := ck_s hF; clear hF
  rw [(s_5).1] at q25
  obtain ⟨a26, e27, hF⟩ := rf_s hG; clear hG
  refine hp_getR (f := 6) d_MText_digits_106 (by rw [(s_5).1]; exact q25) (by decide) rfl (by decide) (k8 166 rfl rfl) rfl e27 ?_
  refine ab_aload_n d_MText_digits_109 rfl rfl rfl ?_
  refine hp_getI (f := 2) d_MText_digits_110 (by rw [(s_5).1]; exact q25) (by decide) rfl (by decide) (k8 161 rfl rfl) rfl ?_
  refine ab_topi (fun x28 ex28 => ?_)
  replace hF := bnd_s ex28 hF
  refine ab_iconst (v := 1) d_MText_digits_113 (by decide) ?_
  refine ab_isub d_MText_digits_114 ?_
  refine ab_lload_n d_MText_digits_115 rfl rfl ?_
  refine ab_l2i d_MText_digits_116 ?_
  obtain ⟨n29, q30, hG⟩ := ar_s hF; clear hF
  rw [(s_5).1] at q30
  obtain ⟨q31, hF⟩ := ck_s hG; clear hG
  refine hp_iast d_MText_digits_117 tI (by rw [(s_5).1]; exact q30) q31 ?_
  refine hp_gen (fun H32 eH32 => ?_)
  replace hF := bnd_s eH32 hF
  have s_6 : Sa H H32 := by rw [eH32]; exact s_5
  refine ab_iload_n d_MText_digits_118 rfl rfl ?_
  exact ab_iret d_MText_digits_119 rfl (Nat.le_refl _) (Nat.le_refl _) (by have hr := Option.some.inj hF; subst hr; exact ⟨rfl, rfl⟩)
def B_MText_digits_74 (N : Nat) (p0 : Nat) (p1 : Int32) (l2 : Int32) (l3 : Int64) (H : Hp) : Option (Int32 × Hp) :=
    ck (H.sh[p0]? = some (14, 0)) <|
    bC (F_MText_token N p0 (2 : Int32) p1 l2 H) fun v15 H16 =>
    rf (H16.P p0 7) fun a17 =>
    bnd ((H16.D p0 2)) fun x19 =>
    if (lg_cmp l3 (2147483647 : Int64)) ≤ (0 : Int32) then
    B_MText_digits_104 N p0 p1 l2 l3 a17 (x19 - (1 : Int32)) 0 H16
    else
    B_MText_digits_104 N p0 p1 l2 l3 a17 (x19 - (1 : Int32)) 1 H16
set_option maxRecDepth 20000 in
set_option maxHeartbeats 2000000 in
theorem mB_MText_digits_74 {N : Nat} {p0 : Nat} {p1 : Int32} {l2 : Int32} {l3 : Int64} {H : Hp} {r : Int32 × Hp} (hF : B_MText_digits_74 N p0 p1 l2 l3 H = some r) : Sa H r.2 := by
  unfold B_MText_digits_74 at hF
  have hm := Sa.rf H
  obtain ⟨q45, hG⟩ := ck_s hF; clear hF
  obtain ⟨v47, H48, z46, hF⟩ := bC_s hG; clear hG
  replace hm : Sa H H48 := hm.tr (m_MText_token z46)
  obtain ⟨a49, e50, hG⟩ := rf_s hF; clear hF
  obtain ⟨x51, -, hF⟩ := bnd_g hG; clear hG
  rcases ite_s hF with ⟨q_10, hG⟩ | ⟨q_10, hG⟩
  · clear hF
    exact hm.tr (mB_MText_digits_104 hG)
  · clear hF
    exact hm.tr (mB_MText_digits_104 hG)
set_option maxRecDepth 20000 in
set_option maxHeartbeats 2000000 in
theorem kB_MText_digits_74 {N : Nat} {p0 : Nat} {p1 : Int32} {l2 : Int32} {l3 : Int64} {H : Hp} {r : Int32 × Hp} (hF : B_MText_digits_74 N p0 p1 l2 l3 H = some r) : ab_V y_MText_digits { frames := 1, cells := 0, slots := 0, locals := 23 } (po (.returned (some (.int r.1))) r.2) 0 0 0 0 74 [some (.ref p0), some (.int p1), some (.int l2), some (.long l3), none, none, none, none, none, none] [] (hpw H) := by
  unfold B_MText_digits_74 at hF
  refine ab_aload_n d_MText_digits_74 rfl rfl rfl ?_
  refine ab_iconst (v := 2) d_MText_digits_75 (by decide) ?_
  refine ab_iload_n d_MText_digits_76 rfl rfl ?_
  refine ab_iload_n d_MText_digits_77 rfl rfl ?_
  obtain ⟨q13, hG⟩ := ck_s hF; clear hF
  obtain ⟨v15, H16, z14, hF⟩ := bC_s hG; clear hG
  refine hp_callV_v (H1 := H16) (As := [.int 2, .int p1, .int l2]) (rest := []) d_MText_digits_78 (k_MText_token z14) (ab_mkC s_MText_token (Nat.le_of_ble_eq_true rfl) (Nat.le_of_ble_eq_true rfl) (Nat.le_refl 0) (Nat.le_refl 0)) (k10 120 rfl rfl) i_MText_token v_MText_token q13 (by decide) rfl rfl (Nat.le_of_ble_eq_true rfl) ?_
  have s_4 : Sa H H16 := (m_MText_token z14)
  refine ab_aload_n d_MText_digits_81 rfl rfl rfl ?_
  obtain ⟨a17, e18, hG⟩ := rf_s hF; clear hF
  refine hp_getR (f := 7) d_MText_digits_82 (by rw [(s_4).1]; exact q13) (by decide) rfl (by decide) (k8 168 rfl rfl) rfl e18 ?_
  refine ab_aload_n d_MText_digits_85 rfl rfl rfl ?_
  refine hp_getI (f := 2) d_MText_digits_86 (by rw [(s_4).1]; exact q13) (by decide) rfl (by decide) (k8 161 rfl rfl) rfl ?_
  refine ab_topi (fun x19 ex19 => ?_)
  replace hG := bnd_s ex19 hG
  refine ab_iconst (v := 1) d_MText_digits_89 (by decide) ?_
  refine ab_isub d_MText_digits_90 ?_
  refine ab_lload_n d_MText_digits_91 rfl rfl ?_
  refine ab_ldc2 d_MText_digits_92 (k10 141 rfl rfl) ?_
  refine ab_lcmp d_MText_digits_95 ?_
  refine ab_if_le (tgt := 103) d_MText_digits_96 (by decide) (fun q20 => ?_) (fun q20 => ?_)
  · rw [if_pos q20] at hG
    refine ab_iconst (v := 0) d_MText_digits_103 (by decide) ?_
    exact kB_MText_digits_104 hG
  · rw [if_neg q20] at hG
    refine ab_iconst (v := 1) d_MText_digits_99 (by decide) ?_
    refine ab_goto (tgt := 104) d_MText_digits_100 (by decide) ?_
    exact kB_MText_digits_104 hG
def B_MText_digits_223 (N : Nat) (p0 : Nat) (p1 : Int32) (l2 : Int32) (l3 : Int64) (l6 : Int64) (l8 : Int64) (w0 : Nat) (w1 : Int32) (w2 : Int32) (H : Hp) : Option (Int32 × Hp) :=
    ar H 102 w0 fun n75 =>
    ck (inb w1 n75) <|
    bnd (H.sD w0 (w1).toNatClampNeg (vp_nar .boolean w2)) fun H78 =>
    ck (H78.sh[p0]? = some (14, 0)) <|
    rf (H78.P p0 6) fun a80 =>
    bnd ((H78.D p0 2)) fun x82 =>
    ck (¬ ((2 : Int64) * l8) = 0) <|
    bnd (((65536 : Int64) * l3) + ((((131072 : Int64) * l6) + l8) / ((2 : Int64) * l8))) fun x84 =>
    ar H78 100 a80 fun n85 =>
    ck (inb (x82 - (1 : Int32)) n85) <|
    bnd (H78.sD a80 ((x82 - (1 : Int32))).toNatClampNeg ((x84 : Int64).toInt32)) fun H88 =>
    some (l2, H88)
set_option maxRecDepth 20000 in
set_option maxHeartbeats 2000000 in
theorem mB_MText_digits_223 {N : Nat} {p0 : Nat} {p1 : Int32} {l2 : Int32} {l3 : Int64} {l6 : Int64} {l8 : Int64} {w0 : Nat} {w1 : Int32} {w2 : Int32} {H : Hp} {r : Int32 × Hp} (hF : B_MText_digits_223 N p0 p1 l2 l3 l6 l8 w0 w1 w2 H = some r) : Sa H r.2 := by
  unfold B_MText_digits_223 at hF
  have hm := Sa.rf H
  obtain ⟨n89, q90, hG⟩ := ar_s hF; clear hF
  obtain ⟨q91, hF⟩ := ck_s hG; clear hG
  obtain ⟨H92, eH92, hG⟩ := bnd_g hF; clear hF
  replace hm : Sa H H92 := by rw [eH92]; exact hm
  obtain ⟨q93, hF⟩ := ck_s hG; clear hG
  obtain ⟨a94, e95, hG⟩ := rf_s hF; clear hF
  obtain ⟨x96, -, hF⟩ := bnd_g hG; clear hG
  obtain ⟨q97, hG⟩ := ck_s hF; clear hF
  obtain ⟨x98, -, hF⟩ := bnd_g hG; clear hG
  obtain ⟨n99, q100, hG⟩ := ar_s hF; clear hF
  obtain ⟨q101, hF⟩ := ck_s hG; clear hG
  obtain ⟨H102, eH102, hG⟩ := bnd_g hF; clear hF
  replace hm : Sa H H102 := by rw [eH102]; exact hm
  have hr := Option.some.inj hG; subst hr
  exact hm
set_option maxRecDepth 20000 in
set_option maxHeartbeats 2000000 in
theorem kB_MText_digits_223 {N : Nat} {p0 : Nat} {p1 : Int32} {l2 : Int32} {l3 : Int64} {l6 : Int64} {l8 : Int64} {w0 : Nat} {w1 : Int32} {w2 : Int32} {H : Hp} {r : Int32 × Hp} (hF : B_MText_digits_223 N p0 p1 l2 l3 l6 l8 w0 w1 w2 H = some r) : ab_V y_MText_digits { frames := 1, cells := 0, slots := 0, locals := 23 } (po (.returned (some (.int r.1))) r.2) 0 0 0 0 223 [some (.ref p0), some (.int p1), some (.int l2), some (.long l3), none, none, some (.long l6), none, some (.long l8), none] [.int w2, .int w1, .ref w0] (hpw H) := by
  unfold B_MText_digits_223 at hF
  obtain ⟨n75, q76, hG⟩ := ar_s hF; clear hF
  obtain ⟨q77, hF⟩ := ck_s hG; clear hG
  refine hp_zast d_MText_digits_223 tZ q76 q77 ?_
  refine hp_gen (fun H78 eH78 => ?_)
  replace hF := bnd_s eH78 hF
  have s_16 : Sa H H78 := by rw [eH78]; exact Sa.rf _
  refine ab_aload_n d_MText_digits_224 rfl rfl rfl ?_
  obtain ⟨q79, hG⟩ := ck_s hF; clear hF
  rw [(s_16).1] at q79
  obtain ⟨a80, e81, hF⟩ := rf_s hG; clear hG
  refine hp_getR (f := 6) d_MText_digits_225 (by rw [(s_16).1]; exact q79) (by decide) rfl (by decide) (k8 166 rfl rfl) rfl e81 ?_
  refine ab_aload_n d_MText_digits_228 rfl rfl rfl ?_
  refine hp_getI (f := 2) d_MText_digits_229 (by rw [(s_16).1]; exact q79) (by decide) rfl (by decide) (k8 161 rfl rfl) rfl ?_
  refine ab_topi (fun x82 ex82 => ?_)
  replace hF := bnd_s ex82 hF
  refine ab_iconst (v := 1) d_MText_digits_232 (by decide) ?_
  refine ab_isub d_MText_digits_233 ?_
  refine ab_ldc2 d_MText_digits_234 (k10 145 rfl rfl) ?_
  refine ab_lload_n d_MText_digits_237 rfl rfl ?_
  refine ab_lmul d_MText_digits_238 ?_
  refine ab_ldc2 d_MText_digits_239 (k10 146 rfl rfl) ?_
  refine ab_lload d_MText_digits_242 rfl ?_
  refine ab_lmul d_MText_digits_244 ?_
  refine ab_lload d_MText_digits_245 rfl ?_
  refine ab_ladd d_MText_digits_247 ?_
  refine ab_ldc2 d_MText_digits_248 (k10 147 rfl rfl) ?_
  refine ab_lload d_MText_digits_251 rfl ?_
  refine ab_lmul d_MText_digits_253 ?_
  obtain ⟨q83, hG⟩ := ck_s hF; clear hF
  refine ab_ldiv d_MText_digits_254 q83 ?_
  refine ab_ladd d_MText_digits_255 ?_
  refine ab_topl (fun x84 ex84 => ?_)
  replace hG := bnd_s ex84 hG
  refine ab_l2i d_MText_digits_256 ?_
  obtain ⟨n85, q86, hF⟩ := ar_s hG; clear hG
  rw [(s_16).1] at q86
  obtain ⟨q87, hG⟩ := ck_s hF; clear hF
  refine hp_iast d_MText_digits_257 tI (by rw [(s_16).1]; exact q86) q87 ?_
  refine hp_gen (fun H88 eH88 => ?_)
  replace hG := bnd_s eH88 hG
  have s_17 : Sa H H88 := by rw [eH88]; exact s_16
  refine ab_iload_n d_MText_digits_258 rfl rfl ?_
  exact ab_iret d_MText_digits_259 rfl (Nat.le_refl _) (Nat.le_refl _) (by have hr := Option.some.inj hG; subst hr; exact ⟨rfl, rfl⟩)
def B_MText_digits_218 (N : Nat) (p0 : Nat) (p1 : Int32) (l2 : Int32) (l3 : Int64) (l6 : Int64) (l8 : Int64) (w0 : Nat) (w1 : Int32) (H : Hp) : Option (Int32 × Hp) :=
    B_MText_digits_223 N p0 p1 l2 l3 l6 l8 w0 w1 1 H
set_option maxRecDepth 20000 in
set_option maxHeartbeats 2000000 in
theorem mB_MText_digits_218 {N : Nat} {p0 : Nat} {p1 : Int32} {l2 : Int32} {l3 : Int64} {l6 : Int64} {l8 : Int64} {w0 : Nat} {w1 : Int32} {H : Hp} {r : Int32 × Hp} (hF : B_MText_digits_218 N p0 p1 l2 l3 l6 l8 w0 w1 H = some r) : Sa H r.2 := by
  unfold B_MText_digits_218 at hF
  have hm := Sa.rf H
  exact hm.tr (mB_MText_digits_223 hF)
set_option maxRecDepth 20000 in
set_option maxHeartbeats 2000000 in
theorem kB_MText_digits_218 {N : Nat} {p0 : Nat} {p1 : Int32} {l2 : Int32} {l3 : Int64} {l6 : Int64} {l8 : Int64} {w0 : Nat} {w1 : Int32} {H : Hp} {r : Int32 × Hp} (hF : B_MText_digits_218 N p0 p1 l2 l3 l6 l8 w0 w1 H = some r) : ab_V y_MText_digits { frames := 1, cells := 0, slots := 0, locals := 23 } (po (.returned (some (.int r.1))) r.2) 0 0 0 0 218 [some (.ref p0), some (.int p1), some (.int l2), some (.long l3), none, none, some (.long l6), none, some (.long l8), none] [.int w1, .ref w0] (hpw H) := by
  unfold B_MText_digits_218 at hF
  refine ab_iconst (v := 1) d_MText_digits_218 (by decide) ?_
  refine ab_goto (tgt := 223) d_MText_digits_219 (by decide) ?_
  exact kB_MText_digits_223 hF
def B_MText_digits_179 (N : Nat) (p0 : Nat) (p1 : Int32) (kq132 : Int32 → Int64 → Int32 → Int64 → Int64 → Hp → Option (Int32 × Hp)) (l2 : Int32) (l3 : Int64) (l5 : Int32) (l6 : Int64) (l8 : Int64) (H : Hp) : Option (Int32 × Hp) :=
    kq132 (l2 + 1) l3 l5 l6 l8 H
set_option maxRecDepth 20000 in
set_option maxHeartbeats 2000000 in
theorem mB_MText_digits_179 {N : Nat} {p0 : Nat} {p1 : Int32} {kq132 : Int32 → Int64 → Int32 → Int64 → Int64 → Hp → Option (Int32 × Hp)} (hm132 : ∀ (l2 : Int32) (l3 : Int64) (l5 : Int32) (l6 : Int64) (l8 : Int64) (H : Hp) (r : Int32 × Hp), kq132 l2 l3 l5 l6 l8 H = some r → Sa H r.2) {l2 : Int32} {l3 : Int64} {l5 : Int32} {l6 : Int64} {l8 : Int64} {H : Hp} {r : Int32 × Hp} (hF : B_MText_digits_179 N p0 p1 kq132 l2 l3 l5 l6 l8 H = some r) : Sa H r.2 := by
  unfold B_MText_digits_179 at hF
  have hm := Sa.rf H
  exact hm.tr (hm132 (l2 + 1) l3 l5 l6 l8 H r hF)
set_option maxRecDepth 20000 in
set_option maxHeartbeats 2000000 in
theorem kB_MText_digits_179 {N : Nat} {p0 : Nat} {p1 : Int32} {kq132 : Int32 → Int64 → Int32 → Int64 → Int64 → Hp → Option (Int32 × Hp)} (hm132 : ∀ (l2 : Int32) (l3 : Int64) (l5 : Int32) (l6 : Int64) (l8 : Int64) (H : Hp) (r : Int32 × Hp), kq132 l2 l3 l5 l6 l8 H = some r → Sa H r.2) (hk132 : ∀ (l2 : Int32) (l3 : Int64) (l5 : Int32) (l6 : Int64) (l8 : Int64) (H : Hp) (r : Int32 × Hp), kq132 l2 l3 l5 l6 l8 H = some r → ab_V y_MText_digits { frames := 1, cells := 0, slots := 0, locals := 23 } (po (.returned (some (.int r.1))) r.2) 0 0 0 0 132 [some (.ref p0), some (.int p1), some (.int l2), some (.long l3), none, some (.int l5), some (.long l6), none, some (.long l8), none] [] (hpw H)) {l2 : Int32} {l3 : Int64} {l5 : Int32} {l6 : Int64} {l8 : Int64} {H : Hp} {r : Int32 × Hp} (hF : B_MText_digits_179 N p0 p1 kq132 l2 l3 l5 l6 l8 H = some r) : ab_V y_MText_digits { frames := 1, cells := 0, slots := 0, locals := 23 } (po (.returned (some (.int r.1))) r.2) 0 0 0 0 179 [some (.ref p0), some (.int p1), some (.int l2), some (.long l3), none, some (.int l5), some (.long l6), none, some (.long l8), none] [] (hpw H) := by
  unfold B_MText_digits_179 at hF
  refine ab_iinc (v := l2 + 1) (lv' := [some (.ref p0), some (.int p1), some (.int (l2 + 1)), some (.long l3), none, some (.int l5), some (.long l6), none, some (.long l8), none]) d_MText_digits_179 rfl rfl (by decide) rfl ?_
  refine ab_goto (tgt := 132) d_MText_digits_182 (by decide) ?_
  exact hk132 (l2 + 1) l3 l5 l6 l8 H r hF
def B_MText_digits_132 (N : Nat) (p0 : Nat) (p1 : Int32) : Nat → Int32 → Int64 → Int32 → Int64 → Int64 → Hp → Option (Int32 × Hp)
  | 0, _, _, _, _, _, _ => none
  | n + 1, l2, l3, l5, l6, l8, H =>
    ck (H.sh[p0]? = some (14, 0)) <|
    bC (F_MText_letter N p0 l2 H) fun v62 H63 =>
    bC (F_MText_isDigit N v62 H63) fun v65 H66 =>
    if v65 = (0 : Int32) then
    bC (F_MText_token N p0 (3 : Int32) p1 l2 H66) fun v69 H70 =>
    rf (H70.P p0 7) fun a71 =>
    bnd ((H70.D p0 2)) fun x73 =>
    if (0 : Int32) < (lg_cmp l3 (32767 : Int64)) then
    B_MText_digits_218 N p0 p1 l2 l3 l6 l8 a71 (x73 - (1 : Int32)) H70
    else
    if (l2 - l5) ≤ (4 : Int32) then
    B_MText_digits_223 N p0 p1 l2 l3 l6 l8 a71 (x73 - (1 : Int32)) 0 H70
    else
    B_MText_digits_218 N p0 p1 l2 l3 l6 l8 a71 (x73 - (1 : Int32)) H70
    else
    if (4 : Int32) ≤ (l2 - l5) then
    B_MText_digits_179 N p0 p1 (fun l2 l3 l5 l6 l8 H => B_MText_digits_132 N p0 p1 n l2 l3 l5 l6 l8 H) l2 l3 l5 l6 l8 H66
    else
    rf (H66.P p0 0) fun a105 =>
    ar H66 101 a105 fun n107 =>
    ck (inb l2 n107) <|
    bnd ((H66.D a105 (l2).toNatClampNeg)) fun x110 =>
    bnd ((((10 : Int64) * l6) + ((x110 : Int32).toInt64)) - (48 : Int64)) fun x111 =>
    bnd (l8 * (10 : Int64)) fun x112 =>
    B_MText_digits_179 N p0 p1 (fun l2 l3 l5 l6 l8 H => B_MText_digits_132 N p0 p1 n l2 l3 l5 l6 l8 H) l2 l3 l5 x111 x112 H66
termination_by structural n => n
set_option maxRecDepth 20000 in
set_option maxHeartbeats 2000000 in
theorem mB_MText_digits_132 {N : Nat} {p0 : Nat} {p1 : Int32} : ∀ (n : Nat) (l2 : Int32) (l3 : Int64) (l5 : Int32) (l6 : Int64) (l8 : Int64) (H : Hp) (r : Int32 × Hp), B_MText_digits_132 N p0 p1 n l2 l3 l5 l6 l8 H = some r → Sa H r.2 := by
  intro n
  induction n with
  | zero => intro l2 l3 l5 l6 l8 H r hF; rw [B_MText_digits_132] at hF; cases hF
  | succ n ih =>
    intro l2 l3 l5 l6 l8 H r hF
    rw [B_MText_digits_132] at hF
    have hm := Sa.rf H
    obtain ⟨q113, hG⟩ := ck_s hF; clear hF
    obtain ⟨v115, H116, z114, hF⟩ := bC_s hG; clear hG
    replace hm : Sa H H116 := hm.tr (m_MText_letter z114)
    obtain ⟨v118, H119, z117, hG⟩ := bC_s hF; clear hF
    replace hm : Sa H H119 := hm.tr (m_MText_isDigit z117)
    rcases ite_s hG with ⟨q_22, hF⟩ | ⟨q_22, hF⟩
    · clear hG
      obtain ⟨v122, H123, z121, hG⟩ := bC_s hF; clear hF
      replace hm : Sa H H123 := hm.tr (m_MText_token z121)
      obtain ⟨a124, e125, hF⟩ := rf_s hG; clear hG
      obtain ⟨x126, -, hG⟩ := bnd_g hF; clear hF
      rcases ite_s hG with ⟨q_24, hF⟩ | ⟨q_24, hF⟩
      · clear hG
        exact hm.tr (mB_MText_digits_218 hF)
      · clear hG
        rcases ite_s hF with ⟨q_25, hG⟩ | ⟨q_25, hG⟩
        · clear hF
          exact hm.tr (mB_MText_digits_223 hG)
        · clear hF
          exact hm.tr (mB_MText_digits_218 hG)
    · clear hG
      rcases ite_s hF with ⟨q_26, hG⟩ | ⟨q_26, hG⟩
      · clear hF
        exact hm.tr (mB_MText_digits_179 ih hG)
      · clear hF
        obtain ⟨a130, e131, hF⟩ := rf_s hG; clear hG
        obtain ⟨n132, q133, hG⟩ := ar_s hF; clear hF
        obtain ⟨q134, hF⟩ := ck_s hG; clear hG
        obtain ⟨x135, -, hG⟩ := bnd_g hF; clear hF
        obtain ⟨x136, -, hF⟩ := bnd_g hG; clear hG
        obtain ⟨x137, -, hG⟩ := bnd_g hF; clear hF
        exact hm.tr (mB_MText_digits_179 ih hG)
set_option maxRecDepth 20000 in
set_option maxHeartbeats 2000000 in
theorem kB_MText_digits_132 {N : Nat} {p0 : Nat} {p1 : Int32} : ∀ (n : Nat) (l2 : Int32) (l3 : Int64) (l5 : Int32) (l6 : Int64) (l8 : Int64) (H : Hp) (r : Int32 × Hp), B_MText_digits_132 N p0 p1 n l2 l3 l5 l6 l8 H = some r → ab_V y_MText_digits { frames := 1, cells := 0, slots := 0, locals := 23 } (po (.returned (some (.int r.1))) r.2) 0 0 0 0 132 [some (.ref p0), some (.int p1), some (.int l2), some (.long l3), none, some (.int l5), some (.long l6), none, some (.long l8), none] [] (hpw H) := by
  intro n
  induction n with
  | zero => intro l2 l3 l5 l6 l8 H r hF; rw [B_MText_digits_132] at hF; cases hF
  | succ n ih =>
    intro l2 l3 l5 l6 l8 H r hF
    rw [B_MText_digits_132] at hF
    refine ab_aload_n d_MText_digits_132 rfl rfl rfl ?_
    refine ab_iload_n d_MText_digits_133 rfl rfl ?_
    obtain ⟨q60, hG⟩ := ck_s hF; clear hF
    obtain ⟨v62, H63, z61, hF⟩ := bC_s hG; clear hG
    refine hp_callV_a (v := .int v62) (H1 := H63) (As := [.int l2]) (rest := []) d_MText_digits_134 (k_MText_letter z61) (ab_mkC s_MText_letter (Nat.le_of_ble_eq_true rfl) (Nat.le_of_ble_eq_true rfl) (Nat.le_refl 0) (Nat.le_refl 0)) (k10 116 rfl rfl) i_MText_letter v_MText_letter q60 (by decide) rfl rfl (Nat.le_of_ble_eq_true rfl) ?_
    have s_13 : Sa H H63 := (m_MText_letter z61)
    obtain ⟨v65, H66, z64, hG⟩ := bC_s hF; clear hF
    refine hp_callS_a (v := .int v65) (H1 := H66) (As := [.int v62]) (rest := []) d_MText_digits_137 (k_MText_isDigit z64) (ab_mkC s_MText_isDigit (Nat.le_of_ble_eq_true rfl) (Nat.le_of_ble_eq_true rfl) (Nat.le_refl 0) (Nat.le_refl 0)) (k10 131 rfl rfl) t_MText_isDigit rfl (Nat.le_of_ble_eq_true rfl) ?_
    have s_14 : Sa H H66 := (s_13).tr (m_MText_isDigit z64)
    refine ab_if_eq (tgt := 185) d_MText_digits_140 (by decide) (fun q67 => ?_) (fun q67 => ?_)
    · rw [if_pos q67] at hG
      refine ab_aload_n d_MText_digits_185 rfl rfl rfl ?_
      refine ab_iconst (v := 3) d_MText_digits_186 (by decide) ?_
      refine ab_iload_n d_MText_digits_187 rfl rfl ?_
      refine ab_iload_n d_MText_digits_188 rfl rfl ?_
      obtain ⟨v69, H70, z68, hF⟩ := bC_s hG; clear hG
      refine hp_callV_v (H1 := H70) (As := [.int 3, .int p1, .int l2]) (rest := []) d_MText_digits_189 (k_MText_token z68) (ab_mkC s_MText_token (Nat.le_of_ble_eq_true rfl) (Nat.le_of_ble_eq_true rfl) (Nat.le_refl 0) (Nat.le_refl 0)) (k10 120 rfl rfl) i_MText_token v_MText_token (by rw [(s_14).1]; exact q60) (by decide) rfl rfl (Nat.le_of_ble_eq_true rfl) ?_
      have s_15 : Sa H H70 := (s_14).tr (m_MText_token z68)
      refine ab_aload_n d_MText_digits_192 rfl rfl rfl ?_
      obtain ⟨a71, e72, hG⟩ := rf_s hF; clear hF
      refine hp_getR (f := 7) d_MText_digits_193 (by rw [(s_15).1]; exact q60) (by decide) rfl (by decide) (k8 168 rfl rfl) rfl e72 ?_
      refine ab_aload_n d_MText_digits_196 rfl rfl rfl ?_
      refine hp_getI (f := 2) d_MText_digits_197 (by rw [(s_15).1]; exact q60) (by decide) rfl (by decide) (k8 161 rfl rfl) rfl ?_
      refine ab_topi (fun x73 ex73 => ?_)
      replace hG := bnd_s ex73 hG
      refine ab_iconst (v := 1) d_MText_digits_200 (by decide) ?_
      refine ab_isub d_MText_digits_201 ?_
      refine ab_lload_n d_MText_digits_202 rfl rfl ?_
      refine ab_ldc2 d_MText_digits_203 (k10 144 rfl rfl) ?_
      refine ab_lcmp d_MText_digits_206 ?_
      refine ab_if_gt (tgt := 218) d_MText_digits_207 (by decide) (fun q74 => ?_) (fun q74 => ?_)
      · rw [if_pos q74] at hG
        refine ab_le (lv' := [some (.ref p0), some (.int p1), some (.int l2), some (.long l3), none, none, some (.long l6), none, some (.long l8), none]) ⟨rfl, ⟨rfl, ⟨rfl, ⟨rfl, ⟨rfl, ⟨rfl, trivial⟩⟩⟩⟩⟩⟩ ?_
        exact kB_MText_digits_218 hG
      · rw [if_neg q74] at hG
        refine ab_iload_n d_MText_digits_210 rfl rfl ?_
        refine ab_iload d_MText_digits_211 rfl ?_
        refine ab_isub d_MText_digits_213 ?_
        refine ab_iconst (v := 4) d_MText_digits_214 (by decide) ?_
        refine ab_icmp_le (tgt := 222) d_MText_digits_215 (by decide) (fun q103 => ?_) (fun q103 => ?_)
        · rw [if_pos q103] at hG
          refine ab_iconst (v := 0) d_MText_digits_222 (by decide) ?_
          refine ab_le (lv' := [some (.ref p0), some (.int p1), some (.int l2), some (.long l3), none, none, some (.long l6), none, some (.long l8), none]) ⟨rfl, ⟨rfl, ⟨rfl, ⟨rfl, ⟨rfl, ⟨rfl, trivial⟩⟩⟩⟩⟩⟩ ?_
          exact kB_MText_digits_223 hG
        · rw [if_neg q103] at hG
          refine ab_le (lv' := [some (.ref p0), some (.int p1), some (.int l2), some (.long l3), none, none, some (.long l6), none, some (.long l8), none]) ⟨rfl, ⟨rfl, ⟨rfl, ⟨rfl, ⟨rfl, ⟨rfl, trivial⟩⟩⟩⟩⟩⟩ ?_
          exact kB_MText_digits_218 hG
    · rw [if_neg q67] at hG
      refine ab_iload_n d_MText_digits_143 rfl rfl ?_
      refine ab_iload d_MText_digits_144 rfl ?_
      refine ab_isub d_MText_digits_146 ?_
      refine ab_iconst (v := 4) d_MText_digits_147 (by decide) ?_
      refine ab_icmp_ge (tgt := 179) d_MText_digits_148 (by decide) (fun q104 => ?_) (fun q104 => ?_)
      · rw [if_pos q104] at hG
        exact kB_MText_digits_179 (mB_MText_digits_132 n) ih hG
      · rw [if_neg q104] at hG
        refine ab_ldc2 d_MText_digits_151 (k10 142 rfl rfl) ?_
        refine ab_lload d_MText_digits_154 rfl ?_
        refine ab_lmul d_MText_digits_156 ?_
        refine ab_aload_n d_MText_digits_157 rfl rfl rfl ?_
        obtain ⟨a105, e106, hF⟩ := rf_s hG; clear hG
        refine hp_getR (f := 0) d_MText_digits_158 (by rw [(s_14).1]; exact q60) (by decide) rfl (by decide) (k8 159 rfl rfl) rfl e106 ?_
        refine ab_iload_n d_MText_digits_161 rfl rfl ?_
        obtain ⟨n107, q108, hG⟩ := ar_s hF; clear hF
        rw [(s_14).1] at q108
        obtain ⟨q109, hF⟩ := ck_s hG; clear hG
        refine hp_bald d_MText_digits_162 tB (by rw [(s_14).1]; exact q108) q109 ?_
        refine ab_topi (fun x110 ex110 => ?_)
        replace hF := bnd_s ex110 hF
        refine ab_i2l d_MText_digits_163 ?_
        refine ab_ladd d_MText_digits_164 ?_
        refine ab_ldc2 d_MText_digits_165 (k10 143 rfl rfl) ?_
        refine ab_lsub d_MText_digits_168 ?_
        refine ab_topl (fun x111 ex111 => ?_)
        replace hF := bnd_s ex111 hF
        refine ab_lstore (lv' := [some (.ref p0), some (.int p1), some (.int l2), some (.long l3), none, some (.int l5), some (.long x111), none, some (.long l8), none]) d_MText_digits_169 (by decide) rfl ?_
        refine ab_lload d_MText_digits_171 rfl ?_
        refine ab_ldc2 d_MText_digits_173 (k10 142 rfl rfl) ?_
        refine ab_lmul d_MText_digits_176 ?_
        refine ab_topl (fun x112 ex112 => ?_)
        replace hF := bnd_s ex112 hF
        refine ab_lstore (lv' := [some (.ref p0), some (.int p1), some (.int l2), some (.long l3), none, some (.int l5), some (.long x111), none, some (.long x112), none]) d_MText_digits_177 (by decide) rfl ?_
        exact kB_MText_digits_179 (mB_MText_digits_132 n) ih hF
def B_MText_digits_44 (N : Nat) (p0 : Nat) (p1 : Int32) (kq4 : Int32 → Int64 → Hp → Option (Int32 × Hp)) (l2 : Int32) (w0 : Int64) (H : Hp) : Option (Int32 × Hp) :=
    kq4 (l2 + 1) w0 H
set_option maxRecDepth 20000 in
set_option maxHeartbeats 2000000 in
theorem mB_MText_digits_44 {N : Nat} {p0 : Nat} {p1 : Int32} {kq4 : Int32 → Int64 → Hp → Option (Int32 × Hp)} (hm4 : ∀ (l2 : Int32) (l3 : Int64) (H : Hp) (r : Int32 × Hp), kq4 l2 l3 H = some r → Sa H r.2) {l2 : Int32} {w0 : Int64} {H : Hp} {r : Int32 × Hp} (hF : B_MText_digits_44 N p0 p1 kq4 l2 w0 H = some r) : Sa H r.2 := by
  unfold B_MText_digits_44 at hF
  have hm := Sa.rf H
  exact hm.tr (hm4 (l2 + 1) w0 H r hF)
set_option maxRecDepth 20000 in
set_option maxHeartbeats 2000000 in
theorem kB_MText_digits_44 {N : Nat} {p0 : Nat} {p1 : Int32} {kq4 : Int32 → Int64 → Hp → Option (Int32 × Hp)} (hm4 : ∀ (l2 : Int32) (l3 : Int64) (H : Hp) (r : Int32 × Hp), kq4 l2 l3 H = some r → Sa H r.2) (hk4 : ∀ (l2 : Int32) (l3 : Int64) (H : Hp) (r : Int32 × Hp), kq4 l2 l3 H = some r → ab_V y_MText_digits { frames := 1, cells := 0, slots := 0, locals := 23 } (po (.returned (some (.int r.1))) r.2) 0 0 0 0 4 [some (.ref p0), some (.int p1), some (.int l2), some (.long l3), none, none, none, none, none, none] [] (hpw H)) {l2 : Int32} {w0 : Int64} {H : Hp} {r : Int32 × Hp} (hF : B_MText_digits_44 N p0 p1 kq4 l2 w0 H = some r) : ab_V y_MText_digits { frames := 1, cells := 0, slots := 0, locals := 23 } (po (.returned (some (.int r.1))) r.2) 0 0 0 0 44 [some (.ref p0), some (.int p1), some (.int l2), none, none, none, none, none, none, none] [.long w0] (hpw H) := by
  unfold B_MText_digits_44 at hF
  refine ab_lstore_n (lv' := [some (.ref p0), some (.int p1), some (.int l2), some (.long w0), none, none, none, none, none, none]) d_MText_digits_44 rfl (by decide) rfl ?_
  refine ab_iinc (v := l2 + 1) (lv' := [some (.ref p0), some (.int p1), some (.int (l2 + 1)), some (.long w0), none, none, none, none, none, none]) d_MText_digits_45 rfl rfl (by decide) rfl ?_
  refine ab_goto (tgt := 4) d_MText_digits_48 (by decide) ?_
  exact hk4 (l2 + 1) w0 H r hF
def B_MText_digits_4 (N : Nat) (p0 : Nat) (p1 : Int32) : Nat → Int32 → Int64 → Hp → Option (Int32 × Hp)
  | 0, _, _, _ => none
  | n + 1, l2, l3, H =>
    ck (H.sh[p0]? = some (14, 0)) <|
    bC (F_MText_letter N p0 l2 H) fun v3 H4 =>
    bC (F_MText_isDigit N v3 H4) fun v6 H7 =>
    if v6 = (0 : Int32) then
    bC (F_MText_letter N p0 l2 H7) fun v10 H11 =>
    if v10 = (46 : Int32) then
    bC (F_MText_letter N p0 (l2 + (1 : Int32)) H11) fun v54 H55 =>
    bC (F_MText_isDigit N v54 H55) fun v57 H58 =>
    if v57 = (0 : Int32) then
    B_MText_digits_74 N p0 p1 l2 l3 H58
    else
    B_MText_digits_132 N p0 p1 N (l2 + 1) l3 (l2 + 1) 0 1 H58
    else
    B_MText_digits_74 N p0 p1 l2 l3 H11
    else
    if (lg_cmp l3 (2147483647 : Int64)) ≤ (0 : Int32) then
    rf (H7.P p0 0) fun a139 =>
    ar H7 101 a139 fun n141 =>
    ck (inb l2 n141) <|
    bnd ((H7.D a139 (l2).toNatClampNeg)) fun x144 =>
    bnd ((((10 : Int64) * l3) + ((x144 : Int32).toInt64)) - (48 : Int64)) fun x145 =>
    B_MText_digits_44 N p0 p1 (fun l2 l3 H => B_MText_digits_4 N p0 p1 n l2 l3 H) l2 x145 H7
    else
    B_MText_digits_44 N p0 p1 (fun l2 l3 H => B_MText_digits_4 N p0 p1 n l2 l3 H) l2 l3 H7
termination_by structural n => n
set_option maxRecDepth 20000 in
set_option maxHeartbeats 2000000 in
theorem mB_MText_digits_4 {N : Nat} {p0 : Nat} {p1 : Int32} : ∀ (n : Nat) (l2 : Int32) (l3 : Int64) (H : Hp) (r : Int32 × Hp), B_MText_digits_4 N p0 p1 n l2 l3 H = some r → Sa H r.2 := by
  intro n
  induction n with
  | zero => intro l2 l3 H r hF; rw [B_MText_digits_4] at hF; cases hF
  | succ n ih =>
    intro l2 l3 H r hF
    rw [B_MText_digits_4] at hF
    have hm := Sa.rf H
    obtain ⟨q146, hG⟩ := ck_s hF; clear hF
    obtain ⟨v148, H149, z147, hF⟩ := bC_s hG; clear hG
    replace hm : Sa H H149 := hm.tr (m_MText_letter z147)
    obtain ⟨v151, H152, z150, hG⟩ := bC_s hF; clear hF
    replace hm : Sa H H152 := hm.tr (m_MText_isDigit z150)
    rcases ite_s hG with ⟨q_29, hF⟩ | ⟨q_29, hF⟩
    · clear hG
      obtain ⟨v155, H156, z154, hG⟩ := bC_s hF; clear hF
      replace hm : Sa H H156 := hm.tr (m_MText_letter z154)
      rcases ite_s hG with ⟨q_31, hF⟩ | ⟨q_31, hF⟩
      · clear hG
        obtain ⟨v159, H160, z158, hG⟩ := bC_s hF; clear hF
        replace hm : Sa H H160 := hm.tr (m_MText_letter z158)
        obtain ⟨v162, H163, z161, hF⟩ := bC_s hG; clear hG
        replace hm : Sa H H163 := hm.tr (m_MText_isDigit z161)
        rcases ite_s hF with ⟨q_34, hG⟩ | ⟨q_34, hG⟩
        · clear hF
          exact hm.tr (mB_MText_digits_74 hG)
        · clear hF
          exact hm.tr (mB_MText_digits_132 N (l2 + 1) l3 (l2 + 1) 0 1 H163 r hG)
      · clear hG
        exact hm.tr (mB_MText_digits_74 hF)
    · clear hG
      rcases ite_s hF with ⟨q_35, hG⟩ | ⟨q_35, hG⟩
      · clear hF
        obtain ⟨a166, e167, hF⟩ := rf_s hG; clear hG
        obtain ⟨n168, q169, hG⟩ := ar_s hF; clear hF
        obtain ⟨q170, hF⟩ := ck_s hG; clear hG
        obtain ⟨x171, -, hG⟩ := bnd_g hF; clear hF
        obtain ⟨x172, -, hF⟩ := bnd_g hG; clear hG
        exact hm.tr (mB_MText_digits_44 ih hF)
      · clear hF
        exact hm.tr (mB_MText_digits_44 ih hG)
set_option maxRecDepth 20000 in
set_option maxHeartbeats 2000000 in
theorem kB_MText_digits_4 {N : Nat} {p0 : Nat} {p1 : Int32} : ∀ (n : Nat) (l2 : Int32) (l3 : Int64) (H : Hp) (r : Int32 × Hp), B_MText_digits_4 N p0 p1 n l2 l3 H = some r → ab_V y_MText_digits { frames := 1, cells := 0, slots := 0, locals := 23 } (po (.returned (some (.int r.1))) r.2) 0 0 0 0 4 [some (.ref p0), some (.int p1), some (.int l2), some (.long l3), none, none, none, none, none, none] [] (hpw H) := by
  intro n
  induction n with
  | zero => intro l2 l3 H r hF; rw [B_MText_digits_4] at hF; cases hF
  | succ n ih =>
    intro l2 l3 H r hF
    rw [B_MText_digits_4] at hF
    refine ab_aload_n d_MText_digits_4 rfl rfl rfl ?_
    refine ab_iload_n d_MText_digits_5 rfl rfl ?_
    obtain ⟨q1, hG⟩ := ck_s hF; clear hF
    obtain ⟨v3, H4, z2, hF⟩ := bC_s hG; clear hG
    refine hp_callV_a (v := .int v3) (H1 := H4) (As := [.int l2]) (rest := []) d_MText_digits_6 (k_MText_letter z2) (ab_mkC s_MText_letter (Nat.le_of_ble_eq_true rfl) (Nat.le_of_ble_eq_true rfl) (Nat.le_refl 0) (Nat.le_refl 0)) (k10 116 rfl rfl) i_MText_letter v_MText_letter q1 (by decide) rfl rfl (Nat.le_of_ble_eq_true rfl) ?_
    have s_1 : Sa H H4 := (m_MText_letter z2)
    obtain ⟨v6, H7, z5, hG⟩ := bC_s hF; clear hF
    refine hp_callS_a (v := .int v6) (H1 := H7) (As := [.int v3]) (rest := []) d_MText_digits_9 (k_MText_isDigit z5) (ab_mkC s_MText_isDigit (Nat.le_of_ble_eq_true rfl) (Nat.le_of_ble_eq_true rfl) (Nat.le_refl 0) (Nat.le_refl 0)) (k10 131 rfl rfl) t_MText_isDigit rfl (Nat.le_of_ble_eq_true rfl) ?_
    have s_2 : Sa H H7 := (s_1).tr (m_MText_isDigit z5)
    refine ab_if_eq (tgt := 51) d_MText_digits_12 (by decide) (fun q8 => ?_) (fun q8 => ?_)
    · rw [if_pos q8] at hG
      refine ab_aload_n d_MText_digits_51 rfl rfl rfl ?_
      refine ab_iload_n d_MText_digits_52 rfl rfl ?_
      obtain ⟨v10, H11, z9, hF⟩ := bC_s hG; clear hG
      refine hp_callV_a (v := .int v10) (H1 := H11) (As := [.int l2]) (rest := []) d_MText_digits_53 (k_MText_letter z9) (ab_mkC s_MText_letter (Nat.le_of_ble_eq_true rfl) (Nat.le_of_ble_eq_true rfl) (Nat.le_refl 0) (Nat.le_refl 0)) (k10 116 rfl rfl) i_MText_letter v_MText_letter (by rw [(s_2).1]; exact q1) (by decide) rfl rfl (Nat.le_of_ble_eq_true rfl) ?_
      have s_3 : Sa H H11 := (s_2).tr (m_MText_letter z9)
      refine ab_bipush (v := 46) d_MText_digits_56 (by decide) ?_
      refine ab_icmp_ne (tgt := 74) d_MText_digits_58 (by decide) (fun q12 => ?_) (fun q12 => ?_)
      · rw [if_neg q12] at hF
        exact kB_MText_digits_74 hF
      · rw [if_pos q12] at hF
        refine ab_aload_n d_MText_digits_61 rfl rfl rfl ?_
        refine ab_iload_n d_MText_digits_62 rfl rfl ?_
        refine ab_iconst (v := 1) d_MText_digits_63 (by decide) ?_
        refine ab_iadd d_MText_digits_64 ?_
        obtain ⟨v54, H55, z53, hG⟩ := bC_s hF; clear hF
        refine hp_callV_a (v := .int v54) (H1 := H55) (As := [.int (l2 + (1 : Int32))]) (rest := []) d_MText_digits_65 (k_MText_letter z53) (ab_mkC s_MText_letter (Nat.le_of_ble_eq_true rfl) (Nat.le_of_ble_eq_true rfl) (Nat.le_refl 0) (Nat.le_refl 0)) (k10 116 rfl rfl) i_MText_letter v_MText_letter (by rw [(s_3).1]; exact q1) (by decide) rfl rfl (Nat.le_of_ble_eq_true rfl) ?_
        have s_11 : Sa H H55 := (s_3).tr (m_MText_letter z53)
        obtain ⟨v57, H58, z56, hF⟩ := bC_s hG; clear hG
        refine hp_callS_a (v := .int v57) (H1 := H58) (As := [.int v54]) (rest := []) d_MText_digits_68 (k_MText_isDigit z56) (ab_mkC s_MText_isDigit (Nat.le_of_ble_eq_true rfl) (Nat.le_of_ble_eq_true rfl) (Nat.le_refl 0) (Nat.le_refl 0)) (k10 131 rfl rfl) t_MText_isDigit rfl (Nat.le_of_ble_eq_true rfl) ?_
        have s_12 : Sa H H58 := (s_11).tr (m_MText_isDigit z56)
        refine ab_if_ne (tgt := 120) d_MText_digits_71 (by decide) (fun q59 => ?_) (fun q59 => ?_)
        · rw [if_neg q59] at hF
          refine ab_iinc (v := l2 + 1) (lv' := [some (.ref p0), some (.int p1), some (.int (l2 + 1)), some (.long l3), none, none, none, none, none, none]) d_MText_digits_120 rfl rfl (by decide) rfl ?_
          refine ab_iload_n d_MText_digits_123 rfl rfl ?_
          refine ab_istore (lv' := [some (.ref p0), some (.int p1), some (.int (l2 + 1)), some (.long l3), none, some (.int (l2 + 1)), none, none, none, none]) d_MText_digits_124 (by decide) rfl ?_
          refine ab_lconst (v := 0) d_MText_digits_126 (by decide) ?_
          refine ab_lstore (lv' := [some (.ref p0), some (.int p1), some (.int (l2 + 1)), some (.long l3), none, some (.int (l2 + 1)), some (.long 0), none, none, none]) d_MText_digits_127 (by decide) rfl ?_
          refine ab_lconst (v := 1) d_MText_digits_129 (by decide) ?_
          refine ab_lstore (lv' := [some (.ref p0), some (.int p1), some (.int (l2 + 1)), some (.long l3), none, some (.int (l2 + 1)), some (.long 0), none, some (.long 1), none]) d_MText_digits_130 (by decide) rfl ?_
          exact kB_MText_digits_132 N (l2 + 1) l3 (l2 + 1) 0 1 H58 r hF
        · rw [if_pos q59] at hF
          exact kB_MText_digits_74 hF
    · rw [if_neg q8] at hG
      refine ab_lload_n d_MText_digits_15 rfl rfl ?_
      refine ab_ldc2 d_MText_digits_16 (k10 141 rfl rfl) ?_
      refine ab_lcmp d_MText_digits_19 ?_
      refine ab_if_le (tgt := 27) d_MText_digits_20 (by decide) (fun q138 => ?_) (fun q138 => ?_)
      · rw [if_pos q138] at hG
        refine ab_ldc2 d_MText_digits_27 (k10 142 rfl rfl) ?_
        refine ab_lload_n d_MText_digits_30 rfl rfl ?_
        refine ab_lmul d_MText_digits_31 ?_
        refine ab_aload_n d_MText_digits_32 rfl rfl rfl ?_
        obtain ⟨a139, e140, hF⟩ := rf_s hG; clear hG
        refine hp_getR (f := 0) d_MText_digits_33 (by rw [(s_2).1]; exact q1) (by decide) rfl (by decide) (k8 159 rfl rfl) rfl e140 ?_
        refine ab_iload_n d_MText_digits_36 rfl rfl ?_
        obtain ⟨n141, q142, hG⟩ := ar_s hF; clear hF
        rw [(s_2).1] at q142
        obtain ⟨q143, hF⟩ := ck_s hG; clear hG
        refine hp_bald d_MText_digits_37 tB (by rw [(s_2).1]; exact q142) q143 ?_
        refine ab_topi (fun x144 ex144 => ?_)
        replace hF := bnd_s ex144 hF
        refine ab_i2l d_MText_digits_38 ?_
        refine ab_ladd d_MText_digits_39 ?_
        refine ab_ldc2 d_MText_digits_40 (k10 143 rfl rfl) ?_
        refine ab_lsub d_MText_digits_43 ?_
        refine ab_topl (fun x145 ex145 => ?_)
        replace hF := bnd_s ex145 hF
        refine ab_le (lv' := [some (.ref p0), some (.int p1), some (.int l2), none, none, none, none, none, none, none]) ⟨rfl, ⟨rfl, ⟨rfl, trivial⟩⟩⟩ ?_
        exact kB_MText_digits_44 (mB_MText_digits_4 n) ih hF
      · rw [if_neg q138] at hG
        refine ab_lload_n d_MText_digits_23 rfl rfl ?_
        refine ab_goto (tgt := 44) d_MText_digits_24 (by decide) ?_
        refine ab_le (lv' := [some (.ref p0), some (.int p1), some (.int l2), none, none, none, none, none, none, none]) ⟨rfl, ⟨rfl, ⟨rfl, trivial⟩⟩⟩ ?_
        exact kB_MText_digits_44 (mB_MText_digits_4 n) ih hG
def F_MText_digits (N : Nat) (p0 : Nat) (p1 : Int32) (H : Hp) : Option (Int32 × Hp) :=
    B_MText_digits_4 N p0 p1 N p1 0 H
set_option maxRecDepth 20000 in
set_option maxHeartbeats 2000000 in
theorem m_MText_digits {N : Nat} {p0 : Nat} {p1 : Int32} {H : Hp} {r : Int32 × Hp} (hF : F_MText_digits N p0 p1 H = some r) : Sa H r.2 := by
  unfold F_MText_digits at hF
  have hm := Sa.rf H
  exact hm.tr (mB_MText_digits_4 N p1 0 H r hF)
set_option maxRecDepth 20000 in
set_option maxHeartbeats 2000000 in
theorem k_MText_digits {N : Nat} {p0 : Nat} {p1 : Int32} {H : Hp} {r : Int32 × Hp} (hF : F_MText_digits N p0 p1 H = some r) : ab_M y_MText_digits { frames := 1, cells := 0, slots := 0, locals := 23 } [.ref p0, .int p1] (hpw H) (po (.returned (some (.int r.1))) r.2) := by
  unfold F_MText_digits at hF
  refine ab_of2 (lv := [some (.ref p0), some (.int p1), none, none, none, none, none, none, none, none]) 8 rfl rfl (Nat.le_of_ble_eq_true rfl) ?_
  refine ab_iload_n d_MText_digits_0 rfl rfl ?_
  refine ab_istore_n (lv' := [some (.ref p0), some (.int p1), some (.int p1), none, none, none, none, none, none, none]) d_MText_digits_1 rfl (by decide) rfl ?_
  refine ab_lconst (v := 0) d_MText_digits_2 (by decide) ?_
  refine ab_lstore_n (lv' := [some (.ref p0), some (.int p1), some (.int p1), some (.long 0), none, none, none, none, none, none]) d_MText_digits_3 rfl (by decide) rfl ?_
  exact kB_MText_digits_4 N p1 0 H r hF
