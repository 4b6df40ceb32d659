def y_MRunner_compared : ab_Y := (⟨"WorldEngineModel$Runner", "compared", "()I"⟩, prog_15_method_24_code, 5, (some FieldType.int), [])
theorem d_MRunner_compared_0 : decode y_MRunner_compared.2.1 0 = .ok (.aload_n 0, 1) := by decide +kernel
theorem d_MRunner_compared_1 : decode y_MRunner_compared.2.1 1 = .ok (.invokevirtual 248, 3) := by decide +kernel
theorem d_MRunner_compared_4 : decode y_MRunner_compared.2.1 4 = .ok (.istore_n 1, 1) := by decide +kernel
theorem d_MRunner_compared_5 : decode y_MRunner_compared.2.1 5 = .ok (.aload_n 0, 1) := by decide +kernel
theorem d_MRunner_compared_6 : decode y_MRunner_compared.2.1 6 = .ok (.getfield 96, 3) := by decide +kernel
theorem d_MRunner_compared_9 : decode y_MRunner_compared.2.1 9 = .ok (.ifCond .le 7, 3) := by decide +kernel
theorem d_MRunner_compared_12 : decode y_MRunner_compared.2.1 12 = .ok (.iconst 0, 1) := by decide +kernel
theorem d_MRunner_compared_13 : decode y_MRunner_compared.2.1 13 = .ok (.goto 15, 3) := by decide +kernel
theorem d_MRunner_compared_16 : decode y_MRunner_compared.2.1 16 = .ok (.aload_n 0, 1) := by decide +kernel
theorem d_MRunner_compared_17 : decode y_MRunner_compared.2.1 17 = .ok (.getfield 25, 3) := by decide +kernel
theorem d_MRunner_compared_20 : decode y_MRunner_compared.2.1 20 = .ok (.getfield 131, 3) := by decide +kernel
theorem d_MRunner_compared_23 : decode y_MRunner_compared.2.1 23 = .ok (.aload_n 0, 1) := by decide +kernel
theorem d_MRunner_compared_24 : decode y_MRunner_compared.2.1 24 = .ok (.getfield 108, 3) := by decide +kernel
theorem d_MRunner_compared_27 : decode y_MRunner_compared.2.1 27 = .ok (.iaload, 1) := by decide +kernel
theorem d_MRunner_compared_28 : decode y_MRunner_compared.2.1 28 = .ok (.istore_n 2, 1) := by decide +kernel
theorem d_MRunner_compared_29 : decode y_MRunner_compared.2.1 29 = .ok (.iload_n 2, 1) := by decide +kernel
theorem d_MRunner_compared_30 : decode y_MRunner_compared.2.1 30 = .ok (.bipush 60, 2) := by decide +kernel
theorem d_MRunner_compared_32 : decode y_MRunner_compared.2.1 32 = .ok (.if_icmp .eq 22, 3) := by decide +kernel
theorem d_MRunner_compared_35 : decode y_MRunner_compared.2.1 35 = .ok (.iload_n 2, 1) := by decide +kernel
theorem d_MRunner_compared_36 : decode y_MRunner_compared.2.1 36 = .ok (.bipush 62, 2) := by decide +kernel
theorem d_MRunner_compared_38 : decode y_MRunner_compared.2.1 38 = .ok (.if_icmp .eq 16, 3) := by decide +kernel
theorem d_MRunner_compared_41 : decode y_MRunner_compared.2.1 41 = .ok (.iload_n 2, 1) := by decide +kernel
theorem d_MRunner_compared_42 : decode y_MRunner_compared.2.1 42 = .ok (.iconst 5, 1) := by decide +kernel
theorem d_MRunner_compared_43 : decode y_MRunner_compared.2.1 43 = .ok (.if_icmp .lt 9, 3) := by decide +kernel
theorem d_MRunner_compared_46 : decode y_MRunner_compared.2.1 46 = .ok (.iload_n 2, 1) := by decide +kernel
theorem d_MRunner_compared_47 : decode y_MRunner_compared.2.1 47 = .ok (.bipush 8, 2) := by decide +kernel
theorem d_MRunner_compared_49 : decode y_MRunner_compared.2.1 49 = .ok (.if_icmp .le 5, 3) := by decide +kernel
theorem d_MRunner_compared_52 : decode y_MRunner_compared.2.1 52 = .ok (.iload_n 1, 1) := by decide +kernel
theorem d_MRunner_compared_53 : decode y_MRunner_compared.2.1 53 = .ok (.ireturn, 1) := by decide +kernel
theorem d_MRunner_compared_54 : decode y_MRunner_compared.2.1 54 = .ok (.aload_n 0, 1) := by decide +kernel
theorem d_MRunner_compared_55 : decode y_MRunner_compared.2.1 55 = .ok (.dup, 1) := by decide +kernel
theorem d_MRunner_compared_56 : decode y_MRunner_compared.2.1 56 = .ok (.getfield 108, 3) := by decide +kernel
theorem d_MRunner_compared_59 : decode y_MRunner_compared.2.1 59 = .ok (.iconst 1, 1) := by decide +kernel
theorem d_MRunner_compared_60 : decode y_MRunner_compared.2.1 60 = .ok (.iadd, 1) := by decide +kernel
theorem d_MRunner_compared_61 : decode y_MRunner_compared.2.1 61 = .ok (.putfield 108, 3) := by decide +kernel
theorem d_MRunner_compared_64 : decode y_MRunner_compared.2.1 64 = .ok (.aload_n 0, 1) := by decide +kernel
theorem d_MRunner_compared_65 : decode y_MRunner_compared.2.1 65 = .ok (.invokevirtual 248, 3) := by decide +kernel
theorem d_MRunner_compared_68 : decode y_MRunner_compared.2.1 68 = .ok (.istore_n 3, 1) := by decide +kernel
theorem d_MRunner_compared_69 : decode y_MRunner_compared.2.1 69 = .ok (.iload_n 2, 1) := by decide +kernel
theorem d_MRunner_compared_70 : decode y_MRunner_compared.2.1 70 = .ok (.bipush 60, 2) := by decide +kernel
theorem d_MRunner_compared_72 : decode y_MRunner_compared.2.1 72 = .ok (.if_icmp .ne 16, 3) := by decide +kernel
theorem d_MRunner_compared_75 : decode y_MRunner_compared.2.1 75 = .ok (.iload_n 1, 1) := by decide +kernel
theorem d_MRunner_compared_76 : decode y_MRunner_compared.2.1 76 = .ok (.iload_n 3, 1) := by decide +kernel
theorem d_MRunner_compared_77 : decode y_MRunner_compared.2.1 77 = .ok (.if_icmp .ge 7, 3) := by decide +kernel
theorem d_MRunner_compared_80 : decode y_MRunner_compared.2.1 80 = .ok (.iconst 1, 1) := by decide +kernel
theorem d_MRunner_compared_81 : decode y_MRunner_compared.2.1 81 = .ok (.goto 92, 3) := by decide +kernel
theorem d_MRunner_compared_84 : decode y_MRunner_compared.2.1 84 = .ok (.iconst 0, 1) := by decide +kernel
theorem d_MRunner_compared_85 : decode y_MRunner_compared.2.1 85 = .ok (.goto 88, 3) := by decide +kernel
theorem d_MRunner_compared_88 : decode y_MRunner_compared.2.1 88 = .ok (.iload_n 2, 1) := by decide +kernel
theorem d_MRunner_compared_89 : decode y_MRunner_compared.2.1 89 = .ok (.bipush 62, 2) := by decide +kernel
theorem d_MRunner_compared_91 : decode y_MRunner_compared.2.1 91 = .ok (.if_icmp .ne 16, 3) := by decide +kernel
theorem d_MRunner_compared_94 : decode y_MRunner_compared.2.1 94 = .ok (.iload_n 1, 1) := by decide +kernel
theorem d_MRunner_compared_95 : decode y_MRunner_compared.2.1 95 = .ok (.iload_n 3, 1) := by decide +kernel
theorem d_MRunner_compared_96 : decode y_MRunner_compared.2.1 96 = .ok (.if_icmp .le 7, 3) := by decide +kernel
theorem d_MRunner_compared_99 : decode y_MRunner_compared.2.1 99 = .ok (.iconst 1, 1) := by decide +kernel
theorem d_MRunner_compared_100 : decode y_MRunner_compared.2.1 100 = .ok (.goto 73, 3) := by decide +kernel
theorem d_MRunner_compared_103 : decode y_MRunner_compared.2.1 103 = .ok (.iconst 0, 1) := by decide +kernel
theorem d_MRunner_compared_104 : decode y_MRunner_compared.2.1 104 = .ok (.goto 69, 3) := by decide +kernel
theorem d_MRunner_compared_107 : decode y_MRunner_compared.2.1 107 = .ok (.iload_n 2, 1) := by decide +kernel
theorem d_MRunner_compared_108 : decode y_MRunner_compared.2.1 108 = .ok (.iconst 5, 1) := by decide +kernel
theorem d_MRunner_compared_109 : decode y_MRunner_compared.2.1 109 = .ok (.if_icmp .ne 16, 3) := by decide +kernel
theorem d_MRunner_compared_112 : decode y_MRunner_compared.2.1 112 = .ok (.iload_n 1, 1) := by decide +kernel
theorem d_MRunner_compared_113 : decode y_MRunner_compared.2.1 113 = .ok (.iload_n 3, 1) := by decide +kernel
theorem d_MRunner_compared_114 : decode y_MRunner_compared.2.1 114 = .ok (.if_icmp .gt 7, 3) := by decide +kernel
theorem d_MRunner_compared_117 : decode y_MRunner_compared.2.1 117 = .ok (.iconst 1, 1) := by decide +kernel
theorem d_MRunner_compared_118 : decode y_MRunner_compared.2.1 118 = .ok (.goto 55, 3) := by decide +kernel
theorem d_MRunner_compared_121 : decode y_MRunner_compared.2.1 121 = .ok (.iconst 0, 1) := by decide +kernel
theorem d_MRunner_compared_122 : decode y_MRunner_compared.2.1 122 = .ok (.goto 51, 3) := by decide +kernel
theorem d_MRunner_compared_125 : decode y_MRunner_compared.2.1 125 = .ok (.iload_n 2, 1) := by decide +kernel
theorem d_MRunner_compared_126 : decode y_MRunner_compared.2.1 126 = .ok (.bipush 6, 2) := by decide +kernel
theorem d_MRunner_compared_128 : decode y_MRunner_compared.2.1 128 = .ok (.if_icmp .ne 16, 3) := by decide +kernel
theorem d_MRunner_compared_131 : decode y_MRunner_compared.2.1 131 = .ok (.iload_n 1, 1) := by decide +kernel
theorem d_MRunner_compared_132 : decode y_MRunner_compared.2.1 132 = .ok (.iload_n 3, 1) := by decide +kernel
theorem d_MRunner_compared_133 : decode y_MRunner_compared.2.1 133 = .ok (.if_icmp .lt 7, 3) := by decide +kernel
theorem d_MRunner_compared_136 : decode y_MRunner_compared.2.1 136 = .ok (.iconst 1, 1) := by decide +kernel
theorem d_MRunner_compared_137 : decode y_MRunner_compared.2.1 137 = .ok (.goto 36, 3) := by decide +kernel
theorem d_MRunner_compared_140 : decode y_MRunner_compared.2.1 140 = .ok (.iconst 0, 1) := by decide +kernel
theorem d_MRunner_compared_141 : decode y_MRunner_compared.2.1 141 = .ok (.goto 32, 3) := by decide +kernel
theorem d_MRunner_compared_144 : decode y_MRunner_compared.2.1 144 = .ok (.iload_n 2, 1) := by decide +kernel
theorem d_MRunner_compared_145 : decode y_MRunner_compared.2.1 145 = .ok (.bipush 7, 2) := by decide +kernel
theorem d_MRunner_compared_147 : decode y_MRunner_compared.2.1 147 = .ok (.if_icmp .ne 16, 3) := by decide +kernel
theorem d_MRunner_compared_150 : decode y_MRunner_compared.2.1 150 = .ok (.iload_n 1, 1) := by decide +kernel
theorem d_MRunner_compared_151 : decode y_MRunner_compared.2.1 151 = .ok (.iload_n 3, 1) := by decide +kernel
theorem d_MRunner_compared_152 : decode y_MRunner_compared.2.1 152 = .ok (.if_icmp .ne 7, 3) := by decide +kernel
theorem d_MRunner_compared_155 : decode y_MRunner_compared.2.1 155 = .ok (.iconst 1, 1) := by decide +kernel
theorem d_MRunner_compared_156 : decode y_MRunner_compared.2.1 156 = .ok (.goto 17, 3) := by decide +kernel
theorem d_MRunner_compared_159 : decode y_MRunner_compared.2.1 159 = .ok (.iconst 0, 1) := by decide +kernel
theorem d_MRunner_compared_160 : decode y_MRunner_compared.2.1 160 = .ok (.goto 13, 3) := by decide +kernel
theorem d_MRunner_compared_163 : decode y_MRunner_compared.2.1 163 = .ok (.iload_n 1, 1) := by decide +kernel
theorem d_MRunner_compared_164 : decode y_MRunner_compared.2.1 164 = .ok (.iload_n 3, 1) := by decide +kernel
theorem d_MRunner_compared_165 : decode y_MRunner_compared.2.1 165 = .ok (.if_icmp .eq 7, 3) := by decide +kernel
theorem d_MRunner_compared_168 : decode y_MRunner_compared.2.1 168 = .ok (.iconst 1, 1) := by decide +kernel
theorem d_MRunner_compared_169 : decode y_MRunner_compared.2.1 169 = .ok (.goto 4, 3) := by decide +kernel
theorem d_MRunner_compared_172 : decode y_MRunner_compared.2.1 172 = .ok (.iconst 0, 1) := by decide +kernel
theorem d_MRunner_compared_173 : decode y_MRunner_compared.2.1 173 = .ok (.istore 4, 2) := by decide +kernel
theorem d_MRunner_compared_175 : decode y_MRunner_compared.2.1 175 = .ok (.iload 4, 2) := by decide +kernel
theorem d_MRunner_compared_177 : decode y_MRunner_compared.2.1 177 = .ok (.ifCond .eq 7, 3) := by decide +kernel
theorem d_MRunner_compared_180 : decode y_MRunner_compared.2.1 180 = .ok (.iconst 1, 1) := by decide +kernel
theorem d_MRunner_compared_181 : decode y_MRunner_compared.2.1 181 = .ok (.goto 4, 3) := by decide +kernel
theorem d_MRunner_compared_184 : decode y_MRunner_compared.2.1 184 = .ok (.iconst 0, 1) := by decide +kernel
theorem d_MRunner_compared_185 : decode y_MRunner_compared.2.1 185 = .ok (.ireturn, 1) := by decide +kernel
theorem s_MRunner_compared : ab_Stat y_MRunner_compared 0 := ⟨(k12 21 rfl rfl), (k1 22 rfl rfl), ⟨by decide, by decide⟩, by decide +kernel⟩
theorem i_MRunner_compared : Cond.instanceMethod y_MRunner_compared.1 ∈ ab_T := (k12 20 rfl rfl)
theorem v_MRunner_compared : Cond.selects "WorldEngineModel$Runner" y_MRunner_compared.1 y_MRunner_compared.1 ∈ ab_T := ab_s (List.mem_of_getElem? (i := 183) rfl) rfl
def B_MRunner_compared_173 (N : Nat) (o : Orc_RunE) (p0 : Nat) (w0 : Int32) (H : Hp) : Option (Int32 × Hp) :=
    if w0 = (0 : Int32) then
    some (0, H)
    else
    some (1, H)
set_option maxRecDepth 20000 in
set_option maxHeartbeats 2000000 in
theorem mB_MRunner_compared_173 {N : Nat} {o : Orc_RunE} (hmo : mo_RunE o) {p0 : Nat} {w0 : Int32} {H : Hp} {r : Int32 × Hp} (hF : B_MRunner_compared_173 N o p0 w0 H = some r) : Sa H r.2 := by
  unfold B_MRunner_compared_173 at hF
  have hm := Sa.rf H
  rcases ite_s hF with ⟨q_4, hG⟩ | ⟨q_4, hG⟩
  · clear hF
    have hr := Option.some.inj hG; subst hr
    exact hm
  · clear hF
    have hr := Option.some.inj hG; subst hr
    exact hm
set_option maxRecDepth 20000 in
set_option maxHeartbeats 2000000 in
theorem kB_MRunner_compared_173 {N : Nat} {o : Orc_RunE} {fr lo : Nat} (ho : ok_RunE o fr lo) (hmo : mo_RunE o) {p0 : Nat} {w0 : Int32} {H : Hp} {r : Int32 × Hp} (hF : B_MRunner_compared_173 N o p0 w0 H = some r) : ab_V y_MRunner_compared { frames := fr + 3, cells := 0, slots := 0, locals := lo + 77 } (po (.returned (some (.int r.1))) r.2) 0 0 0 0 173 [some (.ref p0), none, none, none, none] [.int w0] (hpw H) := by
  unfold B_MRunner_compared_173 at hF
  refine ab_istore (lv' := [some (.ref p0), none, none, none, some (.int w0)]) d_MRunner_compared_173 (by decide) rfl ?_
  refine ab_iload d_MRunner_compared_175 rfl ?_
  refine ab_if_eq (tgt := 184) d_MRunner_compared_177 (by decide) (fun q30 => ?_) (fun q30 => ?_)
  · rw [if_pos q30] at hF
    refine ab_iconst (v := 0) d_MRunner_compared_184 (by decide) ?_
    exact ab_iret d_MRunner_compared_185 rfl (Nat.le_refl _) (Nat.le_refl _) (by have hr := Option.some.inj hF; subst hr; exact ⟨rfl, rfl⟩)
  · rw [if_neg q30] at hF
    refine ab_iconst (v := 1) d_MRunner_compared_180 (by decide) ?_
    refine ab_goto (tgt := 185) d_MRunner_compared_181 (by decide) ?_
    exact ab_iret d_MRunner_compared_185 rfl (Nat.le_refl _) (Nat.le_refl _) (by have hr := Option.some.inj hF; subst hr; exact ⟨rfl, rfl⟩)
def B_MRunner_compared_54 (N : Nat) (o : Orc_RunE) (p0 : Nat) (l1 : Int32) (l2 : Int32) (H : Hp) : Option (Int32 × Hp) :=
    ck (H.sh[p0]? = some (15, 0)) <|
    bnd ((H.D p0 11)) fun x19 =>
    bnd (H.sD p0 11 (x19 + (1 : Int32))) fun H20 =>
    bC (F_MRunner_sum N o p0 H20) fun v22 H23 =>
    if l2 = (60 : Int32) then
    if v22 ≤ l1 then
    B_MRunner_compared_173 N o p0 0 H23
    else
    B_MRunner_compared_173 N o p0 1 H23
    else
    if l2 = (62 : Int32) then
    if l1 ≤ v22 then
    B_MRunner_compared_173 N o p0 0 H23
    else
    B_MRunner_compared_173 N o p0 1 H23
    else
    if l2 = (5 : Int32) then
    if v22 < l1 then
    B_MRunner_compared_173 N o p0 0 H23
    else
    B_MRunner_compared_173 N o p0 1 H23
    else
    if l2 = (6 : Int32) then
    if l1 < v22 then
    B_MRunner_compared_173 N o p0 0 H23
    else
    B_MRunner_compared_173 N o p0 1 H23
    else
    if l2 = (7 : Int32) then
    if l1 = v22 then
    B_MRunner_compared_173 N o p0 1 H23
    else
    B_MRunner_compared_173 N o p0 0 H23
    else
    if l1 = v22 then
    B_MRunner_compared_173 N o p0 0 H23
    else
    B_MRunner_compared_173 N o p0 1 H23
set_option maxRecDepth 20000 in
set_option maxHeartbeats 2000000 in
theorem mB_MRunner_compared_54 {N : Nat} {o : Orc_RunE} (hmo : mo_RunE o) {p0 : Nat} {l1 : Int32} {l2 : Int32} {H : Hp} {r : Int32 × Hp} (hF : B_MRunner_compared_54 N o p0 l1 l2 H = some r) : Sa H r.2 := by
  unfold B_MRunner_compared_54 at hF
  have hm := Sa.rf H
  obtain ⟨q37, hG⟩ := ck_s hF; clear hF
  obtain ⟨x38, -, hF⟩ := bnd_g hG; clear hG
  obtain ⟨H39, eH39, hG⟩ := bnd_g hF; clear hF
  replace hm : Sa H H39 := by rw [eH39]; exact hm
  obtain ⟨v41, H42, z40, hF⟩ := bC_s hG; clear hG
  replace hm : Sa H H42 := hm.tr (m_MRunner_sum hmo z40)
  rcases ite_s hF with ⟨q_7, hG⟩ | ⟨q_7, hG⟩
  · clear hF
    rcases ite_s hG with ⟨q_8, hF⟩ | ⟨q_8, hF⟩
    · clear hG
      exact hm.tr (mB_MRunner_compared_173 hmo hF)
    · clear hG
      exact hm.tr (mB_MRunner_compared_173 hmo hF)
  · clear hF
    rcases ite_s hG with ⟨q_9, hF⟩ | ⟨q_9, hF⟩
    · clear hG
      rcases ite_s hF with ⟨q_10, hG⟩ | ⟨q_10, hG⟩
      · clear hF
        exact hm.tr (mB_MRunner_compared_173 hmo hG)
      · clear hF
        exact hm.tr (mB_MRunner_compared_173 hmo hG)
    · clear hG
      rcases ite_s hF with ⟨q_11, hG⟩ | ⟨q_11, hG⟩
      · clear hF
        rcases ite_s hG with ⟨q_12, hF⟩ | ⟨q_12, hF⟩
        · clear hG
          exact hm.tr (mB_MRunner_compared_173 hmo hF)
        · clear hG
          exact hm.tr (mB_MRunner_compared_173 hmo hF)
      · clear hF
        rcases ite_s hG with ⟨q_13, hF⟩ | ⟨q_13, hF⟩
        · clear hG
          rcases ite_s hF with ⟨q_14, hG⟩ | ⟨q_14, hG⟩
          · clear hF
            exact hm.tr (mB_MRunner_compared_173 hmo hG)
          · clear hF
            exact hm.tr (mB_MRunner_compared_173 hmo hG)
        · clear hG
          rcases ite_s hF with ⟨q_15, hG⟩ | ⟨q_15, hG⟩
          · clear hF
            rcases ite_s hG with ⟨q_16, hF⟩ | ⟨q_16, hF⟩
            · clear hG
              exact hm.tr (mB_MRunner_compared_173 hmo hF)
            · clear hG
              exact hm.tr (mB_MRunner_compared_173 hmo hF)
          · clear hF
            rcases ite_s hG with ⟨q_17, hF⟩ | ⟨q_17, hF⟩
            · clear hG
              exact hm.tr (mB_MRunner_compared_173 hmo hF)
            · clear hG
              exact hm.tr (mB_MRunner_compared_173 hmo hF)
set_option maxRecDepth 20000 in
set_option maxHeartbeats 2000000 in
theorem kB_MRunner_compared_54 {N : Nat} {o : Orc_RunE} {fr lo : Nat} (ho : ok_RunE o fr lo) (hmo : mo_RunE o) {p0 : Nat} {l1 : Int32} {l2 : Int32} {H : Hp} {r : Int32 × Hp} (hF : B_MRunner_compared_54 N o p0 l1 l2 H = some r) : ab_V y_MRunner_compared { frames := fr + 3, cells := 0, slots := 0, locals := lo + 77 } (po (.returned (some (.int r.1))) r.2) 0 0 0 0 54 [some (.ref p0), some (.int l1), some (.int l2), none, none] [] (hpw H) := by
  unfold B_MRunner_compared_54 at hF
  refine ab_aload_n d_MRunner_compared_54 rfl rfl rfl ?_
  refine ab_dup d_MRunner_compared_55 rfl ?_
  obtain ⟨q18, hG⟩ := ck_s hF; clear hF
  refine hp_getI (f := 11) d_MRunner_compared_56 q18 (by decide) rfl (by decide) (k9 194 rfl rfl) rfl ?_
  refine ab_topi (fun x19 ex19 => ?_)
  replace hG := bnd_s ex19 hG
  refine ab_iconst (v := 1) d_MRunner_compared_59 (by decide) ?_
  refine ab_iadd d_MRunner_compared_60 ?_
  refine hp_putI (v := x19 + (1 : Int32)) (f := 11) d_MRunner_compared_61 q18 (by decide) rfl (by decide) (k9 194 rfl rfl) rfl rfl (fun _ => rfl) (fun _ => rfl) rfl ?_
  refine hp_gen (fun H20 eH20 => ?_)
  replace hG := bnd_s eH20 hG
  have s_2 : Sa H H20 := by rw [eH20]; exact Sa.rf _
  refine ab_aload_n d_MRunner_compared_64 rfl rfl rfl ?_
  obtain ⟨v22, H23, z21, hF⟩ := bC_s hG; clear hG
  refine hp_callV_a (v := .int v22) (H1 := H23) (As := []) (rest := []) d_MRunner_compared_65 (k_MRunner_sum ho hmo z21) (ab_mkC s_MRunner_sum (show (fr + 2) + 1 ≤ fr + 3 from by have := ho.1; omega) (show 8 + (4 + 11) + (lo + 54) ≤ lo + 77 from by have := ho.2.1; omega) (Nat.le_refl 0) (Nat.le_refl 0)) (k12 22 rfl rfl) i_MRunner_sum v_MRunner_sum (by rw [(s_2).1]; exact q18) (by decide) rfl rfl (Nat.le_of_ble_eq_true rfl) ?_
  have s_3 : Sa H H23 := (s_2).tr (m_MRunner_sum hmo z21)
  refine ab_istore_n (lv' := [some (.ref p0), some (.int l1), some (.int l2), some (.int v22), none]) d_MRunner_compared_68 rfl (by decide) rfl ?_
  refine ab_iload_n d_MRunner_compared_69 rfl rfl ?_
  refine ab_bipush (v := 60) d_MRunner_compared_70 (by decide) ?_
  refine ab_icmp_ne (tgt := 88) d_MRunner_compared_72 (by decide) (fun q24 => ?_) (fun q24 => ?_)
  · rw [if_neg q24] at hF
    refine ab_iload_n d_MRunner_compared_88 rfl rfl ?_
    refine ab_bipush (v := 62) d_MRunner_compared_89 (by decide) ?_
    refine ab_icmp_ne (tgt := 107) d_MRunner_compared_91 (by decide) (fun q25 => ?_) (fun q25 => ?_)
    · rw [if_neg q25] at hF
      refine ab_iload_n d_MRunner_compared_107 rfl rfl ?_
      refine ab_iconst (v := 5) d_MRunner_compared_108 (by decide) ?_
      refine ab_icmp_ne (tgt := 125) d_MRunner_compared_109 (by decide) (fun q26 => ?_) (fun q26 => ?_)
      · rw [if_neg q26] at hF
        refine ab_iload_n d_MRunner_compared_125 rfl rfl ?_
        refine ab_bipush (v := 6) d_MRunner_compared_126 (by decide) ?_
        refine ab_icmp_ne (tgt := 144) d_MRunner_compared_128 (by decide) (fun q27 => ?_) (fun q27 => ?_)
        · rw [if_neg q27] at hF
          refine ab_iload_n d_MRunner_compared_144 rfl rfl ?_
          refine ab_bipush (v := 7) d_MRunner_compared_145 (by decide) ?_
          refine ab_icmp_ne (tgt := 163) d_MRunner_compared_147 (by decide) (fun q28 => ?_) (fun q28 => ?_)
          · rw [if_neg q28] at hF
            refine ab_iload_n d_MRunner_compared_163 rfl rfl ?_
            refine ab_iload_n d_MRunner_compared_164 rfl rfl ?_
            refine ab_icmp_eq (tgt := 172) d_MRunner_compared_165 (by decide) (fun q29 => ?_) (fun q29 => ?_)
            · rw [if_pos q29] at hF
              refine ab_iconst (v := 0) d_MRunner_compared_172 (by decide) ?_
              refine ab_le (lv' := [some (.ref p0), none, none, none, none]) ⟨rfl, trivial⟩ ?_
              exact kB_MRunner_compared_173 ho hmo hF
            · rw [if_neg q29] at hF
              refine ab_iconst (v := 1) d_MRunner_compared_168 (by decide) ?_
              refine ab_goto (tgt := 173) d_MRunner_compared_169 (by decide) ?_
              refine ab_le (lv' := [some (.ref p0), none, none, none, none]) ⟨rfl, trivial⟩ ?_
              exact kB_MRunner_compared_173 ho hmo hF
          · rw [if_pos q28] at hF
            refine ab_iload_n d_MRunner_compared_150 rfl rfl ?_
            refine ab_iload_n d_MRunner_compared_151 rfl rfl ?_
            refine ab_icmp_ne (tgt := 159) d_MRunner_compared_152 (by decide) (fun q32 => ?_) (fun q32 => ?_)
            · rw [if_neg q32] at hF
              refine ab_iconst (v := 0) d_MRunner_compared_159 (by decide) ?_
              refine ab_goto (tgt := 173) d_MRunner_compared_160 (by decide) ?_
              refine ab_le (lv' := [some (.ref p0), none, none, none, none]) ⟨rfl, trivial⟩ ?_
              exact kB_MRunner_compared_173 ho hmo hF
            · rw [if_pos q32] at hF
              refine ab_iconst (v := 1) d_MRunner_compared_155 (by decide) ?_
              refine ab_goto (tgt := 173) d_MRunner_compared_156 (by decide) ?_
              refine ab_le (lv' := [some (.ref p0), none, none, none, none]) ⟨rfl, trivial⟩ ?_
              exact kB_MRunner_compared_173 ho hmo hF
        · rw [if_pos q27] at hF
          refine ab_iload_n d_MRunner_compared_131 rfl rfl ?_
          refine ab_iload_n d_MRunner_compared_132 rfl rfl ?_
          refine ab_icmp_lt (tgt := 140) d_MRunner_compared_133 (by decide) (fun q33 => ?_) (fun q33 => ?_)
          · rw [if_pos q33] at hF
            refine ab_iconst (v := 0) d_MRunner_compared_140 (by decide) ?_
            refine ab_goto (tgt := 173) d_MRunner_compared_141 (by decide) ?_
            refine ab_le (lv' := [some (.ref p0), none, none, none, none]) ⟨rfl, trivial⟩ ?_
            exact kB_MRunner_compared_173 ho hmo hF
          · rw [if_neg q33] at hF
            refine ab_iconst (v := 1) d_MRunner_compared_136 (by decide) ?_
            refine ab_goto (tgt := 173) d_MRunner_compared_137 (by decide) ?_
            refine ab_le (lv' := [some (.ref p0), none, none, none, none]) ⟨rfl, trivial⟩ ?_
            exact kB_MRunner_compared_173 ho hmo hF
      · rw [if_pos q26] at hF
        refine ab_iload_n d_MRunner_compared_112 rfl rfl ?_
        refine ab_iload_n d_MRunner_compared_113 rfl rfl ?_
        refine ab_icmp_gt (tgt := 121) d_MRunner_compared_114 (by decide) (fun q34 => ?_) (fun q34 => ?_)
        · rw [if_pos q34] at hF
          refine ab_iconst (v := 0) d_MRunner_compared_121 (by decide) ?_
          refine ab_goto (tgt := 173) d_MRunner_compared_122 (by decide) ?_
          refine ab_le (lv' := [some (.ref p0), none, none, none, none]) ⟨rfl, trivial⟩ ?_
          exact kB_MRunner_compared_173 ho hmo hF
        · rw [if_neg q34] at hF
          refine ab_iconst (v := 1) d_MRunner_compared_117 (by decide) ?_
          refine ab_goto (tgt := 173) d_MRunner_compared_118 (by decide) ?_
          refine ab_le (lv' := [some (.ref p0), none, none, none, none]) ⟨rfl, trivial⟩ ?_
          exact kB_MRunner_compared_173 ho hmo hF
    · rw [if_pos q25] at hF
      refine ab_iload_n d_MRunner_compared_94 rfl rfl ?_
      refine ab_iload_n d_MRunner_compared_95 rfl rfl ?_
      refine ab_icmp_le (tgt := 103) d_MRunner_compared_96 (by decide) (fun q35 => ?_) (fun q35 => ?_)
      · rw [if_pos q35] at hF
        refine ab_iconst (v := 0) d_MRunner_compared_103 (by decide) ?_
        refine ab_goto (tgt := 173) d_MRunner_compared_104 (by decide) ?_
        refine ab_le (lv' := [some (.ref p0), none, none, none, none]) ⟨rfl, trivial⟩ ?_
        exact kB_MRunner_compared_173 ho hmo hF
      · rw [if_neg q35] at hF
        refine ab_iconst (v := 1) d_MRunner_compared_99 (by decide) ?_
        refine ab_goto (tgt := 173) d_MRunner_compared_100 (by decide) ?_
        refine ab_le (lv' := [some (.ref p0), none, none, none, none]) ⟨rfl, trivial⟩ ?_
        exact kB_MRunner_compared_173 ho hmo hF
  · rw [if_pos q24] at hF
    refine ab_iload_n d_MRunner_compared_75 rfl rfl ?_
    refine ab_iload_n d_MRunner_compared_76 rfl rfl ?_
    refine ab_icmp_ge (tgt := 84) d_MRunner_compared_77 (by decide) (fun q36 => ?_) (fun q36 => ?_)
    · rw [if_pos q36] at hF
      refine ab_iconst (v := 0) d_MRunner_compared_84 (by decide) ?_
      refine ab_goto (tgt := 173) d_MRunner_compared_85 (by decide) ?_
      refine ab_le (lv' := [some (.ref p0), none, none, none, none]) ⟨rfl, trivial⟩ ?_
      exact kB_MRunner_compared_173 ho hmo hF
    · rw [if_neg q36] at hF
      refine ab_iconst (v := 1) d_MRunner_compared_80 (by decide) ?_
      refine ab_goto (tgt := 173) d_MRunner_compared_81 (by decide) ?_
      refine ab_le (lv' := [some (.ref p0), none, none, none, none]) ⟨rfl, trivial⟩ ?_
      exact kB_MRunner_compared_173 ho hmo hF
def B_MRunner_compared_28 (N : Nat) (o : Orc_RunE) (p0 : Nat) (l1 : Int32) (w0 : Int32) (H : Hp) : Option (Int32 × Hp) :=
    if w0 = (60 : Int32) then
    B_MRunner_compared_54 N o p0 l1 w0 H
    else
    if w0 = (62 : Int32) then
    B_MRunner_compared_54 N o p0 l1 w0 H
    else
    if w0 < (5 : Int32) then
    some (l1, H)
    else
    if w0 ≤ (8 : Int32) then
    B_MRunner_compared_54 N o p0 l1 w0 H
    else
    some (l1, H)
set_option maxRecDepth 20000 in
set_option maxHeartbeats 2000000 in
theorem mB_MRunner_compared_28 {N : Nat} {o : Orc_RunE} (hmo : mo_RunE o) {p0 : Nat} {l1 : Int32} {w0 : Int32} {H : Hp} {r : Int32 × Hp} (hF : B_MRunner_compared_28 N o p0 l1 w0 H = some r) : Sa H r.2 := by
  unfold B_MRunner_compared_28 at hF
  have hm := Sa.rf H
  rcases ite_s hF with ⟨q_18, hG⟩ | ⟨q_18, hG⟩
  · clear hF
    exact hm.tr (mB_MRunner_compared_54 hmo hG)
  · clear hF
    rcases ite_s hG with ⟨q_19, hF⟩ | ⟨q_19, hF⟩
    · clear hG
      exact hm.tr (mB_MRunner_compared_54 hmo hF)
    · clear hG
      rcases ite_s hF with ⟨q_20, hG⟩ | ⟨q_20, hG⟩
      · clear hF
        have hr := Option.some.inj hG; subst hr
        exact hm
      · clear hF
        rcases ite_s hG with ⟨q_21, hF⟩ | ⟨q_21, hF⟩
        · clear hG
          exact hm.tr (mB_MRunner_compared_54 hmo hF)
        · clear hG
          have hr := Option.some.inj hF; subst hr
          exact hm
set_option maxRecDepth 20000 in
set_option maxHeartbeats 2000000 in
theorem kB_MRunner_compared_28 {N : Nat} {o : Orc_RunE} {fr lo : Nat} (ho : ok_RunE o fr lo) (hmo : mo_RunE o) {p0 : Nat} {l1 : Int32} {w0 : Int32} {H : Hp} {r : Int32 × Hp} (hF : B_MRunner_compared_28 N o p0 l1 w0 H = some r) : ab_V y_MRunner_compared { frames := fr + 3, cells := 0, slots := 0, locals := lo + 77 } (po (.returned (some (.int r.1))) r.2) 0 0 0 0 28 [some (.ref p0), some (.int l1), none, none, none] [.int w0] (hpw H) := by
  unfold B_MRunner_compared_28 at hF
  refine ab_istore_n (lv' := [some (.ref p0), some (.int l1), some (.int w0), none, none]) d_MRunner_compared_28 rfl (by decide) rfl ?_
  refine ab_iload_n d_MRunner_compared_29 rfl rfl ?_
  refine ab_bipush (v := 60) d_MRunner_compared_30 (by decide) ?_
  refine ab_icmp_eq (tgt := 54) d_MRunner_compared_32 (by decide) (fun q17 => ?_) (fun q17 => ?_)
  · rw [if_pos q17] at hF
    exact kB_MRunner_compared_54 ho hmo hF
  · rw [if_neg q17] at hF
    refine ab_iload_n d_MRunner_compared_35 rfl rfl ?_
    refine ab_bipush (v := 62) d_MRunner_compared_36 (by decide) ?_
    refine ab_icmp_eq (tgt := 54) d_MRunner_compared_38 (by decide) (fun q54 => ?_) (fun q54 => ?_)
    · rw [if_pos q54] at hF
      exact kB_MRunner_compared_54 ho hmo hF
    · rw [if_neg q54] at hF
      refine ab_iload_n d_MRunner_compared_41 rfl rfl ?_
      refine ab_iconst (v := 5) d_MRunner_compared_42 (by decide) ?_
      refine ab_icmp_lt (tgt := 52) d_MRunner_compared_43 (by decide) (fun q55 => ?_) (fun q55 => ?_)
      · rw [if_pos q55] at hF
        refine ab_iload_n d_MRunner_compared_52 rfl rfl ?_
        exact ab_iret d_MRunner_compared_53 rfl (Nat.le_refl _) (Nat.le_refl _) (by have hr := Option.some.inj hF; subst hr; exact ⟨rfl, rfl⟩)
      · rw [if_neg q55] at hF
        refine ab_iload_n d_MRunner_compared_46 rfl rfl ?_
        refine ab_bipush (v := 8) d_MRunner_compared_47 (by decide) ?_
        refine ab_icmp_le (tgt := 54) d_MRunner_compared_49 (by decide) (fun q56 => ?_) (fun q56 => ?_)
        · rw [if_pos q56] at hF
          exact kB_MRunner_compared_54 ho hmo hF
        · rw [if_neg q56] at hF
          refine ab_iload_n d_MRunner_compared_52 rfl rfl ?_
          exact ab_iret d_MRunner_compared_53 rfl (Nat.le_refl _) (Nat.le_refl _) (by have hr := Option.some.inj hF; subst hr; exact ⟨rfl, rfl⟩)
def F_MRunner_compared (N : Nat) (o : Orc_RunE) (p0 : Nat) (H : Hp) : Option (Int32 × Hp) :=
    ck (H.sh[p0]? = some (15, 0)) <|
    bC (F_MRunner_sum N o p0 H) fun v3 H4 =>
    bnd ((H4.D p0 10)) fun x5 =>
    if x5 ≤ (0 : Int32) then
    rf (H4.P p0 0) fun a7 =>
    ck (H4.sh[a7]? = some (14, 0)) <|
    rf (H4.P a7 3) fun a10 =>
    bnd ((H4.D p0 11)) fun x12 =>
    ar H4 100 a10 fun n13 =>
    ck (inb x12 n13) <|
    bnd ((H4.D a10 (x12).toNatClampNeg)) fun x16 =>
    B_MRunner_compared_28 N o p0 v3 x16 H4
    else
    B_MRunner_compared_28 N o p0 v3 0 H4
set_option maxRecDepth 20000 in
set_option maxHeartbeats 2000000 in
theorem m_MRunner_compared {N : Nat} {o : Orc_RunE} (hmo : mo_RunE o) {p0 : Nat} {H : Hp} {r : Int32 × Hp} (hF : F_MRunner_compared N o p0 H = some r) : Sa H r.2 := by
  unfold F_MRunner_compared at hF
  have hm := Sa.rf H
  obtain ⟨q61, hG⟩ := ck_s hF; clear hF
  obtain ⟨v63, H64, z62, hF⟩ := bC_s hG; clear hG
  replace hm : Sa H H64 := hm.tr (m_MRunner_sum hmo z62)
  obtain ⟨x65, -, hG⟩ := bnd_g hF; clear hF
  rcases ite_s hG with ⟨q_23, hF⟩ | ⟨q_23, hF⟩
  · clear hG
    obtain ⟨a67, e68, hG⟩ := rf_s hF; clear hF
    obtain ⟨q69, hF⟩ := ck_s hG; clear hG
    obtain ⟨a70, e71, hG⟩ := rf_s hF; clear hF
    obtain ⟨x72, -, hF⟩ := bnd_g hG; clear hG
    obtain ⟨n73, q74, hG⟩ := ar_s hF; clear hF
    obtain ⟨q75, hF⟩ := ck_s hG; clear hG
    obtain ⟨x76, -, hG⟩ := bnd_g hF; clear hF
    exact hm.tr (mB_MRunner_compared_28 hmo hG)
  · clear hG
    exact hm.tr (mB_MRunner_compared_28 hmo hF)
set_option maxRecDepth 20000 in
set_option maxHeartbeats 2000000 in
theorem k_MRunner_compared {N : Nat} {o : Orc_RunE} {fr lo : Nat} (ho : ok_RunE o fr lo) (hmo : mo_RunE o) {p0 : Nat} {H : Hp} {r : Int32 × Hp} (hF : F_MRunner_compared N o p0 H = some r) : ab_M y_MRunner_compared { frames := fr + 3, cells := 0, slots := 0, locals := lo + 77 } [.ref p0] (hpw H) (po (.returned (some (.int r.1))) r.2) := by
  unfold F_MRunner_compared at hF
  refine ab_of2 (lv := [some (.ref p0), none, none, none, none]) 4 rfl rfl (Nat.le_of_ble_eq_true rfl) ?_
  refine ab_aload_n d_MRunner_compared_0 rfl rfl rfl ?_
  obtain ⟨q1, hG⟩ := ck_s hF; clear hF
  obtain ⟨v3, H4, z2, hF⟩ := bC_s hG; clear hG
  refine hp_callV_a (v := .int v3) (H1 := H4) (As := []) (rest := []) d_MRunner_compared_1 (k_MRunner_sum ho hmo z2) (ab_mkC s_MRunner_sum (show (fr + 2) + 1 ≤ fr + 3 from by have := ho.1; omega) (show 8 + (4 + 11) + (lo + 54) ≤ lo + 77 from by have := ho.2.1; omega) (Nat.le_refl 0) (Nat.le_refl 0)) (k12 22 rfl rfl) i_MRunner_sum v_MRunner_sum q1 (by decide) rfl rfl (Nat.le_of_ble_eq_true rfl) ?_
  have s_1 : Sa H H4 := (m_MRunner_sum hmo z2)
  refine ab_istore_n (lv' := [some (.ref p0), some (.int v3), none, none, none]) d_MRunner_compared_4 rfl (by decide) rfl ?_
  refine ab_aload_n d_MRunner_compared_5 rfl rfl rfl ?_
  refine hp_getI (f := 10) d_MRunner_compared_6 (by rw [(s_1).1]; exact q1) (by decide) rfl (by decide) (k9 193 rfl rfl) rfl ?_
  refine ab_topi (fun x5 ex5 => ?_)
  replace hF := bnd_s ex5 hF
  refine ab_if_le (tgt := 16) d_MRunner_compared_9 (by decide) (fun q6 => ?_) (fun q6 => ?_)
  · rw [if_pos q6] at hF
    refine ab_aload_n d_MRunner_compared_16 rfl rfl rfl ?_
    obtain ⟨a7, e8, hG⟩ := rf_s hF; clear hF
    refine hp_getR (f := 0) d_MRunner_compared_17 (by rw [(s_1).1]; exact q1) (by decide) rfl (by decide) (k9 183 rfl rfl) rfl e8 ?_
    obtain ⟨q9, hF⟩ := ck_s hG; clear hG
    rw [(s_1).1] at q9
    obtain ⟨a10, e11, hG⟩ := rf_s hF; clear hF
    refine hp_getRN (f := 3) d_MRunner_compared_20 (by rw [(s_1).1]; exact q9) (by decide) rfl (by decide) (k8 163 rfl rfl) rfl e11 ?_
    refine ab_aload_n d_MRunner_compared_23 rfl rfl rfl ?_
    refine hp_getI (f := 11) d_MRunner_compared_24 (by rw [(s_1).1]; exact q1) (by decide) rfl (by decide) (k9 194 rfl rfl) rfl ?_
    refine ab_topi (fun x12 ex12 => ?_)
    replace hG := bnd_s ex12 hG
    obtain ⟨n13, q14, hF⟩ := ar_s hG; clear hG
    rw [(s_1).1] at q14
    obtain ⟨q15, hG⟩ := ck_s hF; clear hF
    refine hp_iald d_MRunner_compared_27 tI (by rw [(s_1).1]; exact q14) q15 ?_
    refine ab_topi (fun x16 ex16 => ?_)
    replace hG := bnd_s ex16 hG
    exact kB_MRunner_compared_28 ho hmo hG
  · rw [if_neg q6] at hF
    refine ab_iconst (v := 0) d_MRunner_compared_12 (by decide) ?_
    refine ab_goto (tgt := 28) d_MRunner_compared_13 (by decide) ?_
    exact kB_MRunner_compared_28 ho hmo hF
def y_MRunner_both : ab_Y := (⟨"WorldEngineModel$Runner", "both", "()I"⟩, prog_15_method_23_code, 3, (some FieldType.int), [])
theorem d_MRunner_both_0 : decode y_MRunner_both.2.1 0 = .ok (.aload_n 0, 1) := by decide +kernel
theorem d_MRunner_both_1 : decode y_MRunner_both.2.1 1 = .ok (.invokevirtual 245, 3) := by decide +kernel
theorem d_MRunner_both_4 : decode y_MRunner_both.2.1 4 = .ok (.istore_n 1, 1) := by decide +kernel
theorem d_MRunner_both_5 : decode y_MRunner_both.2.1 5 = .ok (.aload_n 0, 1) := by decide +kernel
theorem d_MRunner_both_6 : decode y_MRunner_both.2.1 6 = .ok (.bipush 9, 2) := by decide +kernel
theorem d_MRunner_both_8 : decode y_MRunner_both.2.1 8 = .ok (.invokevirtual 242, 3) := by decide +kernel
theorem d_MRunner_both_11 : decode y_MRunner_both.2.1 11 = .ok (.ifCond .eq 67, 3) := by decide +kernel
theorem d_MRunner_both_14 : decode y_MRunner_both.2.1 14 = .ok (.aload_n 0, 1) := by decide +kernel
theorem d_MRunner_both_15 : decode y_MRunner_both.2.1 15 = .ok (.dup, 1) := by decide +kernel
theorem d_MRunner_both_16 : decode y_MRunner_both.2.1 16 = .ok (.getfield 108, 3) := by decide +kernel
theorem d_MRunner_both_19 : decode y_MRunner_both.2.1 19 = .ok (.iconst 1, 1) := by decide +kernel
theorem d_MRunner_both_20 : decode y_MRunner_both.2.1 20 = .ok (.iadd, 1) := by decide +kernel
theorem d_MRunner_both_21 : decode y_MRunner_both.2.1 21 = .ok (.putfield 108, 3) := by decide +kernel
theorem d_MRunner_both_24 : decode y_MRunner_both.2.1 24 = .ok (.aload_n 0, 1) := by decide +kernel
theorem d_MRunner_both_25 : decode y_MRunner_both.2.1 25 = .ok (.dup, 1) := by decide +kernel
theorem d_MRunner_both_26 : decode y_MRunner_both.2.1 26 = .ok (.getfield 99, 3) := by decide +kernel
theorem d_MRunner_both_29 : decode y_MRunner_both.2.1 29 = .ok (.iload_n 1, 1) := by decide +kernel
theorem d_MRunner_both_30 : decode y_MRunner_both.2.1 30 = .ok (.ifCond .ne 7, 3) := by decide +kernel
theorem d_MRunner_both_33 : decode y_MRunner_both.2.1 33 = .ok (.iconst 1, 1) := by decide +kernel
theorem d_MRunner_both_34 : decode y_MRunner_both.2.1 34 = .ok (.goto 4, 3) := by decide +kernel
theorem d_MRunner_both_37 : decode y_MRunner_both.2.1 37 = .ok (.iconst 0, 1) := by decide +kernel
theorem d_MRunner_both_38 : decode y_MRunner_both.2.1 38 = .ok (.iadd, 1) := by decide +kernel
theorem d_MRunner_both_39 : decode y_MRunner_both.2.1 39 = .ok (.putfield 99, 3) := by decide +kernel
theorem d_MRunner_both_42 : decode y_MRunner_both.2.1 42 = .ok (.aload_n 0, 1) := by decide +kernel
theorem d_MRunner_both_43 : decode y_MRunner_both.2.1 43 = .ok (.invokevirtual 245, 3) := by decide +kernel
theorem d_MRunner_both_46 : decode y_MRunner_both.2.1 46 = .ok (.istore_n 2, 1) := by decide +kernel
theorem d_MRunner_both_47 : decode y_MRunner_both.2.1 47 = .ok (.aload_n 0, 1) := by decide +kernel
theorem d_MRunner_both_48 : decode y_MRunner_both.2.1 48 = .ok (.dup, 1) := by decide +kernel
theorem d_MRunner_both_49 : decode y_MRunner_both.2.1 49 = .ok (.getfield 99, 3) := by decide +kernel
theorem d_MRunner_both_52 : decode y_MRunner_both.2.1 52 = .ok (.iload_n 1, 1) := by decide +kernel
theorem d_MRunner_both_53 : decode y_MRunner_both.2.1 53 = .ok (.ifCond .ne 7, 3) := by decide +kernel
theorem d_MRunner_both_56 : decode y_MRunner_both.2.1 56 = .ok (.iconst 1, 1) := by decide +kernel
theorem d_MRunner_both_57 : decode y_MRunner_both.2.1 57 = .ok (.goto 4, 3) := by decide +kernel
theorem d_MRunner_both_60 : decode y_MRunner_both.2.1 60 = .ok (.iconst 0, 1) := by decide +kernel
theorem d_MRunner_both_61 : decode y_MRunner_both.2.1 61 = .ok (.isub, 1) := by decide +kernel
theorem d_MRunner_both_62 : decode y_MRunner_both.2.1 62 = .ok (.putfield 99, 3) := by decide +kernel
theorem d_MRunner_both_65 : decode y_MRunner_both.2.1 65 = .ok (.iload_n 1, 1) := by decide +kernel
theorem d_MRunner_both_66 : decode y_MRunner_both.2.1 66 = .ok (.ifCond .ne 7, 3) := by decide +kernel
theorem d_MRunner_both_69 : decode y_MRunner_both.2.1 69 = .ok (.iconst 0, 1) := by decide +kernel
theorem d_MRunner_both_70 : decode y_MRunner_both.2.1 70 = .ok (.goto 4, 3) := by decide +kernel
theorem d_MRunner_both_73 : decode y_MRunner_both.2.1 73 = .ok (.iload_n 2, 1) := by decide +kernel
theorem d_MRunner_both_74 : decode y_MRunner_both.2.1 74 = .ok (.istore_n 1, 1) := by decide +kernel
theorem d_MRunner_both_75 : decode y_MRunner_both.2.1 75 = .ok (.goto (-70), 3) := by decide +kernel
theorem d_MRunner_both_78 : decode y_MRunner_both.2.1 78 = .ok (.iload_n 1, 1) := by decide +kernel
theorem d_MRunner_both_79 : decode y_MRunner_both.2.1 79 = .ok (.ireturn, 1) := by decide +kernel
theorem s_MRunner_both : ab_Stat y_MRunner_both 0 := ⟨(k12 17 rfl rfl), (k1 22 rfl rfl), ⟨by decide, by decide⟩, by decide +kernel⟩
theorem i_MRunner_both : Cond.instanceMethod y_MRunner_both.1 ∈ ab_T := (k12 16 rfl rfl)
theorem v_MRunner_both : Cond.selects "WorldEngineModel$Runner" y_MRunner_both.1 y_MRunner_both.1 ∈ ab_T := ab_s (List.mem_of_getElem? (i := 182) rfl) rfl
def B_MRunner_both_74 (N : Nat) (o : Orc_RunE) (p0 : Nat) (kq5 : Int32 → Hp → Option (Int32 × Hp)) (w0 : Int32) (H : Hp) : Option (Int32 × Hp) :=
    kq5 w0 H
set_option maxRecDepth 20000 in
set_option maxHeartbeats 2000000 in
theorem mB_MRunner_both_74 {N : Nat} {o : Orc_RunE} (hmo : mo_RunE o) {p0 : Nat} {kq5 : Int32 → Hp → Option (Int32 × Hp)} (hm5 : ∀ (l1 : Int32) (H : Hp) (r : Int32 × Hp), kq5 l1 H = some r → Sa H r.2) {w0 : Int32} {H : Hp} {r : Int32 × Hp} (hF : B_MRunner_both_74 N o p0 kq5 w0 H = some r) : Sa H r.2 := by
  unfold B_MRunner_both_74 at hF
  have hm := Sa.rf H
  exact hm.tr (hm5 w0 H r hF)
set_option maxRecDepth 20000 in
set_option maxHeartbeats 2000000 in
theorem kB_MRunner_both_74 {N : Nat} {o : Orc_RunE} {fr lo : Nat} (ho : ok_RunE o fr lo) (hmo : mo_RunE o) {p0 : Nat} {kq5 : Int32 → Hp → Option (Int32 × Hp)} (hm5 : ∀ (l1 : Int32) (H : Hp) (r : Int32 × Hp), kq5 l1 H = some r → Sa H r.2) (hk5 : ∀ (l1 : Int32) (H : Hp) (r : Int32 × Hp), kq5 l1 H = some r → ab_V y_MRunner_both { frames := fr + 4, cells := 0, slots := 0, locals := lo + 101 } (po (.returned (some (.int r.1))) r.2) 0 0 0 0 5 [some (.ref p0), some (.int l1), none] [] (hpw H)) {w0 : Int32} {H : Hp} {r : Int32 × Hp} (hF : B_MRunner_both_74 N o p0 kq5 w0 H = some r) : ab_V y_MRunner_both { frames := fr + 4, cells := 0, slots := 0, locals := lo + 101 } (po (.returned (some (.int r.1))) r.2) 0 0 0 0 74 [some (.ref p0), none, none] [.int w0] (hpw H) := by
  unfold B_MRunner_both_74 at hF
  refine ab_istore_n (lv' := [some (.ref p0), some (.int w0), none]) d_MRunner_both_74 rfl (by decide) rfl ?_
  refine ab_goto (tgt := 5) d_MRunner_both_75 (by decide) ?_
  exact hk5 w0 H r hF
def B_MRunner_both_61 (N : Nat) (o : Orc_RunE) (p0 : Nat) (kq5 : Int32 → Hp → Option (Int32 × Hp)) (l1 : Int32) (l2 : Int32) (w0 : Nat) (w1 : Int32) (w2 : Int32) (H : Hp) : Option (Int32 × Hp) :=
    ck (H.sh[w0]? = some (15, 0)) <|
    bnd (H.sD w0 12 (w1 - w2)) fun H23 =>
    if l1 = (0 : Int32) then
    B_MRunner_both_74 N o p0 kq5 0 H23
    else
    B_MRunner_both_74 N o p0 kq5 l2 H23
set_option maxRecDepth 20000 in
set_option maxHeartbeats 2000000 in
theorem mB_MRunner_both_61 {N : Nat} {o : Orc_RunE} (hmo : mo_RunE o) {p0 : Nat} {kq5 : Int32 → Hp → Option (Int32 × Hp)} (hm5 : ∀ (l1 : Int32) (H : Hp) (r : Int32 × Hp), kq5 l1 H = some r → Sa H r.2) {l1 : Int32} {l2 : Int32} {w0 : Nat} {w1 : Int32} {w2 : Int32} {H : Hp} {r : Int32 × Hp} (hF : B_MRunner_both_61 N o p0 kq5 l1 l2 w0 w1 w2 H = some r) : Sa H r.2 := by
  unfold B_MRunner_both_61 at hF
  have hm := Sa.rf H
  obtain ⟨q25, hG⟩ := ck_s hF; clear hF
  obtain ⟨H26, eH26, hF⟩ := bnd_g hG; clear hG
  replace hm : Sa H H26 := by rw [eH26]; exact hm
  rcases ite_s hF with ⟨q_8, hG⟩ | ⟨q_8, hG⟩
  · clear hF
    exact hm.tr (mB_MRunner_both_74 hmo hm5 hG)
  · clear hF
    exact hm.tr (mB_MRunner_both_74 hmo hm5 hG)
set_option maxRecDepth 20000 in
set_option maxHeartbeats 2000000 in
theorem kB_MRunner_both_61 {N : Nat} {o : Orc_RunE} {fr lo : Nat} (ho : ok_RunE o fr lo) (hmo : mo_RunE o) {p0 : Nat} {kq5 : Int32 → Hp → Option (Int32 × Hp)} (hm5 : ∀ (l1 : Int32) (H : Hp) (r : Int32 × Hp), kq5 l1 H = some r → Sa H r.2) (hk5 : ∀ (l1 : Int32) (H : Hp) (r : Int32 × Hp), kq5 l1 H = some r → ab_V y_MRunner_both { frames := fr + 4, cells := 0, slots := 0, locals := lo + 101 } (po (.returned (some (.int r.1))) r.2) 0 0 0 0 5 [some (.ref p0), some (.int l1), none] [] (hpw H)) {l1 : Int32} {l2 : Int32} {w0 : Nat} {w1 : Int32} {w2 : Int32} {H : Hp} {r : Int32 × Hp} (hF : B_MRunner_both_61 N o p0 kq5 l1 l2 w0 w1 w2 H = some r) : ab_V y_MRunner_both { frames := fr + 4, cells := 0, slots := 0, locals := lo + 101 } (po (.returned (some (.int r.1))) r.2) 0 0 0 0 61 [some (.ref p0), some (.int l1), some (.int l2)] [.int w2, .int w1, .ref w0] (hpw H) := by
  unfold B_MRunner_both_61 at hF
  refine ab_isub d_MRunner_both_61 ?_
  obtain ⟨q22, hG⟩ := ck_s hF; clear hF
  refine hp_putI (v := w1 - w2) (f := 12) d_MRunner_both_62 q22 (by decide) rfl (by decide) (k9 195 rfl rfl) rfl rfl (fun _ => rfl) (fun _ => rfl) rfl ?_
  refine hp_gen (fun H23 eH23 => ?_)
  replace hG := bnd_s eH23 hG
  have s_6 : Sa H H23 := by rw [eH23]; exact Sa.rf _
  refine ab_iload_n d_MRunner_both_65 rfl rfl ?_
  refine ab_if_ne (tgt := 73) d_MRunner_both_66 (by decide) (fun q24 => ?_) (fun q24 => ?_)
  · rw [if_neg q24] at hG
    refine ab_iload_n d_MRunner_both_73 rfl rfl ?_
    refine ab_le (lv' := [some (.ref p0), none, none]) ⟨rfl, trivial⟩ ?_
    exact kB_MRunner_both_74 ho hmo hm5 hk5 hG
  · rw [if_pos q24] at hG
    refine ab_iconst (v := 0) d_MRunner_both_69 (by decide) ?_
    refine ab_goto (tgt := 74) d_MRunner_both_70 (by decide) ?_
    refine ab_le (lv' := [some (.ref p0), none, none]) ⟨rfl, trivial⟩ ?_
    exact kB_MRunner_both_74 ho hmo hm5 hk5 hG
def B_MRunner_both_38 (N : Nat) (o : Orc_RunE) (p0 : Nat) (kq5 : Int32 → Hp → Option (Int32 × Hp)) (l1 : Int32) (w0 : Nat) (w1 : Int32) (w2 : Int32) (H : Hp) : Option (Int32 × Hp) :=
    ck (H.sh[w0]? = some (15, 0)) <|
    bnd (H.sD w0 12 (w1 + w2)) fun H15 =>
    ck (H15.sh[p0]? = some (15, 0)) <|
    bC (F_MRunner_compared N o p0 H15) fun v18 H19 =>
    bnd ((H19.D p0 12)) fun x20 =>
    if l1 = (0 : Int32) then
    B_MRunner_both_61 N o p0 kq5 l1 v18 p0 x20 1 H19
    else
    B_MRunner_both_61 N o p0 kq5 l1 v18 p0 x20 0 H19
set_option maxRecDepth 20000 in
set_option maxHeartbeats 2000000 in
theorem mB_MRunner_both_38 {N : Nat} {o : Orc_RunE} (hmo : mo_RunE o) {p0 : Nat} {kq5 : Int32 → Hp → Option (Int32 × Hp)} (hm5 : ∀ (l1 : Int32) (H : Hp) (r : Int32 × Hp), kq5 l1 H = some r → Sa H r.2) {l1 : Int32} {w0 : Nat} {w1 : Int32} {w2 : Int32} {H : Hp} {r : Int32 × Hp} (hF : B_MRunner_both_38 N o p0 kq5 l1 w0 w1 w2 H = some r) : Sa H r.2 := by
  unfold B_MRunner_both_38 at hF
  have hm := Sa.rf H
  obtain ⟨q28, hG⟩ := ck_s hF; clear hF
  obtain ⟨H29, eH29, hF⟩ := bnd_g hG; clear hG
  replace hm : Sa H H29 := by rw [eH29]; exact hm
  obtain ⟨q30, hG⟩ := ck_s hF; clear hF
  obtain ⟨v32, H33, z31, hF⟩ := bC_s hG; clear hG
  replace hm : Sa H H33 := hm.tr (m_MRunner_compared hmo z31)
  obtain ⟨x34, -, hG⟩ := bnd_g hF; clear hF
  rcases ite_s hG with ⟨q_11, hF⟩ | ⟨q_11, hF⟩
  · clear hG
    exact hm.tr (mB_MRunner_both_61 hmo hm5 hF)
  · clear hG
    exact hm.tr (mB_MRunner_both_61 hmo hm5 hF)
set_option maxRecDepth 20000 in
set_option maxHeartbeats 2000000 in
theorem kB_MRunner_both_38 {N : Nat} {o : Orc_RunE} {fr lo : Nat} (ho : ok_RunE o fr lo) (hmo : mo_RunE o) {p0 : Nat} {kq5 : Int32 → Hp → Option (Int32 × Hp)} (hm5 : ∀ (l1 : Int32) (H : Hp) (r : Int32 × Hp), kq5 l1 H = some r → Sa H r.2) (hk5 : ∀ (l1 : Int32) (H : Hp) (r : Int32 × Hp), kq5 l1 H = some r → ab_V y_MRunner_both { frames := fr + 4, cells := 0, slots := 0, locals := lo + 101 } (po (.returned (some (.int r.1))) r.2) 0 0 0 0 5 [some (.ref p0), some (.int l1), none] [] (hpw H)) {l1 : Int32} {w0 : Nat} {w1 : Int32} {w2 : Int32} {H : Hp} {r : Int32 × Hp} (hF : B_MRunner_both_38 N o p0 kq5 l1 w0 w1 w2 H = some r) : ab_V y_MRunner_both { frames := fr + 4, cells := 0, slots := 0, locals := lo + 101 } (po (.returned (some (.int r.1))) r.2) 0 0 0 0 38 [some (.ref p0), some (.int l1), none] [.int w2, .int w1, .ref w0] (hpw H) := by
  unfold B_MRunner_both_38 at hF
  refine ab_iadd d_MRunner_both_38 ?_
  obtain ⟨q14, hG⟩ := ck_s hF; clear hF
  refine hp_putI (v := w1 + w2) (f := 12) d_MRunner_both_39 q14 (by decide) rfl (by decide) (k9 195 rfl rfl) rfl rfl (fun _ => rfl) (fun _ => rfl) rfl ?_
  refine hp_gen (fun H15 eH15 => ?_)
  replace hG := bnd_s eH15 hG
  have s_4 : Sa H H15 := by rw [eH15]; exact Sa.rf _
  refine ab_aload_n d_MRunner_both_42 rfl rfl rfl ?_
  obtain ⟨q16, hF⟩ := ck_s hG; clear hG
  rw [(s_4).1] at q16
  obtain ⟨v18, H19, z17, hG⟩ := bC_s hF; clear hF
  refine hp_callV_a (v := .int v18) (H1 := H19) (As := []) (rest := []) d_MRunner_both_43 (k_MRunner_compared ho hmo z17) (ab_mkC s_MRunner_compared (show (fr + 3) + 1 ≤ fr + 4 from by have := ho.1; omega) (show 8 + (5 + 11) + (lo + 77) ≤ lo + 101 from by have := ho.2.1; omega) (Nat.le_refl 0) (Nat.le_refl 0)) (k12 18 rfl rfl) i_MRunner_compared v_MRunner_compared (by rw [(s_4).1]; exact q16) (by decide) rfl rfl (Nat.le_of_ble_eq_true rfl) ?_
  have s_5 : Sa H H19 := (s_4).tr (m_MRunner_compared hmo z17)
  refine ab_istore_n (lv' := [some (.ref p0), some (.int l1), some (.int v18)]) d_MRunner_both_46 rfl (by decide) rfl ?_
  refine ab_aload_n d_MRunner_both_47 rfl rfl rfl ?_
  refine ab_dup d_MRunner_both_48 rfl ?_
  refine hp_getI (f := 12) d_MRunner_both_49 (by rw [(s_5).1]; exact q16) (by decide) rfl (by decide) (k9 195 rfl rfl) rfl ?_
  refine ab_topi (fun x20 ex20 => ?_)
  replace hG := bnd_s ex20 hG
  refine ab_iload_n d_MRunner_both_52 rfl rfl ?_
  refine ab_if_ne (tgt := 60) d_MRunner_both_53 (by decide) (fun q21 => ?_) (fun q21 => ?_)
  · rw [if_neg q21] at hG
    refine ab_iconst (v := 0) d_MRunner_both_60 (by decide) ?_
    exact kB_MRunner_both_61 ho hmo hm5 hk5 hG
  · rw [if_pos q21] at hG
    refine ab_iconst (v := 1) d_MRunner_both_56 (by decide) ?_
    refine ab_goto (tgt := 61) d_MRunner_both_57 (by decide) ?_
    exact kB_MRunner_both_61 ho hmo hm5 hk5 hG
def B_MRunner_both_5 (N : Nat) (o : Orc_RunE) (p0 : Nat) : Nat → Int32 → Hp → Option (Int32 × Hp)
  | 0, _, _ => none
  | n + 1, l1, H =>
    ck (H.sh[p0]? = some (15, 0)) <|
    bC (F_MRunner_is N p0 (9 : Int32) H) fun v7 H8 =>
    if v7 = (0 : Int32) then
    some (l1, H8)
    else
    bnd ((H8.D p0 11)) fun x10 =>
    bnd (H8.sD p0 11 (x10 + (1 : Int32))) fun H11 =>
    bnd ((H11.D p0 12)) fun x12 =>
    if l1 = (0 : Int32) then
    B_MRunner_both_38 N o p0 (fun l1 H => B_MRunner_both_5 N o p0 n l1 H) l1 p0 x12 1 H11
    else
    B_MRunner_both_38 N o p0 (fun l1 H => B_MRunner_both_5 N o p0 n l1 H) l1 p0 x12 0 H11
termination_by structural n => n
set_option maxRecDepth 20000 in
set_option maxHeartbeats 2000000 in
theorem mB_MRunner_both_5 {N : Nat} {o : Orc_RunE} (hmo : mo_RunE o) {p0 : Nat} : ∀ (n : Nat) (l1 : Int32) (H : Hp) (r : Int32 × Hp), B_MRunner_both_5 N o p0 n l1 H = some r → Sa H r.2 := by
  intro n
  induction n with
  | zero => intro l1 H r hF; rw [B_MRunner_both_5] at hF; cases hF
  | succ n ih =>
    intro l1 H r hF
    rw [B_MRunner_both_5] at hF
    have hm := Sa.rf H
    obtain ⟨q36, hG⟩ := ck_s hF; clear hF
    obtain ⟨v38, H39, z37, hF⟩ := bC_s hG; clear hG
    replace hm : Sa H H39 := hm.tr (m_MRunner_is z37)
    rcases ite_s hF with ⟨q_13, hG⟩ | ⟨q_13, hG⟩
    · clear hF
      have hr := Option.some.inj hG; subst hr
      exact hm
    · clear hF
      obtain ⟨x41, -, hF⟩ := bnd_g hG; clear hG
      obtain ⟨H42, eH42, hG⟩ := bnd_g hF; clear hF
      replace hm : Sa H H42 := by rw [eH42]; exact hm
      obtain ⟨x43, -, hF⟩ := bnd_g hG; clear hG
      rcases ite_s hF with ⟨q_15, hG⟩ | ⟨q_15, hG⟩
      · clear hF
        exact hm.tr (mB_MRunner_both_38 hmo ih hG)
      · clear hF
        exact hm.tr (mB_MRunner_both_38 hmo ih hG)
set_option maxRecDepth 20000 in
set_option maxHeartbeats 2000000 in
theorem kB_MRunner_both_5 {N : Nat} {o : Orc_RunE} {fr lo : Nat} (ho : ok_RunE o fr lo) (hmo : mo_RunE o) {p0 : Nat} : ∀ (n : Nat) (l1 : Int32) (H : Hp) (r : Int32 × Hp), B_MRunner_both_5 N o p0 n l1 H = some r → ab_V y_MRunner_both { frames := fr + 4, cells := 0, slots := 0, locals := lo + 101 } (po (.returned (some (.int r.1))) r.2) 0 0 0 0 5 [some (.ref p0), some (.int l1), none] [] (hpw H) := by
  intro n
  induction n with
  | zero => intro l1 H r hF; rw [B_MRunner_both_5] at hF; cases hF
  | succ n ih =>
    intro l1 H r hF
    rw [B_MRunner_both_5] at hF
    refine ab_aload_n d_MRunner_both_5 rfl rfl rfl ?_
    refine ab_bipush (v := 9) d_MRunner_both_6 (by decide) ?_
    obtain ⟨q5, hG⟩ := ck_s hF; clear hF
    obtain ⟨v7, H8, z6, hF⟩ := bC_s hG; clear hG
    refine hp_callV_a (v := .int v7) (H1 := H8) (As := [.int 9]) (rest := []) d_MRunner_both_8 (k_MRunner_is z6) (ab_mkC s_MRunner_is (show 0 + 1 ≤ fr + 4 from by have := ho.1; omega) (show 8 + (2 + 11) + 0 ≤ lo + 101 from by have := ho.2.1; omega) (Nat.le_refl 0) (Nat.le_refl 0)) (k12 34 rfl rfl) i_MRunner_is v_MRunner_is q5 (by decide) rfl rfl (Nat.le_of_ble_eq_true rfl) ?_
    have s_2 : Sa H H8 := (m_MRunner_is z6)
    refine ab_if_eq (tgt := 78) d_MRunner_both_11 (by decide) (fun q9 => ?_) (fun q9 => ?_)
    · rw [if_pos q9] at hF
      refine ab_iload_n d_MRunner_both_78 rfl rfl ?_
      exact ab_iret d_MRunner_both_79 rfl (Nat.le_refl _) (Nat.le_refl _) (by have hr := Option.some.inj hF; subst hr; exact ⟨rfl, rfl⟩)
    · rw [if_neg q9] at hF
      refine ab_aload_n d_MRunner_both_14 rfl rfl rfl ?_
      refine ab_dup d_MRunner_both_15 rfl ?_
      refine hp_getI (f := 11) d_MRunner_both_16 (by rw [(s_2).1]; exact q5) (by decide) rfl (by decide) (k9 194 rfl rfl) rfl ?_
      refine ab_topi (fun x10 ex10 => ?_)
      replace hF := bnd_s ex10 hF
      refine ab_iconst (v := 1) d_MRunner_both_19 (by decide) ?_
      refine ab_iadd d_MRunner_both_20 ?_
      refine hp_putI (v := x10 + (1 : Int32)) (f := 11) d_MRunner_both_21 (by rw [(s_2).1]; exact q5) (by decide) rfl (by decide) (k9 194 rfl rfl) rfl rfl (fun _ => rfl) (fun _ => rfl) rfl ?_
      refine hp_gen (fun H11 eH11 => ?_)
      replace hF := bnd_s eH11 hF
      have s_3 : Sa H H11 := by rw [eH11]; exact s_2
      refine ab_aload_n d_MRunner_both_24 rfl rfl rfl ?_
      refine ab_dup d_MRunner_both_25 rfl ?_
      refine hp_getI (f := 12) d_MRunner_both_26 (by rw [(s_3).1]; exact q5) (by decide) rfl (by decide) (k9 195 rfl rfl) rfl ?_
      refine ab_topi (fun x12 ex12 => ?_)
      replace hF := bnd_s ex12 hF
      refine ab_iload_n d_MRunner_both_29 rfl rfl ?_
      refine ab_if_ne (tgt := 37) d_MRunner_both_30 (by decide) (fun q13 => ?_) (fun q13 => ?_)
      · rw [if_neg q13] at hF
        refine ab_iconst (v := 0) d_MRunner_both_37 (by decide) ?_
        exact kB_MRunner_both_38 ho hmo (mB_MRunner_both_5 hmo n) ih hF
      · rw [if_pos q13] at hF
        refine ab_iconst (v := 1) d_MRunner_both_33 (by decide) ?_
        refine ab_goto (tgt := 38) d_MRunner_both_34 (by decide) ?_
        exact kB_MRunner_both_38 ho hmo (mB_MRunner_both_5 hmo n) ih hF
def F_MRunner_both (N : Nat) (o : Orc_RunE) (p0 : Nat) (H : Hp) : Option (Int32 × Hp) :=
    ck (H.sh[p0]? = some (15, 0)) <|
    bC (F_MRunner_compared N o p0 H) fun v3 H4 =>
    B_MRunner_both_5 N o p0 N v3 H4
set_option maxRecDepth 20000 in
set_option maxHeartbeats 2000000 in
theorem m_MRunner_both {N : Nat} {o : Orc_RunE} (hmo : mo_RunE o) {p0 : Nat} {H : Hp} {r : Int32 × Hp} (hF : F_MRunner_both N o p0 H = some r) : Sa H r.2 := by
  unfold F_MRunner_both at hF
  have hm := Sa.rf H
  obtain ⟨q45, hG⟩ := ck_s hF; clear hF
  obtain ⟨v47, H48, z46, hF⟩ := bC_s hG; clear hG
  replace hm : Sa H H48 := hm.tr (m_MRunner_compared hmo z46)
  exact hm.tr (mB_MRunner_both_5 hmo N v47 H48 r hF)
set_option maxRecDepth 20000 in
set_option maxHeartbeats 2000000 in
theorem k_MRunner_both {N : Nat} {o : Orc_RunE} {fr lo : Nat} (ho : ok_RunE o fr lo) (hmo : mo_RunE o) {p0 : Nat} {H : Hp} {r : Int32 × Hp} (hF : F_MRunner_both N o p0 H = some r) : ab_M y_MRunner_both { frames := fr + 4, cells := 0, slots := 0, locals := lo + 101 } [.ref p0] (hpw H) (po (.returned (some (.int r.1))) r.2) := by
  unfold F_MRunner_both at hF
  refine ab_of2 (lv := [some (.ref p0), none, none]) 2 rfl rfl (Nat.le_of_ble_eq_true rfl) ?_
  refine ab_aload_n d_MRunner_both_0 rfl rfl rfl ?_
  obtain ⟨q1, hG⟩ := ck_s hF; clear hF
  obtain ⟨v3, H4, z2, hF⟩ := bC_s hG; clear hG
  refine hp_callV_a (v := .int v3) (H1 := H4) (As := []) (rest := []) d_MRunner_both_1 (k_MRunner_compared ho hmo z2) (ab_mkC s_MRunner_compared (show (fr + 3) + 1 ≤ fr + 4 from by have := ho.1; omega) (show 8 + (5 + 11) + (lo + 77) ≤ lo + 101 from by have := ho.2.1; omega) (Nat.le_refl 0) (Nat.le_refl 0)) (k12 18 rfl rfl) i_MRunner_compared v_MRunner_compared q1 (by decide) rfl rfl (Nat.le_of_ble_eq_true rfl) ?_
  have s_1 : Sa H H4 := (m_MRunner_compared hmo z2)
  refine ab_istore_n (lv' := [some (.ref p0), some (.int v3), none]) d_MRunner_both_4 rfl (by decide) rfl ?_
  exact kB_MRunner_both_5 ho hmo N v3 H4 r hF
def B_MRunner_value_74 (N : Nat) (o : Orc_RunE) (p0 : Nat) (kq5 : Int32 → Hp → Option (Int32 × Hp)) (w0 : Int32) (H : Hp) : Option (Int32 × Hp) :=
    kq5 w0 H
set_option maxRecDepth 20000 in
set_option maxHeartbeats 2000000 in
theorem mB_MRunner_value_74 {N : Nat} {o : Orc_RunE} (hmo : mo_RunE o) {p0 : Nat} {kq5 : Int32 → Hp → Option (Int32 × Hp)} (hm5 : ∀ (l1 : Int32) (H : Hp) (r : Int32 × Hp), kq5 l1 H = some r → Sa H r.2) {w0 : Int32} {H : Hp} {r : Int32 × Hp} (hF : B_MRunner_value_74 N o p0 kq5 w0 H = some r) : Sa H r.2 := by
  unfold B_MRunner_value_74 at hF
  have hm := Sa.rf H
  exact hm.tr (hm5 w0 H r hF)
set_option maxRecDepth 20000 in
set_option maxHeartbeats 2000000 in
theorem kB_MRunner_value_74 {N : Nat} {o : Orc_RunE} {fr lo : Nat} (ho : ok_RunE o fr lo) (hmo : mo_RunE o) {p0 : Nat} {kq5 : Int32 → Hp → Option (Int32 × Hp)} (hm5 : ∀ (l1 : Int32) (H : Hp) (r : Int32 × Hp), kq5 l1 H = some r → Sa H r.2) (hk5 : ∀ (l1 : Int32) (H : Hp) (r : Int32 × Hp), kq5 l1 H = some r → ab_V y_MRunner_value { frames := fr + 5, cells := 0, slots := 0, locals := lo + 123 } (po (.returned (some (.int r.1))) r.2) 0 0 0 0 5 [some (.ref p0), some (.int l1), none] [] (hpw H)) {w0 : Int32} {H : Hp} {r : Int32 × Hp} (hF : B_MRunner_value_74 N o p0 kq5 w0 H = some r) : ab_V y_MRunner_value { frames := fr + 5, cells := 0, slots := 0, locals := lo + 123 } (po (.returned (some (.int r.1))) r.2) 0 0 0 0 74 [some (.ref p0), none, none] [.int w0] (hpw H) := by
  unfold B_MRunner_value_74 at hF
  refine ab_istore_n (lv' := [some (.ref p0), some (.int w0), none]) d_MRunner_value_74 rfl (by decide) rfl ?_
  refine ab_goto (tgt := 5) d_MRunner_value_75 (by decide) ?_
  exact hk5 w0 H r hF
def B_MRunner_value_61 (N : Nat) (o : Orc_RunE) (p0 : Nat) (kq5 : Int32 → Hp → Option (Int32 × Hp)) (l1 : Int32) (l2 : Int32) (w0 : Nat) (w1 : Int32) (w2 : Int32) (H : Hp) : Option (Int32 × Hp) :=
    ck (H.sh[w0]? = some (15, 0)) <|
    bnd (H.sD w0 12 (w1 - w2)) fun H23 =>
    if l1 = (0 : Int32) then
    B_MRunner_value_74 N o p0 kq5 l2 H23
    else
    B_MRunner_value_74 N o p0 kq5 l1 H23
set_option maxRecDepth 20000 in
set_option maxHeartbeats 2000000 in
theorem mB_MRunner_value_61 {N : Nat} {o : Orc_RunE} (hmo : mo_RunE o) {p0 : Nat} {kq5 : Int32 → Hp → Option (Int32 × Hp)} (hm5 : ∀ (l1 : Int32) (H : Hp) (r : Int32 × Hp), kq5 l1 H = some r → Sa H r.2) {l1 : Int32} {l2 : Int32} {w0 : Nat} {w1 : Int32} {w2 : Int32} {H : Hp} {r : Int32 × Hp} (hF : B_MRunner_value_61 N o p0 kq5 l1 l2 w0 w1 w2 H = some r) : Sa H r.2 := by
  unfold B_MRunner_value_61 at hF
  have hm := Sa.rf H
  obtain ⟨q25, hG⟩ := ck_s hF; clear hF
  obtain ⟨H26, eH26, hF⟩ := bnd_g hG; clear hG
  replace hm : Sa H H26 := by rw [eH26]; exact hm
  rcases ite_s hF with ⟨q_8, hG⟩ | ⟨q_8, hG⟩
  · clear hF
    exact hm.tr (mB_MRunner_value_74 hmo hm5 hG)
  · clear hF
    exact hm.tr (mB_MRunner_value_74 hmo hm5 hG)
set_option maxRecDepth 20000 in
set_option maxHeartbeats 2000000 in
theorem kB_MRunner_value_61 {N : Nat} {o : Orc_RunE} {fr lo : Nat} (ho : ok_RunE o fr lo) (hmo : mo_RunE o) {p0 : Nat} {kq5 : Int32 → Hp → Option (Int32 × Hp)} (hm5 : ∀ (l1 : Int32) (H : Hp) (r : Int32 × Hp), kq5 l1 H = some r → Sa H r.2) (hk5 : ∀ (l1 : Int32) (H : Hp) (r : Int32 × Hp), kq5 l1 H = some r → ab_V y_MRunner_value { frames := fr + 5, cells := 0, slots := 0, locals := lo + 123 } (po (.returned (some (.int r.1))) r.2) 0 0 0 0 5 [some (.ref p0), some (.int l1), none] [] (hpw H)) {l1 : Int32} {l2 : Int32} {w0 : Nat} {w1 : Int32} {w2 : Int32} {H : Hp} {r : Int32 × Hp} (hF : B_MRunner_value_61 N o p0 kq5 l1 l2 w0 w1 w2 H = some r) : ab_V y_MRunner_value { frames := fr + 5, cells := 0, slots := 0, locals := lo + 123 } (po (.returned (some (.int r.1))) r.2) 0 0 0 0 61 [some (.ref p0), some (.int l1), some (.int l2)] [.int w2, .int w1, .ref w0] (hpw H) := by
  unfold B_MRunner_value_61 at hF
  refine ab_isub d_MRunner_value_61 ?_
  obtain ⟨q22, hG⟩ := ck_s hF; clear hF
  refine hp_putI (v := w1 - w2) (f := 12) d_MRunner_value_62 q22 (by decide) rfl (by decide) (k9 195 rfl rfl) rfl rfl (fun _ => rfl) (fun _ => rfl) rfl ?_
  refine hp_gen (fun H23 eH23 => ?_)
  replace hG := bnd_s eH23 hG
  have s_6 : Sa H H23 := by rw [eH23]; exact Sa.rf _
  refine ab_iload_n d_MRunner_value_65 rfl rfl ?_
  refine ab_if_eq (tgt := 73) d_MRunner_value_66 (by decide) (fun q24 => ?_) (fun q24 => ?_)
  · rw [if_pos q24] at hG
    refine ab_iload_n d_MRunner_value_73 rfl rfl ?_
    refine ab_le (lv' := [some (.ref p0), none, none]) ⟨rfl, trivial⟩ ?_
    exact kB_MRunner_value_74 ho hmo hm5 hk5 hG
  · rw [if_neg q24] at hG
    refine ab_iload_n d_MRunner_value_69 rfl rfl ?_
    refine ab_goto (tgt := 74) d_MRunner_value_70 (by decide) ?_
    refine ab_le (lv' := [some (.ref p0), none, none]) ⟨rfl, trivial⟩ ?_
    exact kB_MRunner_value_74 ho hmo hm5 hk5 hG
def B_MRunner_value_38 (N : Nat) (o : Orc_RunE) (p0 : Nat) (kq5 : Int32 → Hp → Option (Int32 × Hp)) (l1 : Int32) (w0 : Nat) (w1 : Int32) (w2 : Int32) (H : Hp) : Option (Int32 × Hp) :=
    ck (H.sh[w0]? = some (15, 0)) <|
    bnd (H.sD w0 12 (w1 + w2)) fun H15 =>
    ck (H15.sh[p0]? = some (15, 0)) <|
    bC (F_MRunner_both N o p0 H15) fun v18 H19 =>
    bnd ((H19.D p0 12)) fun x20 =>
    if l1 = (0 : Int32) then
    B_MRunner_value_61 N o p0 kq5 l1 v18 p0 x20 0 H19
    else
    B_MRunner_value_61 N o p0 kq5 l1 v18 p0 x20 1 H19
set_option maxRecDepth 20000 in
set_option maxHeartbeats 2000000 in
theorem mB_MRunner_value_38 {N : Nat} {o : Orc_RunE} (hmo : mo_RunE o) {p0 : Nat} {kq5 : Int32 → Hp → Option (Int32 × Hp)} (hm5 : ∀ (l1 : Int32) (H : Hp) (r : Int32 × Hp), kq5 l1 H = some r → Sa H r.2) {l1 : Int32} {w0 : Nat} {w1 : Int32} {w2 : Int32} {H : Hp} {r : Int32 × Hp} (hF : B_MRunner_value_38 N o p0 kq5 l1 w0 w1 w2 H = some r) : Sa H r.2 := by
  unfold B_MRunner_value_38 at hF
  have hm := Sa.rf H
  obtain ⟨q28, hG⟩ := ck_s hF; clear hF
  obtain ⟨H29, eH29, hF⟩ := bnd_g hG; clear hG
  replace hm : Sa H H29 := by rw [eH29]; exact hm
  obtain ⟨q30, hG⟩ := ck_s hF; clear hF
  obtain ⟨v32, H33, z31, hF⟩ := bC_s hG; clear hG
  replace hm : Sa H H33 := hm.tr (m_MRunner_both hmo z31)
  obtain ⟨x34, -, hG⟩ := bnd_g hF; clear hF
  rcases ite_s hG with ⟨q_11, hF⟩ | ⟨q_11, hF⟩
  · clear hG
    exact hm.tr (mB_MRunner_value_61 hmo hm5 hF)
  · clear hG
    exact hm.tr (mB_MRunner_value_61 hmo hm5 hF)
set_option maxRecDepth 20000 in
set_option maxHeartbeats 2000000 in
theorem kB_MRunner_value_38 {N : Nat} {o : Orc_RunE} {fr lo : Nat} (ho : ok_RunE o fr lo) (hmo : mo_RunE o) {p0 : Nat} {kq5 : Int32 → Hp → Option (Int32 × Hp)} (hm5 : ∀ (l1 : Int32) (H : Hp) (r : Int32 × Hp), kq5 l1 H = some r → Sa H r.2) (hk5 : ∀ (l1 : Int32) (H : Hp) (r : Int32 × Hp), kq5 l1 H = some r → ab_V y_MRunner_value { frames := fr + 5, cells := 0, slots := 0, locals := lo + 123 } (po (.returned (some (.int r.1))) r.2) 0 0 0 0 5 [some (.ref p0), some (.int l1), none] [] (hpw H)) {l1 : Int32} {w0 : Nat} {w1 : Int32} {w2 : Int32} {H : Hp} {r : Int32 × Hp} (hF : B_MRunner_value_38 N o p0 kq5 l1 w0 w1 w2 H = some r) : ab_V y_MRunner_value { frames := fr + 5, cells := 0, slots := 0, locals := lo + 123 } (po (.returned (some (.int r.1))) r.2) 0 0 0 0 38 [some (.ref p0), some (.int l1), none] [.int w2, .int w1, .ref w0] (hpw H) := by
  unfold B_MRunner_value_38 at hF
  refine ab_iadd d_MRunner_value_38 ?_
  obtain ⟨q14, hG⟩ := ck_s hF; clear hF
  refine hp_putI (v := w1 + w2) (f := 12) d_MRunner_value_39 q14 (by decide) rfl (by decide) (k9 195 rfl rfl) rfl rfl (fun _ => rfl) (fun _ => rfl) rfl ?_
  refine hp_gen (fun H15 eH15 => ?_)
  replace hG := bnd_s eH15 hG
  have s_4 : Sa H H15 := by rw [eH15]; exact Sa.rf _
  refine ab_aload_n d_MRunner_value_42 rfl rfl rfl ?_
  obtain ⟨q16, hF⟩ := ck_s hG; clear hG
  rw [(s_4).1] at q16
  obtain ⟨v18, H19, z17, hG⟩ := bC_s hF; clear hF
  refine hp_callV_a (v := .int v18) (H1 := H19) (As := []) (rest := []) d_MRunner_value_43 (k_MRunner_both ho hmo z17) (ab_mkC s_MRunner_both (show (fr + 4) + 1 ≤ fr + 5 from by have := ho.1; omega) (show 8 + (3 + 11) + (lo + 101) ≤ lo + 123 from by have := ho.2.1; omega) (Nat.le_refl 0) (Nat.le_refl 0)) (k12 14 rfl rfl) i_MRunner_both v_MRunner_both (by rw [(s_4).1]; exact q16) (by decide) rfl rfl (Nat.le_of_ble_eq_true rfl) ?_
  have s_5 : Sa H H19 := (s_4).tr (m_MRunner_both hmo z17)
  refine ab_istore_n (lv' := [some (.ref p0), some (.int l1), some (.int v18)]) d_MRunner_value_46 rfl (by decide) rfl ?_
  refine ab_aload_n d_MRunner_value_47 rfl rfl rfl ?_
  refine ab_dup d_MRunner_value_48 rfl ?_
  refine hp_getI (f := 12) d_MRunner_value_49 (by rw [(s_5).1]; exact q16) (by decide) rfl (by decide) (k9 195 rfl rfl) rfl ?_
  refine ab_topi (fun x20 ex20 => ?_)
  replace hG := bnd_s ex20 hG
  refine ab_iload_n d_MRunner_value_52 rfl rfl ?_
  refine ab_if_eq (tgt := 60) d_MRunner_value_53 (by decide) (fun q21 => ?_) (fun q21 => ?_)
  · rw [if_pos q21] at hG
    refine ab_iconst (v := 0) d_MRunner_value_60 (by decide) ?_
    exact kB_MRunner_value_61 ho hmo hm5 hk5 hG
  · rw [if_neg q21] at hG
    refine ab_iconst (v := 1) d_MRunner_value_56 (by decide) ?_
    refine ab_goto (tgt := 61) d_MRunner_value_57 (by decide) ?_
    exact kB_MRunner_value_61 ho hmo hm5 hk5 hG
def B_MRunner_value_5 (N : Nat) (o : Orc_RunE) (p0 : Nat) : Nat → Int32 → Hp → Option (Int32 × Hp)
  | 0, _, _ => none
  | n + 1, l1, H =>
    ck (H.sh[p0]? = some (15, 0)) <|
    bC (F_MRunner_is N p0 (10 : Int32) H) fun v7 H8 =>
    if v7 = (0 : Int32) then
    some (l1, H8)
    else
    bnd ((H8.D p0 11)) fun x10 =>
    bnd (H8.sD p0 11 (x10 + (1 : Int32))) fun H11 =>
    bnd ((H11.D p0 12)) fun x12 =>
    if l1 = (0 : Int32) then
    B_MRunner_value_38 N o p0 (fun l1 H => B_MRunner_value_5 N o p0 n l1 H) l1 p0 x12 0 H11
    else
    B_MRunner_value_38 N o p0 (fun l1 H => B_MRunner_value_5 N o p0 n l1 H) l1 p0 x12 1 H11
termination_by structural n => n
set_option maxRecDepth 20000 in
set_option maxHeartbeats 2000000 in
theorem mB_MRunner_value_5 {N : Nat} {o : Orc_RunE} (hmo : mo_RunE o) {p0 : Nat} : ∀ (n : Nat) (l1 : Int32) (H : Hp) (r : Int32 × Hp), B_MRunner_value_5 N o p0 n l1 H = some r → Sa H r.2 := by
  intro n
  induction n with
  | zero => intro l1 H r hF; rw [B_MRunner_value_5] at hF; cases hF
  | succ n ih =>
    intro l1 H r hF
    rw [B_MRunner_value_5] at hF
    have hm := Sa.rf H
    obtain ⟨q36, hG⟩ := ck_s hF; clear hF
    obtain ⟨v38, H39, z37, hF⟩ := bC_s hG; clear hG
    replace hm : Sa H H39 := hm.tr (m_MRunner_is z37)
    rcases ite_s hF with ⟨q_13, hG⟩ | ⟨q_13, hG⟩
    · clear hF
      have hr := Option.some.inj hG; subst hr
      exact hm
    · clear hF
      obtain ⟨x41, -, hF⟩ := bnd_g hG; clear hG
      obtain ⟨H42, eH42, hG⟩ := bnd_g hF; clear hF
      replace hm : Sa H H42 := by rw [eH42]; exact hm
      obtain ⟨x43, -, hF⟩ := bnd_g hG; clear hG
      rcases ite_s hF with ⟨q_15, hG⟩ | ⟨q_15, hG⟩
      · clear hF
        exact hm.tr (mB_MRunner_value_38 hmo ih hG)
      · clear hF
        exact hm.tr (mB_MRunner_value_38 hmo ih hG)
set_option maxRecDepth 20000 in
set_option maxHeartbeats 2000000 in
theorem kB_MRunner_value_5 {N : Nat} {o : Orc_RunE} {fr lo : Nat} (ho : ok_RunE o fr lo) (hmo : mo_RunE o) {p0 : Nat} : ∀ (n : Nat) (l1 : Int32) (H : Hp) (r : Int32 × Hp), B_MRunner_value_5 N o p0 n l1 H = some r → ab_V y_MRunner_value { frames := fr + 5, cells := 0, slots := 0, locals := lo + 123 } (po (.returned (some (.int r.1))) r.2) 0 0 0 0 5 [some (.ref p0), some (.int l1), none] [] (hpw H) := by
  intro n
  induction n with
  | zero => intro l1 H r hF; rw [B_MRunner_value_5] at hF; cases hF
  | succ n ih =>
    intro l1 H r hF
    rw [B_MRunner_value_5] at hF
    refine ab_aload_n d_MRunner_value_5 rfl rfl rfl ?_
    refine ab_bipush (v := 10) d_MRunner_value_6 (by decide) ?_
    obtain ⟨q5, hG⟩ := ck_s hF; clear hF
    obtain ⟨v7, H8, z6, hF⟩ := bC_s hG; clear hG
    refine hp_callV_a (v := .int v7) (H1 := H8) (As := [.int 10]) (rest := []) d_MRunner_value_8 (k_MRunner_is z6) (ab_mkC s_MRunner_is (show 0 + 1 ≤ fr + 5 from by have := ho.1; omega) (show 8 + (2 + 11) + 0 ≤ lo + 123 from by have := ho.2.1; omega) (Nat.le_refl 0) (Nat.le_refl 0)) (k12 34 rfl rfl) i_MRunner_is v_MRunner_is q5 (by decide) rfl rfl (Nat.le_of_ble_eq_true rfl) ?_
    have s_2 : Sa H H8 := (m_MRunner_is z6)
    refine ab_if_eq (tgt := 78) d_MRunner_value_11 (by decide) (fun q9 => ?_) (fun q9 => ?_)
    · rw [if_pos q9] at hF
      refine ab_iload_n d_MRunner_value_78 rfl rfl ?_
      exact ab_iret d_MRunner_value_79 rfl (Nat.le_refl _) (Nat.le_refl _) (by have hr := Option.some.inj hF; subst hr; exact ⟨rfl, rfl⟩)
    · rw [if_neg q9] at hF
      refine ab_aload_n d_MRunner_value_14 rfl rfl rfl ?_
      refine ab_dup d_MRunner_value_15 rfl ?_
      refine hp_getI (f := 11) d_MRunner_value_16 (by rw [(s_2).1]; exact q5) (by decide) rfl (by decide) (k9 194 rfl rfl) rfl ?_
      refine ab_topi (fun x10 ex10 => ?_)
      replace hF := bnd_s ex10 hF
      refine ab_iconst (v := 1) d_MRunner_value_19 (by decide) ?_
      refine ab_iadd d_MRunner_value_20 ?_
      refine hp_putI (v := x10 + (1 : Int32)) (f := 11) d_MRunner_value_21 (by rw [(s_2).1]; exact q5) (by decide) rfl (by decide) (k9 194 rfl rfl) rfl rfl (fun _ => rfl) (fun _ => rfl) rfl ?_
      refine hp_gen (fun H11 eH11 => ?_)
      replace hF := bnd_s eH11 hF
      have s_3 : Sa H H11 := by rw [eH11]; exact s_2
      refine ab_aload_n d_MRunner_value_24 rfl rfl rfl ?_
      refine ab_dup d_MRunner_value_25 rfl ?_
      refine hp_getI (f := 12) d_MRunner_value_26 (by rw [(s_3).1]; exact q5) (by decide) rfl (by decide) (k9 195 rfl rfl) rfl ?_
      refine ab_topi (fun x12 ex12 => ?_)
      replace hF := bnd_s ex12 hF
      refine ab_iload_n d_MRunner_value_29 rfl rfl ?_
      refine ab_if_eq (tgt := 37) d_MRunner_value_30 (by decide) (fun q13 => ?_) (fun q13 => ?_)
      · rw [if_pos q13] at hF
        refine ab_iconst (v := 0) d_MRunner_value_37 (by decide) ?_
        exact kB_MRunner_value_38 ho hmo (mB_MRunner_value_5 hmo n) ih hF
      · rw [if_neg q13] at hF
        refine ab_iconst (v := 1) d_MRunner_value_33 (by decide) ?_
        refine ab_goto (tgt := 38) d_MRunner_value_34 (by decide) ?_
        exact kB_MRunner_value_38 ho hmo (mB_MRunner_value_5 hmo n) ih hF
def F_MRunner_value (N : Nat) (o : Orc_RunE) (p0 : Nat) (H : Hp) : Option (Int32 × Hp) :=
    ck (H.sh[p0]? = some (15, 0)) <|
    bC (F_MRunner_both N o p0 H) fun v3 H4 =>
    B_MRunner_value_5 N o p0 N v3 H4
set_option maxRecDepth 20000 in
set_option maxHeartbeats 2000000 in
theorem m_MRunner_value {N : Nat} {o : Orc_RunE} (hmo : mo_RunE o) {p0 : Nat} {H : Hp} {r : Int32 × Hp} (hF : F_MRunner_value N o p0 H = some r) : Sa H r.2 := by
  unfold F_MRunner_value at hF
  have hm := Sa.rf H
  obtain ⟨q45, hG⟩ := ck_s hF; clear hF
  obtain ⟨v47, H48, z46, hF⟩ := bC_s hG; clear hG
  replace hm : Sa H H48 := hm.tr (m_MRunner_both hmo z46)
  exact hm.tr (mB_MRunner_value_5 hmo N v47 H48 r hF)
set_option maxRecDepth 20000 in
set_option maxHeartbeats 2000000 in
theorem k_MRunner_value {N : Nat} {o : Orc_RunE} {fr lo : Nat} (ho : ok_RunE o fr lo) (hmo : mo_RunE o) {p0 : Nat} {H : Hp} {r : Int32 × Hp} (hF : F_MRunner_value N o p0 H = some r) : ab_M y_MRunner_value { frames := fr + 5, cells := 0, slots := 0, locals := lo + 123 } [.ref p0] (hpw H) (po (.returned (some (.int r.1))) r.2) := by
  unfold F_MRunner_value at hF
  refine ab_of2 (lv := [some (.ref p0), none, none]) 2 rfl rfl (Nat.le_of_ble_eq_true rfl) ?_
  refine ab_aload_n d_MRunner_value_0 rfl rfl rfl ?_
  obtain ⟨q1, hG⟩ := ck_s hF; clear hF
  obtain ⟨v3, H4, z2, hF⟩ := bC_s hG; clear hG
  refine hp_callV_a (v := .int v3) (H1 := H4) (As := []) (rest := []) d_MRunner_value_1 (k_MRunner_both ho hmo z2) (ab_mkC s_MRunner_both (show (fr + 4) + 1 ≤ fr + 5 from by have := ho.1; omega) (show 8 + (3 + 11) + (lo + 101) ≤ lo + 123 from by have := ho.2.1; omega) (Nat.le_refl 0) (Nat.le_refl 0)) (k12 14 rfl rfl) i_MRunner_both v_MRunner_both q1 (by decide) rfl rfl (Nat.le_of_ble_eq_true rfl) ?_
  have s_1 : Sa H H4 := (m_MRunner_both hmo z2)
  refine ab_istore_n (lv' := [some (.ref p0), some (.int v3), none]) d_MRunner_value_4 rfl (by decide) rfl ?_
  exact kB_MRunner_value_5 ho hmo N v3 H4 r hF
def X_RunE (N : Nat) : Nat → Orc_RunE
  | 0 => (fun _ _ => none, fun _ _ => none)
  | d + 1 => (fun a0 H => F_MRunner_value N (X_RunE N d) a0 H, fun a0 H => F_MRunner_unary N (X_RunE N d) a0 H)
termination_by structural d => d
theorem moX_RunE {N : Nat} : ∀ d, mo_RunE (X_RunE N d) := by
  intro d
  induction d with
  | zero => exact ⟨(fun _ _ _ hz => absurd (show none = some _ from hz) (by simp)), (fun _ _ _ hz => absurd (show none = some _ from hz) (by simp))⟩
  | succ d ih => exact ⟨(fun _ _ _ hz => m_MRunner_value ih hz), (fun _ _ _ hz => m_MRunner_unary ih hz)⟩
theorem okX_RunE {N : Nat} : ∀ d, ok_RunE (X_RunE N d) (3 + 5 * d) (65 + 123 * d) := by
  intro d
  induction d with
  | zero => exact ⟨Nat.le_refl _, Nat.le_refl _, (fun _ _ _ hz => absurd (show none = some _ from hz) (by simp)), (fun _ _ _ hz => absurd (show none = some _ from hz) (by simp))⟩
  | succ d ih => exact ⟨by omega, by omega, (fun _ _ _ hz => k_MRunner_value ih (moX_RunE d) hz), (fun _ _ _ hz => k_MRunner_unary ih (moX_RunE d) hz)⟩
def y_MRunner_given : ab_Y := (⟨"WorldEngineModel$Runner", "given", "(II)I"⟩, prog_15_method_10_code, 2, (some FieldType.int), [])
theorem d_MRunner_given_0 : decode y_MRunner_given.2.1 0 = .ok (.iload_n 0, 1) := by decide +kernel
theorem d_MRunner_given_1 : decode y_MRunner_given.2.1 1 = .ok (.iconst 1, 1) := by decide +kernel
theorem d_MRunner_given_2 : decode y_MRunner_given.2.1 2 = .ok (.if_icmp .ne 12, 3) := by decide +kernel
theorem d_MRunner_given_5 : decode y_MRunner_given.2.1 5 = .ok (.iconst 1, 1) := by decide +kernel
theorem d_MRunner_given_6 : decode y_MRunner_given.2.1 6 = .ok (.iload_n 1, 1) := by decide +kernel
theorem d_MRunner_given_7 : decode y_MRunner_given.2.1 7 = .ok (.i2l, 1) := by decide +kernel
theorem d_MRunner_given_8 : decode y_MRunner_given.2.1 8 = .ok (.invokestatic 167, 3) := by decide +kernel
theorem d_MRunner_given_11 : decode y_MRunner_given.2.1 11 = .ok (.goto 4, 3) := by decide +kernel
theorem d_MRunner_given_14 : decode y_MRunner_given.2.1 14 = .ok (.iload_n 1, 1) := by decide +kernel
theorem d_MRunner_given_15 : decode y_MRunner_given.2.1 15 = .ok (.ireturn, 1) := by decide +kernel
theorem s_MRunner_given : ab_Stat y_MRunner_given 2 := ⟨(k12 87 rfl rfl), (k1 22 rfl rfl), ⟨by decide, by decide⟩, by decide +kernel⟩
theorem t_MRunner_given : Cond.static y_MRunner_given.1 ∈ ab_T := (k12 86 rfl rfl)
def F_MRunner_given (N : Nat) (p0 : Int32) (p1 : Int32) (H : Hp) : Option (Int32 × Hp) :=
    if p0 = (1 : Int32) then
    bC (F_M_held N (1 : Int32) ((p1 : Int32).toInt64) H) fun v3 H4 =>
    some (v3, H4)
    else
    some (p1, H)
set_option maxRecDepth 20000 in
set_option maxHeartbeats 2000000 in
theorem m_MRunner_given {N : Nat} {p0 : Int32} {p1 : Int32} {H : Hp} {r : Int32 × Hp} (hF : F_MRunner_given N p0 p1 H = some r) : Sa H r.2 := by
  unfold F_MRunner_given at hF
  have hm := Sa.rf H
  rcases ite_s hF with ⟨q_2, hG⟩ | ⟨q_2, hG⟩
  · clear hF
    obtain ⟨v7, H8, z6, hF⟩ := bC_s hG; clear hG
    replace hm : Sa H H8 := hm.tr (m_M_held z6)
    have hr := Option.some.inj hF; subst hr
    exact hm
  · clear hF
    have hr := Option.some.inj hG; subst hr
    exact hm
set_option maxRecDepth 20000 in
set_option maxHeartbeats 2000000 in
theorem k_MRunner_given {N : Nat} {p0 : Int32} {p1 : Int32} {H : Hp} {r : Int32 × Hp} (hF : F_MRunner_given N p0 p1 H = some r) : ab_M y_MRunner_given { frames := 1, cells := 0, slots := 0, locals := 22 } [.int p0, .int p1] (hpw H) (po (.returned (some (.int r.1))) r.2) := by
  unfold F_MRunner_given at hF
  refine ab_of2 (lv := [some (.int p0), some (.int p1)]) 0 rfl rfl (Nat.le_of_ble_eq_true rfl) ?_
  refine ab_iload_n d_MRunner_given_0 rfl rfl ?_
  refine ab_iconst (v := 1) d_MRunner_given_1 (by decide) ?_
  refine ab_icmp_ne (tgt := 14) d_MRunner_given_2 (by decide) (fun q1 => ?_) (fun q1 => ?_)
  · rw [if_neg q1] at hF
    refine ab_iload_n d_MRunner_given_14 rfl rfl ?_
    exact ab_iret d_MRunner_given_15 rfl (Nat.le_refl _) (Nat.le_refl _) (by have hr := Option.some.inj hF; subst hr; exact ⟨rfl, rfl⟩)
  · rw [if_pos q1] at hF
    refine ab_iconst (v := 1) d_MRunner_given_5 (by decide) ?_
    refine ab_iload_n d_MRunner_given_6 rfl rfl ?_
    refine ab_i2l d_MRunner_given_7 ?_
    obtain ⟨v3, H4, z2, hG⟩ := bC_s hF; clear hF
    refine hp_callSN_a (v := .int v3) (H1 := H4) (As := [.int 1, .long ((p1 : Int32).toInt64)]) (rest := []) d_MRunner_given_8 (k_M_held z2) (ab_mkC s_M_held (Nat.le_of_ble_eq_true rfl) (Nat.le_of_ble_eq_true rfl) (Nat.le_refl 0) (Nat.le_refl 0)) (k12 74 rfl rfl) t_M_held rfl (Nat.le_of_ble_eq_true rfl) ?_
    have s_1 : Sa H H4 := (m_M_held z2)
    refine ab_goto (tgt := 15) d_MRunner_given_11 (by decide) ?_
    exact ab_iret d_MRunner_given_15 rfl (Nat.le_refl _) (Nat.le_refl _) (by have hr := Option.some.inj hG; subst hr; exact ⟨rfl, rfl⟩)
def y_MRunner_assigns : ab_Y := (⟨"WorldEngineModel$Runner", "assigns", "(I)V"⟩, prog_15_method_9_code, 4, none, [])
theorem d_MRunner_assigns_0 : decode y_MRunner_assigns.2.1 0 = .ok (.aload_n 0, 1) := by decide +kernel
theorem d_MRunner_assigns_1 : decode y_MRunner_assigns.2.1 1 = .ok (.getfield 25, 3) := by decide +kernel
theorem d_MRunner_assigns_4 : decode y_MRunner_assigns.2.1 4 = .ok (.getfield 131, 3) := by decide +kernel
theorem d_MRunner_assigns_7 : decode y_MRunner_assigns.2.1 7 = .ok (.iload_n 1, 1) := by decide +kernel
theorem d_MRunner_assigns_8 : decode y_MRunner_assigns.2.1 8 = .ok (.iconst 1, 1) := by decide +kernel
theorem d_MRunner_assigns_9 : decode y_MRunner_assigns.2.1 9 = .ok (.iadd, 1) := by decide +kernel
theorem d_MRunner_assigns_10 : decode y_MRunner_assigns.2.1 10 = .ok (.iaload, 1) := by decide +kernel
theorem d_MRunner_assigns_11 : decode y_MRunner_assigns.2.1 11 = .ok (.bipush 61, 2) := by decide +kernel
theorem d_MRunner_assigns_13 : decode y_MRunner_assigns.2.1 13 = .ok (.if_icmp .ne 34, 3) := by decide +kernel
theorem d_MRunner_assigns_16 : decode y_MRunner_assigns.2.1 16 = .ok (.aload_n 0, 1) := by decide +kernel
theorem d_MRunner_assigns_17 : decode y_MRunner_assigns.2.1 17 = .ok (.dup, 1) := by decide +kernel
theorem d_MRunner_assigns_18 : decode y_MRunner_assigns.2.1 18 = .ok (.getfield 108, 3) := by decide +kernel
theorem d_MRunner_assigns_21 : decode y_MRunner_assigns.2.1 21 = .ok (.iconst 1, 1) := by decide +kernel
theorem d_MRunner_assigns_22 : decode y_MRunner_assigns.2.1 22 = .ok (.iadd, 1) := by decide +kernel
theorem d_MRunner_assigns_23 : decode y_MRunner_assigns.2.1 23 = .ok (.putfield 108, 3) := by decide +kernel
theorem d_MRunner_assigns_26 : decode y_MRunner_assigns.2.1 26 = .ok (.aload_n 0, 1) := by decide +kernel
theorem d_MRunner_assigns_27 : decode y_MRunner_assigns.2.1 27 = .ok (.getfield 19, 3) := by decide +kernel
theorem d_MRunner_assigns_30 : decode y_MRunner_assigns.2.1 30 = .ok (.aload_n 0, 1) := by decide +kernel
theorem d_MRunner_assigns_31 : decode y_MRunner_assigns.2.1 31 = .ok (.getfield 25, 3) := by decide +kernel
theorem d_MRunner_assigns_34 : decode y_MRunner_assigns.2.1 34 = .ok (.getfield 122, 3) := by decide +kernel
theorem d_MRunner_assigns_37 : decode y_MRunner_assigns.2.1 37 = .ok (.iload_n 1, 1) := by decide +kernel
theorem d_MRunner_assigns_38 : decode y_MRunner_assigns.2.1 38 = .ok (.iaload, 1) := by decide +kernel
theorem d_MRunner_assigns_39 : decode y_MRunner_assigns.2.1 39 = .ok (.aload_n 0, 1) := by decide +kernel
theorem d_MRunner_assigns_40 : decode y_MRunner_assigns.2.1 40 = .ok (.invokevirtual 137, 3) := by decide +kernel
theorem d_MRunner_assigns_43 : decode y_MRunner_assigns.2.1 43 = .ok (.iastore, 1) := by decide +kernel
theorem d_MRunner_assigns_44 : decode y_MRunner_assigns.2.1 44 = .ok (.goto 56, 3) := by decide +kernel
theorem d_MRunner_assigns_47 : decode y_MRunner_assigns.2.1 47 = .ok (.aload_n 0, 1) := by decide +kernel
theorem d_MRunner_assigns_48 : decode y_MRunner_assigns.2.1 48 = .ok (.getfield 25, 3) := by decide +kernel
theorem d_MRunner_assigns_51 : decode y_MRunner_assigns.2.1 51 = .ok (.getfield 122, 3) := by decide +kernel
theorem d_MRunner_assigns_54 : decode y_MRunner_assigns.2.1 54 = .ok (.iload_n 1, 1) := by decide +kernel
theorem d_MRunner_assigns_55 : decode y_MRunner_assigns.2.1 55 = .ok (.iconst 2, 1) := by decide +kernel
theorem d_MRunner_assigns_56 : decode y_MRunner_assigns.2.1 56 = .ok (.iadd, 1) := by decide +kernel
theorem d_MRunner_assigns_57 : decode y_MRunner_assigns.2.1 57 = .ok (.iaload, 1) := by decide +kernel
theorem d_MRunner_assigns_58 : decode y_MRunner_assigns.2.1 58 = .ok (.istore_n 2, 1) := by decide +kernel
theorem d_MRunner_assigns_59 : decode y_MRunner_assigns.2.1 59 = .ok (.aload_n 0, 1) := by decide +kernel
theorem d_MRunner_assigns_60 : decode y_MRunner_assigns.2.1 60 = .ok (.dup, 1) := by decide +kernel
theorem d_MRunner_assigns_61 : decode y_MRunner_assigns.2.1 61 = .ok (.getfield 108, 3) := by decide +kernel
theorem d_MRunner_assigns_64 : decode y_MRunner_assigns.2.1 64 = .ok (.iconst 3, 1) := by decide +kernel
theorem d_MRunner_assigns_65 : decode y_MRunner_assigns.2.1 65 = .ok (.iadd, 1) := by decide +kernel
theorem d_MRunner_assigns_66 : decode y_MRunner_assigns.2.1 66 = .ok (.putfield 108, 3) := by decide +kernel
theorem d_MRunner_assigns_69 : decode y_MRunner_assigns.2.1 69 = .ok (.aload_n 0, 1) := by decide +kernel
theorem d_MRunner_assigns_70 : decode y_MRunner_assigns.2.1 70 = .ok (.invokevirtual 137, 3) := by decide +kernel
theorem d_MRunner_assigns_73 : decode y_MRunner_assigns.2.1 73 = .ok (.istore_n 3, 1) := by decide +kernel
theorem d_MRunner_assigns_74 : decode y_MRunner_assigns.2.1 74 = .ok (.aload_n 0, 1) := by decide +kernel
theorem d_MRunner_assigns_75 : decode y_MRunner_assigns.2.1 75 = .ok (.getfield 96, 3) := by decide +kernel
theorem d_MRunner_assigns_78 : decode y_MRunner_assigns.2.1 78 = .ok (.ifCond .ne 22, 3) := by decide +kernel
theorem d_MRunner_assigns_81 : decode y_MRunner_assigns.2.1 81 = .ok (.aload_n 0, 1) := by decide +kernel
theorem d_MRunner_assigns_82 : decode y_MRunner_assigns.2.1 82 = .ok (.getfield 16, 3) := by decide +kernel
theorem d_MRunner_assigns_85 : decode y_MRunner_assigns.2.1 85 = .ok (.iload_n 2, 1) := by decide +kernel
theorem d_MRunner_assigns_86 : decode y_MRunner_assigns.2.1 86 = .ok (.aload_n 0, 1) := by decide +kernel
theorem d_MRunner_assigns_87 : decode y_MRunner_assigns.2.1 87 = .ok (.getfield 25, 3) := by decide +kernel
theorem d_MRunner_assigns_90 : decode y_MRunner_assigns.2.1 90 = .ok (.getfield 160, 3) := by decide +kernel
theorem d_MRunner_assigns_93 : decode y_MRunner_assigns.2.1 93 = .ok (.iload_n 2, 1) := by decide +kernel
theorem d_MRunner_assigns_94 : decode y_MRunner_assigns.2.1 94 = .ok (.iaload, 1) := by decide +kernel
theorem d_MRunner_assigns_95 : decode y_MRunner_assigns.2.1 95 = .ok (.iload_n 3, 1) := by decide +kernel
theorem d_MRunner_assigns_96 : decode y_MRunner_assigns.2.1 96 = .ok (.invokestatic 163, 3) := by decide +kernel
theorem d_MRunner_assigns_99 : decode y_MRunner_assigns.2.1 99 = .ok (.iastore, 1) := by decide +kernel
theorem d_MRunner_assigns_100 : decode y_MRunner_assigns.2.1 100 = .ok (.aload_n 0, 1) := by decide +kernel
theorem d_MRunner_assigns_101 : decode y_MRunner_assigns.2.1 101 = .ok (.dup, 1) := by decide +kernel
theorem d_MRunner_assigns_102 : decode y_MRunner_assigns.2.1 102 = .ok (.getfield 108, 3) := by decide +kernel
theorem d_MRunner_assigns_105 : decode y_MRunner_assigns.2.1 105 = .ok (.iconst 1, 1) := by decide +kernel
theorem d_MRunner_assigns_106 : decode y_MRunner_assigns.2.1 106 = .ok (.iadd, 1) := by decide +kernel
theorem d_MRunner_assigns_107 : decode y_MRunner_assigns.2.1 107 = .ok (.putfield 108, 3) := by decide +kernel
theorem d_MRunner_assigns_110 : decode y_MRunner_assigns.2.1 110 = .ok (.return_, 1) := by decide +kernel
theorem s_MRunner_assigns : ab_Stat y_MRunner_assigns 1 := ⟨(k12 9 rfl rfl), (k1 22 rfl rfl), ⟨by decide, by decide⟩, by decide +kernel⟩
theorem i_MRunner_assigns : Cond.instanceMethod y_MRunner_assigns.1 ∈ ab_T := (k12 8 rfl rfl)
theorem v_MRunner_assigns : Cond.selects "WorldEngineModel$Runner" y_MRunner_assigns.1 y_MRunner_assigns.1 ∈ ab_T := ab_s (List.mem_of_getElem? (i := 180) rfl) rfl
def B_MRunner_assigns_100 (N : Nat) (p0 : Nat) (p1 : Int32)  (H : Hp) : Option (Unit × Hp) :=
    ck (H.sh[p0]? = some (15, 0)) <|
    bnd ((H.D p0 11)) fun x29 =>
    bnd (H.sD p0 11 (x29 + (1 : Int32))) fun H30 =>
    some ((), H30)
set_option maxRecDepth 20000 in
set_option maxHeartbeats 2000000 in
theorem mB_MRunner_assigns_100 {N : Nat} {p0 : Nat} {p1 : Int32}  {H : Hp} {r : Unit × Hp} (hF : B_MRunner_assigns_100 N p0 p1  H = some r) : Sa H r.2 := by
  unfold B_MRunner_assigns_100 at hF
  have hm := Sa.rf H
  obtain ⟨q31, hG⟩ := ck_s hF; clear hF
  obtain ⟨x32, -, hF⟩ := bnd_g hG; clear hG
  obtain ⟨H33, eH33, hG⟩ := bnd_g hF; clear hF
  replace hm : Sa H H33 := by rw [eH33]; exact hm
  have hr := Option.some.inj hG; subst hr
  exact hm
set_option maxRecDepth 20000 in
set_option maxHeartbeats 2000000 in
theorem kB_MRunner_assigns_100 {N : Nat} {p0 : Nat} {p1 : Int32}  {H : Hp} {r : Unit × Hp} (hF : B_MRunner_assigns_100 N p0 p1  H = some r) : ab_V y_MRunner_assigns { frames := 254, cells := 0, slots := 0, locals := 6237 } (po (.returned none) r.2) 0 0 0 0 100 [some (.ref p0), some (.int p1), none, none] [] (hpw H) := by
  unfold B_MRunner_assigns_100 at hF
  refine ab_aload_n d_MRunner_assigns_100 rfl rfl rfl ?_
  refine ab_dup d_MRunner_assigns_101 rfl ?_
  obtain ⟨q28, hG⟩ := ck_s hF; clear hF
  refine hp_getI (f := 11) d_MRunner_assigns_102 q28 (by decide) rfl (by decide) (k9 194 rfl rfl) rfl ?_
  refine ab_topi (fun x29 ex29 => ?_)
  replace hG := bnd_s ex29 hG
  refine ab_iconst (v := 1) d_MRunner_assigns_105 (by decide) ?_
  refine ab_iadd d_MRunner_assigns_106 ?_
  refine hp_putI (v := x29 + (1 : Int32)) (f := 11) d_MRunner_assigns_107 q28 (by decide) rfl (by decide) (k9 194 rfl rfl) rfl rfl (fun _ => rfl) (fun _ => rfl) rfl ?_
  refine hp_gen (fun H30 eH30 => ?_)
  replace hG := bnd_s eH30 hG
  have s_3 : Sa H H30 := by rw [eH30]; exact Sa.rf _
  exact ab_vret d_MRunner_assigns_110 rfl (Nat.le_refl _) (Nat.le_refl _) (by have hr := Option.some.inj hG; subst hr; exact ⟨rfl, rfl⟩)
def F_MRunner_assigns (N : Nat) (p0 : Nat) (p1 : Int32) (H : Hp) : Option (Unit × Hp) :=
    ck (H.sh[p0]? = some (15, 0)) <|
    rf (H.P p0 0) fun a2 =>
    ck (H.sh[a2]? = some (14, 0)) <|
    rf (H.P a2 3) fun a5 =>
    ar H 100 a5 fun n7 =>
    ck (inb (p1 + (1 : Int32)) n7) <|
    bnd ((H.D a5 ((p1 + (1 : Int32))).toNatClampNeg)) fun x10 =>
    if x10 = (61 : Int32) then
    bnd ((H.D p0 11)) fun x52 =>
    bnd (H.sD p0 11 (x52 + (1 : Int32))) fun H53 =>
    rf (H53.P p0 14) fun a54 =>
    rf (H53.P p0 0) fun a56 =>
    ck (H53.sh[a56]? = some (14, 0)) <|
    rf (H53.P a56 8) fun a59 =>
    ar H53 100 a59 fun n61 =>
    ck (inb p1 n61) <|
    bnd ((H53.D a59 (p1).toNatClampNeg)) fun x64 =>
    bC ((X_RunE N 50).1 p0 H53) fun v66 H67 =>
    ar H67 100 a54 fun n68 =>
    ck (inb x64 n68) <|
    bnd (H67.sD a54 (x64).toNatClampNeg v66) fun H71 =>
    B_MRunner_assigns_100 N p0 p1  H71
    else
    rf (H.P p0 0) fun a12 =>
    ck (H.sh[a12]? = some (14, 0)) <|
    rf (H.P a12 8) fun a15 =>
    ar H 100 a15 fun n17 =>
    ck (inb (p1 + (2 : Int32)) n17) <|
    bnd ((H.D a15 ((p1 + (2 : Int32))).toNatClampNeg)) fun x20 =>
    bnd ((H.D p0 11)) fun x21 =>
    bnd (H.sD p0 11 (x21 + (3 : Int32))) fun H22 =>
    bC ((X_RunE N 50).1 p0 H22) fun v24 H25 =>
    bnd ((H25.D p0 10)) fun x26 =>
    if x26 = (0 : Int32) then
    rf (H25.P p0 13) fun a34 =>
    rf (H25.P p0 0) fun a36 =>
    ck (H25.sh[a36]? = some (14, 0)) <|
    rf (H25.P a36 19) fun a39 =>
    ar H25 100 a39 fun n41 =>
    ck (inb x20 n41) <|
    bnd ((H25.D a39 (x20).toNatClampNeg)) fun x44 =>
    bC (F_MRunner_given N x44 v24 H25) fun v46 H47 =>
    ar H47 100 a34 fun n48 =>
    ck (inb x20 n48) <|
    bnd (H47.sD a34 (x20).toNatClampNeg v46) fun H51 =>
    B_MRunner_assigns_100 N p0 p1  H51
    else
    B_MRunner_assigns_100 N p0 p1  H25
set_option maxRecDepth 20000 in
set_option maxHeartbeats 2000000 in
theorem m_MRunner_assigns {N : Nat} {p0 : Nat} {p1 : Int32} {H : Hp} {r : Unit × Hp} (hF : F_MRunner_assigns N p0 p1 H = some r) : Sa H r.2 := by
  unfold F_MRunner_assigns at hF
  have hm := Sa.rf H
  obtain ⟨q72, hG⟩ := ck_s hF; clear hF
  obtain ⟨a73, e74, hF⟩ := rf_s hG; clear hG
  obtain ⟨q75, hG⟩ := ck_s hF; clear hF
  obtain ⟨a76, e77, hF⟩ := rf_s hG; clear hG
  obtain ⟨n78, q79, hG⟩ := ar_s hF; clear hF
  obtain ⟨q80, hF⟩ := ck_s hG; clear hG
  obtain ⟨x81, -, hG⟩ := bnd_g hF; clear hF
  rcases ite_s hG with ⟨q_10, hF⟩ | ⟨q_10, hF⟩
  · clear hG
    obtain ⟨x83, -, hG⟩ := bnd_g hF; clear hF
    obtain ⟨H84, eH84, hF⟩ := bnd_g hG; clear hG
    replace hm : Sa H H84 := by rw [eH84]; exact hm
    obtain ⟨a85, e86, hG⟩ := rf_s hF; clear hF
    obtain ⟨a87, e88, hF⟩ := rf_s hG; clear hG
    obtain ⟨q89, hG⟩ := ck_s hF; clear hF
    obtain ⟨a90, e91, hF⟩ := rf_s hG; clear hG
    obtain ⟨n92, q93, hG⟩ := ar_s hF; clear hF
    obtain ⟨q94, hF⟩ := ck_s hG; clear hG
    obtain ⟨x95, -, hG⟩ := bnd_g hF; clear hF
    obtain ⟨v97, H98, z96, hF⟩ := bC_s hG; clear hG
    replace hm : Sa H H98 := hm.tr ((moX_RunE 50).1 _ _ _ z96)
    obtain ⟨n99, q100, hG⟩ := ar_s hF; clear hF
    obtain ⟨q101, hF⟩ := ck_s hG; clear hG
    obtain ⟨H102, eH102, hG⟩ := bnd_g hF; clear hF
    replace hm : Sa H H102 := by rw [eH102]; exact hm
    exact hm.tr (mB_MRunner_assigns_100 hG)
  · clear hG
    obtain ⟨a103, e104, hG⟩ := rf_s hF; clear hF
    obtain ⟨q105, hF⟩ := ck_s hG; clear hG
    obtain ⟨a106, e107, hG⟩ := rf_s hF; clear hF
    obtain ⟨n108, q109, hF⟩ := ar_s hG; clear hG
    obtain ⟨q110, hG⟩ := ck_s hF; clear hF
    obtain ⟨x111, -, hF⟩ := bnd_g hG; clear hG
    obtain ⟨x112, -, hG⟩ := bnd_g hF; clear hF
    obtain ⟨H113, eH113, hF⟩ := bnd_g hG; clear hG
    replace hm : Sa H H113 := by rw [eH113]; exact hm
    obtain ⟨v115, H116, z114, hG⟩ := bC_s hF; clear hF
    replace hm : Sa H H116 := hm.tr ((moX_RunE 50).1 _ _ _ z114)
    obtain ⟨x117, -, hF⟩ := bnd_g hG; clear hG
    rcases ite_s hF with ⟨q_16, hG⟩ | ⟨q_16, hG⟩
    · clear hF
      obtain ⟨a119, e120, hF⟩ := rf_s hG; clear hG
      obtain ⟨a121, e122, hG⟩ := rf_s hF; clear hF
      obtain ⟨q123, hF⟩ := ck_s hG; clear hG
      obtain ⟨a124, e125, hG⟩ := rf_s hF; clear hF
      obtain ⟨n126, q127, hF⟩ := ar_s hG; clear hG
      obtain ⟨q128, hG⟩ := ck_s hF; clear hF
      obtain ⟨x129, -, hF⟩ := bnd_g hG; clear hG
      obtain ⟨v131, H132, z130, hG⟩ := bC_s hF; clear hF
      replace hm : Sa H H132 := hm.tr (m_MRunner_given z130)
      obtain ⟨n133, q134, hF⟩ := ar_s hG; clear hG
      obtain ⟨q135, hG⟩ := ck_s hF; clear hF
      obtain ⟨H136, eH136, hF⟩ := bnd_g hG; clear hG
      replace hm : Sa H H136 := by rw [eH136]; exact hm
      exact hm.tr (mB_MRunner_assigns_100 hF)
    · clear hF
      exact hm.tr (mB_MRunner_assigns_100 hG)
set_option maxRecDepth 20000 in
set_option maxHeartbeats 2000000 in
theorem k_MRunner_assigns {N : Nat} {p0 : Nat} {p1 : Int32} {H : Hp} {r : Unit × Hp} (hF : F_MRunner_assigns N p0 p1 H = some r) : ab_M y_MRunner_assigns { frames := 254, cells := 0, slots := 0, locals := 6237 } [.ref p0, .int p1] (hpw H) (po (.returned none) r.2) := by
  unfold F_MRunner_assigns at hF
  refine ab_of2 (lv := [some (.ref p0), some (.int p1), none, none]) 2 rfl rfl (Nat.le_of_ble_eq_true rfl) ?_
  refine ab_aload_n d_MRunner_assigns_0 rfl rfl rfl ?_
  obtain ⟨q1, hG⟩ := ck_s hF; clear hF
  obtain ⟨a2, e3, hF⟩ := rf_s hG; clear hG
  refine hp_getR (f := 0) d_MRunner_assigns_1 q1 (by decide) rfl (by decide) (k9 183 rfl rfl) rfl e3 ?_
  obtain ⟨q4, hG⟩ := ck_s hF; clear hF
  obtain ⟨a5, e6, hF⟩ := rf_s hG; clear hG
  refine hp_getRN (f := 3) d_MRunner_assigns_4 q4 (by decide) rfl (by decide) (k8 163 rfl rfl) rfl e6 ?_
  refine ab_iload_n d_MRunner_assigns_7 rfl rfl ?_
  refine ab_iconst (v := 1) d_MRunner_assigns_8 (by decide) ?_
  refine ab_iadd d_MRunner_assigns_9 ?_
  obtain ⟨n7, q8, hG⟩ := ar_s hF; clear hF
  obtain ⟨q9, hF⟩ := ck_s hG; clear hG
  refine hp_iald d_MRunner_assigns_10 tI q8 q9 ?_
  refine ab_topi (fun x10 ex10 => ?_)
  replace hF := bnd_s ex10 hF
  refine ab_bipush (v := 61) d_MRunner_assigns_11 (by decide) ?_
  refine ab_icmp_ne (tgt := 47) d_MRunner_assigns_13 (by decide) (fun q11 => ?_) (fun q11 => ?_)
  · rw [if_neg q11] at hF
    refine ab_aload_n d_MRunner_assigns_47 rfl rfl rfl ?_
    obtain ⟨a12, e13, hG⟩ := rf_s hF; clear hF
    refine hp_getR (f := 0) d_MRunner_assigns_48 q1 (by decide) rfl (by decide) (k9 183 rfl rfl) rfl e13 ?_
    obtain ⟨q14, hF⟩ := ck_s hG; clear hG
    obtain ⟨a15, e16, hG⟩ := rf_s hF; clear hF
    refine hp_getRN (f := 8) d_MRunner_assigns_51 q14 (by decide) rfl (by decide) (k8 170 rfl rfl) rfl e16 ?_
    refine ab_iload_n d_MRunner_assigns_54 rfl rfl ?_
    refine ab_iconst (v := 2) d_MRunner_assigns_55 (by decide) ?_
    refine ab_iadd d_MRunner_assigns_56 ?_
    obtain ⟨n17, q18, hF⟩ := ar_s hG; clear hG
    obtain ⟨q19, hG⟩ := ck_s hF; clear hF
    refine hp_iald d_MRunner_assigns_57 tI q18 q19 ?_
    refine ab_topi (fun x20 ex20 => ?_)
    replace hG := bnd_s ex20 hG
    refine ab_istore_n (lv' := [some (.ref p0), some (.int p1), some (.int x20), none]) d_MRunner_assigns_58 rfl (by decide) rfl ?_
    refine ab_aload_n d_MRunner_assigns_59 rfl rfl rfl ?_
    refine ab_dup d_MRunner_assigns_60 rfl ?_
    refine hp_getI (f := 11) d_MRunner_assigns_61 q1 (by decide) rfl (by decide) (k9 194 rfl rfl) rfl ?_
    refine ab_topi (fun x21 ex21 => ?_)
    replace hG := bnd_s ex21 hG
    refine ab_iconst (v := 3) d_MRunner_assigns_64 (by decide) ?_
    refine ab_iadd d_MRunner_assigns_65 ?_
    refine hp_putI (v := x21 + (3 : Int32)) (f := 11) d_MRunner_assigns_66 q1 (by decide) rfl (by decide) (k9 194 rfl rfl) rfl rfl (fun _ => rfl) (fun _ => rfl) rfl ?_
    refine hp_gen (fun H22 eH22 => ?_)
    replace hG := bnd_s eH22 hG
    have s_1 : Sa H H22 := by rw [eH22]; exact Sa.rf _
    refine ab_aload_n d_MRunner_assigns_69 rfl rfl rfl ?_
    obtain ⟨v24, H25, z23, hF⟩ := bC_s hG; clear hG
    refine hp_callV_a (v := .int v24) (H1 := H25) (As := []) (rest := []) d_MRunner_assigns_70 ((okX_RunE 50).2.2.1 _ _ _ z23) (ab_mkC s_MRunner_value (Nat.le_of_ble_eq_true rfl) (Nat.le_of_ble_eq_true rfl) (Nat.le_refl 0) (Nat.le_refl 0)) (k12 10 rfl rfl) i_MRunner_value v_MRunner_value (by rw [(s_1).1]; exact q1) (by decide) rfl rfl (Nat.le_of_ble_eq_true rfl) ?_
    have s_2 : Sa H H25 := (s_1).tr ((moX_RunE 50).1 _ _ _ z23)
    refine ab_istore_n (lv' := [some (.ref p0), some (.int p1), some (.int x20), some (.int v24)]) d_MRunner_assigns_73 rfl (by decide) rfl ?_
    refine ab_aload_n d_MRunner_assigns_74 rfl rfl rfl ?_
    refine hp_getI (f := 10) d_MRunner_assigns_75 (by rw [(s_2).1]; exact q1) (by decide) rfl (by decide) (k9 193 rfl rfl) rfl ?_
    refine ab_topi (fun x26 ex26 => ?_)
    replace hF := bnd_s ex26 hF
    refine ab_if_ne (tgt := 100) d_MRunner_assigns_78 (by decide) (fun q27 => ?_) (fun q27 => ?_)
    · rw [if_neg q27] at hF
      refine ab_le (lv' := [some (.ref p0), some (.int p1), none, none]) ⟨rfl, ⟨rfl, trivial⟩⟩ ?_
      exact kB_MRunner_assigns_100 hF
    · rw [if_pos q27] at hF
      refine ab_aload_n d_MRunner_assigns_81 rfl rfl rfl ?_
      obtain ⟨a34, e35, hG⟩ := rf_s hF; clear hF
      refine hp_getR (f := 13) d_MRunner_assigns_82 (by rw [(s_2).1]; exact q1) (by decide) rfl (by decide) (k9 196 rfl rfl) rfl e35 ?_
      refine ab_iload_n d_MRunner_assigns_85 rfl rfl ?_
      refine ab_aload_n d_MRunner_assigns_86 rfl rfl rfl ?_
      obtain ⟨a36, e37, hF⟩ := rf_s hG; clear hG
      refine hp_getR (f := 0) d_MRunner_assigns_87 (by rw [(s_2).1]; exact q1) (by decide) rfl (by decide) (k9 183 rfl rfl) rfl e37 ?_
      obtain ⟨q38, hG⟩ := ck_s hF; clear hF
      rw [(s_2).1] at q38
      obtain ⟨a39, e40, hF⟩ := rf_s hG; clear hG
      refine hp_getRN (f := 19) d_MRunner_assigns_90 (by rw [(s_2).1]; exact q38) (by decide) rfl (by decide) (k8 189 rfl rfl) rfl e40 ?_
      refine ab_iload_n d_MRunner_assigns_93 rfl rfl ?_
      obtain ⟨n41, q42, hG⟩ := ar_s hF; clear hF
      rw [(s_2).1] at q42
      obtain ⟨q43, hF⟩ := ck_s hG; clear hG
      refine hp_iald d_MRunner_assigns_94 tI (by rw [(s_2).1]; exact q42) q43 ?_
      refine ab_topi (fun x44 ex44 => ?_)
      replace hF := bnd_s ex44 hF
      refine ab_iload_n d_MRunner_assigns_95 rfl rfl ?_
      obtain ⟨v46, H47, z45, hG⟩ := bC_s hF; clear hF
      refine hp_callS_a (v := .int v46) (H1 := H47) (As := [.int x44, .int v24]) (rest := [.int x20, .ref a34]) d_MRunner_assigns_96 (k_MRunner_given z45) (ab_mkC s_MRunner_given (Nat.le_of_ble_eq_true rfl) (Nat.le_of_ble_eq_true rfl) (Nat.le_refl 0) (Nat.le_refl 0)) (k12 85 rfl rfl) t_MRunner_given rfl (Nat.le_of_ble_eq_true rfl) ?_
      have s_5 : Sa H H47 := (s_2).tr (m_MRunner_given z45)
      obtain ⟨n48, q49, hF⟩ := ar_s hG; clear hG
      rw [(s_5).1] at q49
      obtain ⟨q50, hG⟩ := ck_s hF; clear hF
      refine hp_iast d_MRunner_assigns_99 tI (by rw [(s_5).1]; exact q49) q50 ?_
      refine hp_gen (fun H51 eH51 => ?_)
      replace hG := bnd_s eH51 hG
      have s_6 : Sa H H51 := by rw [eH51]; exact s_5
      refine ab_le (lv' := [some (.ref p0), some (.int p1), none, none]) ⟨rfl, ⟨rfl, trivial⟩⟩ ?_
      exact kB_MRunner_assigns_100 hG
  · rw [if_pos q11] at hF
    refine ab_aload_n d_MRunner_assigns_16 rfl rfl rfl ?_
    refine ab_dup d_MRunner_assigns_17 rfl ?_
    refine hp_getI (f := 11) d_MRunner_assigns_18 q1 (by decide) rfl (by decide) (k9 194 rfl rfl) rfl ?_
    refine ab_topi (fun x52 ex52 => ?_)
    replace hF := bnd_s ex52 hF
    refine ab_iconst (v := 1) d_MRunner_assigns_21 (by decide) ?_
    refine ab_iadd d_MRunner_assigns_22 ?_
    refine hp_putI (v := x52 + (1 : Int32)) (f := 11) d_MRunner_assigns_23 q1 (by decide) rfl (by decide) (k9 194 rfl rfl) rfl rfl (fun _ => rfl) (fun _ => rfl) rfl ?_
    refine hp_gen (fun H53 eH53 => ?_)
    replace hF := bnd_s eH53 hF
    have s_7 : Sa H H53 := by rw [eH53]; exact Sa.rf _
    refine ab_aload_n d_MRunner_assigns_26 rfl rfl rfl ?_
    obtain ⟨a54, e55, hG⟩ := rf_s hF; clear hF
    refine hp_getR (f := 14) d_MRunner_assigns_27 (by rw [(s_7).1]; exact q1) (by decide) rfl (by decide) (k9 197 rfl rfl) rfl e55 ?_
    refine ab_aload_n d_MRunner_assigns_30 rfl rfl rfl ?_
    obtain ⟨a56, e57, hF⟩ := rf_s hG; clear hG
    refine hp_getR (f := 0) d_MRunner_assigns_31 (by rw [(s_7).1]; exact q1) (by decide) rfl (by decide) (k9 183 rfl rfl) rfl e57 ?_
    obtain ⟨q58, hG⟩ := ck_s hF; clear hF
    rw [(s_7).1] at q58
    obtain ⟨a59, e60, hF⟩ := rf_s hG; clear hG
    refine hp_getRN (f := 8) d_MRunner_assigns_34 (by rw [(s_7).1]; exact q58) (by decide) rfl (by decide) (k8 170 rfl rfl) rfl e60 ?_
    refine ab_iload_n d_MRunner_assigns_37 rfl rfl ?_
    obtain ⟨n61, q62, hG⟩ := ar_s hF; clear hF
    rw [(s_7).1] at q62
    obtain ⟨q63, hF⟩ := ck_s hG; clear hG
    refine hp_iald d_MRunner_assigns_38 tI (by rw [(s_7).1]; exact q62) q63 ?_
    refine ab_topi (fun x64 ex64 => ?_)
    replace hF := bnd_s ex64 hF
    refine ab_aload_n d_MRunner_assigns_39 rfl rfl rfl ?_
    obtain ⟨v66, H67, z65, hG⟩ := bC_s hF; clear hF
    refine hp_callV_a (v := .int v66) (H1 := H67) (As := []) (rest := [.int x64, .ref a54]) d_MRunner_assigns_40 ((okX_RunE 50).2.2.1 _ _ _ z65) (ab_mkC s_MRunner_value (Nat.le_of_ble_eq_true rfl) (Nat.le_of_ble_eq_true rfl) (Nat.le_refl 0) (Nat.le_refl 0)) (k12 10 rfl rfl) i_MRunner_value v_MRunner_value (by rw [(s_7).1]; exact q1) (by decide) rfl rfl (Nat.le_of_ble_eq_true rfl) ?_
    have s_8 : Sa H H67 := (s_7).tr ((moX_RunE 50).1 _ _ _ z65)
    obtain ⟨n68, q69, hF⟩ := ar_s hG; clear hG
    rw [(s_8).1] at q69
    obtain ⟨q70, hG⟩ := ck_s hF; clear hF
    refine hp_iast d_MRunner_assigns_43 tI (by rw [(s_8).1]; exact q69) q70 ?_
    refine hp_gen (fun H71 eH71 => ?_)
    replace hG := bnd_s eH71 hG
    have s_9 : Sa H H71 := by rw [eH71]; exact s_8
    refine ab_goto (tgt := 100) d_MRunner_assigns_44 (by decide) ?_
    exact kB_MRunner_assigns_100 hG
def y_MRunner_skips : ab_Y := (⟨"WorldEngineModel$Runner", "skips", "()V"⟩, prog_15_method_7_code, 1, none, [])
theorem d_MRunner_skips_0 : decode y_MRunner_skips.2.1 0 = .ok (.aload_n 0, 1) := by decide +kernel
theorem d_MRunner_skips_1 : decode y_MRunner_skips.2.1 1 = .ok (.aload_n 0, 1) := by decide +kernel
theorem d_MRunner_skips_2 : decode y_MRunner_skips.2.1 2 = .ok (.getfield 25, 3) := by decide +kernel
theorem d_MRunner_skips_5 : decode y_MRunner_skips.2.1 5 = .ok (.getfield 122, 3) := by decide +kernel
theorem d_MRunner_skips_8 : decode y_MRunner_skips.2.1 8 = .ok (.aload_n 0, 1) := by decide +kernel
theorem d_MRunner_skips_9 : decode y_MRunner_skips.2.1 9 = .ok (.getfield 108, 3) := by decide +kernel
theorem d_MRunner_skips_12 : decode y_MRunner_skips.2.1 12 = .ok (.iaload, 1) := by decide +kernel
theorem d_MRunner_skips_13 : decode y_MRunner_skips.2.1 13 = .ok (.iconst 1, 1) := by decide +kernel
theorem d_MRunner_skips_14 : decode y_MRunner_skips.2.1 14 = .ok (.iadd, 1) := by decide +kernel
theorem d_MRunner_skips_15 : decode y_MRunner_skips.2.1 15 = .ok (.putfield 108, 3) := by decide +kernel
theorem d_MRunner_skips_18 : decode y_MRunner_skips.2.1 18 = .ok (.return_, 1) := by decide +kernel
theorem s_MRunner_skips : ab_Stat y_MRunner_skips 0 := ⟨(k12 95 rfl rfl), (k1 22 rfl rfl), ⟨by decide, by decide⟩, by decide +kernel⟩
theorem i_MRunner_skips : Cond.instanceMethod y_MRunner_skips.1 ∈ ab_T := (k12 94 rfl rfl)
theorem v_MRunner_skips : Cond.selects "WorldEngineModel$Runner" y_MRunner_skips.1 y_MRunner_skips.1 ∈ ab_T := ab_s (List.mem_of_getElem? (i := 195) rfl) rfl
def F_MRunner_skips (N : Nat) (p0 : Nat) (H : Hp) : Option (Unit × Hp) :=
    ck (H.sh[p0]? = some (15, 0)) <|
    rf (H.P p0 0) fun a2 =>
    ck (H.sh[a2]? = some (14, 0)) <|
    rf (H.P a2 8) fun a5 =>
    bnd ((H.D p0 11)) fun x7 =>
    ar H 100 a5 fun n8 =>
    ck (inb x7 n8) <|
    bnd ((H.D a5 (x7).toNatClampNeg)) fun x11 =>
    bnd (H.sD p0 11 (x11 + (1 : Int32))) fun H12 =>
    some ((), H12)
set_option maxRecDepth 20000 in
set_option maxHeartbeats 2000000 in
theorem m_MRunner_skips {N : Nat} {p0 : Nat} {H : Hp} {r : Unit × Hp} (hF : F_MRunner_skips N p0 H = some r) : Sa H r.2 := by
  unfold F_MRunner_skips at hF
  have hm := Sa.rf H
  obtain ⟨q13, hG⟩ := ck_s hF; clear hF
  obtain ⟨a14, e15, hF⟩ := rf_s hG; clear hG
  obtain ⟨q16, hG⟩ := ck_s hF; clear hF
  obtain ⟨a17, e18, hF⟩ := rf_s hG; clear hG
  obtain ⟨x19, -, hG⟩ := bnd_g hF; clear hF
  obtain ⟨n20, q21, hF⟩ := ar_s hG; clear hG
  obtain ⟨q22, hG⟩ := ck_s hF; clear hF
  obtain ⟨x23, -, hF⟩ := bnd_g hG; clear hG
  obtain ⟨H24, eH24, hG⟩ := bnd_g hF; clear hF
  replace hm : Sa H H24 := by rw [eH24]; exact hm
  have hr := Option.some.inj hG; subst hr
  exact hm
set_option maxRecDepth 20000 in
set_option maxHeartbeats 2000000 in
theorem k_MRunner_skips {N : Nat} {p0 : Nat} {H : Hp} {r : Unit × Hp} (hF : F_MRunner_skips N p0 H = some r) : ab_M y_MRunner_skips { frames := 0, cells := 0, slots := 0, locals := 0 } [.ref p0] (hpw H) (po (.returned none) r.2) := by
  unfold F_MRunner_skips at hF
  refine ab_of2 (lv := [some (.ref p0)]) 0 rfl rfl (Nat.le_of_ble_eq_true rfl) ?_
  refine ab_aload_n d_MRunner_skips_0 rfl rfl rfl ?_
  refine ab_aload_n d_MRunner_skips_1 rfl rfl rfl ?_
  obtain ⟨q1, hG⟩ := ck_s hF; clear hF
  obtain ⟨a2, e3, hF⟩ := rf_s hG; clear hG
  refine hp_getR (f := 0) d_MRunner_skips_2 q1 (by decide) rfl (by decide) (k9 183 rfl rfl) rfl e3 ?_
  obtain ⟨q4, hG⟩ := ck_s hF; clear hF
  obtain ⟨a5, e6, hF⟩ := rf_s hG; clear hG
  refine hp_getRN (f := 8) d_MRunner_skips_5 q4 (by decide) rfl (by decide) (k8 170 rfl rfl) rfl e6 ?_
  refine ab_aload_n d_MRunner_skips_8 rfl rfl rfl ?_
  refine hp_getI (f := 11) d_MRunner_skips_9 q1 (by decide) rfl (by decide) (k9 194 rfl rfl) rfl ?_
  refine ab_topi (fun x7 ex7 => ?_)
  replace hF := bnd_s ex7 hF
  obtain ⟨n8, q9, hG⟩ := ar_s hF; clear hF
  obtain ⟨q10, hF⟩ := ck_s hG; clear hG
  refine hp_iald d_MRunner_skips_12 tI q9 q10 ?_
  refine ab_topi (fun x11 ex11 => ?_)
  replace hF := bnd_s ex11 hF
  refine ab_iconst (v := 1) d_MRunner_skips_13 (by decide) ?_
  refine ab_iadd d_MRunner_skips_14 ?_
  refine hp_putI (v := x11 + (1 : Int32)) (f := 11) d_MRunner_skips_15 q1 (by decide) rfl (by decide) (k9 194 rfl rfl) rfl rfl (fun _ => rfl) (fun _ => rfl) rfl ?_
  refine hp_gen (fun H12 eH12 => ?_)
  replace hF := bnd_s eH12 hF
  have s_1 : Sa H H12 := by rw [eH12]; exact Sa.rf _
  exact ab_vret d_MRunner_skips_18 rfl (Nat.le_refl _) (Nat.le_refl _) (by have hr := Option.some.inj hF; subst hr; exact ⟨rfl, rfl⟩)
def y_MRunner_isNear : ab_Y := (⟨"WorldEngineModel$Runner", "isNear", "(III)Z"⟩, prog_15_method_14_code, 8, (some FieldType.boolean), [])
theorem d_MRunner_isNear_0 : decode y_MRunner_isNear.2.1 0 = .ok (.iconst 1, 1) := by decide +kernel
theorem d_MRunner_isNear_1 : decode y_MRunner_isNear.2.1 1 = .ok (.istore 4, 2) := by decide +kernel
theorem d_MRunner_isNear_3 : decode y_MRunner_isNear.2.1 3 = .ok (.iload_n 2, 1) := by decide +kernel
theorem d_MRunner_isNear_4 : decode y_MRunner_isNear.2.1 4 = .ok (.istore 5, 2) := by decide +kernel
theorem d_MRunner_isNear_6 : decode y_MRunner_isNear.2.1 6 = .ok (.iload 5, 2) := by decide +kernel
theorem d_MRunner_isNear_8 : decode y_MRunner_isNear.2.1 8 = .ok (.iload_n 2, 1) := by decide +kernel
theorem d_MRunner_isNear_9 : decode y_MRunner_isNear.2.1 9 = .ok (.iconst 2, 1) := by decide +kernel
theorem d_MRunner_isNear_10 : decode y_MRunner_isNear.2.1 10 = .ok (.iadd, 1) := by decide +kernel
theorem d_MRunner_isNear_11 : decode y_MRunner_isNear.2.1 11 = .ok (.if_icmp .ge 65, 3) := by decide +kernel
theorem d_MRunner_isNear_14 : decode y_MRunner_isNear.2.1 14 = .ok (.aload_n 0, 1) := by decide +kernel
theorem d_MRunner_isNear_15 : decode y_MRunner_isNear.2.1 15 = .ok (.getfield 29, 3) := by decide +kernel
theorem d_MRunner_isNear_18 : decode y_MRunner_isNear.2.1 18 = .ok (.getfield 102, 3) := by decide +kernel
theorem d_MRunner_isNear_21 : decode y_MRunner_isNear.2.1 21 = .ok (.bipush 48, 2) := by decide +kernel
theorem d_MRunner_isNear_23 : decode y_MRunner_isNear.2.1 23 = .ok (.iload_n 1, 1) := by decide +kernel
theorem d_MRunner_isNear_24 : decode y_MRunner_isNear.2.1 24 = .ok (.imul, 1) := by decide +kernel
theorem d_MRunner_isNear_25 : decode y_MRunner_isNear.2.1 25 = .ok (.iload 5, 2) := by decide +kernel
theorem d_MRunner_isNear_27 : decode y_MRunner_isNear.2.1 27 = .ok (.iadd, 1) := by decide +kernel
theorem d_MRunner_isNear_28 : decode y_MRunner_isNear.2.1 28 = .ok (.iaload, 1) := by decide +kernel
theorem d_MRunner_isNear_29 : decode y_MRunner_isNear.2.1 29 = .ok (.i2l, 1) := by decide +kernel
theorem d_MRunner_isNear_30 : decode y_MRunner_isNear.2.1 30 = .ok (.aload_n 0, 1) := by decide +kernel
theorem d_MRunner_isNear_31 : decode y_MRunner_isNear.2.1 31 = .ok (.getfield 16, 3) := by decide +kernel
theorem d_MRunner_isNear_34 : decode y_MRunner_isNear.2.1 34 = .ok (.iload 5, 2) := by decide +kernel
theorem d_MRunner_isNear_36 : decode y_MRunner_isNear.2.1 36 = .ok (.iaload, 1) := by decide +kernel
theorem d_MRunner_isNear_37 : decode y_MRunner_isNear.2.1 37 = .ok (.i2l, 1) := by decide +kernel
theorem d_MRunner_isNear_38 : decode y_MRunner_isNear.2.1 38 = .ok (.lsub, 1) := by decide +kernel
theorem d_MRunner_isNear_39 : decode y_MRunner_isNear.2.1 39 = .ok (.lstore 6, 2) := by decide +kernel
theorem d_MRunner_isNear_41 : decode y_MRunner_isNear.2.1 41 = .ok (.iload 4, 2) := by decide +kernel
theorem d_MRunner_isNear_43 : decode y_MRunner_isNear.2.1 43 = .ok (.ifCond .eq 24, 3) := by decide +kernel
theorem d_MRunner_isNear_46 : decode y_MRunner_isNear.2.1 46 = .ok (.lload 6, 2) := by decide +kernel
theorem d_MRunner_isNear_48 : decode y_MRunner_isNear.2.1 48 = .ok (.iload_n 3, 1) := by decide +kernel
theorem d_MRunner_isNear_49 : decode y_MRunner_isNear.2.1 49 = .ok (.i2l, 1) := by decide +kernel
theorem d_MRunner_isNear_50 : decode y_MRunner_isNear.2.1 50 = .ok (.lcmp, 1) := by decide +kernel
theorem d_MRunner_isNear_51 : decode y_MRunner_isNear.2.1 51 = .ok (.ifCond .gt 16, 3) := by decide +kernel
theorem d_MRunner_isNear_54 : decode y_MRunner_isNear.2.1 54 = .ok (.lload 6, 2) := by decide +kernel
theorem d_MRunner_isNear_56 : decode y_MRunner_isNear.2.1 56 = .ok (.lneg, 1) := by decide +kernel
theorem d_MRunner_isNear_57 : decode y_MRunner_isNear.2.1 57 = .ok (.iload_n 3, 1) := by decide +kernel
theorem d_MRunner_isNear_58 : decode y_MRunner_isNear.2.1 58 = .ok (.i2l, 1) := by decide +kernel
theorem d_MRunner_isNear_59 : decode y_MRunner_isNear.2.1 59 = .ok (.lcmp, 1) := by decide +kernel
theorem d_MRunner_isNear_60 : decode y_MRunner_isNear.2.1 60 = .ok (.ifCond .gt 7, 3) := by decide +kernel
theorem d_MRunner_isNear_63 : decode y_MRunner_isNear.2.1 63 = .ok (.iconst 1, 1) := by decide +kernel
theorem d_MRunner_isNear_64 : decode y_MRunner_isNear.2.1 64 = .ok (.goto 4, 3) := by decide +kernel
theorem d_MRunner_isNear_67 : decode y_MRunner_isNear.2.1 67 = .ok (.iconst 0, 1) := by decide +kernel
theorem d_MRunner_isNear_68 : decode y_MRunner_isNear.2.1 68 = .ok (.istore 4, 2) := by decide +kernel
theorem d_MRunner_isNear_70 : decode y_MRunner_isNear.2.1 70 = .ok (.iinc 5 1, 3) := by decide +kernel
theorem d_MRunner_isNear_73 : decode y_MRunner_isNear.2.1 73 = .ok (.goto (-67), 3) := by decide +kernel
theorem d_MRunner_isNear_76 : decode y_MRunner_isNear.2.1 76 = .ok (.iload 4, 2) := by decide +kernel
theorem d_MRunner_isNear_78 : decode y_MRunner_isNear.2.1 78 = .ok (.ireturn, 1) := by decide +kernel
theorem s_MRunner_isNear : ab_Stat y_MRunner_isNear 3 := ⟨(k12 107 rfl rfl), (k1 22 rfl rfl), ⟨by decide, by decide⟩, by decide +kernel⟩
theorem i_MRunner_isNear : Cond.instanceMethod y_MRunner_isNear.1 ∈ ab_T := (k12 106 rfl rfl)
theorem v_MRunner_isNear : Cond.selects "WorldEngineModel$Runner" y_MRunner_isNear.1 y_MRunner_isNear.1 ∈ ab_T := ab_s (List.mem_of_getElem? (i := 198) rfl) rfl
def B_MRunner_isNear_68 (N : Nat) (p0 : Nat) (p1 : Int32) (p2 : Int32) (p3 : Int32) (kq6 : Int32 → Int32 → Hp → Option (Int32 × Hp)) (l5 : Int32) (w0 : Int32) (H : Hp) : Option (Int32 × Hp) :=
    kq6 w0 (l5 + 1) H
set_option maxRecDepth 20000 in
set_option maxHeartbeats 2000000 in
theorem mB_MRunner_isNear_68 {N : Nat} {p0 : Nat} {p1 : Int32} {p2 : Int32} {p3 : Int32} {kq6 : Int32 → Int32 → Hp → Option (Int32 × Hp)} (hm6 : ∀ (l4 : Int32) (l5 : Int32) (H : Hp) (r : Int32 × Hp), kq6 l4 l5 H = some r → Sa H r.2) {l5 : Int32} {w0 : Int32} {H : Hp} {r : Int32 × Hp} (hF : B_MRunner_isNear_68 N p0 p1 p2 p3 kq6 l5 w0 H = some r) : Sa H r.2 := by
  unfold B_MRunner_isNear_68 at hF
  have hm := Sa.rf H
  exact hm.tr (hm6 w0 (l5 + 1) H r hF)
set_option maxRecDepth 20000 in
set_option maxHeartbeats 2000000 in
theorem kB_MRunner_isNear_68 {N : Nat} {p0 : Nat} {p1 : Int32} {p2 : Int32} {p3 : Int32} {kq6 : Int32 → Int32 → Hp → Option (Int32 × Hp)} (hm6 : ∀ (l4 : Int32) (l5 : Int32) (H : Hp) (r : Int32 × Hp), kq6 l4 l5 H = some r → Sa H r.2) (hk6 : ∀ (l4 : Int32) (l5 : Int32) (H : Hp) (r : Int32 × Hp), kq6 l4 l5 H = some r → ab_V y_MRunner_isNear { frames := 0, cells := 0, slots := 0, locals := 0 } (po (.returned (some (.int r.1))) r.2) 0 0 0 0 6 [some (.ref p0), some (.int p1), some (.int p2), some (.int p3), some (.int l4), some (.int l5), none, none] [] (hpw H)) {l5 : Int32} {w0 : Int32} {H : Hp} {r : Int32 × Hp} (hF : B_MRunner_isNear_68 N p0 p1 p2 p3 kq6 l5 w0 H = some r) : ab_V y_MRunner_isNear { frames := 0, cells := 0, slots := 0, locals := 0 } (po (.returned (some (.int r.1))) r.2) 0 0 0 0 68 [some (.ref p0), some (.int p1), some (.int p2), some (.int p3), none, some (.int l5), none, none] [.int w0] (hpw H) := by
  unfold B_MRunner_isNear_68 at hF
  refine ab_istore (lv' := [some (.ref p0), some (.int p1), some (.int p2), some (.int p3), some (.int w0), some (.int l5), none, none]) d_MRunner_isNear_68 (by decide) rfl ?_
  refine ab_iinc (v := l5 + 1) (lv' := [some (.ref p0), some (.int p1), some (.int p2), some (.int p3), some (.int w0), some (.int (l5 + 1)), none, none]) d_MRunner_isNear_70 rfl rfl (by decide) rfl ?_
  refine ab_goto (tgt := 6) d_MRunner_isNear_73 (by decide) ?_
  exact hk6 w0 (l5 + 1) H r hF
def B_MRunner_isNear_67 (N : Nat) (p0 : Nat) (p1 : Int32) (p2 : Int32) (p3 : Int32) (kq6 : Int32 → Int32 → Hp → Option (Int32 × Hp)) (l5 : Int32) (H : Hp) : Option (Int32 × Hp) :=
    B_MRunner_isNear_68 N p0 p1 p2 p3 kq6 l5 0 H
set_option maxRecDepth 20000 in
set_option maxHeartbeats 2000000 in
theorem mB_MRunner_isNear_67 {N : Nat} {p0 : Nat} {p1 : Int32} {p2 : Int32} {p3 : Int32} {kq6 : Int32 → Int32 → Hp → Option (Int32 × Hp)} (hm6 : ∀ (l4 : Int32) (l5 : Int32) (H : Hp) (r : Int32 × Hp), kq6 l4 l5 H = some r → Sa H r.2) {l5 : Int32} {H : Hp} {r : Int32 × Hp} (hF : B_MRunner_isNear_67 N p0 p1 p2 p3 kq6 l5 H = some r) : Sa H r.2 := by
  unfold B_MRunner_isNear_67 at hF
  have hm := Sa.rf H
  exact hm.tr (mB_MRunner_isNear_68 hm6 hF)
set_option maxRecDepth 20000 in
set_option maxHeartbeats 2000000 in
theorem kB_MRunner_isNear_67 {N : Nat} {p0 : Nat} {p1 : Int32} {p2 : Int32} {p3 : Int32} {kq6 : Int32 → Int32 → Hp → Option (Int32 × Hp)} (hm6 : ∀ (l4 : Int32) (l5 : Int32) (H : Hp) (r : Int32 × Hp), kq6 l4 l5 H = some r → Sa H r.2) (hk6 : ∀ (l4 : Int32) (l5 : Int32) (H : Hp) (r : Int32 × Hp), kq6 l4 l5 H = some r → ab_V y_MRunner_isNear { frames := 0, cells := 0, slots := 0, locals := 0 } (po (.returned (some (.int r.1))) r.2) 0 0 0 0 6 [some (.ref p0), some (.int p1), some (.int p2), some (.int p3), some (.int l4), some (.int l5), none, none] [] (hpw H)) {l5 : Int32} {H : Hp} {r : Int32 × Hp} (hF : B_MRunner_isNear_67 N p0 p1 p2 p3 kq6 l5 H = some r) : ab_V y_MRunner_isNear { frames := 0, cells := 0, slots := 0, locals := 0 } (po (.returned (some (.int r.1))) r.2) 0 0 0 0 67 [some (.ref p0), some (.int p1), some (.int p2), some (.int p3), none, some (.int l5), none, none] [] (hpw H) := by
  unfold B_MRunner_isNear_67 at hF
  refine ab_iconst (v := 0) d_MRunner_isNear_67 (by decide) ?_
  exact kB_MRunner_isNear_68 hm6 hk6 hF
def B_MRunner_isNear_6 (N : Nat) (p0 : Nat) (p1 : Int32) (p2 : Int32) (p3 : Int32) : Nat → Int32 → Int32 → Hp → Option (Int32 × Hp)
  | 0, _, _, _ => none
  | n + 1, l4, l5, H =>
    if (p2 + (2 : Int32)) ≤ l5 then
    ck (l4 &&& 1 = l4) <|
    some (l4, H)
    else
    ck (H.sh[p0]? = some (15, 0)) <|
    rf (H.P p0 1) fun a4 =>
    ck (H.sh[a4]? = some (13, 0)) <|
    rf (H.P a4 7) fun a7 =>
    ar H 100 a7 fun n9 =>
    ck (inb (((48 : Int32) * p1) + l5) n9) <|
    bnd ((H.D a7 ((((48 : Int32) * p1) + l5)).toNatClampNeg)) fun x12 =>
    rf (H.P p0 13) fun a13 =>
    ar H 100 a13 fun n15 =>
    ck (inb l5 n15) <|
    bnd ((H.D a13 (l5).toNatClampNeg)) fun x18 =>
    bnd (((x12 : Int32).toInt64) - ((x18 : Int32).toInt64)) fun x19 =>
    if l4 = (0 : Int32) then
    B_MRunner_isNear_67 N p0 p1 p2 p3 (fun l4 l5 H => B_MRunner_isNear_6 N p0 p1 p2 p3 n l4 l5 H) l5 H
    else
    if (0 : Int32) < (lg_cmp x19 ((p3 : Int32).toInt64)) then
    B_MRunner_isNear_67 N p0 p1 p2 p3 (fun l4 l5 H => B_MRunner_isNear_6 N p0 p1 p2 p3 n l4 l5 H) l5 H
    else
    if (0 : Int32) < (lg_cmp (-x19) ((p3 : Int32).toInt64)) then
    B_MRunner_isNear_67 N p0 p1 p2 p3 (fun l4 l5 H => B_MRunner_isNear_6 N p0 p1 p2 p3 n l4 l5 H) l5 H
    else
    B_MRunner_isNear_68 N p0 p1 p2 p3 (fun l4 l5 H => B_MRunner_isNear_6 N p0 p1 p2 p3 n l4 l5 H) l5 1 H
termination_by structural n => n
set_option maxRecDepth 20000 in
set_option maxHeartbeats 2000000 in
theorem mB_MRunner_isNear_6 {N : Nat} {p0 : Nat} {p1 : Int32} {p2 : Int32} {p3 : Int32} : ∀ (n : Nat) (l4 : Int32) (l5 : Int32) (H : Hp) (r : Int32 × Hp), B_MRunner_isNear_6 N p0 p1 p2 p3 n l4 l5 H = some r → Sa H r.2 := by
  intro n
  induction n with
  | zero => intro l4 l5 H r hF; rw [B_MRunner_isNear_6] at hF; cases hF
  | succ n ih =>
    intro l4 l5 H r hF
    rw [B_MRunner_isNear_6] at hF
    have hm := Sa.rf H
    rcases ite_s hF with ⟨q_1, hG⟩ | ⟨q_1, hG⟩
    · clear hF
      obtain ⟨q24, hF⟩ := ck_s hG; clear hG
      have hr := Option.some.inj hF; subst hr
      exact hm
    · clear hF
      obtain ⟨q25, hF⟩ := ck_s hG; clear hG
      obtain ⟨a26, e27, hG⟩ := rf_s hF; clear hF
      obtain ⟨q28, hF⟩ := ck_s hG; clear hG
      obtain ⟨a29, e30, hG⟩ := rf_s hF; clear hF
      obtain ⟨n31, q32, hF⟩ := ar_s hG; clear hG
      obtain ⟨q33, hG⟩ := ck_s hF; clear hF
      obtain ⟨x34, -, hF⟩ := bnd_g hG; clear hG
      obtain ⟨a35, e36, hG⟩ := rf_s hF; clear hF
      obtain ⟨n37, q38, hF⟩ := ar_s hG; clear hG
      obtain ⟨q39, hG⟩ := ck_s hF; clear hF
      obtain ⟨x40, -, hF⟩ := bnd_g hG; clear hG
      obtain ⟨x41, -, hG⟩ := bnd_g hF; clear hF
      rcases ite_s hG with ⟨q_2, hF⟩ | ⟨q_2, hF⟩
      · clear hG
        exact hm.tr (mB_MRunner_isNear_67 ih hF)
      · clear hG
        rcases ite_s hF with ⟨q_3, hG⟩ | ⟨q_3, hG⟩
        · clear hF
          exact hm.tr (mB_MRunner_isNear_67 ih hG)
        · clear hF
          rcases ite_s hG with ⟨q_4, hF⟩ | ⟨q_4, hF⟩
          · clear hG
            exact hm.tr (mB_MRunner_isNear_67 ih hF)
          · clear hG
            exact hm.tr (mB_MRunner_isNear_68 ih hF)
set_option maxRecDepth 20000 in
set_option maxHeartbeats 2000000 in
theorem kB_MRunner_isNear_6 {N : Nat} {p0 : Nat} {p1 : Int32} {p2 : Int32} {p3 : Int32} : ∀ (n : Nat) (l4 : Int32) (l5 : Int32) (H : Hp) (r : Int32 × Hp), B_MRunner_isNear_6 N p0 p1 p2 p3 n l4 l5 H = some r → ab_V y_MRunner_isNear { frames := 0, cells := 0, slots := 0, locals := 0 } (po (.returned (some (.int r.1))) r.2) 0 0 0 0 6 [some (.ref p0), some (.int p1), some (.int p2), some (.int p3), some (.int l4), some (.int l5), none, none] [] (hpw H) := by
  intro n
  induction n with
  | zero => intro l4 l5 H r hF; rw [B_MRunner_isNear_6] at hF; cases hF
  | succ n ih =>
    intro l4 l5 H r hF
    rw [B_MRunner_isNear_6] at hF
    refine ab_iload d_MRunner_isNear_6 rfl ?_
    refine ab_iload_n d_MRunner_isNear_8 rfl rfl ?_
    refine ab_iconst (v := 2) d_MRunner_isNear_9 (by decide) ?_
    refine ab_iadd d_MRunner_isNear_10 ?_
    refine ab_icmp_ge (tgt := 76) d_MRunner_isNear_11 (by decide) (fun q1 => ?_) (fun q1 => ?_)
    · rw [if_pos q1] at hF
      refine ab_iload d_MRunner_isNear_76 rfl ?_
      obtain ⟨q2, hG⟩ := ck_s hF; clear hF
      exact ab_zret d_MRunner_isNear_78 rfl (congrArg Value.int q2) (Nat.le_refl _) (Nat.le_refl _) (by have hr := Option.some.inj hG; subst hr; exact ⟨rfl, rfl⟩)
    · rw [if_neg q1] at hF
      refine ab_aload_n d_MRunner_isNear_14 rfl rfl rfl ?_
      obtain ⟨q3, hG⟩ := ck_s hF; clear hF
      obtain ⟨a4, e5, hF⟩ := rf_s hG; clear hG
      refine hp_getR (f := 1) d_MRunner_isNear_15 q3 (by decide) rfl (by decide) (k9 184 rfl rfl) rfl e5 ?_
      obtain ⟨q6, hG⟩ := ck_s hF; clear hF
      obtain ⟨a7, e8, hF⟩ := rf_s hG; clear hG
      refine hp_getRN (f := 7) d_MRunner_isNear_18 q6 (by decide) rfl (by decide) (k9 109 rfl rfl) rfl e8 ?_
      refine ab_bipush (v := 48) d_MRunner_isNear_21 (by decide) ?_
      refine ab_iload_n d_MRunner_isNear_23 rfl rfl ?_
      refine ab_imul d_MRunner_isNear_24 ?_
      refine ab_iload d_MRunner_isNear_25 rfl ?_
      refine ab_iadd d_MRunner_isNear_27 ?_
      obtain ⟨n9, q10, hG⟩ := ar_s hF; clear hF
      obtain ⟨q11, hF⟩ := ck_s hG; clear hG
      refine hp_iald d_MRunner_isNear_28 tI q10 q11 ?_
      refine ab_topi (fun x12 ex12 => ?_)
      replace hF := bnd_s ex12 hF
      refine ab_i2l d_MRunner_isNear_29 ?_
      refine ab_aload_n d_MRunner_isNear_30 rfl rfl rfl ?_
      obtain ⟨a13, e14, hG⟩ := rf_s hF; clear hF
      refine hp_getR (f := 13) d_MRunner_isNear_31 q3 (by decide) rfl (by decide) (k9 196 rfl rfl) rfl e14 ?_
      refine ab_iload d_MRunner_isNear_34 rfl ?_
      obtain ⟨n15, q16, hF⟩ := ar_s hG; clear hG
      obtain ⟨q17, hG⟩ := ck_s hF; clear hF
      refine hp_iald d_MRunner_isNear_36 tI q16 q17 ?_
      refine ab_topi (fun x18 ex18 => ?_)
      replace hG := bnd_s ex18 hG
      refine ab_i2l d_MRunner_isNear_37 ?_
      refine ab_lsub d_MRunner_isNear_38 ?_
      refine ab_topl (fun x19 ex19 => ?_)
      replace hG := bnd_s ex19 hG
      refine ab_lstore (lv' := [some (.ref p0), some (.int p1), some (.int p2), some (.int p3), some (.int l4), some (.int l5), some (.long x19), none]) d_MRunner_isNear_39 (by decide) rfl ?_
      refine ab_iload d_MRunner_isNear_41 rfl ?_
      refine ab_if_eq (tgt := 67) d_MRunner_isNear_43 (by decide) (fun q20 => ?_) (fun q20 => ?_)
      · rw [if_pos q20] at hG
        refine ab_le (lv' := [some (.ref p0), some (.int p1), some (.int p2), some (.int p3), none, some (.int l5), none, none]) ⟨rfl, ⟨rfl, ⟨rfl, ⟨rfl, ⟨rfl, trivial⟩⟩⟩⟩⟩ ?_
        exact kB_MRunner_isNear_67 (mB_MRunner_isNear_6 n) ih hG
      · rw [if_neg q20] at hG
        refine ab_lload d_MRunner_isNear_46 rfl ?_
        refine ab_iload_n d_MRunner_isNear_48 rfl rfl ?_
        refine ab_i2l d_MRunner_isNear_49 ?_
        refine ab_lcmp d_MRunner_isNear_50 ?_
        refine ab_if_gt (tgt := 67) d_MRunner_isNear_51 (by decide) (fun q21 => ?_) (fun q21 => ?_)
        · rw [if_pos q21] at hG
          refine ab_le (lv' := [some (.ref p0), some (.int p1), some (.int p2), some (.int p3), none, some (.int l5), none, none]) ⟨rfl, ⟨rfl, ⟨rfl, ⟨rfl, ⟨rfl, trivial⟩⟩⟩⟩⟩ ?_
          exact kB_MRunner_isNear_67 (mB_MRunner_isNear_6 n) ih hG
        · rw [if_neg q21] at hG
          refine ab_lload d_MRunner_isNear_54 rfl ?_
          refine ab_lneg d_MRunner_isNear_56 ?_
          refine ab_iload_n d_MRunner_isNear_57 rfl rfl ?_
          refine ab_i2l d_MRunner_isNear_58 ?_
          refine ab_lcmp d_MRunner_isNear_59 ?_
          refine ab_if_gt (tgt := 67) d_MRunner_isNear_60 (by decide) (fun q22 => ?_) (fun q22 => ?_)
          · rw [if_pos q22] at hG
            refine ab_le (lv' := [some (.ref p0), some (.int p1), some (.int p2), some (.int p3), none, some (.int l5), none, none]) ⟨rfl, ⟨rfl, ⟨rfl, ⟨rfl, ⟨rfl, trivial⟩⟩⟩⟩⟩ ?_
            exact kB_MRunner_isNear_67 (mB_MRunner_isNear_6 n) ih hG
          · rw [if_neg q22] at hG
            refine ab_iconst (v := 1) d_MRunner_isNear_63 (by decide) ?_
            refine ab_goto (tgt := 68) d_MRunner_isNear_64 (by decide) ?_
            refine ab_le (lv' := [some (.ref p0), some (.int p1), some (.int p2), some (.int p3), none, some (.int l5), none, none]) ⟨rfl, ⟨rfl, ⟨rfl, ⟨rfl, ⟨rfl, trivial⟩⟩⟩⟩⟩ ?_
            exact kB_MRunner_isNear_68 (mB_MRunner_isNear_6 n) ih hG
def F_MRunner_isNear (N : Nat) (p0 : Nat) (p1 : Int32) (p2 : Int32) (p3 : Int32) (H : Hp) : Option (Int32 × Hp) :=
    B_MRunner_isNear_6 N p0 p1 p2 p3 N 1 p2 H
set_option maxRecDepth 20000 in
set_option maxHeartbeats 2000000 in
theorem m_MRunner_isNear {N : Nat} {p0 : Nat} {p1 : Int32} {p2 : Int32} {p3 : Int32} {H : Hp} {r : Int32 × Hp} (hF : F_MRunner_isNear N p0 p1 p2 p3 H = some r) : Sa H r.2 := by
  unfold F_MRunner_isNear at hF
  have hm := Sa.rf H
  exact hm.tr (mB_MRunner_isNear_6 N 1 p2 H r hF)
set_option maxRecDepth 20000 in
set_option maxHeartbeats 2000000 in
theorem k_MRunner_isNear {N : Nat} {p0 : Nat} {p1 : Int32} {p2 : Int32} {p3 : Int32} {H : Hp} {r : Int32 × Hp} (hF : F_MRunner_isNear N p0 p1 p2 p3 H = some r) : ab_M y_MRunner_isNear { frames := 0, cells := 0, slots := 0, locals := 0 } [.ref p0, .int p1, .int p2, .int p3] (hpw H) (po (.returned (some (.int r.1))) r.2) := by
  unfold F_MRunner_isNear at hF
  refine ab_of2 (lv := [some (.ref p0), some (.int p1), some (.int p2), some (.int p3), none, none, none, none]) 4 rfl rfl (Nat.le_of_ble_eq_true rfl) ?_
  refine ab_iconst (v := 1) d_MRunner_isNear_0 (by decide) ?_
  refine ab_istore (lv' := [some (.ref p0), some (.int p1), some (.int p2), some (.int p3), some (.int 1), none, none, none]) d_MRunner_isNear_1 (by decide) rfl ?_
  refine ab_iload_n d_MRunner_isNear_3 rfl rfl ?_
  refine ab_istore (lv' := [some (.ref p0), some (.int p1), some (.int p2), some (.int p3), some (.int 1), some (.int p2), none, none]) d_MRunner_isNear_4 (by decide) rfl ?_
  exact kB_MRunner_isNear_6 N 1 p2 H r hF
