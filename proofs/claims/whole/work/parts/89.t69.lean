def y_MRunner_tick : ab_Y := (⟨"WorldEngineModel$Runner", "tick", "(LWorldEngineModel$Text;LWorldEngineModel$World;[I)V"⟩, prog_15_method_2_code, 7, none, [])
theorem d_MRunner_tick_0 : decode y_MRunner_tick.2.1 0 = .ok (.aload_n 0, 1) := by decide +kernel
theorem d_MRunner_tick_1 : decode y_MRunner_tick.2.1 1 = .ok (.aload_n 1, 1) := by decide +kernel
theorem d_MRunner_tick_2 : decode y_MRunner_tick.2.1 2 = .ok (.putfield 25, 3) := by decide +kernel
theorem d_MRunner_tick_5 : decode y_MRunner_tick.2.1 5 = .ok (.aload_n 0, 1) := by decide +kernel
theorem d_MRunner_tick_6 : decode y_MRunner_tick.2.1 6 = .ok (.aload_n 2, 1) := by decide +kernel
theorem d_MRunner_tick_7 : decode y_MRunner_tick.2.1 7 = .ok (.putfield 29, 3) := by decide +kernel
theorem d_MRunner_tick_10 : decode y_MRunner_tick.2.1 10 = .ok (.aload_n 0, 1) := by decide +kernel
theorem d_MRunner_tick_11 : decode y_MRunner_tick.2.1 11 = .ok (.aload_n 3, 1) := by decide +kernel
theorem d_MRunner_tick_12 : decode y_MRunner_tick.2.1 12 = .ok (.putfield 33, 3) := by decide +kernel
theorem d_MRunner_tick_15 : decode y_MRunner_tick.2.1 15 = .ok (.aload_n 0, 1) := by decide +kernel
theorem d_MRunner_tick_16 : decode y_MRunner_tick.2.1 16 = .ok (.getfield 29, 3) := by decide +kernel
theorem d_MRunner_tick_19 : decode y_MRunner_tick.2.1 19 = .ok (.dup, 1) := by decide +kernel
theorem d_MRunner_tick_20 : decode y_MRunner_tick.2.1 20 = .ok (.getfield 36, 3) := by decide +kernel
theorem d_MRunner_tick_23 : decode y_MRunner_tick.2.1 23 = .ok (.iconst 1, 1) := by decide +kernel
theorem d_MRunner_tick_24 : decode y_MRunner_tick.2.1 24 = .ok (.iadd, 1) := by decide +kernel
theorem d_MRunner_tick_25 : decode y_MRunner_tick.2.1 25 = .ok (.putfield 36, 3) := by decide +kernel
theorem d_MRunner_tick_28 : decode y_MRunner_tick.2.1 28 = .ok (.aload_n 0, 1) := by decide +kernel
theorem d_MRunner_tick_29 : decode y_MRunner_tick.2.1 29 = .ok (.getfield 29, 3) := by decide +kernel
theorem d_MRunner_tick_32 : decode y_MRunner_tick.2.1 32 = .ok (.iconst (-1), 1) := by decide +kernel
theorem d_MRunner_tick_33 : decode y_MRunner_tick.2.1 33 = .ok (.putfield 42, 3) := by decide +kernel
theorem d_MRunner_tick_36 : decode y_MRunner_tick.2.1 36 = .ok (.aload_n 0, 1) := by decide +kernel
theorem d_MRunner_tick_37 : decode y_MRunner_tick.2.1 37 = .ok (.getfield 29, 3) := by decide +kernel
theorem d_MRunner_tick_40 : decode y_MRunner_tick.2.1 40 = .ok (.iconst 0, 1) := by decide +kernel
theorem d_MRunner_tick_41 : decode y_MRunner_tick.2.1 41 = .ok (.putfield 45, 3) := by decide +kernel
theorem d_MRunner_tick_44 : decode y_MRunner_tick.2.1 44 = .ok (.iconst 0, 1) := by decide +kernel
theorem d_MRunner_tick_45 : decode y_MRunner_tick.2.1 45 = .ok (.istore 4, 2) := by decide +kernel
theorem d_MRunner_tick_47 : decode y_MRunner_tick.2.1 47 = .ok (.iload 4, 2) := by decide +kernel
theorem d_MRunner_tick_49 : decode y_MRunner_tick.2.1 49 = .ok (.aload_n 1, 1) := by decide +kernel
theorem d_MRunner_tick_50 : decode y_MRunner_tick.2.1 50 = .ok (.getfield 48, 3) := by decide +kernel
theorem d_MRunner_tick_53 : decode y_MRunner_tick.2.1 53 = .ok (.if_icmp .ge 134, 3) := by decide +kernel
theorem d_MRunner_tick_56 : decode y_MRunner_tick.2.1 56 = .ok (.aload_n 1, 1) := by decide +kernel
theorem d_MRunner_tick_57 : decode y_MRunner_tick.2.1 57 = .ok (.getfield 53, 3) := by decide +kernel
theorem d_MRunner_tick_60 : decode y_MRunner_tick.2.1 60 = .ok (.iload 4, 2) := by decide +kernel
theorem d_MRunner_tick_62 : decode y_MRunner_tick.2.1 62 = .ok (.iaload, 1) := by decide +kernel
theorem d_MRunner_tick_63 : decode y_MRunner_tick.2.1 63 = .ok (.istore 5, 2) := by decide +kernel
theorem d_MRunner_tick_65 : decode y_MRunner_tick.2.1 65 = .ok (.aload_n 0, 1) := by decide +kernel
theorem d_MRunner_tick_66 : decode y_MRunner_tick.2.1 66 = .ok (.iconst 0, 1) := by decide +kernel
theorem d_MRunner_tick_67 : decode y_MRunner_tick.2.1 67 = .ok (.putfield 56, 3) := by decide +kernel
theorem d_MRunner_tick_70 : decode y_MRunner_tick.2.1 70 = .ok (.iload 4, 2) := by decide +kernel
theorem d_MRunner_tick_72 : decode y_MRunner_tick.2.1 72 = .ok (.aload_n 1, 1) := by decide +kernel
theorem d_MRunner_tick_73 : decode y_MRunner_tick.2.1 73 = .ok (.getfield 48, 3) := by decide +kernel
theorem d_MRunner_tick_76 : decode y_MRunner_tick.2.1 76 = .ok (.if_icmp .ge 61, 3) := by decide +kernel
theorem d_MRunner_tick_79 : decode y_MRunner_tick.2.1 79 = .ok (.aload_n 1, 1) := by decide +kernel
theorem d_MRunner_tick_80 : decode y_MRunner_tick.2.1 80 = .ok (.getfield 53, 3) := by decide +kernel
theorem d_MRunner_tick_83 : decode y_MRunner_tick.2.1 83 = .ok (.iload 4, 2) := by decide +kernel
theorem d_MRunner_tick_85 : decode y_MRunner_tick.2.1 85 = .ok (.iaload, 1) := by decide +kernel
theorem d_MRunner_tick_86 : decode y_MRunner_tick.2.1 86 = .ok (.iload 5, 2) := by decide +kernel
theorem d_MRunner_tick_88 : decode y_MRunner_tick.2.1 88 = .ok (.if_icmp .ne 49, 3) := by decide +kernel
theorem d_MRunner_tick_91 : decode y_MRunner_tick.2.1 91 = .ok (.iconst 0, 1) := by decide +kernel
theorem d_MRunner_tick_92 : decode y_MRunner_tick.2.1 92 = .ok (.istore 6, 2) := by decide +kernel
theorem d_MRunner_tick_94 : decode y_MRunner_tick.2.1 94 = .ok (.iload 6, 2) := by decide +kernel
theorem d_MRunner_tick_96 : decode y_MRunner_tick.2.1 96 = .ok (.sipush 256, 3) := by decide +kernel
theorem d_MRunner_tick_99 : decode y_MRunner_tick.2.1 99 = .ok (.if_icmp .ge 32, 3) := by decide +kernel
theorem d_MRunner_tick_102 : decode y_MRunner_tick.2.1 102 = .ok (.aload_n 1, 1) := by decide +kernel
theorem d_MRunner_tick_103 : decode y_MRunner_tick.2.1 103 = .ok (.iload 4, 2) := by decide +kernel
theorem d_MRunner_tick_105 : decode y_MRunner_tick.2.1 105 = .ok (.aload_n 0, 1) := by decide +kernel
theorem d_MRunner_tick_106 : decode y_MRunner_tick.2.1 106 = .ok (.getfield 29, 3) := by decide +kernel
theorem d_MRunner_tick_109 : decode y_MRunner_tick.2.1 109 = .ok (.iload 6, 2) := by decide +kernel
theorem d_MRunner_tick_111 : decode y_MRunner_tick.2.1 111 = .ok (.invokevirtual 59, 3) := by decide +kernel
theorem d_MRunner_tick_114 : decode y_MRunner_tick.2.1 114 = .ok (.ifCond .eq 11, 3) := by decide +kernel
theorem d_MRunner_tick_117 : decode y_MRunner_tick.2.1 117 = .ok (.aload_n 0, 1) := by decide +kernel
theorem d_MRunner_tick_118 : decode y_MRunner_tick.2.1 118 = .ok (.iload 4, 2) := by decide +kernel
theorem d_MRunner_tick_120 : decode y_MRunner_tick.2.1 120 = .ok (.iload 6, 2) := by decide +kernel
theorem d_MRunner_tick_122 : decode y_MRunner_tick.2.1 122 = .ok (.invokevirtual 63, 3) := by decide +kernel
theorem d_MRunner_tick_125 : decode y_MRunner_tick.2.1 125 = .ok (.iinc 6 1, 3) := by decide +kernel
theorem d_MRunner_tick_128 : decode y_MRunner_tick.2.1 128 = .ok (.goto (-34), 3) := by decide +kernel
theorem d_MRunner_tick_131 : decode y_MRunner_tick.2.1 131 = .ok (.iinc 4 1, 3) := by decide +kernel
theorem d_MRunner_tick_134 : decode y_MRunner_tick.2.1 134 = .ok (.goto (-64), 3) := by decide +kernel
theorem d_MRunner_tick_137 : decode y_MRunner_tick.2.1 137 = .ok (.iconst 0, 1) := by decide +kernel
theorem d_MRunner_tick_138 : decode y_MRunner_tick.2.1 138 = .ok (.istore 6, 2) := by decide +kernel
theorem d_MRunner_tick_140 : decode y_MRunner_tick.2.1 140 = .ok (.iload 6, 2) := by decide +kernel
theorem d_MRunner_tick_142 : decode y_MRunner_tick.2.1 142 = .ok (.aload_n 0, 1) := by decide +kernel
theorem d_MRunner_tick_143 : decode y_MRunner_tick.2.1 143 = .ok (.getfield 56, 3) := by decide +kernel
theorem d_MRunner_tick_146 : decode y_MRunner_tick.2.1 146 = .ok (.if_icmp .ge 38, 3) := by decide +kernel
theorem d_MRunner_tick_149 : decode y_MRunner_tick.2.1 149 = .ok (.aload_n 0, 1) := by decide +kernel
theorem d_MRunner_tick_150 : decode y_MRunner_tick.2.1 150 = .ok (.getfield 29, 3) := by decide +kernel
theorem d_MRunner_tick_153 : decode y_MRunner_tick.2.1 153 = .ok (.dup, 1) := by decide +kernel
theorem d_MRunner_tick_154 : decode y_MRunner_tick.2.1 154 = .ok (.getfield 67, 3) := by decide +kernel
theorem d_MRunner_tick_157 : decode y_MRunner_tick.2.1 157 = .ok (.aload_n 0, 1) := by decide +kernel
theorem d_MRunner_tick_158 : decode y_MRunner_tick.2.1 158 = .ok (.bipush 12, 2) := by decide +kernel
theorem d_MRunner_tick_160 : decode y_MRunner_tick.2.1 160 = .ok (.iload 6, 2) := by decide +kernel
theorem d_MRunner_tick_162 : decode y_MRunner_tick.2.1 162 = .ok (.imul, 1) := by decide +kernel
theorem d_MRunner_tick_163 : decode y_MRunner_tick.2.1 163 = .ok (.invokevirtual 70, 3) := by decide +kernel
theorem d_MRunner_tick_166 : decode y_MRunner_tick.2.1 166 = .ok (.ifCond .eq 7, 3) := by decide +kernel
theorem d_MRunner_tick_169 : decode y_MRunner_tick.2.1 169 = .ok (.iconst 0, 1) := by decide +kernel
theorem d_MRunner_tick_170 : decode y_MRunner_tick.2.1 170 = .ok (.goto 4, 3) := by decide +kernel
theorem d_MRunner_tick_173 : decode y_MRunner_tick.2.1 173 = .ok (.iconst 1, 1) := by decide +kernel
theorem d_MRunner_tick_174 : decode y_MRunner_tick.2.1 174 = .ok (.iadd, 1) := by decide +kernel
theorem d_MRunner_tick_175 : decode y_MRunner_tick.2.1 175 = .ok (.putfield 67, 3) := by decide +kernel
theorem d_MRunner_tick_178 : decode y_MRunner_tick.2.1 178 = .ok (.iinc 6 1, 3) := by decide +kernel
theorem d_MRunner_tick_181 : decode y_MRunner_tick.2.1 181 = .ok (.goto (-41), 3) := by decide +kernel
theorem d_MRunner_tick_184 : decode y_MRunner_tick.2.1 184 = .ok (.goto (-137), 3) := by decide +kernel
theorem d_MRunner_tick_187 : decode y_MRunner_tick.2.1 187 = .ok (.aload_n 0, 1) := by decide +kernel
theorem d_MRunner_tick_188 : decode y_MRunner_tick.2.1 188 = .ok (.getfield 29, 3) := by decide +kernel
theorem d_MRunner_tick_191 : decode y_MRunner_tick.2.1 191 = .ok (.invokevirtual 74, 3) := by decide +kernel
theorem d_MRunner_tick_194 : decode y_MRunner_tick.2.1 194 = .ok (.return_, 1) := by decide +kernel
theorem s_MRunner_tick : ab_Stat y_MRunner_tick 3 := ⟨(k11 217 rfl rfl), (k1 22 rfl rfl), ⟨by decide, by decide⟩, by decide +kernel⟩
theorem i_MRunner_tick : Cond.instanceMethod y_MRunner_tick.1 ∈ ab_T := (k11 215 rfl rfl)
theorem v_MRunner_tick : Cond.selects "WorldEngineModel$Runner" y_MRunner_tick.1 y_MRunner_tick.1 ∈ ab_T := (k11 216 rfl rfl)
def B_MRunner_tick_174 (N : Nat) (p0 : Nat) (p1 : Nat) (p2 : Nat) (p3 : Nat) (kq47 : Int32 → Hp → Option (Unit × Hp)) (kq140 : Int32 → Int32 → Hp → Option (Unit × Hp)) (l4 : Int32) (l6 : Int32) (w0 : Nat) (w1 : Int32) (w2 : Int32) (H : Hp) : Option (Unit × Hp) :=
    ck (H.sh[w0]? = some (13, 0)) <|
    bnd (H.sD w0 3 (w1 + w2)) fun H51 =>
    kq140 l4 (l6 + 1) H51
set_option maxRecDepth 20000 in
set_option maxHeartbeats 2000000 in
theorem mB_MRunner_tick_174 {N : Nat} {p0 : Nat} {p1 : Nat} {p2 : Nat} {p3 : Nat} {kq47 : Int32 → Hp → Option (Unit × Hp)} {kq140 : Int32 → Int32 → Hp → Option (Unit × Hp)} (hm47 : ∀ (l4 : Int32) (H : Hp) (r : Unit × Hp), kq47 l4 H = some r → Sa H r.2) (hm140 : ∀ (l4 : Int32) (l6 : Int32) (H : Hp) (r : Unit × Hp), kq140 l4 l6 H = some r → Sa H r.2) {l4 : Int32} {l6 : Int32} {w0 : Nat} {w1 : Int32} {w2 : Int32} {H : Hp} {r : Unit × Hp} (hF : B_MRunner_tick_174 N p0 p1 p2 p3 kq47 kq140 l4 l6 w0 w1 w2 H = some r) : Sa H r.2 := by
  unfold B_MRunner_tick_174 at hF
  have hm := Sa.rf H
  obtain ⟨q52, hG⟩ := ck_s hF; clear hF
  obtain ⟨H53, eH53, hF⟩ := bnd_g hG; clear hG
  replace hm : Sa H H53 := by rw [eH53]; exact hm
  exact hm.tr (hm140 l4 (l6 + 1) H53 r hF)
set_option maxRecDepth 20000 in
set_option maxHeartbeats 2000000 in
theorem kB_MRunner_tick_174 {N : Nat} {p0 : Nat} {p1 : Nat} {p2 : Nat} {p3 : Nat} {kq47 : Int32 → Hp → Option (Unit × Hp)} {kq140 : Int32 → Int32 → Hp → Option (Unit × Hp)} (hm47 : ∀ (l4 : Int32) (H : Hp) (r : Unit × Hp), kq47 l4 H = some r → Sa H r.2) (hm140 : ∀ (l4 : Int32) (l6 : Int32) (H : Hp) (r : Unit × Hp), kq140 l4 l6 H = some r → Sa H r.2) (hk47 : ∀ (l4 : Int32) (H : Hp) (r : Unit × Hp), kq47 l4 H = some r → ab_V y_MRunner_tick { frames := 328, cells := 0, slots := 0, locals := 8081 } (po (.returned none) r.2) 0 0 0 0 47 [some (.ref p0), some (.ref p1), some (.ref p2), some (.ref p3), some (.int l4), none, none] [] (hpw H)) (hk140 : ∀ (l4 : Int32) (l6 : Int32) (H : Hp) (r : Unit × Hp), kq140 l4 l6 H = some r → ab_V y_MRunner_tick { frames := 328, cells := 0, slots := 0, locals := 8081 } (po (.returned none) r.2) 0 0 0 0 140 [some (.ref p0), some (.ref p1), some (.ref p2), some (.ref p3), some (.int l4), none, some (.int l6)] [] (hpw H)) {l4 : Int32} {l6 : Int32} {w0 : Nat} {w1 : Int32} {w2 : Int32} {H : Hp} {r : Unit × Hp} (hF : B_MRunner_tick_174 N p0 p1 p2 p3 kq47 kq140 l4 l6 w0 w1 w2 H = some r) : ab_V y_MRunner_tick { frames := 328, cells := 0, slots := 0, locals := 8081 } (po (.returned none) r.2) 0 0 0 0 174 [some (.ref p0), some (.ref p1), some (.ref p2), some (.ref p3), some (.int l4), none, some (.int l6)] [.int w2, .int w1, .ref w0] (hpw H) := by
  unfold B_MRunner_tick_174 at hF
  refine ab_iadd d_MRunner_tick_174 ?_
  obtain ⟨q50, hG⟩ := ck_s hF; clear hF
  refine hp_putIN (v := w1 + w2) (f := 3) d_MRunner_tick_175 q50 (by decide) rfl (by decide) (k9 96 rfl rfl) rfl rfl (fun _ => rfl) (fun _ => rfl) rfl ?_
  refine hp_gen (fun H51 eH51 => ?_)
  replace hG := bnd_s eH51 hG
  have s_10 : Sa H H51 := by rw [eH51]; exact Sa.rf _
  refine ab_iinc (v := l6 + 1) (lv' := [some (.ref p0), some (.ref p1), some (.ref p2), some (.ref p3), some (.int l4), none, some (.int (l6 + 1))]) d_MRunner_tick_178 rfl rfl (by decide) rfl ?_
  refine ab_goto (tgt := 140) d_MRunner_tick_181 (by decide) ?_
  exact hk140 l4 (l6 + 1) H51 r hG
def B_MRunner_tick_140 (N : Nat) (p0 : Nat) (p1 : Nat) (p2 : Nat) (p3 : Nat) (kq47 : Int32 → Hp → Option (Unit × Hp)) : Nat → Int32 → Int32 → Hp → Option (Unit × Hp)
  | 0, _, _, _ => none
  | n + 1, l4, l6, H =>
    ck (H.sh[p0]? = some (15, 0)) <|
    bnd ((H.D p0 4)) fun x40 =>
    if x40 ≤ l6 then
    kq47 l4 H
    else
    rf (H.P p0 1) fun a42 =>
    ck (H.sh[a42]? = some (13, 0)) <|
    bnd ((H.D a42 3)) fun x45 =>
    bC (F_MRunner_acts N p0 ((12 : Int32) * l6) H) fun v47 H48 =>
    if v47 = (0 : Int32) then
    B_MRunner_tick_174 N p0 p1 p2 p3 kq47 (fun l4 l6 H => B_MRunner_tick_140 N p0 p1 p2 p3 kq47 n l4 l6 H) l4 l6 a42 x45 1 H48
    else
    B_MRunner_tick_174 N p0 p1 p2 p3 kq47 (fun l4 l6 H => B_MRunner_tick_140 N p0 p1 p2 p3 kq47 n l4 l6 H) l4 l6 a42 x45 0 H48
termination_by structural n => n
set_option maxRecDepth 20000 in
set_option maxHeartbeats 2000000 in
theorem mB_MRunner_tick_140 {N : Nat} {p0 : Nat} {p1 : Nat} {p2 : Nat} {p3 : Nat} {kq47 : Int32 → Hp → Option (Unit × Hp)} (hm47 : ∀ (l4 : Int32) (H : Hp) (r : Unit × Hp), kq47 l4 H = some r → Sa H r.2) : ∀ (n : Nat) (l4 : Int32) (l6 : Int32) (H : Hp) (r : Unit × Hp), B_MRunner_tick_140 N p0 p1 p2 p3 kq47 n l4 l6 H = some r → Sa H r.2 := by
  intro n
  induction n with
  | zero => intro l4 l6 H r hF; rw [B_MRunner_tick_140] at hF; cases hF
  | succ n ih =>
    intro l4 l6 H r hF
    rw [B_MRunner_tick_140] at hF
    have hm := Sa.rf H
    obtain ⟨q54, hG⟩ := ck_s hF; clear hF
    obtain ⟨x55, -, hF⟩ := bnd_g hG; clear hG
    rcases ite_s hF with ⟨q_12, hG⟩ | ⟨q_12, hG⟩
    · clear hF
      exact hm.tr (hm47 l4 H r hG)
    · clear hF
      obtain ⟨a57, e58, hF⟩ := rf_s hG; clear hG
      obtain ⟨q59, hG⟩ := ck_s hF; clear hF
      obtain ⟨x60, -, hF⟩ := bnd_g hG; clear hG
      obtain ⟨v62, H63, z61, hG⟩ := bC_s hF; clear hF
      replace hm : Sa H H63 := hm.tr (m_MRunner_acts z61)
      rcases ite_s hG with ⟨q_14, hF⟩ | ⟨q_14, hF⟩
      · clear hG
        exact hm.tr (mB_MRunner_tick_174 hm47 ih hF)
      · clear hG
        exact hm.tr (mB_MRunner_tick_174 hm47 ih hF)
set_option maxRecDepth 20000 in
set_option maxHeartbeats 2000000 in
theorem kB_MRunner_tick_140 {N : Nat} {p0 : Nat} {p1 : Nat} {p2 : Nat} {p3 : Nat} {kq47 : Int32 → Hp → Option (Unit × Hp)} (hm47 : ∀ (l4 : Int32) (H : Hp) (r : Unit × Hp), kq47 l4 H = some r → Sa H r.2) (hk47 : ∀ (l4 : Int32) (H : Hp) (r : Unit × Hp), kq47 l4 H = some r → ab_V y_MRunner_tick { frames := 328, cells := 0, slots := 0, locals := 8081 } (po (.returned none) r.2) 0 0 0 0 47 [some (.ref p0), some (.ref p1), some (.ref p2), some (.ref p3), some (.int l4), none, none] [] (hpw H)) : ∀ (n : Nat) (l4 : Int32) (l6 : Int32) (H : Hp) (r : Unit × Hp), B_MRunner_tick_140 N p0 p1 p2 p3 kq47 n l4 l6 H = some r → ab_V y_MRunner_tick { frames := 328, cells := 0, slots := 0, locals := 8081 } (po (.returned none) r.2) 0 0 0 0 140 [some (.ref p0), some (.ref p1), some (.ref p2), some (.ref p3), some (.int l4), none, some (.int l6)] [] (hpw H) := by
  intro n
  induction n with
  | zero => intro l4 l6 H r hF; rw [B_MRunner_tick_140] at hF; cases hF
  | succ n ih =>
    intro l4 l6 H r hF
    rw [B_MRunner_tick_140] at hF
    refine ab_iload d_MRunner_tick_140 rfl ?_
    refine ab_aload_n d_MRunner_tick_142 rfl rfl rfl ?_
    obtain ⟨q39, hG⟩ := ck_s hF; clear hF
    refine hp_getI (f := 4) d_MRunner_tick_143 q39 (by decide) rfl (by decide) (k9 187 rfl rfl) rfl ?_
    refine ab_topi (fun x40 ex40 => ?_)
    replace hG := bnd_s ex40 hG
    refine ab_icmp_ge (tgt := 184) d_MRunner_tick_146 (by decide) (fun q41 => ?_) (fun q41 => ?_)
    · rw [if_pos q41] at hG
      refine ab_goto (tgt := 47) d_MRunner_tick_184 (by decide) ?_
      refine ab_le (lv' := [some (.ref p0), some (.ref p1), some (.ref p2), some (.ref p3), some (.int l4), none, none]) ⟨rfl, ⟨rfl, ⟨rfl, ⟨rfl, ⟨rfl, trivial⟩⟩⟩⟩⟩ ?_
      exact hk47 l4 H r hG
    · rw [if_neg q41] at hG
      refine ab_aload_n d_MRunner_tick_149 rfl rfl rfl ?_
      obtain ⟨a42, e43, hF⟩ := rf_s hG; clear hG
      refine hp_getR (f := 1) d_MRunner_tick_150 q39 (by decide) rfl (by decide) (k9 184 rfl rfl) rfl e43 ?_
      refine ab_dup d_MRunner_tick_153 rfl ?_
      obtain ⟨q44, hG⟩ := ck_s hF; clear hF
      refine hp_getIN (f := 3) d_MRunner_tick_154 q44 (by decide) rfl (by decide) (k9 96 rfl rfl) rfl ?_
      refine ab_topi (fun x45 ex45 => ?_)
      replace hG := bnd_s ex45 hG
      refine ab_aload_n d_MRunner_tick_157 rfl rfl rfl ?_
      refine ab_bipush (v := 12) d_MRunner_tick_158 (by decide) ?_
      refine ab_iload d_MRunner_tick_160 rfl ?_
      refine ab_imul d_MRunner_tick_162 ?_
      obtain ⟨v47, H48, z46, hF⟩ := bC_s hG; clear hG
      refine hp_callV_a (v := .int v47) (H1 := H48) (As := [.int ((12 : Int32) * l6)]) (rest := [.int x45, .ref a42]) d_MRunner_tick_163 (k_MRunner_acts z46) (ab_mkC s_MRunner_acts (Nat.le_of_ble_eq_true rfl) (Nat.le_of_ble_eq_true rfl) (Nat.le_refl 0) (Nat.le_refl 0)) (k12 133 rfl rfl) i_MRunner_acts v_MRunner_acts q39 (by decide) rfl rfl (Nat.le_of_ble_eq_true rfl) ?_
      have s_9 : Sa H H48 := (m_MRunner_acts z46)
      refine ab_if_eq (tgt := 173) d_MRunner_tick_166 (by decide) (fun q49 => ?_) (fun q49 => ?_)
      · rw [if_pos q49] at hF
        refine ab_iconst (v := 1) d_MRunner_tick_173 (by decide) ?_
        exact kB_MRunner_tick_174 hm47 (mB_MRunner_tick_140 hm47 n) hk47 ih hF
      · rw [if_neg q49] at hF
        refine ab_iconst (v := 0) d_MRunner_tick_169 (by decide) ?_
        refine ab_goto (tgt := 174) d_MRunner_tick_170 (by decide) ?_
        exact kB_MRunner_tick_174 hm47 (mB_MRunner_tick_140 hm47 n) hk47 ih hF
def B_MRunner_tick_137 (N : Nat) (p0 : Nat) (p1 : Nat) (p2 : Nat) (p3 : Nat) (kq47 : Int32 → Hp → Option (Unit × Hp)) (l4 : Int32) (H : Hp) : Option (Unit × Hp) :=
    B_MRunner_tick_140 N p0 p1 p2 p3 kq47 N l4 0 H
set_option maxRecDepth 20000 in
set_option maxHeartbeats 2000000 in
theorem mB_MRunner_tick_137 {N : Nat} {p0 : Nat} {p1 : Nat} {p2 : Nat} {p3 : Nat} {kq47 : Int32 → Hp → Option (Unit × Hp)} (hm47 : ∀ (l4 : Int32) (H : Hp) (r : Unit × Hp), kq47 l4 H = some r → Sa H r.2) {l4 : Int32} {H : Hp} {r : Unit × Hp} (hF : B_MRunner_tick_137 N p0 p1 p2 p3 kq47 l4 H = some r) : Sa H r.2 := by
  unfold B_MRunner_tick_137 at hF
  have hm := Sa.rf H
  exact hm.tr (mB_MRunner_tick_140 hm47 N l4 0 H r hF)
set_option maxRecDepth 20000 in
set_option maxHeartbeats 2000000 in
theorem kB_MRunner_tick_137 {N : Nat} {p0 : Nat} {p1 : Nat} {p2 : Nat} {p3 : Nat} {kq47 : Int32 → Hp → Option (Unit × Hp)} (hm47 : ∀ (l4 : Int32) (H : Hp) (r : Unit × Hp), kq47 l4 H = some r → Sa H r.2) (hk47 : ∀ (l4 : Int32) (H : Hp) (r : Unit × Hp), kq47 l4 H = some r → ab_V y_MRunner_tick { frames := 328, cells := 0, slots := 0, locals := 8081 } (po (.returned none) r.2) 0 0 0 0 47 [some (.ref p0), some (.ref p1), some (.ref p2), some (.ref p3), some (.int l4), none, none] [] (hpw H)) {l4 : Int32} {H : Hp} {r : Unit × Hp} (hF : B_MRunner_tick_137 N p0 p1 p2 p3 kq47 l4 H = some r) : ab_V y_MRunner_tick { frames := 328, cells := 0, slots := 0, locals := 8081 } (po (.returned none) r.2) 0 0 0 0 137 [some (.ref p0), some (.ref p1), some (.ref p2), some (.ref p3), some (.int l4), none, none] [] (hpw H) := by
  unfold B_MRunner_tick_137 at hF
  refine ab_iconst (v := 0) d_MRunner_tick_137 (by decide) ?_
  refine ab_istore (lv' := [some (.ref p0), some (.ref p1), some (.ref p2), some (.ref p3), some (.int l4), none, some (.int 0)]) d_MRunner_tick_138 (by decide) rfl ?_
  exact kB_MRunner_tick_140 hm47 hk47 N l4 0 H r hF
def B_MRunner_tick_125 (N : Nat) (p0 : Nat) (p1 : Nat) (p2 : Nat) (p3 : Nat) (kq47 : Int32 → Hp → Option (Unit × Hp)) (kq70 : Int32 → Int32 → Hp → Option (Unit × Hp)) (kq94 : Int32 → Int32 → Int32 → Hp → Option (Unit × Hp)) (l4 : Int32) (l5 : Int32) (l6 : Int32) (H : Hp) : Option (Unit × Hp) :=
    kq94 l4 l5 (l6 + 1) H
set_option maxRecDepth 20000 in
set_option maxHeartbeats 2000000 in
theorem mB_MRunner_tick_125 {N : Nat} {p0 : Nat} {p1 : Nat} {p2 : Nat} {p3 : Nat} {kq47 : Int32 → Hp → Option (Unit × Hp)} {kq70 : Int32 → Int32 → Hp → Option (Unit × Hp)} {kq94 : Int32 → Int32 → Int32 → Hp → Option (Unit × Hp)} (hm47 : ∀ (l4 : Int32) (H : Hp) (r : Unit × Hp), kq47 l4 H = some r → Sa H r.2) (hm70 : ∀ (l4 : Int32) (l5 : Int32) (H : Hp) (r : Unit × Hp), kq70 l4 l5 H = some r → Sa H r.2) (hm94 : ∀ (l4 : Int32) (l5 : Int32) (l6 : Int32) (H : Hp) (r : Unit × Hp), kq94 l4 l5 l6 H = some r → Sa H r.2) {l4 : Int32} {l5 : Int32} {l6 : Int32} {H : Hp} {r : Unit × Hp} (hF : B_MRunner_tick_125 N p0 p1 p2 p3 kq47 kq70 kq94 l4 l5 l6 H = some r) : Sa H r.2 := by
  unfold B_MRunner_tick_125 at hF
  have hm := Sa.rf H
  exact hm.tr (hm94 l4 l5 (l6 + 1) H r hF)
set_option maxRecDepth 20000 in
set_option maxHeartbeats 2000000 in
theorem kB_MRunner_tick_125 {N : Nat} {p0 : Nat} {p1 : Nat} {p2 : Nat} {p3 : Nat} {kq47 : Int32 → Hp → Option (Unit × Hp)} {kq70 : Int32 → Int32 → Hp → Option (Unit × Hp)} {kq94 : Int32 → Int32 → Int32 → Hp → Option (Unit × Hp)} (hm47 : ∀ (l4 : Int32) (H : Hp) (r : Unit × Hp), kq47 l4 H = some r → Sa H r.2) (hm70 : ∀ (l4 : Int32) (l5 : Int32) (H : Hp) (r : Unit × Hp), kq70 l4 l5 H = some r → Sa H r.2) (hm94 : ∀ (l4 : Int32) (l5 : Int32) (l6 : Int32) (H : Hp) (r : Unit × Hp), kq94 l4 l5 l6 H = some r → Sa H r.2) (hk47 : ∀ (l4 : Int32) (H : Hp) (r : Unit × Hp), kq47 l4 H = some r → ab_V y_MRunner_tick { frames := 328, cells := 0, slots := 0, locals := 8081 } (po (.returned none) r.2) 0 0 0 0 47 [some (.ref p0), some (.ref p1), some (.ref p2), some (.ref p3), some (.int l4), none, none] [] (hpw H)) (hk70 : ∀ (l4 : Int32) (l5 : Int32) (H : Hp) (r : Unit × Hp), kq70 l4 l5 H = some r → ab_V y_MRunner_tick { frames := 328, cells := 0, slots := 0, locals := 8081 } (po (.returned none) r.2) 0 0 0 0 70 [some (.ref p0), some (.ref p1), some (.ref p2), some (.ref p3), some (.int l4), some (.int l5), none] [] (hpw H)) (hk94 : ∀ (l4 : Int32) (l5 : Int32) (l6 : Int32) (H : Hp) (r : Unit × Hp), kq94 l4 l5 l6 H = some r → ab_V y_MRunner_tick { frames := 328, cells := 0, slots := 0, locals := 8081 } (po (.returned none) r.2) 0 0 0 0 94 [some (.ref p0), some (.ref p1), some (.ref p2), some (.ref p3), some (.int l4), some (.int l5), some (.int l6)] [] (hpw H)) {l4 : Int32} {l5 : Int32} {l6 : Int32} {H : Hp} {r : Unit × Hp} (hF : B_MRunner_tick_125 N p0 p1 p2 p3 kq47 kq70 kq94 l4 l5 l6 H = some r) : ab_V y_MRunner_tick { frames := 328, cells := 0, slots := 0, locals := 8081 } (po (.returned none) r.2) 0 0 0 0 125 [some (.ref p0), some (.ref p1), some (.ref p2), some (.ref p3), some (.int l4), some (.int l5), some (.int l6)] [] (hpw H) := by
  unfold B_MRunner_tick_125 at hF
  refine ab_iinc (v := l6 + 1) (lv' := [some (.ref p0), some (.ref p1), some (.ref p2), some (.ref p3), some (.int l4), some (.int l5), some (.int (l6 + 1))]) d_MRunner_tick_125 rfl rfl (by decide) rfl ?_
  refine ab_goto (tgt := 94) d_MRunner_tick_128 (by decide) ?_
  exact hk94 l4 l5 (l6 + 1) H r hF
def B_MRunner_tick_94 (N : Nat) (p0 : Nat) (p1 : Nat) (p2 : Nat) (p3 : Nat) (kq47 : Int32 → Hp → Option (Unit × Hp)) (kq70 : Int32 → Int32 → Hp → Option (Unit × Hp)) : Nat → Int32 → Int32 → Int32 → Hp → Option (Unit × Hp)
  | 0, _, _, _, _ => none
  | n + 1, l4, l5, l6, H =>
    if (256 : Int32) ≤ l6 then
    kq70 (l4 + 1) l5 H
    else
    ck (H.sh[p0]? = some (15, 0)) <|
    rf (H.P p0 1) fun a74 =>
    ck (H.sh[p1]? = some (14, 0)) <|
    bC (F_MText_isRow N p1 l4 a74 l6 H) fun v78 H79 =>
    if v78 = (0 : Int32) then
    B_MRunner_tick_125 N p0 p1 p2 p3 kq47 kq70 (fun l4 l5 l6 H => B_MRunner_tick_94 N p0 p1 p2 p3 kq47 kq70 n l4 l5 l6 H) l4 l5 l6 H79
    else
    bC (F_MRunner_row N p0 l4 l6 H79) fun v82 H83 =>
    B_MRunner_tick_125 N p0 p1 p2 p3 kq47 kq70 (fun l4 l5 l6 H => B_MRunner_tick_94 N p0 p1 p2 p3 kq47 kq70 n l4 l5 l6 H) l4 l5 l6 H83
termination_by structural n => n
set_option maxRecDepth 20000 in
set_option maxHeartbeats 2000000 in
theorem mB_MRunner_tick_94 {N : Nat} {p0 : Nat} {p1 : Nat} {p2 : Nat} {p3 : Nat} {kq47 : Int32 → Hp → Option (Unit × Hp)} {kq70 : Int32 → Int32 → Hp → Option (Unit × Hp)} (hm47 : ∀ (l4 : Int32) (H : Hp) (r : Unit × Hp), kq47 l4 H = some r → Sa H r.2) (hm70 : ∀ (l4 : Int32) (l5 : Int32) (H : Hp) (r : Unit × Hp), kq70 l4 l5 H = some r → Sa H r.2) : ∀ (n : Nat) (l4 : Int32) (l5 : Int32) (l6 : Int32) (H : Hp) (r : Unit × Hp), B_MRunner_tick_94 N p0 p1 p2 p3 kq47 kq70 n l4 l5 l6 H = some r → Sa H r.2 := by
  intro n
  induction n with
  | zero => intro l4 l5 l6 H r hF; rw [B_MRunner_tick_94] at hF; cases hF
  | succ n ih =>
    intro l4 l5 l6 H r hF
    rw [B_MRunner_tick_94] at hF
    have hm := Sa.rf H
    rcases ite_s hF with ⟨q_17, hG⟩ | ⟨q_17, hG⟩
    · clear hF
      exact hm.tr (hm70 (l4 + 1) l5 H r hG)
    · clear hF
      obtain ⟨q85, hF⟩ := ck_s hG; clear hG
      obtain ⟨a86, e87, hG⟩ := rf_s hF; clear hF
      obtain ⟨q88, hF⟩ := ck_s hG; clear hG
      obtain ⟨v90, H91, z89, hG⟩ := bC_s hF; clear hF
      replace hm : Sa H H91 := hm.tr (m_MText_isRow z89)
      rcases ite_s hG with ⟨q_19, hF⟩ | ⟨q_19, hF⟩
      · clear hG
        exact hm.tr (mB_MRunner_tick_125 hm47 hm70 ih hF)
      · clear hG
        obtain ⟨v94, H95, z93, hG⟩ := bC_s hF; clear hF
        replace hm : Sa H H95 := hm.tr (m_MRunner_row z93)
        exact hm.tr (mB_MRunner_tick_125 hm47 hm70 ih hG)
set_option maxRecDepth 20000 in
set_option maxHeartbeats 2000000 in
theorem kB_MRunner_tick_94 {N : Nat} {p0 : Nat} {p1 : Nat} {p2 : Nat} {p3 : Nat} {kq47 : Int32 → Hp → Option (Unit × Hp)} {kq70 : Int32 → Int32 → Hp → Option (Unit × Hp)} (hm47 : ∀ (l4 : Int32) (H : Hp) (r : Unit × Hp), kq47 l4 H = some r → Sa H r.2) (hm70 : ∀ (l4 : Int32) (l5 : Int32) (H : Hp) (r : Unit × Hp), kq70 l4 l5 H = some r → Sa H r.2) (hk47 : ∀ (l4 : Int32) (H : Hp) (r : Unit × Hp), kq47 l4 H = some r → ab_V y_MRunner_tick { frames := 328, cells := 0, slots := 0, locals := 8081 } (po (.returned none) r.2) 0 0 0 0 47 [some (.ref p0), some (.ref p1), some (.ref p2), some (.ref p3), some (.int l4), none, none] [] (hpw H)) (hk70 : ∀ (l4 : Int32) (l5 : Int32) (H : Hp) (r : Unit × Hp), kq70 l4 l5 H = some r → ab_V y_MRunner_tick { frames := 328, cells := 0, slots := 0, locals := 8081 } (po (.returned none) r.2) 0 0 0 0 70 [some (.ref p0), some (.ref p1), some (.ref p2), some (.ref p3), some (.int l4), some (.int l5), none] [] (hpw H)) : ∀ (n : Nat) (l4 : Int32) (l5 : Int32) (l6 : Int32) (H : Hp) (r : Unit × Hp), B_MRunner_tick_94 N p0 p1 p2 p3 kq47 kq70 n l4 l5 l6 H = some r → ab_V y_MRunner_tick { frames := 328, cells := 0, slots := 0, locals := 8081 } (po (.returned none) r.2) 0 0 0 0 94 [some (.ref p0), some (.ref p1), some (.ref p2), some (.ref p3), some (.int l4), some (.int l5), some (.int l6)] [] (hpw H) := by
  intro n
  induction n with
  | zero => intro l4 l5 l6 H r hF; rw [B_MRunner_tick_94] at hF; cases hF
  | succ n ih =>
    intro l4 l5 l6 H r hF
    rw [B_MRunner_tick_94] at hF
    refine ab_iload d_MRunner_tick_94 rfl ?_
    refine ab_sipush (v := 256) d_MRunner_tick_96 (by decide) ?_
    refine ab_icmp_ge (tgt := 131) d_MRunner_tick_99 (by decide) (fun q72 => ?_) (fun q72 => ?_)
    · rw [if_pos q72] at hF
      refine ab_iinc (v := l4 + 1) (lv' := [some (.ref p0), some (.ref p1), some (.ref p2), some (.ref p3), some (.int (l4 + 1)), some (.int l5), some (.int l6)]) d_MRunner_tick_131 rfl rfl (by decide) rfl ?_
      refine ab_goto (tgt := 70) d_MRunner_tick_134 (by decide) ?_
      refine ab_le (lv' := [some (.ref p0), some (.ref p1), some (.ref p2), some (.ref p3), some (.int (l4 + 1)), some (.int l5), none]) ⟨rfl, ⟨rfl, ⟨rfl, ⟨rfl, ⟨rfl, ⟨rfl, trivial⟩⟩⟩⟩⟩⟩ ?_
      exact hk70 (l4 + 1) l5 H r hF
    · rw [if_neg q72] at hF
      refine ab_aload_n d_MRunner_tick_102 rfl rfl rfl ?_
      refine ab_iload d_MRunner_tick_103 rfl ?_
      refine ab_aload_n d_MRunner_tick_105 rfl rfl rfl ?_
      obtain ⟨q73, hG⟩ := ck_s hF; clear hF
      obtain ⟨a74, e75, hF⟩ := rf_s hG; clear hG
      refine hp_getR (f := 1) d_MRunner_tick_106 q73 (by decide) rfl (by decide) (k9 184 rfl rfl) rfl e75 ?_
      refine ab_iload d_MRunner_tick_109 rfl ?_
      obtain ⟨q76, hG⟩ := ck_s hF; clear hF
      obtain ⟨v78, H79, z77, hF⟩ := bC_s hG; clear hG
      refine hp_callV_a (v := .int v78) (H1 := H79) (As := [.int l4, .ref a74, .int l6]) (rest := []) d_MRunner_tick_111 (k_MText_isRow z77) (ab_mkC s_MText_isRow (Nat.le_of_ble_eq_true rfl) (Nat.le_of_ble_eq_true rfl) (Nat.le_refl 0) (Nat.le_refl 0)) (k11 218 rfl rfl) i_MText_isRow v_MText_isRow q76 (by decide) rfl rfl (Nat.le_of_ble_eq_true rfl) ?_
      have s_15 : Sa H H79 := (m_MText_isRow z77)
      refine ab_if_eq (tgt := 125) d_MRunner_tick_114 (by decide) (fun q80 => ?_) (fun q80 => ?_)
      · rw [if_pos q80] at hF
        exact kB_MRunner_tick_125 hm47 hm70 (mB_MRunner_tick_94 hm47 hm70 n) hk47 hk70 ih hF
      · rw [if_neg q80] at hF
        refine ab_aload_n d_MRunner_tick_117 rfl rfl rfl ?_
        refine ab_iload d_MRunner_tick_118 rfl ?_
        refine ab_iload d_MRunner_tick_120 rfl ?_
        obtain ⟨v82, H83, z81, hG⟩ := bC_s hF; clear hF
        refine hp_callV_v (H1 := H83) (As := [.int l4, .int l6]) (rest := []) d_MRunner_tick_122 (k_MRunner_row z81) (ab_mkC s_MRunner_row (Nat.le_of_ble_eq_true rfl) (Nat.le_of_ble_eq_true rfl) (Nat.le_refl 0) (Nat.le_refl 0)) (k11 222 rfl rfl) i_MRunner_row v_MRunner_row (by rw [(s_15).1]; exact q73) (by decide) rfl rfl (Nat.le_of_ble_eq_true rfl) ?_
        have s_16 : Sa H H83 := (s_15).tr (m_MRunner_row z81)
        exact kB_MRunner_tick_125 hm47 hm70 (mB_MRunner_tick_94 hm47 hm70 n) hk47 hk70 ih hG
def B_MRunner_tick_70 (N : Nat) (p0 : Nat) (p1 : Nat) (p2 : Nat) (p3 : Nat) (kq47 : Int32 → Hp → Option (Unit × Hp)) : Nat → Int32 → Int32 → Hp → Option (Unit × Hp)
  | 0, _, _, _ => none
  | n + 1, l4, l5, H =>
    ck (H.sh[p1]? = some (14, 0)) <|
    bnd ((H.D p1 29)) fun x37 =>
    if x37 ≤ l4 then
    B_MRunner_tick_137 N p0 p1 p2 p3 kq47 l4 H
    else
    rf (H.P p1 36) fun a65 =>
    ar H 100 a65 fun n67 =>
    ck (inb l4 n67) <|
    bnd ((H.D a65 (l4).toNatClampNeg)) fun x70 =>
    if x70 = l5 then
    B_MRunner_tick_94 N p0 p1 p2 p3 kq47 (fun l4 l5 H => B_MRunner_tick_70 N p0 p1 p2 p3 kq47 n l4 l5 H) N l4 l5 0 H
    else
    B_MRunner_tick_137 N p0 p1 p2 p3 kq47 l4 H
termination_by structural n => n
set_option maxRecDepth 20000 in
set_option maxHeartbeats 2000000 in
theorem mB_MRunner_tick_70 {N : Nat} {p0 : Nat} {p1 : Nat} {p2 : Nat} {p3 : Nat} {kq47 : Int32 → Hp → Option (Unit × Hp)} (hm47 : ∀ (l4 : Int32) (H : Hp) (r : Unit × Hp), kq47 l4 H = some r → Sa H r.2) : ∀ (n : Nat) (l4 : Int32) (l5 : Int32) (H : Hp) (r : Unit × Hp), B_MRunner_tick_70 N p0 p1 p2 p3 kq47 n l4 l5 H = some r → Sa H r.2 := by
  intro n
  induction n with
  | zero => intro l4 l5 H r hF; rw [B_MRunner_tick_70] at hF; cases hF
  | succ n ih =>
    intro l4 l5 H r hF
    rw [B_MRunner_tick_70] at hF
    have hm := Sa.rf H
    obtain ⟨q96, hG⟩ := ck_s hF; clear hF
    obtain ⟨x97, -, hF⟩ := bnd_g hG; clear hG
    rcases ite_s hF with ⟨q_21, hG⟩ | ⟨q_21, hG⟩
    · clear hF
      exact hm.tr (mB_MRunner_tick_137 hm47 hG)
    · clear hF
      obtain ⟨a99, e100, hF⟩ := rf_s hG; clear hG
      obtain ⟨n101, q102, hG⟩ := ar_s hF; clear hF
      obtain ⟨q103, hF⟩ := ck_s hG; clear hG
      obtain ⟨x104, -, hG⟩ := bnd_g hF; clear hF
      rcases ite_s hG with ⟨q_22, hF⟩ | ⟨q_22, hF⟩
      · clear hG
        exact hm.tr (mB_MRunner_tick_94 hm47 ih N l4 l5 0 H r hF)
      · clear hG
        exact hm.tr (mB_MRunner_tick_137 hm47 hF)
set_option maxRecDepth 20000 in
set_option maxHeartbeats 2000000 in
theorem kB_MRunner_tick_70 {N : Nat} {p0 : Nat} {p1 : Nat} {p2 : Nat} {p3 : Nat} {kq47 : Int32 → Hp → Option (Unit × Hp)} (hm47 : ∀ (l4 : Int32) (H : Hp) (r : Unit × Hp), kq47 l4 H = some r → Sa H r.2) (hk47 : ∀ (l4 : Int32) (H : Hp) (r : Unit × Hp), kq47 l4 H = some r → ab_V y_MRunner_tick { frames := 328, cells := 0, slots := 0, locals := 8081 } (po (.returned none) r.2) 0 0 0 0 47 [some (.ref p0), some (.ref p1), some (.ref p2), some (.ref p3), some (.int l4), none, none] [] (hpw H)) : ∀ (n : Nat) (l4 : Int32) (l5 : Int32) (H : Hp) (r : Unit × Hp), B_MRunner_tick_70 N p0 p1 p2 p3 kq47 n l4 l5 H = some r → ab_V y_MRunner_tick { frames := 328, cells := 0, slots := 0, locals := 8081 } (po (.returned none) r.2) 0 0 0 0 70 [some (.ref p0), some (.ref p1), some (.ref p2), some (.ref p3), some (.int l4), some (.int l5), none] [] (hpw H) := by
  intro n
  induction n with
  | zero => intro l4 l5 H r hF; rw [B_MRunner_tick_70] at hF; cases hF
  | succ n ih =>
    intro l4 l5 H r hF
    rw [B_MRunner_tick_70] at hF
    refine ab_iload d_MRunner_tick_70 rfl ?_
    refine ab_aload_n d_MRunner_tick_72 rfl rfl rfl ?_
    obtain ⟨q36, hG⟩ := ck_s hF; clear hF
    refine hp_getIN (f := 29) d_MRunner_tick_73 q36 (by decide) rfl (by decide) (k8 211 rfl rfl) rfl ?_
    refine ab_topi (fun x37 ex37 => ?_)
    replace hG := bnd_s ex37 hG
    refine ab_icmp_ge (tgt := 137) d_MRunner_tick_76 (by decide) (fun q38 => ?_) (fun q38 => ?_)
    · rw [if_pos q38] at hG
      refine ab_le (lv' := [some (.ref p0), some (.ref p1), some (.ref p2), some (.ref p3), some (.int l4), none, none]) ⟨rfl, ⟨rfl, ⟨rfl, ⟨rfl, ⟨rfl, trivial⟩⟩⟩⟩⟩ ?_
      exact kB_MRunner_tick_137 hm47 hk47 hG
    · rw [if_neg q38] at hG
      refine ab_aload_n d_MRunner_tick_79 rfl rfl rfl ?_
      obtain ⟨a65, e66, hF⟩ := rf_s hG; clear hG
      refine hp_getRN (f := 36) d_MRunner_tick_80 q36 (by decide) rfl (by decide) (k8 222 rfl rfl) rfl e66 ?_
      refine ab_iload d_MRunner_tick_83 rfl ?_
      obtain ⟨n67, q68, hG⟩ := ar_s hF; clear hF
      obtain ⟨q69, hF⟩ := ck_s hG; clear hG
      refine hp_iald d_MRunner_tick_85 tI q68 q69 ?_
      refine ab_topi (fun x70 ex70 => ?_)
      replace hF := bnd_s ex70 hF
      refine ab_iload d_MRunner_tick_86 rfl ?_
      refine ab_icmp_ne (tgt := 137) d_MRunner_tick_88 (by decide) (fun q71 => ?_) (fun q71 => ?_)
      · rw [if_neg q71] at hF
        refine ab_le (lv' := [some (.ref p0), some (.ref p1), some (.ref p2), some (.ref p3), some (.int l4), none, none]) ⟨rfl, ⟨rfl, ⟨rfl, ⟨rfl, ⟨rfl, trivial⟩⟩⟩⟩⟩ ?_
        exact kB_MRunner_tick_137 hm47 hk47 hF
      · rw [if_pos q71] at hF
        refine ab_iconst (v := 0) d_MRunner_tick_91 (by decide) ?_
        refine ab_istore (lv' := [some (.ref p0), some (.ref p1), some (.ref p2), some (.ref p3), some (.int l4), some (.int l5), some (.int 0)]) d_MRunner_tick_92 (by decide) rfl ?_
        exact kB_MRunner_tick_94 hm47 (mB_MRunner_tick_70 hm47 n) hk47 ih N l4 l5 0 H r hF
def B_MRunner_tick_47 (N : Nat) (p0 : Nat) (p1 : Nat) (p2 : Nat) (p3 : Nat) : Nat → Int32 → Hp → Option (Unit × Hp)
  | 0, _, _ => none
  | n + 1, l4, H =>
    ck (H.sh[p1]? = some (14, 0)) <|
    bnd ((H.D p1 29)) fun x19 =>
    if x19 ≤ l4 then
    ck (H.sh[p0]? = some (15, 0)) <|
    rf (H.P p0 1) fun a22 =>
    ck (H.sh[a22]? = some (13, 0)) <|
    bC (F_MWorld_clears N a22 H) fun v26 H27 =>
    some ((), H27)
    else
    rf (H.P p1 36) fun a28 =>
    ar H 100 a28 fun n30 =>
    ck (inb l4 n30) <|
    bnd ((H.D a28 (l4).toNatClampNeg)) fun x33 =>
    ck (H.sh[p0]? = some (15, 0)) <|
    bnd (H.sD p0 4 (0 : Int32)) fun H35 =>
    B_MRunner_tick_70 N p0 p1 p2 p3 (fun l4 H => B_MRunner_tick_47 N p0 p1 p2 p3 n l4 H) N l4 x33 H35
termination_by structural n => n
set_option maxRecDepth 20000 in
set_option maxHeartbeats 2000000 in
theorem mB_MRunner_tick_47 {N : Nat} {p0 : Nat} {p1 : Nat} {p2 : Nat} {p3 : Nat} : ∀ (n : Nat) (l4 : Int32) (H : Hp) (r : Unit × Hp), B_MRunner_tick_47 N p0 p1 p2 p3 n l4 H = some r → Sa H r.2 := by
  intro n
  induction n with
  | zero => intro l4 H r hF; rw [B_MRunner_tick_47] at hF; cases hF
  | succ n ih =>
    intro l4 H r hF
    rw [B_MRunner_tick_47] at hF
    have hm := Sa.rf H
    obtain ⟨q106, hG⟩ := ck_s hF; clear hF
    obtain ⟨x107, -, hF⟩ := bnd_g hG; clear hG
    rcases ite_s hF with ⟨q_23, hG⟩ | ⟨q_23, hG⟩
    · clear hF
      obtain ⟨q109, hF⟩ := ck_s hG; clear hG
      obtain ⟨a110, e111, hG⟩ := rf_s hF; clear hF
      obtain ⟨q112, hF⟩ := ck_s hG; clear hG
      obtain ⟨v114, H115, z113, hG⟩ := bC_s hF; clear hF
      replace hm : Sa H H115 := hm.tr (m_MWorld_clears z113)
      have hr := Option.some.inj hG; subst hr
      exact hm
    · clear hF
      obtain ⟨a116, e117, hF⟩ := rf_s hG; clear hG
      obtain ⟨n118, q119, hG⟩ := ar_s hF; clear hF
      obtain ⟨q120, hF⟩ := ck_s hG; clear hG
      obtain ⟨x121, -, hG⟩ := bnd_g hF; clear hF
      obtain ⟨q122, hF⟩ := ck_s hG; clear hG
      obtain ⟨H123, eH123, hG⟩ := bnd_g hF; clear hF
      replace hm : Sa H H123 := by rw [eH123]; exact hm
      exact hm.tr (mB_MRunner_tick_70 ih N l4 x121 H123 r hG)
set_option maxRecDepth 20000 in
set_option maxHeartbeats 2000000 in
theorem kB_MRunner_tick_47 {N : Nat} {p0 : Nat} {p1 : Nat} {p2 : Nat} {p3 : Nat} : ∀ (n : Nat) (l4 : Int32) (H : Hp) (r : Unit × Hp), B_MRunner_tick_47 N p0 p1 p2 p3 n l4 H = some r → ab_V y_MRunner_tick { frames := 328, cells := 0, slots := 0, locals := 8081 } (po (.returned none) r.2) 0 0 0 0 47 [some (.ref p0), some (.ref p1), some (.ref p2), some (.ref p3), some (.int l4), none, none] [] (hpw H) := by
  intro n
  induction n with
  | zero => intro l4 H r hF; rw [B_MRunner_tick_47] at hF; cases hF
  | succ n ih =>
    intro l4 H r hF
    rw [B_MRunner_tick_47] at hF
    refine ab_iload d_MRunner_tick_47 rfl ?_
    refine ab_aload_n d_MRunner_tick_49 rfl rfl rfl ?_
    obtain ⟨q18, hG⟩ := ck_s hF; clear hF
    refine hp_getIN (f := 29) d_MRunner_tick_50 q18 (by decide) rfl (by decide) (k8 211 rfl rfl) rfl ?_
    refine ab_topi (fun x19 ex19 => ?_)
    replace hG := bnd_s ex19 hG
    refine ab_icmp_ge (tgt := 187) d_MRunner_tick_53 (by decide) (fun q20 => ?_) (fun q20 => ?_)
    · rw [if_pos q20] at hG
      refine ab_aload_n d_MRunner_tick_187 rfl rfl rfl ?_
      obtain ⟨q21, hF⟩ := ck_s hG; clear hG
      obtain ⟨a22, e23, hG⟩ := rf_s hF; clear hF
      refine hp_getR (f := 1) d_MRunner_tick_188 q21 (by decide) rfl (by decide) (k9 184 rfl rfl) rfl e23 ?_
      obtain ⟨q24, hF⟩ := ck_s hG; clear hG
      obtain ⟨v26, H27, z25, hG⟩ := bC_s hF; clear hF
      refine hp_callV_v (H1 := H27) (As := []) (rest := []) d_MRunner_tick_191 (k_MWorld_clears z25) (ab_mkC s_MWorld_clears (Nat.le_of_ble_eq_true rfl) (Nat.le_of_ble_eq_true rfl) (Nat.le_refl 0) (Nat.le_refl 0)) (k12 156 rfl rfl) i_MWorld_clears v_MWorld_clears q24 (by decide) rfl rfl (Nat.le_of_ble_eq_true rfl) ?_
      have s_7 : Sa H H27 := (m_MWorld_clears z25)
      exact ab_vret d_MRunner_tick_194 rfl (Nat.le_refl _) (Nat.le_refl _) (by have hr := Option.some.inj hG; subst hr; exact ⟨rfl, rfl⟩)
    · rw [if_neg q20] at hG
      refine ab_aload_n d_MRunner_tick_56 rfl rfl rfl ?_
      obtain ⟨a28, e29, hF⟩ := rf_s hG; clear hG
      refine hp_getRN (f := 36) d_MRunner_tick_57 q18 (by decide) rfl (by decide) (k8 222 rfl rfl) rfl e29 ?_
      refine ab_iload d_MRunner_tick_60 rfl ?_
      obtain ⟨n30, q31, hG⟩ := ar_s hF; clear hF
      obtain ⟨q32, hF⟩ := ck_s hG; clear hG
      refine hp_iald d_MRunner_tick_62 tI q31 q32 ?_
      refine ab_topi (fun x33 ex33 => ?_)
      replace hF := bnd_s ex33 hF
      refine ab_istore (lv' := [some (.ref p0), some (.ref p1), some (.ref p2), some (.ref p3), some (.int l4), some (.int x33), none]) d_MRunner_tick_63 (by decide) rfl ?_
      refine ab_aload_n d_MRunner_tick_65 rfl rfl rfl ?_
      refine ab_iconst (v := 0) d_MRunner_tick_66 (by decide) ?_
      obtain ⟨q34, hG⟩ := ck_s hF; clear hF
      refine hp_putI (v := 0) (f := 4) d_MRunner_tick_67 q34 (by decide) rfl (by decide) (k9 187 rfl rfl) rfl rfl (fun _ => rfl) (fun _ => rfl) rfl ?_
      refine hp_gen (fun H35 eH35 => ?_)
      replace hG := bnd_s eH35 hG
      have s_8 : Sa H H35 := by rw [eH35]; exact Sa.rf _
      exact kB_MRunner_tick_70 (mB_MRunner_tick_47 n) ih N l4 x33 H35 r hG
def F_MRunner_tick (N : Nat) (p0 : Nat) (p1 : Nat) (p2 : Nat) (p3 : Nat) (H : Hp) : Option (Unit × Hp) :=
    ck (H.sh[p0]? = some (15, 0)) <|
    bnd (H.sP p0 0 (.ref p1)) fun H2 =>
    bnd (H2.sP p0 1 (.ref p2)) fun H3 =>
    bnd (H3.sP p0 2 (.ref p3)) fun H4 =>
    rf (H4.P p0 1) fun a5 =>
    ck (H4.sh[a5]? = some (13, 0)) <|
    bnd ((H4.D a5 0)) fun x8 =>
    bnd (H4.sD a5 0 (x8 + (1 : Int32))) fun H9 =>
    rf (H9.P p0 1) fun a10 =>
    ck (H9.sh[a10]? = some (13, 0)) <|
    bnd (H9.sD a10 13 ((-1) : Int32)) fun H13 =>
    rf (H13.P p0 1) fun a14 =>
    ck (H13.sh[a14]? = some (13, 0)) <|
    bnd (H13.sD a14 16 (0 : Int32)) fun H17 =>
    B_MRunner_tick_47 N p0 p1 p2 p3 N 0 H17
set_option maxRecDepth 20000 in
set_option maxHeartbeats 2000000 in
theorem m_MRunner_tick {N : Nat} {p0 : Nat} {p1 : Nat} {p2 : Nat} {p3 : Nat} {H : Hp} {r : Unit × Hp} (hF : F_MRunner_tick N p0 p1 p2 p3 H = some r) : Sa H r.2 := by
  unfold F_MRunner_tick at hF
  have hm := Sa.rf H
  obtain ⟨q124, hG⟩ := ck_s hF; clear hF
  obtain ⟨H125, eH125, hF⟩ := bnd_g hG; clear hG
  replace hm : Sa H H125 := by rw [eH125]; exact hm
  obtain ⟨H126, eH126, hG⟩ := bnd_g hF; clear hF
  replace hm : Sa H H126 := by rw [eH126]; exact hm
  obtain ⟨H127, eH127, hF⟩ := bnd_g hG; clear hG
  replace hm : Sa H H127 := by rw [eH127]; exact hm
  obtain ⟨a128, e129, hG⟩ := rf_s hF; clear hF
  obtain ⟨q130, hF⟩ := ck_s hG; clear hG
  obtain ⟨x131, -, hG⟩ := bnd_g hF; clear hF
  obtain ⟨H132, eH132, hF⟩ := bnd_g hG; clear hG
  replace hm : Sa H H132 := by rw [eH132]; exact hm
  obtain ⟨a133, e134, hG⟩ := rf_s hF; clear hF
  obtain ⟨q135, hF⟩ := ck_s hG; clear hG
  obtain ⟨H136, eH136, hG⟩ := bnd_g hF; clear hF
  replace hm : Sa H H136 := by rw [eH136]; exact hm
  obtain ⟨a137, e138, hF⟩ := rf_s hG; clear hG
  obtain ⟨q139, hG⟩ := ck_s hF; clear hF
  obtain ⟨H140, eH140, hF⟩ := bnd_g hG; clear hG
  replace hm : Sa H H140 := by rw [eH140]; exact hm
  exact hm.tr (mB_MRunner_tick_47 N 0 H140 r hF)
set_option maxRecDepth 20000 in
set_option maxHeartbeats 2000000 in
theorem k_MRunner_tick {N : Nat} {p0 : Nat} {p1 : Nat} {p2 : Nat} {p3 : Nat} {H : Hp} {r : Unit × Hp} (hF : F_MRunner_tick N p0 p1 p2 p3 H = some r) : ab_M y_MRunner_tick { frames := 328, cells := 0, slots := 0, locals := 8081 } [.ref p0, .ref p1, .ref p2, .ref p3] (hpw H) (po (.returned none) r.2) := by
  unfold F_MRunner_tick at hF
  refine ab_of2 (lv := [some (.ref p0), some (.ref p1), some (.ref p2), some (.ref p3), none, none, none]) 3 rfl rfl (Nat.le_of_ble_eq_true rfl) ?_
  refine ab_aload_n d_MRunner_tick_0 rfl rfl rfl ?_
  refine ab_aload_n d_MRunner_tick_1 rfl rfl rfl ?_
  obtain ⟨q1, hG⟩ := ck_s hF; clear hF
  refine hp_putP (v := .ref p1) (f := 0) d_MRunner_tick_2 q1 (by decide) rfl (by decide) (k9 183 rfl rfl) rfl rfl (fun _ => rfl) (fun _ => rfl) rfl ?_
  refine hp_gen (fun H2 eH2 => ?_)
  replace hG := bnd_s eH2 hG
  have s_1 : Sa H H2 := by rw [eH2]; exact Sa.rf _
  refine ab_aload_n d_MRunner_tick_5 rfl rfl rfl ?_
  refine ab_aload_n d_MRunner_tick_6 rfl rfl rfl ?_
  refine hp_putP (v := .ref p2) (f := 1) d_MRunner_tick_7 (by rw [(s_1).1]; exact q1) (by decide) rfl (by decide) (k9 184 rfl rfl) rfl rfl (fun _ => rfl) (fun _ => rfl) rfl ?_
  refine hp_gen (fun H3 eH3 => ?_)
  replace hG := bnd_s eH3 hG
  have s_2 : Sa H H3 := by rw [eH3]; exact s_1
  refine ab_aload_n d_MRunner_tick_10 rfl rfl rfl ?_
  refine ab_aload_n d_MRunner_tick_11 rfl rfl rfl ?_
  refine hp_putP (v := .ref p3) (f := 2) d_MRunner_tick_12 (by rw [(s_2).1]; exact q1) (by decide) rfl (by decide) (k9 185 rfl rfl) rfl rfl (fun _ => rfl) (fun _ => rfl) rfl ?_
  refine hp_gen (fun H4 eH4 => ?_)
  replace hG := bnd_s eH4 hG
  have s_3 : Sa H H4 := by rw [eH4]; exact s_2
  refine ab_aload_n d_MRunner_tick_15 rfl rfl rfl ?_
  obtain ⟨a5, e6, hF⟩ := rf_s hG; clear hG
  refine hp_getR (f := 1) d_MRunner_tick_16 (by rw [(s_3).1]; exact q1) (by decide) rfl (by decide) (k9 184 rfl rfl) rfl e6 ?_
  refine ab_dup d_MRunner_tick_19 rfl ?_
  obtain ⟨q7, hG⟩ := ck_s hF; clear hF
  rw [(s_3).1] at q7
  refine hp_getIN (f := 0) d_MRunner_tick_20 (by rw [(s_3).1]; exact q7) (by decide) rfl (by decide) (k9 88 rfl rfl) rfl ?_
  refine ab_topi (fun x8 ex8 => ?_)
  replace hG := bnd_s ex8 hG
  refine ab_iconst (v := 1) d_MRunner_tick_23 (by decide) ?_
  refine ab_iadd d_MRunner_tick_24 ?_
  refine hp_putIN (v := x8 + (1 : Int32)) (f := 0) d_MRunner_tick_25 (by rw [(s_3).1]; exact q7) (by decide) rfl (by decide) (k9 88 rfl rfl) rfl rfl (fun _ => rfl) (fun _ => rfl) rfl ?_
  refine hp_gen (fun H9 eH9 => ?_)
  replace hG := bnd_s eH9 hG
  have s_4 : Sa H H9 := by rw [eH9]; exact s_3
  refine ab_aload_n d_MRunner_tick_28 rfl rfl rfl ?_
  obtain ⟨a10, e11, hF⟩ := rf_s hG; clear hG
  refine hp_getR (f := 1) d_MRunner_tick_29 (by rw [(s_4).1]; exact q1) (by decide) rfl (by decide) (k9 184 rfl rfl) rfl e11 ?_
  refine ab_iconst (v := (-1)) d_MRunner_tick_32 (by decide) ?_
  obtain ⟨q12, hG⟩ := ck_s hF; clear hF
  rw [(s_4).1] at q12
  refine hp_putIN (v := (-1)) (f := 13) d_MRunner_tick_33 (by rw [(s_4).1]; exact q12) (by decide) rfl (by decide) (k9 127 rfl rfl) rfl rfl (fun _ => rfl) (fun _ => rfl) rfl ?_
  refine hp_gen (fun H13 eH13 => ?_)
  replace hG := bnd_s eH13 hG
  have s_5 : Sa H H13 := by rw [eH13]; exact s_4
  refine ab_aload_n d_MRunner_tick_36 rfl rfl rfl ?_
  obtain ⟨a14, e15, hF⟩ := rf_s hG; clear hG
  refine hp_getR (f := 1) d_MRunner_tick_37 (by rw [(s_5).1]; exact q1) (by decide) rfl (by decide) (k9 184 rfl rfl) rfl e15 ?_
  refine ab_iconst (v := 0) d_MRunner_tick_40 (by decide) ?_
  obtain ⟨q16, hG⟩ := ck_s hF; clear hF
  rw [(s_5).1] at q16
  refine hp_putIN (v := 0) (f := 16) d_MRunner_tick_41 (by rw [(s_5).1]; exact q16) (by decide) rfl (by decide) (k9 134 rfl rfl) rfl rfl (fun _ => rfl) (fun _ => rfl) rfl ?_
  refine hp_gen (fun H17 eH17 => ?_)
  replace hG := bnd_s eH17 hG
  have s_6 : Sa H H17 := by rw [eH17]; exact s_5
  refine ab_iconst (v := 0) d_MRunner_tick_44 (by decide) ?_
  refine ab_istore (lv' := [some (.ref p0), some (.ref p1), some (.ref p2), some (.ref p3), some (.int 0), none, none]) d_MRunner_tick_45 (by decide) rfl ?_
  exact kB_MRunner_tick_47 N 0 H17 r hG
def y_M_runs : ab_Y := (⟨"WorldEngineModel", "runs", "(LWorldEngineModel$World;)V"⟩, prog_14_method_19_code, 2, none, [])
theorem d_M_runs_0 : decode y_M_runs.2.1 0 = .ok (.aload_n 0, 1) := by decide +kernel
theorem d_M_runs_1 : decode y_M_runs.2.1 1 = .ok (.aload_n 1, 1) := by decide +kernel
theorem d_M_runs_2 : decode y_M_runs.2.1 2 = .ok (.getfield 145, 3) := by decide +kernel
theorem d_M_runs_5 : decode y_M_runs.2.1 5 = .ok (.iconst 1, 1) := by decide +kernel
theorem d_M_runs_6 : decode y_M_runs.2.1 6 = .ok (.iadd, 1) := by decide +kernel
theorem d_M_runs_7 : decode y_M_runs.2.1 7 = .ok (.invokevirtual 231, 3) := by decide +kernel
theorem d_M_runs_10 : decode y_M_runs.2.1 10 = .ok (.aload_n 0, 1) := by decide +kernel
theorem d_M_runs_11 : decode y_M_runs.2.1 11 = .ok (.getfield 46, 3) := by decide +kernel
theorem d_M_runs_14 : decode y_M_runs.2.1 14 = .ok (.aload_n 0, 1) := by decide +kernel
theorem d_M_runs_15 : decode y_M_runs.2.1 15 = .ok (.getfield 16, 3) := by decide +kernel
theorem d_M_runs_18 : decode y_M_runs.2.1 18 = .ok (.aload_n 1, 1) := by decide +kernel
theorem d_M_runs_19 : decode y_M_runs.2.1 19 = .ok (.aload_n 0, 1) := by decide +kernel
theorem d_M_runs_20 : decode y_M_runs.2.1 20 = .ok (.getfield 67, 3) := by decide +kernel
theorem d_M_runs_23 : decode y_M_runs.2.1 23 = .ok (.invokevirtual 235, 3) := by decide +kernel
theorem d_M_runs_26 : decode y_M_runs.2.1 26 = .ok (.return_, 1) := by decide +kernel
theorem s_M_runs : ab_Stat y_M_runs 1 := ⟨(k11 205 rfl rfl), (k1 19 rfl rfl), ⟨by decide, by decide⟩, by decide +kernel⟩
theorem i_M_runs : Cond.instanceMethod y_M_runs.1 ∈ ab_T := (k11 204 rfl rfl)
theorem v_M_runs : Cond.selects "WorldEngineModel" y_M_runs.1 y_M_runs.1 ∈ ab_T := ab_s (List.mem_of_getElem? (i := 172) rfl) rfl
def F_M_runs (N : Nat) (p0 : Nat) (p1 : Nat) (H : Hp) : Option (Unit × Hp) :=
    ck (H.sh[p1]? = some (13, 0)) <|
    bnd ((H.D p1 0)) fun x2 =>
    ck (H.sh[p0]? = some (12, 0)) <|
    bC (F_M_bitsOf N p0 (x2 + (1 : Int32)) H) fun v5 H6 =>
    rf (H6.P p0 11) fun a7 =>
    rf (H6.P p0 3) fun a9 =>
    rf (H6.P p0 18) fun a11 =>
    ck (H6.sh[a7]? = some (15, 0)) <|
    bC (F_MRunner_tick N a7 a9 p1 a11 H6) fun v15 H16 =>
    some ((), H16)
set_option maxRecDepth 20000 in
set_option maxHeartbeats 2000000 in
theorem m_M_runs {N : Nat} {p0 : Nat} {p1 : Nat} {H : Hp} {r : Unit × Hp} (hF : F_M_runs N p0 p1 H = some r) : Sa H r.2 := by
  unfold F_M_runs at hF
  have hm := Sa.rf H
  obtain ⟨q17, hG⟩ := ck_s hF; clear hF
  obtain ⟨x18, -, hF⟩ := bnd_g hG; clear hG
  obtain ⟨q19, hG⟩ := ck_s hF; clear hF
  obtain ⟨v21, H22, z20, hF⟩ := bC_s hG; clear hG
  replace hm : Sa H H22 := hm.tr (m_M_bitsOf z20)
  obtain ⟨a23, e24, hG⟩ := rf_s hF; clear hF
  obtain ⟨a25, e26, hF⟩ := rf_s hG; clear hG
  obtain ⟨a27, e28, hG⟩ := rf_s hF; clear hF
  obtain ⟨q29, hF⟩ := ck_s hG; clear hG
  obtain ⟨v31, H32, z30, hG⟩ := bC_s hF; clear hF
  replace hm : Sa H H32 := hm.tr (m_MRunner_tick z30)
  have hr := Option.some.inj hG; subst hr
  exact hm
set_option maxRecDepth 20000 in
set_option maxHeartbeats 2000000 in
theorem k_M_runs {N : Nat} {p0 : Nat} {p1 : Nat} {H : Hp} {r : Unit × Hp} (hF : F_M_runs N p0 p1 H = some r) : ab_M y_M_runs { frames := 329, cells := 0, slots := 0, locals := 8107 } [.ref p0, .ref p1] (hpw H) (po (.returned none) r.2) := by
  unfold F_M_runs at hF
  refine ab_of2 (lv := [some (.ref p0), some (.ref p1)]) 0 rfl rfl (Nat.le_of_ble_eq_true rfl) ?_
  refine ab_aload_n d_M_runs_0 rfl rfl rfl ?_
  refine ab_aload_n d_M_runs_1 rfl rfl rfl ?_
  obtain ⟨q1, hG⟩ := ck_s hF; clear hF
  refine hp_getIN (f := 0) d_M_runs_2 q1 (by decide) rfl (by decide) (k9 89 rfl rfl) rfl ?_
  refine ab_topi (fun x2 ex2 => ?_)
  replace hG := bnd_s ex2 hG
  refine ab_iconst (v := 1) d_M_runs_5 (by decide) ?_
  refine ab_iadd d_M_runs_6 ?_
  obtain ⟨q3, hF⟩ := ck_s hG; clear hG
  obtain ⟨v5, H6, z4, hG⟩ := bC_s hF; clear hF
  refine hp_callV_v (H1 := H6) (As := [.int (x2 + (1 : Int32))]) (rest := []) d_M_runs_7 (k_M_bitsOf z4) (ab_mkC s_M_bitsOf (Nat.le_of_ble_eq_true rfl) (Nat.le_of_ble_eq_true rfl) (Nat.le_refl 0) (Nat.le_refl 0)) (k11 206 rfl rfl) i_M_bitsOf v_M_bitsOf q3 (by decide) rfl rfl (Nat.le_of_ble_eq_true rfl) ?_
  have s_1 : Sa H H6 := (m_M_bitsOf z4)
  refine ab_aload_n d_M_runs_10 rfl rfl rfl ?_
  obtain ⟨a7, e8, hF⟩ := rf_s hG; clear hG
  refine hp_getR (f := 11) d_M_runs_11 (by rw [(s_1).1]; exact q3) (by decide) rfl (by decide) (k10 4 rfl rfl) rfl e8 ?_
  refine ab_aload_n d_M_runs_14 rfl rfl rfl ?_
  obtain ⟨a9, e10, hG⟩ := rf_s hF; clear hF
  refine hp_getR (f := 3) d_M_runs_15 (by rw [(s_1).1]; exact q3) (by decide) rfl (by decide) (k9 236 rfl rfl) rfl e10 ?_
  refine ab_aload_n d_M_runs_18 rfl rfl rfl ?_
  refine ab_aload_n d_M_runs_19 rfl rfl rfl ?_
  obtain ⟨a11, e12, hF⟩ := rf_s hG; clear hG
  refine hp_getR (f := 18) d_M_runs_20 (by rw [(s_1).1]; exact q3) (by decide) rfl (by decide) (k10 11 rfl rfl) rfl e12 ?_
  obtain ⟨q13, hG⟩ := ck_s hF; clear hF
  rw [(s_1).1] at q13
  obtain ⟨v15, H16, z14, hF⟩ := bC_s hG; clear hG
  refine hp_callV_v (H1 := H16) (As := [.ref a9, .ref p1, .ref a11]) (rest := []) d_M_runs_23 (k_MRunner_tick z14) (ab_mkC s_MRunner_tick (Nat.le_of_ble_eq_true rfl) (Nat.le_of_ble_eq_true rfl) (Nat.le_refl 0) (Nat.le_refl 0)) (k11 214 rfl rfl) i_MRunner_tick v_MRunner_tick (by rw [(s_1).1]; exact q13) (by decide) rfl rfl (Nat.le_of_ble_eq_true rfl) ?_
  have s_2 : Sa H H16 := (s_1).tr (m_MRunner_tick z14)
  exact ab_vret d_M_runs_26 rfl (Nat.le_refl _) (Nat.le_refl _) (by have hr := Option.some.inj hF; subst hr; exact ⟨rfl, rfl⟩)
def y_M_confirms : ab_Y := (⟨"WorldEngineModel", "confirms", "()V"⟩, prog_14_method_20_code, 4, none, [])
theorem d_M_confirms_0 : decode y_M_confirms.2.1 0 = .ok (.iconst 1, 1) := by decide +kernel
theorem d_M_confirms_1 : decode y_M_confirms.2.1 1 = .ok (.istore_n 1, 1) := by decide +kernel
theorem d_M_confirms_2 : decode y_M_confirms.2.1 2 = .ok (.iload_n 1, 1) := by decide +kernel
theorem d_M_confirms_3 : decode y_M_confirms.2.1 3 = .ok (.ifCond .eq 206, 3) := by decide +kernel
theorem d_M_confirms_6 : decode y_M_confirms.2.1 6 = .ok (.aload_n 0, 1) := by decide +kernel
theorem d_M_confirms_7 : decode y_M_confirms.2.1 7 = .ok (.getfield 33, 3) := by decide +kernel
theorem d_M_confirms_10 : decode y_M_confirms.2.1 10 = .ok (.getfield 145, 3) := by decide +kernel
theorem d_M_confirms_13 : decode y_M_confirms.2.1 13 = .ok (.aload_n 0, 1) := by decide +kernel
theorem d_M_confirms_14 : decode y_M_confirms.2.1 14 = .ok (.getfield 37, 3) := by decide +kernel
theorem d_M_confirms_17 : decode y_M_confirms.2.1 17 = .ok (.getfield 145, 3) := by decide +kernel
theorem d_M_confirms_20 : decode y_M_confirms.2.1 20 = .ok (.if_icmp .ge 189, 3) := by decide +kernel
theorem d_M_confirms_23 : decode y_M_confirms.2.1 23 = .ok (.aload_n 0, 1) := by decide +kernel
theorem d_M_confirms_24 : decode y_M_confirms.2.1 24 = .ok (.getfield 33, 3) := by decide +kernel
theorem d_M_confirms_27 : decode y_M_confirms.2.1 27 = .ok (.getfield 145, 3) := by decide +kernel
theorem d_M_confirms_30 : decode y_M_confirms.2.1 30 = .ok (.iconst 1, 1) := by decide +kernel
theorem d_M_confirms_31 : decode y_M_confirms.2.1 31 = .ok (.iadd, 1) := by decide +kernel
theorem d_M_confirms_32 : decode y_M_confirms.2.1 32 = .ok (.istore_n 2, 1) := by decide +kernel
theorem d_M_confirms_33 : decode y_M_confirms.2.1 33 = .ok (.iconst 0, 1) := by decide +kernel
theorem d_M_confirms_34 : decode y_M_confirms.2.1 34 = .ok (.istore_n 3, 1) := by decide +kernel
theorem d_M_confirms_35 : decode y_M_confirms.2.1 35 = .ok (.iload_n 3, 1) := by decide +kernel
theorem d_M_confirms_36 : decode y_M_confirms.2.1 36 = .ok (.iconst 4, 1) := by decide +kernel
theorem d_M_confirms_37 : decode y_M_confirms.2.1 37 = .ok (.if_icmp .ge 49, 3) := by decide +kernel
theorem d_M_confirms_40 : decode y_M_confirms.2.1 40 = .ok (.iload_n 1, 1) := by decide +kernel
theorem d_M_confirms_41 : decode y_M_confirms.2.1 41 = .ok (.ifCond .eq 37, 3) := by decide +kernel
theorem d_M_confirms_44 : decode y_M_confirms.2.1 44 = .ok (.aload_n 0, 1) := by decide +kernel
theorem d_M_confirms_45 : decode y_M_confirms.2.1 45 = .ok (.getfield 61, 3) := by decide +kernel
theorem d_M_confirms_48 : decode y_M_confirms.2.1 48 = .ok (.iload_n 2, 1) := by decide +kernel
theorem d_M_confirms_49 : decode y_M_confirms.2.1 49 = .ok (.bipush 63, 2) := by decide +kernel
theorem d_M_confirms_51 : decode y_M_confirms.2.1 51 = .ok (.iand, 1) := by decide +kernel
theorem d_M_confirms_52 : decode y_M_confirms.2.1 52 = .ok (.iaload, 1) := by decide +kernel
theorem d_M_confirms_53 : decode y_M_confirms.2.1 53 = .ok (.iload_n 3, 1) := by decide +kernel
theorem d_M_confirms_54 : decode y_M_confirms.2.1 54 = .ok (.ishr, 1) := by decide +kernel
theorem d_M_confirms_55 : decode y_M_confirms.2.1 55 = .ok (.iconst 1, 1) := by decide +kernel
theorem d_M_confirms_56 : decode y_M_confirms.2.1 56 = .ok (.iand, 1) := by decide +kernel
theorem d_M_confirms_57 : decode y_M_confirms.2.1 57 = .ok (.ifCond .eq 17, 3) := by decide +kernel
theorem d_M_confirms_60 : decode y_M_confirms.2.1 60 = .ok (.aload_n 0, 1) := by decide +kernel
theorem d_M_confirms_61 : decode y_M_confirms.2.1 61 = .ok (.getfield 57, 3) := by decide +kernel
theorem d_M_confirms_64 : decode y_M_confirms.2.1 64 = .ok (.aload_n 0, 1) := by decide +kernel
theorem d_M_confirms_65 : decode y_M_confirms.2.1 65 = .ok (.iload_n 3, 1) := by decide +kernel
theorem d_M_confirms_66 : decode y_M_confirms.2.1 66 = .ok (.iload_n 2, 1) := by decide +kernel
theorem d_M_confirms_67 : decode y_M_confirms.2.1 67 = .ok (.invokevirtual 227, 3) := by decide +kernel
theorem d_M_confirms_70 : decode y_M_confirms.2.1 70 = .ok (.baload, 1) := by decide +kernel
theorem d_M_confirms_71 : decode y_M_confirms.2.1 71 = .ok (.ifCond .eq 7, 3) := by decide +kernel
theorem d_M_confirms_74 : decode y_M_confirms.2.1 74 = .ok (.iconst 1, 1) := by decide +kernel
theorem d_M_confirms_75 : decode y_M_confirms.2.1 75 = .ok (.goto 4, 3) := by decide +kernel
theorem d_M_confirms_78 : decode y_M_confirms.2.1 78 = .ok (.iconst 0, 1) := by decide +kernel
theorem d_M_confirms_79 : decode y_M_confirms.2.1 79 = .ok (.istore_n 1, 1) := by decide +kernel
theorem d_M_confirms_80 : decode y_M_confirms.2.1 80 = .ok (.iinc 3 1, 3) := by decide +kernel
theorem d_M_confirms_83 : decode y_M_confirms.2.1 83 = .ok (.goto (-48), 3) := by decide +kernel
theorem d_M_confirms_86 : decode y_M_confirms.2.1 86 = .ok (.iload_n 1, 1) := by decide +kernel
theorem d_M_confirms_87 : decode y_M_confirms.2.1 87 = .ok (.ifCond .ne 4, 3) := by decide +kernel
theorem d_M_confirms_90 : decode y_M_confirms.2.1 90 = .ok (.return_, 1) := by decide +kernel
theorem d_M_confirms_91 : decode y_M_confirms.2.1 91 = .ok (.aload_n 0, 1) := by decide +kernel
theorem d_M_confirms_92 : decode y_M_confirms.2.1 92 = .ok (.aload_n 0, 1) := by decide +kernel
theorem d_M_confirms_93 : decode y_M_confirms.2.1 93 = .ok (.getfield 33, 3) := by decide +kernel
theorem d_M_confirms_96 : decode y_M_confirms.2.1 96 = .ok (.invokevirtual 238, 3) := by decide +kernel
theorem d_M_confirms_99 : decode y_M_confirms.2.1 99 = .ok (.iconst 0, 1) := by decide +kernel
theorem d_M_confirms_100 : decode y_M_confirms.2.1 100 = .ok (.istore_n 3, 1) := by decide +kernel
theorem d_M_confirms_101 : decode y_M_confirms.2.1 101 = .ok (.iload_n 3, 1) := by decide +kernel
theorem d_M_confirms_102 : decode y_M_confirms.2.1 102 = .ok (.aload_n 0, 1) := by decide +kernel
theorem d_M_confirms_103 : decode y_M_confirms.2.1 103 = .ok (.getfield 33, 3) := by decide +kernel
theorem d_M_confirms_106 : decode y_M_confirms.2.1 106 = .ok (.getfield 241, 3) := by decide +kernel
theorem d_M_confirms_109 : decode y_M_confirms.2.1 109 = .ok (.if_icmp .ge 41, 3) := by decide +kernel
theorem d_M_confirms_112 : decode y_M_confirms.2.1 112 = .ok (.aload_n 0, 1) := by decide +kernel
theorem d_M_confirms_113 : decode y_M_confirms.2.1 113 = .ok (.getfield 70, 3) := by decide +kernel
theorem d_M_confirms_116 : decode y_M_confirms.2.1 116 = .ok (.aload_n 0, 1) := by decide +kernel
theorem d_M_confirms_117 : decode y_M_confirms.2.1 117 = .ok (.getfield 136, 3) := by decide +kernel
theorem d_M_confirms_120 : decode y_M_confirms.2.1 120 = .ok (.sipush 255, 3) := by decide +kernel
theorem d_M_confirms_123 : decode y_M_confirms.2.1 123 = .ok (.iand, 1) := by decide +kernel
theorem d_M_confirms_124 : decode y_M_confirms.2.1 124 = .ok (.aload_n 0, 1) := by decide +kernel
theorem d_M_confirms_125 : decode y_M_confirms.2.1 125 = .ok (.getfield 33, 3) := by decide +kernel
theorem d_M_confirms_128 : decode y_M_confirms.2.1 128 = .ok (.getfield 244, 3) := by decide +kernel
theorem d_M_confirms_131 : decode y_M_confirms.2.1 131 = .ok (.iload_n 3, 1) := by decide +kernel
theorem d_M_confirms_132 : decode y_M_confirms.2.1 132 = .ok (.iaload, 1) := by decide +kernel
theorem d_M_confirms_133 : decode y_M_confirms.2.1 133 = .ok (.iastore, 1) := by decide +kernel
theorem d_M_confirms_134 : decode y_M_confirms.2.1 134 = .ok (.aload_n 0, 1) := by decide +kernel
theorem d_M_confirms_135 : decode y_M_confirms.2.1 135 = .ok (.dup, 1) := by decide +kernel
theorem d_M_confirms_136 : decode y_M_confirms.2.1 136 = .ok (.getfield 136, 3) := by decide +kernel
theorem d_M_confirms_139 : decode y_M_confirms.2.1 139 = .ok (.iconst 1, 1) := by decide +kernel
theorem d_M_confirms_140 : decode y_M_confirms.2.1 140 = .ok (.iadd, 1) := by decide +kernel
theorem d_M_confirms_141 : decode y_M_confirms.2.1 141 = .ok (.putfield 136, 3) := by decide +kernel
theorem d_M_confirms_144 : decode y_M_confirms.2.1 144 = .ok (.iinc 3 1, 3) := by decide +kernel
theorem d_M_confirms_147 : decode y_M_confirms.2.1 147 = .ok (.goto (-46), 3) := by decide +kernel
theorem d_M_confirms_150 : decode y_M_confirms.2.1 150 = .ok (.iconst 0, 1) := by decide +kernel
theorem d_M_confirms_151 : decode y_M_confirms.2.1 151 = .ok (.istore_n 3, 1) := by decide +kernel
theorem d_M_confirms_152 : decode y_M_confirms.2.1 152 = .ok (.iload_n 3, 1) := by decide +kernel
theorem d_M_confirms_153 : decode y_M_confirms.2.1 153 = .ok (.iconst 4, 1) := by decide +kernel
theorem d_M_confirms_154 : decode y_M_confirms.2.1 154 = .ok (.if_icmp .ge 52, 3) := by decide +kernel
theorem d_M_confirms_157 : decode y_M_confirms.2.1 157 = .ok (.aload_n 0, 1) := by decide +kernel
theorem d_M_confirms_158 : decode y_M_confirms.2.1 158 = .ok (.getfield 57, 3) := by decide +kernel
theorem d_M_confirms_161 : decode y_M_confirms.2.1 161 = .ok (.aload_n 0, 1) := by decide +kernel
theorem d_M_confirms_162 : decode y_M_confirms.2.1 162 = .ok (.iload_n 3, 1) := by decide +kernel
theorem d_M_confirms_163 : decode y_M_confirms.2.1 163 = .ok (.iload_n 2, 1) := by decide +kernel
theorem d_M_confirms_164 : decode y_M_confirms.2.1 164 = .ok (.invokevirtual 227, 3) := by decide +kernel
theorem d_M_confirms_167 : decode y_M_confirms.2.1 167 = .ok (.baload, 1) := by decide +kernel
theorem d_M_confirms_168 : decode y_M_confirms.2.1 168 = .ok (.ifCond .eq 20, 3) := by decide +kernel
theorem d_M_confirms_171 : decode y_M_confirms.2.1 171 = .ok (.aload_n 0, 1) := by decide +kernel
theorem d_M_confirms_172 : decode y_M_confirms.2.1 172 = .ok (.getfield 64, 3) := by decide +kernel
theorem d_M_confirms_175 : decode y_M_confirms.2.1 175 = .ok (.iload_n 3, 1) := by decide +kernel
theorem d_M_confirms_176 : decode y_M_confirms.2.1 176 = .ok (.aload_n 0, 1) := by decide +kernel
theorem d_M_confirms_177 : decode y_M_confirms.2.1 177 = .ok (.getfield 53, 3) := by decide +kernel
theorem d_M_confirms_180 : decode y_M_confirms.2.1 180 = .ok (.aload_n 0, 1) := by decide +kernel
theorem d_M_confirms_181 : decode y_M_confirms.2.1 181 = .ok (.iload_n 3, 1) := by decide +kernel
theorem d_M_confirms_182 : decode y_M_confirms.2.1 182 = .ok (.iload_n 2, 1) := by decide +kernel
theorem d_M_confirms_183 : decode y_M_confirms.2.1 183 = .ok (.invokevirtual 227, 3) := by decide +kernel
theorem d_M_confirms_186 : decode y_M_confirms.2.1 186 = .ok (.iaload, 1) := by decide +kernel
theorem d_M_confirms_187 : decode y_M_confirms.2.1 187 = .ok (.iastore, 1) := by decide +kernel
theorem d_M_confirms_188 : decode y_M_confirms.2.1 188 = .ok (.aload_n 0, 1) := by decide +kernel
theorem d_M_confirms_189 : decode y_M_confirms.2.1 189 = .ok (.getfield 57, 3) := by decide +kernel
theorem d_M_confirms_192 : decode y_M_confirms.2.1 192 = .ok (.aload_n 0, 1) := by decide +kernel
theorem d_M_confirms_193 : decode y_M_confirms.2.1 193 = .ok (.iload_n 3, 1) := by decide +kernel
theorem d_M_confirms_194 : decode y_M_confirms.2.1 194 = .ok (.iload_n 2, 1) := by decide +kernel
theorem d_M_confirms_195 : decode y_M_confirms.2.1 195 = .ok (.invokevirtual 227, 3) := by decide +kernel
theorem d_M_confirms_198 : decode y_M_confirms.2.1 198 = .ok (.iconst 0, 1) := by decide +kernel
theorem d_M_confirms_199 : decode y_M_confirms.2.1 199 = .ok (.bastore, 1) := by decide +kernel
theorem d_M_confirms_200 : decode y_M_confirms.2.1 200 = .ok (.iinc 3 1, 3) := by decide +kernel
theorem d_M_confirms_203 : decode y_M_confirms.2.1 203 = .ok (.goto (-51), 3) := by decide +kernel
theorem d_M_confirms_206 : decode y_M_confirms.2.1 206 = .ok (.goto (-204), 3) := by decide +kernel
theorem d_M_confirms_209 : decode y_M_confirms.2.1 209 = .ok (.return_, 1) := by decide +kernel
theorem s_M_confirms : ab_Stat y_M_confirms 0 := ⟨(k12 163 rfl rfl), (k1 19 rfl rfl), ⟨by decide, by decide⟩, by decide +kernel⟩
theorem i_M_confirms : Cond.instanceMethod y_M_confirms.1 ∈ ab_T := (k12 162 rfl rfl)
theorem v_M_confirms : Cond.selects "WorldEngineModel" y_M_confirms.1 y_M_confirms.1 ∈ ab_T := ab_s (List.mem_of_getElem? (i := 205) rfl) rfl
def B_M_confirms_188 (N : Nat) (p0 : Nat) (kq2 : Int32 → Hp → Option (Unit × Hp)) (kq152 : Int32 → Int32 → Int32 → Hp → Option (Unit × Hp)) (l1 : Int32) (l2 : Int32) (l3 : Int32) (H : Hp) : Option (Unit × Hp) :=
    ck (H.sh[p0]? = some (12, 0)) <|
    rf (H.P p0 15) fun a44 =>
    bC (F_M_slot N p0 l3 l2 H) fun v47 H48 =>
    ar H48 102 a44 fun n49 =>
    ck (inb v47 n49) <|
    bnd (H48.sD a44 (v47).toNatClampNeg (vp_nar .boolean (0 : Int32))) fun H52 =>
    kq152 l1 l2 (l3 + 1) H52
set_option maxRecDepth 20000 in
set_option maxHeartbeats 2000000 in
theorem mB_M_confirms_188 {N : Nat} {p0 : Nat} {kq2 : Int32 → Hp → Option (Unit × Hp)} {kq152 : Int32 → Int32 → Int32 → Hp → Option (Unit × Hp)} (hm2 : ∀ (l1 : Int32) (H : Hp) (r : Unit × Hp), kq2 l1 H = some r → Sa H r.2) (hm152 : ∀ (l1 : Int32) (l2 : Int32) (l3 : Int32) (H : Hp) (r : Unit × Hp), kq152 l1 l2 l3 H = some r → Sa H r.2) {l1 : Int32} {l2 : Int32} {l3 : Int32} {H : Hp} {r : Unit × Hp} (hF : B_M_confirms_188 N p0 kq2 kq152 l1 l2 l3 H = some r) : Sa H r.2 := by
  unfold B_M_confirms_188 at hF
  have hm := Sa.rf H
  obtain ⟨q53, hG⟩ := ck_s hF; clear hF
  obtain ⟨a54, e55, hF⟩ := rf_s hG; clear hG
  obtain ⟨v57, H58, z56, hG⟩ := bC_s hF; clear hF
  replace hm : Sa H H58 := hm.tr (m_M_slot z56)
  obtain ⟨n59, q60, hF⟩ := ar_s hG; clear hG
  obtain ⟨q61, hG⟩ := ck_s hF; clear hF
  obtain ⟨H62, eH62, hF⟩ := bnd_g hG; clear hG
  replace hm : Sa H H62 := by rw [eH62]; exact hm
  exact hm.tr (hm152 l1 l2 (l3 + 1) H62 r hF)
set_option maxRecDepth 20000 in
set_option maxHeartbeats 2000000 in
theorem kB_M_confirms_188 {N : Nat} {p0 : Nat} {kq2 : Int32 → Hp → Option (Unit × Hp)} {kq152 : Int32 → Int32 → Int32 → Hp → Option (Unit × Hp)} (hm2 : ∀ (l1 : Int32) (H : Hp) (r : Unit × Hp), kq2 l1 H = some r → Sa H r.2) (hm152 : ∀ (l1 : Int32) (l2 : Int32) (l3 : Int32) (H : Hp) (r : Unit × Hp), kq152 l1 l2 l3 H = some r → Sa H r.2) (hk2 : ∀ (l1 : Int32) (H : Hp) (r : Unit × Hp), kq2 l1 H = some r → ab_V y_M_confirms { frames := 330, cells := 0, slots := 0, locals := 8128 } (po (.returned none) r.2) 0 0 0 0 2 [some (.ref p0), some (.int l1), none, none] [] (hpw H)) (hk152 : ∀ (l1 : Int32) (l2 : Int32) (l3 : Int32) (H : Hp) (r : Unit × Hp), kq152 l1 l2 l3 H = some r → ab_V y_M_confirms { frames := 330, cells := 0, slots := 0, locals := 8128 } (po (.returned none) r.2) 0 0 0 0 152 [some (.ref p0), some (.int l1), some (.int l2), some (.int l3)] [] (hpw H)) {l1 : Int32} {l2 : Int32} {l3 : Int32} {H : Hp} {r : Unit × Hp} (hF : B_M_confirms_188 N p0 kq2 kq152 l1 l2 l3 H = some r) : ab_V y_M_confirms { frames := 330, cells := 0, slots := 0, locals := 8128 } (po (.returned none) r.2) 0 0 0 0 188 [some (.ref p0), some (.int l1), some (.int l2), some (.int l3)] [] (hpw H) := by
  unfold B_M_confirms_188 at hF
  refine ab_aload_n d_M_confirms_188 rfl rfl rfl ?_
  obtain ⟨q43, hG⟩ := ck_s hF; clear hF
  obtain ⟨a44, e45, hF⟩ := rf_s hG; clear hG
  refine hp_getR (f := 15) d_M_confirms_189 q43 (by decide) rfl (by decide) (k10 8 rfl rfl) rfl e45 ?_
  refine ab_aload_n d_M_confirms_192 rfl rfl rfl ?_
  refine ab_iload_n d_M_confirms_193 rfl rfl ?_
  refine ab_iload_n d_M_confirms_194 rfl rfl ?_
  obtain ⟨v47, H48, z46, hG⟩ := bC_s hF; clear hF
  refine hp_callV_a (v := .int v47) (H1 := H48) (As := [.int l3, .int l2]) (rest := [.ref a44]) d_M_confirms_195 (k_M_slot z46) (ab_mkC s_M_slot (Nat.le_of_ble_eq_true rfl) (Nat.le_of_ble_eq_true rfl) (Nat.le_refl 0) (Nat.le_refl 0)) (k11 210 rfl rfl) i_M_slot v_M_slot q43 (by decide) rfl rfl (Nat.le_of_ble_eq_true rfl) ?_
  have s_3 : Sa H H48 := (m_M_slot z46)
  refine ab_iconst (v := 0) d_M_confirms_198 (by decide) ?_
  obtain ⟨n49, q50, hF⟩ := ar_s hG; clear hG
  rw [(s_3).1] at q50
  obtain ⟨q51, hG⟩ := ck_s hF; clear hF
  refine hp_zast d_M_confirms_199 tZ (by rw [(s_3).1]; exact q50) q51 ?_
  refine hp_gen (fun H52 eH52 => ?_)
  replace hG := bnd_s eH52 hG
  have s_4 : Sa H H52 := by rw [eH52]; exact s_3
  refine ab_iinc (v := l3 + 1) (lv' := [some (.ref p0), some (.int l1), some (.int l2), some (.int (l3 + 1))]) d_M_confirms_200 rfl rfl (by decide) rfl ?_
  refine ab_goto (tgt := 152) d_M_confirms_203 (by decide) ?_
  exact hk152 l1 l2 (l3 + 1) H52 r hG
def B_M_confirms_152 (N : Nat) (p0 : Nat) (kq2 : Int32 → Hp → Option (Unit × Hp)) : Nat → Int32 → Int32 → Int32 → Hp → Option (Unit × Hp)
  | 0, _, _, _, _ => none
  | n + 1, l1, l2, l3, H =>
    if (4 : Int32) ≤ l3 then
    kq2 l1 H
    else
    ck (H.sh[p0]? = some (12, 0)) <|
    rf (H.P p0 15) fun a33 =>
    bC (F_M_slot N p0 l3 l2 H) fun v36 H37 =>
    ar H37 102 a33 fun n38 =>
    ck (inb v36 n38) <|
    bnd ((H37.D a33 (v36).toNatClampNeg)) fun x41 =>
    if x41 = (0 : Int32) then
    B_M_confirms_188 N p0 kq2 (fun l1 l2 l3 H => B_M_confirms_152 N p0 kq2 n l1 l2 l3 H) l1 l2 l3 H37
    else
    rf (H37.P p0 17) fun a63 =>
    rf (H37.P p0 14) fun a65 =>
    bC (F_M_slot N p0 l3 l2 H37) fun v68 H69 =>
    ar H69 100 a65 fun n70 =>
    ck (inb v68 n70) <|
    bnd ((H69.D a65 (v68).toNatClampNeg)) fun x73 =>
    ar H69 100 a63 fun n74 =>
    ck (inb l3 n74) <|
    bnd (H69.sD a63 (l3).toNatClampNeg x73) fun H77 =>
    B_M_confirms_188 N p0 kq2 (fun l1 l2 l3 H => B_M_confirms_152 N p0 kq2 n l1 l2 l3 H) l1 l2 l3 H77
termination_by structural n => n
set_option maxRecDepth 20000 in
set_option maxHeartbeats 2000000 in
theorem mB_M_confirms_152 {N : Nat} {p0 : Nat} {kq2 : Int32 → Hp → Option (Unit × Hp)} (hm2 : ∀ (l1 : Int32) (H : Hp) (r : Unit × Hp), kq2 l1 H = some r → Sa H r.2) : ∀ (n : Nat) (l1 : Int32) (l2 : Int32) (l3 : Int32) (H : Hp) (r : Unit × Hp), B_M_confirms_152 N p0 kq2 n l1 l2 l3 H = some r → Sa H r.2 := by
  intro n
  induction n with
  | zero => intro l1 l2 l3 H r hF; rw [B_M_confirms_152] at hF; cases hF
  | succ n ih =>
    intro l1 l2 l3 H r hF
    rw [B_M_confirms_152] at hF
    have hm := Sa.rf H
    rcases ite_s hF with ⟨q_9, hG⟩ | ⟨q_9, hG⟩
    · clear hF
      exact hm.tr (hm2 l1 H r hG)
    · clear hF
      obtain ⟨q79, hF⟩ := ck_s hG; clear hG
      obtain ⟨a80, e81, hG⟩ := rf_s hF; clear hF
      obtain ⟨v83, H84, z82, hF⟩ := bC_s hG; clear hG
      replace hm : Sa H H84 := hm.tr (m_M_slot z82)
      obtain ⟨n85, q86, hG⟩ := ar_s hF; clear hF
      obtain ⟨q87, hF⟩ := ck_s hG; clear hG
      obtain ⟨x88, -, hG⟩ := bnd_g hF; clear hF
      rcases ite_s hG with ⟨q_11, hF⟩ | ⟨q_11, hF⟩
      · clear hG
        exact hm.tr (mB_M_confirms_188 hm2 ih hF)
      · clear hG
        obtain ⟨a90, e91, hG⟩ := rf_s hF; clear hF
        obtain ⟨a92, e93, hF⟩ := rf_s hG; clear hG
        obtain ⟨v95, H96, z94, hG⟩ := bC_s hF; clear hF
        replace hm : Sa H H96 := hm.tr (m_M_slot z94)
        obtain ⟨n97, q98, hF⟩ := ar_s hG; clear hG
        obtain ⟨q99, hG⟩ := ck_s hF; clear hF
        obtain ⟨x100, -, hF⟩ := bnd_g hG; clear hG
        obtain ⟨n101, q102, hG⟩ := ar_s hF; clear hF
        obtain ⟨q103, hF⟩ := ck_s hG; clear hG
        obtain ⟨H104, eH104, hG⟩ := bnd_g hF; clear hF
        replace hm : Sa H H104 := by rw [eH104]; exact hm
        exact hm.tr (mB_M_confirms_188 hm2 ih hG)
set_option maxRecDepth 20000 in
set_option maxHeartbeats 2000000 in
theorem kB_M_confirms_152 {N : Nat} {p0 : Nat} {kq2 : Int32 → Hp → Option (Unit × Hp)} (hm2 : ∀ (l1 : Int32) (H : Hp) (r : Unit × Hp), kq2 l1 H = some r → Sa H r.2) (hk2 : ∀ (l1 : Int32) (H : Hp) (r : Unit × Hp), kq2 l1 H = some r → ab_V y_M_confirms { frames := 330, cells := 0, slots := 0, locals := 8128 } (po (.returned none) r.2) 0 0 0 0 2 [some (.ref p0), some (.int l1), none, none] [] (hpw H)) : ∀ (n : Nat) (l1 : Int32) (l2 : Int32) (l3 : Int32) (H : Hp) (r : Unit × Hp), B_M_confirms_152 N p0 kq2 n l1 l2 l3 H = some r → ab_V y_M_confirms { frames := 330, cells := 0, slots := 0, locals := 8128 } (po (.returned none) r.2) 0 0 0 0 152 [some (.ref p0), some (.int l1), some (.int l2), some (.int l3)] [] (hpw H) := by
  intro n
  induction n with
  | zero => intro l1 l2 l3 H r hF; rw [B_M_confirms_152] at hF; cases hF
  | succ n ih =>
    intro l1 l2 l3 H r hF
    rw [B_M_confirms_152] at hF
    refine ab_iload_n d_M_confirms_152 rfl rfl ?_
    refine ab_iconst (v := 4) d_M_confirms_153 (by decide) ?_
    refine ab_icmp_ge (tgt := 206) d_M_confirms_154 (by decide) (fun q31 => ?_) (fun q31 => ?_)
    · rw [if_pos q31] at hF
      refine ab_goto (tgt := 2) d_M_confirms_206 (by decide) ?_
      refine ab_le (lv' := [some (.ref p0), some (.int l1), none, none]) ⟨rfl, ⟨rfl, trivial⟩⟩ ?_
      exact hk2 l1 H r hF
    · rw [if_neg q31] at hF
      refine ab_aload_n d_M_confirms_157 rfl rfl rfl ?_
      obtain ⟨q32, hG⟩ := ck_s hF; clear hF
      obtain ⟨a33, e34, hF⟩ := rf_s hG; clear hG
      refine hp_getR (f := 15) d_M_confirms_158 q32 (by decide) rfl (by decide) (k10 8 rfl rfl) rfl e34 ?_
      refine ab_aload_n d_M_confirms_161 rfl rfl rfl ?_
      refine ab_iload_n d_M_confirms_162 rfl rfl ?_
      refine ab_iload_n d_M_confirms_163 rfl rfl ?_
      obtain ⟨v36, H37, z35, hG⟩ := bC_s hF; clear hF
      refine hp_callV_a (v := .int v36) (H1 := H37) (As := [.int l3, .int l2]) (rest := [.ref a33]) d_M_confirms_164 (k_M_slot z35) (ab_mkC s_M_slot (Nat.le_of_ble_eq_true rfl) (Nat.le_of_ble_eq_true rfl) (Nat.le_refl 0) (Nat.le_refl 0)) (k11 210 rfl rfl) i_M_slot v_M_slot q32 (by decide) rfl rfl (Nat.le_of_ble_eq_true rfl) ?_
      have s_2 : Sa H H37 := (m_M_slot z35)
      obtain ⟨n38, q39, hF⟩ := ar_s hG; clear hG
      rw [(s_2).1] at q39
      obtain ⟨q40, hG⟩ := ck_s hF; clear hF
      refine hp_zald d_M_confirms_167 tZ (by rw [(s_2).1]; exact q39) q40 ?_
      refine ab_topi (fun x41 ex41 => ?_)
      replace hG := bnd_s ex41 hG
      refine ab_if_eq (tgt := 188) d_M_confirms_168 (by decide) (fun q42 => ?_) (fun q42 => ?_)
      · rw [if_pos q42] at hG
        exact kB_M_confirms_188 hm2 (mB_M_confirms_152 hm2 n) hk2 ih hG
      · rw [if_neg q42] at hG
        refine ab_aload_n d_M_confirms_171 rfl rfl rfl ?_
        obtain ⟨a63, e64, hF⟩ := rf_s hG; clear hG
        refine hp_getR (f := 17) d_M_confirms_172 (by rw [(s_2).1]; exact q32) (by decide) rfl (by decide) (k10 10 rfl rfl) rfl e64 ?_
        refine ab_iload_n d_M_confirms_175 rfl rfl ?_
        refine ab_aload_n d_M_confirms_176 rfl rfl rfl ?_
        obtain ⟨a65, e66, hG⟩ := rf_s hF; clear hF
        refine hp_getR (f := 14) d_M_confirms_177 (by rw [(s_2).1]; exact q32) (by decide) rfl (by decide) (k10 7 rfl rfl) rfl e66 ?_
        refine ab_aload_n d_M_confirms_180 rfl rfl rfl ?_
        refine ab_iload_n d_M_confirms_181 rfl rfl ?_
        refine ab_iload_n d_M_confirms_182 rfl rfl ?_
        obtain ⟨v68, H69, z67, hF⟩ := bC_s hG; clear hG
        refine hp_callV_a (v := .int v68) (H1 := H69) (As := [.int l3, .int l2]) (rest := [.ref a65, .int l3, .ref a63]) d_M_confirms_183 (k_M_slot z67) (ab_mkC s_M_slot (Nat.le_of_ble_eq_true rfl) (Nat.le_of_ble_eq_true rfl) (Nat.le_refl 0) (Nat.le_refl 0)) (k11 210 rfl rfl) i_M_slot v_M_slot (by rw [(s_2).1]; exact q32) (by decide) rfl rfl (Nat.le_of_ble_eq_true rfl) ?_
        have s_7 : Sa H H69 := (s_2).tr (m_M_slot z67)
        obtain ⟨n70, q71, hG⟩ := ar_s hF; clear hF
        rw [(s_7).1] at q71
        obtain ⟨q72, hF⟩ := ck_s hG; clear hG
        refine hp_iald d_M_confirms_186 tI (by rw [(s_7).1]; exact q71) q72 ?_
        refine ab_topi (fun x73 ex73 => ?_)
        replace hF := bnd_s ex73 hF
        obtain ⟨n74, q75, hG⟩ := ar_s hF; clear hF
        rw [(s_7).1] at q75
        obtain ⟨q76, hF⟩ := ck_s hG; clear hG
        refine hp_iast d_M_confirms_187 tI (by rw [(s_7).1]; exact q75) q76 ?_
        refine hp_gen (fun H77 eH77 => ?_)
        replace hF := bnd_s eH77 hF
        have s_8 : Sa H H77 := by rw [eH77]; exact s_7
        exact kB_M_confirms_188 hm2 (mB_M_confirms_152 hm2 n) hk2 ih hF
def B_M_confirms_101 (N : Nat) (p0 : Nat) (kq2 : Int32 → Hp → Option (Unit × Hp)) : Nat → Int32 → Int32 → Int32 → Hp → Option (Unit × Hp)
  | 0, _, _, _, _ => none
  | n + 1, l1, l2, l3, H =>
    ck (H.sh[p0]? = some (12, 0)) <|
    rf (H.P p0 8) fun a26 =>
    ck (H.sh[a26]? = some (13, 0)) <|
    bnd ((H.D a26 16)) fun x29 =>
    if x29 ≤ l3 then
    B_M_confirms_152 N p0 kq2 N l1 l2 0 H
    else
    rf (H.P p0 19) fun a105 =>
    bnd ((H.D p0 20)) fun x107 =>
    rf (H.P p0 8) fun a108 =>
    ck (H.sh[a108]? = some (13, 0)) <|
    rf (H.P a108 17) fun a111 =>
    ar H 100 a111 fun n113 =>
    ck (inb l3 n113) <|
    bnd ((H.D a111 (l3).toNatClampNeg)) fun x116 =>
    ar H 100 a105 fun n117 =>
    ck (inb (x107 &&& (255 : Int32)) n117) <|
    bnd (H.sD a105 ((x107 &&& (255 : Int32))).toNatClampNeg x116) fun H120 =>
    bnd ((H120.D p0 20)) fun x121 =>
    bnd (H120.sD p0 20 (x121 + (1 : Int32))) fun H122 =>
    B_M_confirms_101 N p0 kq2 n l1 l2 (l3 + 1) H122
termination_by structural n => n
set_option maxRecDepth 20000 in
set_option maxHeartbeats 2000000 in
theorem mB_M_confirms_101 {N : Nat} {p0 : Nat} {kq2 : Int32 → Hp → Option (Unit × Hp)} (hm2 : ∀ (l1 : Int32) (H : Hp) (r : Unit × Hp), kq2 l1 H = some r → Sa H r.2) : ∀ (n : Nat) (l1 : Int32) (l2 : Int32) (l3 : Int32) (H : Hp) (r : Unit × Hp), B_M_confirms_101 N p0 kq2 n l1 l2 l3 H = some r → Sa H r.2 := by
  intro n
  induction n with
  | zero => intro l1 l2 l3 H r hF; rw [B_M_confirms_101] at hF; cases hF
  | succ n ih =>
    intro l1 l2 l3 H r hF
    rw [B_M_confirms_101] at hF
    have hm := Sa.rf H
    obtain ⟨q123, hG⟩ := ck_s hF; clear hF
    obtain ⟨a124, e125, hF⟩ := rf_s hG; clear hG
    obtain ⟨q126, hG⟩ := ck_s hF; clear hF
    obtain ⟨x127, -, hF⟩ := bnd_g hG; clear hG
    rcases ite_s hF with ⟨q_16, hG⟩ | ⟨q_16, hG⟩
    · clear hF
      exact hm.tr (mB_M_confirms_152 hm2 N l1 l2 0 H r hG)
    · clear hF
      obtain ⟨a129, e130, hF⟩ := rf_s hG; clear hG
      obtain ⟨x131, -, hG⟩ := bnd_g hF; clear hF
      obtain ⟨a132, e133, hF⟩ := rf_s hG; clear hG
      obtain ⟨q134, hG⟩ := ck_s hF; clear hF
      obtain ⟨a135, e136, hF⟩ := rf_s hG; clear hG
      obtain ⟨n137, q138, hG⟩ := ar_s hF; clear hF
      obtain ⟨q139, hF⟩ := ck_s hG; clear hG
      obtain ⟨x140, -, hG⟩ := bnd_g hF; clear hF
      obtain ⟨n141, q142, hF⟩ := ar_s hG; clear hG
      obtain ⟨q143, hG⟩ := ck_s hF; clear hF
      obtain ⟨H144, eH144, hF⟩ := bnd_g hG; clear hG
      replace hm : Sa H H144 := by rw [eH144]; exact hm
      obtain ⟨x145, -, hG⟩ := bnd_g hF; clear hF
      obtain ⟨H146, eH146, hF⟩ := bnd_g hG; clear hG
      replace hm : Sa H H146 := by rw [eH146]; exact hm
      exact hm.tr (ih l1 l2 (l3 + 1) H146 r hF)
set_option maxRecDepth 20000 in
set_option maxHeartbeats 2000000 in
theorem kB_M_confirms_101 {N : Nat} {p0 : Nat} {kq2 : Int32 → Hp → Option (Unit × Hp)} (hm2 : ∀ (l1 : Int32) (H : Hp) (r : Unit × Hp), kq2 l1 H = some r → Sa H r.2) (hk2 : ∀ (l1 : Int32) (H : Hp) (r : Unit × Hp), kq2 l1 H = some r → ab_V y_M_confirms { frames := 330, cells := 0, slots := 0, locals := 8128 } (po (.returned none) r.2) 0 0 0 0 2 [some (.ref p0), some (.int l1), none, none] [] (hpw H)) : ∀ (n : Nat) (l1 : Int32) (l2 : Int32) (l3 : Int32) (H : Hp) (r : Unit × Hp), B_M_confirms_101 N p0 kq2 n l1 l2 l3 H = some r → ab_V y_M_confirms { frames := 330, cells := 0, slots := 0, locals := 8128 } (po (.returned none) r.2) 0 0 0 0 101 [some (.ref p0), some (.int l1), some (.int l2), some (.int l3)] [] (hpw H) := by
  intro n
  induction n with
  | zero => intro l1 l2 l3 H r hF; rw [B_M_confirms_101] at hF; cases hF
  | succ n ih =>
    intro l1 l2 l3 H r hF
    rw [B_M_confirms_101] at hF
    refine ab_iload_n d_M_confirms_101 rfl rfl ?_
    refine ab_aload_n d_M_confirms_102 rfl rfl rfl ?_
    obtain ⟨q25, hG⟩ := ck_s hF; clear hF
    obtain ⟨a26, e27, hF⟩ := rf_s hG; clear hG
    refine hp_getR (f := 8) d_M_confirms_103 q25 (by decide) rfl (by decide) (k10 1 rfl rfl) rfl e27 ?_
    obtain ⟨q28, hG⟩ := ck_s hF; clear hF
    refine hp_getIN (f := 16) d_M_confirms_106 q28 (by decide) rfl (by decide) (k9 135 rfl rfl) rfl ?_
    refine ab_topi (fun x29 ex29 => ?_)
    replace hG := bnd_s ex29 hG
    refine ab_icmp_ge (tgt := 150) d_M_confirms_109 (by decide) (fun q30 => ?_) (fun q30 => ?_)
    · rw [if_pos q30] at hG
      refine ab_iconst (v := 0) d_M_confirms_150 (by decide) ?_
      refine ab_istore_n (lv' := [some (.ref p0), some (.int l1), some (.int l2), some (.int 0)]) d_M_confirms_151 rfl (by decide) rfl ?_
      exact kB_M_confirms_152 hm2 hk2 N l1 l2 0 H r hG
    · rw [if_neg q30] at hG
      refine ab_aload_n d_M_confirms_112 rfl rfl rfl ?_
      obtain ⟨a105, e106, hF⟩ := rf_s hG; clear hG
      refine hp_getR (f := 19) d_M_confirms_113 q25 (by decide) rfl (by decide) (k10 12 rfl rfl) rfl e106 ?_
      refine ab_aload_n d_M_confirms_116 rfl rfl rfl ?_
      refine hp_getI (f := 20) d_M_confirms_117 q25 (by decide) rfl (by decide) (k10 13 rfl rfl) rfl ?_
      refine ab_topi (fun x107 ex107 => ?_)
      replace hF := bnd_s ex107 hF
      refine ab_sipush (v := 255) d_M_confirms_120 (by decide) ?_
      refine ab_iand d_M_confirms_123 ?_
      refine ab_aload_n d_M_confirms_124 rfl rfl rfl ?_
      obtain ⟨a108, e109, hG⟩ := rf_s hF; clear hF
      refine hp_getR (f := 8) d_M_confirms_125 q25 (by decide) rfl (by decide) (k10 1 rfl rfl) rfl e109 ?_
      obtain ⟨q110, hF⟩ := ck_s hG; clear hG
      obtain ⟨a111, e112, hG⟩ := rf_s hF; clear hF
      refine hp_getRN (f := 17) d_M_confirms_128 q110 (by decide) rfl (by decide) (k9 137 rfl rfl) rfl e112 ?_
      refine ab_iload_n d_M_confirms_131 rfl rfl ?_
      obtain ⟨n113, q114, hF⟩ := ar_s hG; clear hG
      obtain ⟨q115, hG⟩ := ck_s hF; clear hF
      refine hp_iald d_M_confirms_132 tI q114 q115 ?_
      refine ab_topi (fun x116 ex116 => ?_)
      replace hG := bnd_s ex116 hG
      obtain ⟨n117, q118, hF⟩ := ar_s hG; clear hG
      obtain ⟨q119, hG⟩ := ck_s hF; clear hF
      refine hp_iast d_M_confirms_133 tI q118 q119 ?_
      refine hp_gen (fun H120 eH120 => ?_)
      replace hG := bnd_s eH120 hG
      have s_14 : Sa H H120 := by rw [eH120]; exact Sa.rf _
      refine ab_aload_n d_M_confirms_134 rfl rfl rfl ?_
      refine ab_dup d_M_confirms_135 rfl ?_
      refine hp_getI (f := 20) d_M_confirms_136 (by rw [(s_14).1]; exact q25) (by decide) rfl (by decide) (k10 13 rfl rfl) rfl ?_
      refine ab_topi (fun x121 ex121 => ?_)
      replace hG := bnd_s ex121 hG
      refine ab_iconst (v := 1) d_M_confirms_139 (by decide) ?_
      refine ab_iadd d_M_confirms_140 ?_
      refine hp_putI (v := x121 + (1 : Int32)) (f := 20) d_M_confirms_141 (by rw [(s_14).1]; exact q25) (by decide) rfl (by decide) (k10 13 rfl rfl) rfl rfl (fun _ => rfl) (fun _ => rfl) rfl ?_
      refine hp_gen (fun H122 eH122 => ?_)
      replace hG := bnd_s eH122 hG
      have s_15 : Sa H H122 := by rw [eH122]; exact s_14
      refine ab_iinc (v := l3 + 1) (lv' := [some (.ref p0), some (.int l1), some (.int l2), some (.int (l3 + 1))]) d_M_confirms_144 rfl rfl (by decide) rfl ?_
      refine ab_goto (tgt := 101) d_M_confirms_147 (by decide) ?_
      exact ih l1 l2 (l3 + 1) H122 r hG
def B_M_confirms_79 (N : Nat) (p0 : Nat) (kq2 : Int32 → Hp → Option (Unit × Hp)) (kq35 : Int32 → Int32 → Int32 → Hp → Option (Unit × Hp)) (l2 : Int32) (l3 : Int32) (w0 : Int32) (H : Hp) : Option (Unit × Hp) :=
    kq35 w0 l2 (l3 + 1) H
set_option maxRecDepth 20000 in
set_option maxHeartbeats 2000000 in
theorem mB_M_confirms_79 {N : Nat} {p0 : Nat} {kq2 : Int32 → Hp → Option (Unit × Hp)} {kq35 : Int32 → Int32 → Int32 → Hp → Option (Unit × Hp)} (hm2 : ∀ (l1 : Int32) (H : Hp) (r : Unit × Hp), kq2 l1 H = some r → Sa H r.2) (hm35 : ∀ (l1 : Int32) (l2 : Int32) (l3 : Int32) (H : Hp) (r : Unit × Hp), kq35 l1 l2 l3 H = some r → Sa H r.2) {l2 : Int32} {l3 : Int32} {w0 : Int32} {H : Hp} {r : Unit × Hp} (hF : B_M_confirms_79 N p0 kq2 kq35 l2 l3 w0 H = some r) : Sa H r.2 := by
  unfold B_M_confirms_79 at hF
  have hm := Sa.rf H
  exact hm.tr (hm35 w0 l2 (l3 + 1) H r hF)
set_option maxRecDepth 20000 in
set_option maxHeartbeats 2000000 in
theorem kB_M_confirms_79 {N : Nat} {p0 : Nat} {kq2 : Int32 → Hp → Option (Unit × Hp)} {kq35 : Int32 → Int32 → Int32 → Hp → Option (Unit × Hp)} (hm2 : ∀ (l1 : Int32) (H : Hp) (r : Unit × Hp), kq2 l1 H = some r → Sa H r.2) (hm35 : ∀ (l1 : Int32) (l2 : Int32) (l3 : Int32) (H : Hp) (r : Unit × Hp), kq35 l1 l2 l3 H = some r → Sa H r.2) (hk2 : ∀ (l1 : Int32) (H : Hp) (r : Unit × Hp), kq2 l1 H = some r → ab_V y_M_confirms { frames := 330, cells := 0, slots := 0, locals := 8128 } (po (.returned none) r.2) 0 0 0 0 2 [some (.ref p0), some (.int l1), none, none] [] (hpw H)) (hk35 : ∀ (l1 : Int32) (l2 : Int32) (l3 : Int32) (H : Hp) (r : Unit × Hp), kq35 l1 l2 l3 H = some r → ab_V y_M_confirms { frames := 330, cells := 0, slots := 0, locals := 8128 } (po (.returned none) r.2) 0 0 0 0 35 [some (.ref p0), some (.int l1), some (.int l2), some (.int l3)] [] (hpw H)) {l2 : Int32} {l3 : Int32} {w0 : Int32} {H : Hp} {r : Unit × Hp} (hF : B_M_confirms_79 N p0 kq2 kq35 l2 l3 w0 H = some r) : ab_V y_M_confirms { frames := 330, cells := 0, slots := 0, locals := 8128 } (po (.returned none) r.2) 0 0 0 0 79 [some (.ref p0), none, some (.int l2), some (.int l3)] [.int w0] (hpw H) := by
  unfold B_M_confirms_79 at hF
  refine ab_istore_n (lv' := [some (.ref p0), some (.int w0), some (.int l2), some (.int l3)]) d_M_confirms_79 rfl (by decide) rfl ?_
  refine ab_iinc (v := l3 + 1) (lv' := [some (.ref p0), some (.int w0), some (.int l2), some (.int (l3 + 1))]) d_M_confirms_80 rfl rfl (by decide) rfl ?_
  refine ab_goto (tgt := 35) d_M_confirms_83 (by decide) ?_
  exact hk35 w0 l2 (l3 + 1) H r hF
def B_M_confirms_78 (N : Nat) (p0 : Nat) (kq2 : Int32 → Hp → Option (Unit × Hp)) (kq35 : Int32 → Int32 → Int32 → Hp → Option (Unit × Hp)) (l2 : Int32) (l3 : Int32) (H : Hp) : Option (Unit × Hp) :=
    B_M_confirms_79 N p0 kq2 kq35 l2 l3 0 H
set_option maxRecDepth 20000 in
set_option maxHeartbeats 2000000 in
theorem mB_M_confirms_78 {N : Nat} {p0 : Nat} {kq2 : Int32 → Hp → Option (Unit × Hp)} {kq35 : Int32 → Int32 → Int32 → Hp → Option (Unit × Hp)} (hm2 : ∀ (l1 : Int32) (H : Hp) (r : Unit × Hp), kq2 l1 H = some r → Sa H r.2) (hm35 : ∀ (l1 : Int32) (l2 : Int32) (l3 : Int32) (H : Hp) (r : Unit × Hp), kq35 l1 l2 l3 H = some r → Sa H r.2) {l2 : Int32} {l3 : Int32} {H : Hp} {r : Unit × Hp} (hF : B_M_confirms_78 N p0 kq2 kq35 l2 l3 H = some r) : Sa H r.2 := by
  unfold B_M_confirms_78 at hF
  have hm := Sa.rf H
  exact hm.tr (mB_M_confirms_79 hm2 hm35 hF)
set_option maxRecDepth 20000 in
set_option maxHeartbeats 2000000 in
theorem kB_M_confirms_78 {N : Nat} {p0 : Nat} {kq2 : Int32 → Hp → Option (Unit × Hp)} {kq35 : Int32 → Int32 → Int32 → Hp → Option (Unit × Hp)} (hm2 : ∀ (l1 : Int32) (H : Hp) (r : Unit × Hp), kq2 l1 H = some r → Sa H r.2) (hm35 : ∀ (l1 : Int32) (l2 : Int32) (l3 : Int32) (H : Hp) (r : Unit × Hp), kq35 l1 l2 l3 H = some r → Sa H r.2) (hk2 : ∀ (l1 : Int32) (H : Hp) (r : Unit × Hp), kq2 l1 H = some r → ab_V y_M_confirms { frames := 330, cells := 0, slots := 0, locals := 8128 } (po (.returned none) r.2) 0 0 0 0 2 [some (.ref p0), some (.int l1), none, none] [] (hpw H)) (hk35 : ∀ (l1 : Int32) (l2 : Int32) (l3 : Int32) (H : Hp) (r : Unit × Hp), kq35 l1 l2 l3 H = some r → ab_V y_M_confirms { frames := 330, cells := 0, slots := 0, locals := 8128 } (po (.returned none) r.2) 0 0 0 0 35 [some (.ref p0), some (.int l1), some (.int l2), some (.int l3)] [] (hpw H)) {l2 : Int32} {l3 : Int32} {H : Hp} {r : Unit × Hp} (hF : B_M_confirms_78 N p0 kq2 kq35 l2 l3 H = some r) : ab_V y_M_confirms { frames := 330, cells := 0, slots := 0, locals := 8128 } (po (.returned none) r.2) 0 0 0 0 78 [some (.ref p0), none, some (.int l2), some (.int l3)] [] (hpw H) := by
  unfold B_M_confirms_78 at hF
  refine ab_iconst (v := 0) d_M_confirms_78 (by decide) ?_
  exact kB_M_confirms_79 hm2 hm35 hk2 hk35 hF
def B_M_confirms_74 (N : Nat) (p0 : Nat) (kq2 : Int32 → Hp → Option (Unit × Hp)) (kq35 : Int32 → Int32 → Int32 → Hp → Option (Unit × Hp)) (l2 : Int32) (l3 : Int32) (H : Hp) : Option (Unit × Hp) :=
    B_M_confirms_79 N p0 kq2 kq35 l2 l3 1 H
set_option maxRecDepth 20000 in
set_option maxHeartbeats 2000000 in
theorem mB_M_confirms_74 {N : Nat} {p0 : Nat} {kq2 : Int32 → Hp → Option (Unit × Hp)} {kq35 : Int32 → Int32 → Int32 → Hp → Option (Unit × Hp)} (hm2 : ∀ (l1 : Int32) (H : Hp) (r : Unit × Hp), kq2 l1 H = some r → Sa H r.2) (hm35 : ∀ (l1 : Int32) (l2 : Int32) (l3 : Int32) (H : Hp) (r : Unit × Hp), kq35 l1 l2 l3 H = some r → Sa H r.2) {l2 : Int32} {l3 : Int32} {H : Hp} {r : Unit × Hp} (hF : B_M_confirms_74 N p0 kq2 kq35 l2 l3 H = some r) : Sa H r.2 := by
  unfold B_M_confirms_74 at hF
  have hm := Sa.rf H
  exact hm.tr (mB_M_confirms_79 hm2 hm35 hF)
set_option maxRecDepth 20000 in
set_option maxHeartbeats 2000000 in
theorem kB_M_confirms_74 {N : Nat} {p0 : Nat} {kq2 : Int32 → Hp → Option (Unit × Hp)} {kq35 : Int32 → Int32 → Int32 → Hp → Option (Unit × Hp)} (hm2 : ∀ (l1 : Int32) (H : Hp) (r : Unit × Hp), kq2 l1 H = some r → Sa H r.2) (hm35 : ∀ (l1 : Int32) (l2 : Int32) (l3 : Int32) (H : Hp) (r : Unit × Hp), kq35 l1 l2 l3 H = some r → Sa H r.2) (hk2 : ∀ (l1 : Int32) (H : Hp) (r : Unit × Hp), kq2 l1 H = some r → ab_V y_M_confirms { frames := 330, cells := 0, slots := 0, locals := 8128 } (po (.returned none) r.2) 0 0 0 0 2 [some (.ref p0), some (.int l1), none, none] [] (hpw H)) (hk35 : ∀ (l1 : Int32) (l2 : Int32) (l3 : Int32) (H : Hp) (r : Unit × Hp), kq35 l1 l2 l3 H = some r → ab_V y_M_confirms { frames := 330, cells := 0, slots := 0, locals := 8128 } (po (.returned none) r.2) 0 0 0 0 35 [some (.ref p0), some (.int l1), some (.int l2), some (.int l3)] [] (hpw H)) {l2 : Int32} {l3 : Int32} {H : Hp} {r : Unit × Hp} (hF : B_M_confirms_74 N p0 kq2 kq35 l2 l3 H = some r) : ab_V y_M_confirms { frames := 330, cells := 0, slots := 0, locals := 8128 } (po (.returned none) r.2) 0 0 0 0 74 [some (.ref p0), none, some (.int l2), some (.int l3)] [] (hpw H) := by
  unfold B_M_confirms_74 at hF
  refine ab_iconst (v := 1) d_M_confirms_74 (by decide) ?_
  refine ab_goto (tgt := 79) d_M_confirms_75 (by decide) ?_
  exact kB_M_confirms_79 hm2 hm35 hk2 hk35 hF
def B_M_confirms_35 (N : Nat) (p0 : Nat) (kq2 : Int32 → Hp → Option (Unit × Hp)) : Nat → Int32 → Int32 → Int32 → Hp → Option (Unit × Hp)
  | 0, _, _, _, _ => none
  | n + 1, l1, l2, l3, H =>
    if (4 : Int32) ≤ l3 then
    if l1 = (0 : Int32) then
    some ((), H)
    else
    ck (H.sh[p0]? = some (12, 0)) <|
    rf (H.P p0 8) fun a20 =>
    bC (F_M_runs N p0 a20 H) fun v23 H24 =>
    B_M_confirms_101 N p0 kq2 N l1 l2 0 H24
    else
    if l1 = (0 : Int32) then
    B_M_confirms_78 N p0 kq2 (fun l1 l2 l3 H => B_M_confirms_35 N p0 kq2 n l1 l2 l3 H) l2 l3 H
    else
    ck (H.sh[p0]? = some (12, 0)) <|
    rf (H.P p0 16) fun a149 =>
    ar H 100 a149 fun n151 =>
    ck (inb (l2 &&& (63 : Int32)) n151) <|
    bnd ((H.D a149 ((l2 &&& (63 : Int32))).toNatClampNeg)) fun x154 =>
    if ((x154 >>> (l3 &&& 31)) &&& (1 : Int32)) = (0 : Int32) then
    B_M_confirms_74 N p0 kq2 (fun l1 l2 l3 H => B_M_confirms_35 N p0 kq2 n l1 l2 l3 H) l2 l3 H
    else
    rf (H.P p0 15) fun a156 =>
    bC (F_M_slot N p0 l3 l2 H) fun v159 H160 =>
    ar H160 102 a156 fun n161 =>
    ck (inb v159 n161) <|
    bnd ((H160.D a156 (v159).toNatClampNeg)) fun x164 =>
    if x164 = (0 : Int32) then
    B_M_confirms_78 N p0 kq2 (fun l1 l2 l3 H => B_M_confirms_35 N p0 kq2 n l1 l2 l3 H) l2 l3 H160
    else
    B_M_confirms_74 N p0 kq2 (fun l1 l2 l3 H => B_M_confirms_35 N p0 kq2 n l1 l2 l3 H) l2 l3 H160
termination_by structural n => n
set_option maxRecDepth 20000 in
set_option maxHeartbeats 2000000 in
theorem mB_M_confirms_35 {N : Nat} {p0 : Nat} {kq2 : Int32 → Hp → Option (Unit × Hp)} (hm2 : ∀ (l1 : Int32) (H : Hp) (r : Unit × Hp), kq2 l1 H = some r → Sa H r.2) : ∀ (n : Nat) (l1 : Int32) (l2 : Int32) (l3 : Int32) (H : Hp) (r : Unit × Hp), B_M_confirms_35 N p0 kq2 n l1 l2 l3 H = some r → Sa H r.2 := by
  intro n
  induction n with
  | zero => intro l1 l2 l3 H r hF; rw [B_M_confirms_35] at hF; cases hF
  | succ n ih =>
    intro l1 l2 l3 H r hF
    rw [B_M_confirms_35] at hF
    have hm := Sa.rf H
    rcases ite_s hF with ⟨q_20, hG⟩ | ⟨q_20, hG⟩
    · clear hF
      rcases ite_s hG with ⟨q_21, hF⟩ | ⟨q_21, hF⟩
      · clear hG
        have hr := Option.some.inj hF; subst hr
        exact hm
      · clear hG
        obtain ⟨q168, hG⟩ := ck_s hF; clear hF
        obtain ⟨a169, e170, hF⟩ := rf_s hG; clear hG
        obtain ⟨v172, H173, z171, hG⟩ := bC_s hF; clear hF
        replace hm : Sa H H173 := hm.tr (m_M_runs z171)
        exact hm.tr (mB_M_confirms_101 hm2 N l1 l2 0 H173 r hG)
    · clear hF
      rcases ite_s hG with ⟨q_23, hF⟩ | ⟨q_23, hF⟩
      · clear hG
        exact hm.tr (mB_M_confirms_78 hm2 ih hF)
      · clear hG
        obtain ⟨q175, hG⟩ := ck_s hF; clear hF
        obtain ⟨a176, e177, hF⟩ := rf_s hG; clear hG
        obtain ⟨n178, q179, hG⟩ := ar_s hF; clear hF
        obtain ⟨q180, hF⟩ := ck_s hG; clear hG
        obtain ⟨x181, -, hG⟩ := bnd_g hF; clear hF
        rcases ite_s hG with ⟨q_24, hF⟩ | ⟨q_24, hF⟩
        · clear hG
          exact hm.tr (mB_M_confirms_74 hm2 ih hF)
        · clear hG
          obtain ⟨a183, e184, hG⟩ := rf_s hF; clear hF
          obtain ⟨v186, H187, z185, hF⟩ := bC_s hG; clear hG
          replace hm : Sa H H187 := hm.tr (m_M_slot z185)
          obtain ⟨n188, q189, hG⟩ := ar_s hF; clear hF
          obtain ⟨q190, hF⟩ := ck_s hG; clear hG
          obtain ⟨x191, -, hG⟩ := bnd_g hF; clear hF
          rcases ite_s hG with ⟨q_26, hF⟩ | ⟨q_26, hF⟩
          · clear hG
            exact hm.tr (mB_M_confirms_78 hm2 ih hF)
          · clear hG
            exact hm.tr (mB_M_confirms_74 hm2 ih hF)
set_option maxRecDepth 20000 in
set_option maxHeartbeats 2000000 in
theorem kB_M_confirms_35 {N : Nat} {p0 : Nat} {kq2 : Int32 → Hp → Option (Unit × Hp)} (hm2 : ∀ (l1 : Int32) (H : Hp) (r : Unit × Hp), kq2 l1 H = some r → Sa H r.2) (hk2 : ∀ (l1 : Int32) (H : Hp) (r : Unit × Hp), kq2 l1 H = some r → ab_V y_M_confirms { frames := 330, cells := 0, slots := 0, locals := 8128 } (po (.returned none) r.2) 0 0 0 0 2 [some (.ref p0), some (.int l1), none, none] [] (hpw H)) : ∀ (n : Nat) (l1 : Int32) (l2 : Int32) (l3 : Int32) (H : Hp) (r : Unit × Hp), B_M_confirms_35 N p0 kq2 n l1 l2 l3 H = some r → ab_V y_M_confirms { frames := 330, cells := 0, slots := 0, locals := 8128 } (po (.returned none) r.2) 0 0 0 0 35 [some (.ref p0), some (.int l1), some (.int l2), some (.int l3)] [] (hpw H) := by
  intro n
  induction n with
  | zero => intro l1 l2 l3 H r hF; rw [B_M_confirms_35] at hF; cases hF
  | succ n ih =>
    intro l1 l2 l3 H r hF
    rw [B_M_confirms_35] at hF
    refine ab_iload_n d_M_confirms_35 rfl rfl ?_
    refine ab_iconst (v := 4) d_M_confirms_36 (by decide) ?_
    refine ab_icmp_ge (tgt := 86) d_M_confirms_37 (by decide) (fun q17 => ?_) (fun q17 => ?_)
    · rw [if_pos q17] at hF
      refine ab_iload_n d_M_confirms_86 rfl rfl ?_
      refine ab_if_ne (tgt := 91) d_M_confirms_87 (by decide) (fun q18 => ?_) (fun q18 => ?_)
      · rw [if_neg q18] at hF
        refine ab_aload_n d_M_confirms_91 rfl rfl rfl ?_
        refine ab_aload_n d_M_confirms_92 rfl rfl rfl ?_
        obtain ⟨q19, hG⟩ := ck_s hF; clear hF
        obtain ⟨a20, e21, hF⟩ := rf_s hG; clear hG
        refine hp_getR (f := 8) d_M_confirms_93 q19 (by decide) rfl (by decide) (k10 1 rfl rfl) rfl e21 ?_
        obtain ⟨v23, H24, z22, hG⟩ := bC_s hF; clear hF
        refine hp_callV_v (H1 := H24) (As := [.ref a20]) (rest := []) d_M_confirms_96 (k_M_runs z22) (ab_mkC s_M_runs (Nat.le_of_ble_eq_true rfl) (Nat.le_of_ble_eq_true rfl) (Nat.le_refl 0) (Nat.le_refl 0)) (k11 202 rfl rfl) i_M_runs v_M_runs q19 (by decide) rfl rfl (Nat.le_of_ble_eq_true rfl) ?_
        have s_1 : Sa H H24 := (m_M_runs z22)
        refine ab_iconst (v := 0) d_M_confirms_99 (by decide) ?_
        refine ab_istore_n (lv' := [some (.ref p0), some (.int l1), some (.int l2), some (.int 0)]) d_M_confirms_100 rfl (by decide) rfl ?_
        exact kB_M_confirms_101 hm2 hk2 N l1 l2 0 H24 r hG
      · rw [if_pos q18] at hF
        exact ab_vret d_M_confirms_90 rfl (Nat.le_refl _) (Nat.le_refl _) (by have hr := Option.some.inj hF; subst hr; exact ⟨rfl, rfl⟩)
    · rw [if_neg q17] at hF
      refine ab_iload_n d_M_confirms_40 rfl rfl ?_
      refine ab_if_eq (tgt := 78) d_M_confirms_41 (by decide) (fun q147 => ?_) (fun q147 => ?_)
      · rw [if_pos q147] at hF
        refine ab_le (lv' := [some (.ref p0), none, some (.int l2), some (.int l3)]) ⟨rfl, ⟨rfl, ⟨rfl, trivial⟩⟩⟩ ?_
        exact kB_M_confirms_78 hm2 (mB_M_confirms_35 hm2 n) hk2 ih hF
      · rw [if_neg q147] at hF
        refine ab_aload_n d_M_confirms_44 rfl rfl rfl ?_
        obtain ⟨q148, hG⟩ := ck_s hF; clear hF
        obtain ⟨a149, e150, hF⟩ := rf_s hG; clear hG
        refine hp_getR (f := 16) d_M_confirms_45 q148 (by decide) rfl (by decide) (k10 9 rfl rfl) rfl e150 ?_
        refine ab_iload_n d_M_confirms_48 rfl rfl ?_
        refine ab_bipush (v := 63) d_M_confirms_49 (by decide) ?_
        refine ab_iand d_M_confirms_51 ?_
        obtain ⟨n151, q152, hG⟩ := ar_s hF; clear hF
        obtain ⟨q153, hF⟩ := ck_s hG; clear hG
        refine hp_iald d_M_confirms_52 tI q152 q153 ?_
        refine ab_topi (fun x154 ex154 => ?_)
        replace hF := bnd_s ex154 hF
        refine ab_iload_n d_M_confirms_53 rfl rfl ?_
        refine ab_ishr d_M_confirms_54 ?_
        refine ab_iconst (v := 1) d_M_confirms_55 (by decide) ?_
        refine ab_iand d_M_confirms_56 ?_
        refine ab_if_eq (tgt := 74) d_M_confirms_57 (by decide) (fun q155 => ?_) (fun q155 => ?_)
        · rw [if_pos q155] at hF
          refine ab_le (lv' := [some (.ref p0), none, some (.int l2), some (.int l3)]) ⟨rfl, ⟨rfl, ⟨rfl, trivial⟩⟩⟩ ?_
          exact kB_M_confirms_74 hm2 (mB_M_confirms_35 hm2 n) hk2 ih hF
        · rw [if_neg q155] at hF
          refine ab_aload_n d_M_confirms_60 rfl rfl rfl ?_
          obtain ⟨a156, e157, hG⟩ := rf_s hF; clear hF
          refine hp_getR (f := 15) d_M_confirms_61 q148 (by decide) rfl (by decide) (k10 8 rfl rfl) rfl e157 ?_
          refine ab_aload_n d_M_confirms_64 rfl rfl rfl ?_
          refine ab_iload_n d_M_confirms_65 rfl rfl ?_
          refine ab_iload_n d_M_confirms_66 rfl rfl ?_
          obtain ⟨v159, H160, z158, hF⟩ := bC_s hG; clear hG
          refine hp_callV_a (v := .int v159) (H1 := H160) (As := [.int l3, .int l2]) (rest := [.ref a156]) d_M_confirms_67 (k_M_slot z158) (ab_mkC s_M_slot (Nat.le_of_ble_eq_true rfl) (Nat.le_of_ble_eq_true rfl) (Nat.le_refl 0) (Nat.le_refl 0)) (k11 210 rfl rfl) i_M_slot v_M_slot q148 (by decide) rfl rfl (Nat.le_of_ble_eq_true rfl) ?_
          have s_19 : Sa H H160 := (m_M_slot z158)
          obtain ⟨n161, q162, hG⟩ := ar_s hF; clear hF
          rw [(s_19).1] at q162
          obtain ⟨q163, hF⟩ := ck_s hG; clear hG
          refine hp_zald d_M_confirms_70 tZ (by rw [(s_19).1]; exact q162) q163 ?_
          refine ab_topi (fun x164 ex164 => ?_)
          replace hF := bnd_s ex164 hF
          refine ab_if_eq (tgt := 78) d_M_confirms_71 (by decide) (fun q165 => ?_) (fun q165 => ?_)
          · rw [if_pos q165] at hF
            refine ab_le (lv' := [some (.ref p0), none, some (.int l2), some (.int l3)]) ⟨rfl, ⟨rfl, ⟨rfl, trivial⟩⟩⟩ ?_
            exact kB_M_confirms_78 hm2 (mB_M_confirms_35 hm2 n) hk2 ih hF
          · rw [if_neg q165] at hF
            refine ab_le (lv' := [some (.ref p0), none, some (.int l2), some (.int l3)]) ⟨rfl, ⟨rfl, ⟨rfl, trivial⟩⟩⟩ ?_
            exact kB_M_confirms_74 hm2 (mB_M_confirms_35 hm2 n) hk2 ih hF
def B_M_confirms_2 (N : Nat) (p0 : Nat) : Nat → Int32 → Hp → Option (Unit × Hp)
  | 0, _, _ => none
  | n + 1, l1, H =>
    if l1 = (0 : Int32) then
    some ((), H)
    else
    ck (H.sh[p0]? = some (12, 0)) <|
    rf (H.P p0 8) fun a3 =>
    ck (H.sh[a3]? = some (13, 0)) <|
    bnd ((H.D a3 0)) fun x6 =>
    rf (H.P p0 9) fun a7 =>
    ck (H.sh[a7]? = some (13, 0)) <|
    bnd ((H.D a7 0)) fun x10 =>
    if x10 ≤ x6 then
    some ((), H)
    else
    rf (H.P p0 8) fun a12 =>
    ck (H.sh[a12]? = some (13, 0)) <|
    bnd ((H.D a12 0)) fun x15 =>
    bnd ((x15 + (1 : Int32))) fun x16 =>
    B_M_confirms_35 N p0 (fun l1 H => B_M_confirms_2 N p0 n l1 H) N l1 x16 0 H
termination_by structural n => n
set_option maxRecDepth 20000 in
set_option maxHeartbeats 2000000 in
theorem mB_M_confirms_2 {N : Nat} {p0 : Nat} : ∀ (n : Nat) (l1 : Int32) (H : Hp) (r : Unit × Hp), B_M_confirms_2 N p0 n l1 H = some r → Sa H r.2 := by
  intro n
  induction n with
  | zero => intro l1 H r hF; rw [B_M_confirms_2] at hF; cases hF
  | succ n ih =>
    intro l1 H r hF
    rw [B_M_confirms_2] at hF
    have hm := Sa.rf H
    rcases ite_s hF with ⟨q_27, hG⟩ | ⟨q_27, hG⟩
    · clear hF
      have hr := Option.some.inj hG; subst hr
      exact hm
    · clear hF
      obtain ⟨q194, hF⟩ := ck_s hG; clear hG
      obtain ⟨a195, e196, hG⟩ := rf_s hF; clear hF
      obtain ⟨q197, hF⟩ := ck_s hG; clear hG
      obtain ⟨x198, -, hG⟩ := bnd_g hF; clear hF
      obtain ⟨a199, e200, hF⟩ := rf_s hG; clear hG
      obtain ⟨q201, hG⟩ := ck_s hF; clear hF
      obtain ⟨x202, -, hF⟩ := bnd_g hG; clear hG
      rcases ite_s hF with ⟨q_28, hG⟩ | ⟨q_28, hG⟩
      · clear hF
        have hr := Option.some.inj hG; subst hr
        exact hm
      · clear hF
        obtain ⟨a204, e205, hF⟩ := rf_s hG; clear hG
        obtain ⟨q206, hG⟩ := ck_s hF; clear hF
        obtain ⟨x207, -, hF⟩ := bnd_g hG; clear hG
        obtain ⟨x208, -, hG⟩ := bnd_g hF; clear hF
        exact hm.tr (mB_M_confirms_35 ih N l1 x208 0 H r hG)
set_option maxRecDepth 20000 in
set_option maxHeartbeats 2000000 in
theorem kB_M_confirms_2 {N : Nat} {p0 : Nat} : ∀ (n : Nat) (l1 : Int32) (H : Hp) (r : Unit × Hp), B_M_confirms_2 N p0 n l1 H = some r → ab_V y_M_confirms { frames := 330, cells := 0, slots := 0, locals := 8128 } (po (.returned none) r.2) 0 0 0 0 2 [some (.ref p0), some (.int l1), none, none] [] (hpw H) := by
  intro n
  induction n with
  | zero => intro l1 H r hF; rw [B_M_confirms_2] at hF; cases hF
  | succ n ih =>
    intro l1 H r hF
    rw [B_M_confirms_2] at hF
    refine ab_iload_n d_M_confirms_2 rfl rfl ?_
    refine ab_if_eq (tgt := 209) d_M_confirms_3 (by decide) (fun q1 => ?_) (fun q1 => ?_)
    · rw [if_pos q1] at hF
      exact ab_vret d_M_confirms_209 rfl (Nat.le_refl _) (Nat.le_refl _) (by have hr := Option.some.inj hF; subst hr; exact ⟨rfl, rfl⟩)
    · rw [if_neg q1] at hF
      refine ab_aload_n d_M_confirms_6 rfl rfl rfl ?_
      obtain ⟨q2, hG⟩ := ck_s hF; clear hF
      obtain ⟨a3, e4, hF⟩ := rf_s hG; clear hG
      refine hp_getR (f := 8) d_M_confirms_7 q2 (by decide) rfl (by decide) (k10 1 rfl rfl) rfl e4 ?_
      obtain ⟨q5, hG⟩ := ck_s hF; clear hF
      refine hp_getIN (f := 0) d_M_confirms_10 q5 (by decide) rfl (by decide) (k9 89 rfl rfl) rfl ?_
      refine ab_topi (fun x6 ex6 => ?_)
      replace hG := bnd_s ex6 hG
      refine ab_aload_n d_M_confirms_13 rfl rfl rfl ?_
      obtain ⟨a7, e8, hF⟩ := rf_s hG; clear hG
      refine hp_getR (f := 9) d_M_confirms_14 q2 (by decide) rfl (by decide) (k10 2 rfl rfl) rfl e8 ?_
      obtain ⟨q9, hG⟩ := ck_s hF; clear hF
      refine hp_getIN (f := 0) d_M_confirms_17 q9 (by decide) rfl (by decide) (k9 89 rfl rfl) rfl ?_
      refine ab_topi (fun x10 ex10 => ?_)
      replace hG := bnd_s ex10 hG
      refine ab_icmp_ge (tgt := 209) d_M_confirms_20 (by decide) (fun q11 => ?_) (fun q11 => ?_)
      · rw [if_pos q11] at hG
        exact ab_vret d_M_confirms_209 rfl (Nat.le_refl _) (Nat.le_refl _) (by have hr := Option.some.inj hG; subst hr; exact ⟨rfl, rfl⟩)
      · rw [if_neg q11] at hG
        refine ab_aload_n d_M_confirms_23 rfl rfl rfl ?_
        obtain ⟨a12, e13, hF⟩ := rf_s hG; clear hG
        refine hp_getR (f := 8) d_M_confirms_24 q2 (by decide) rfl (by decide) (k10 1 rfl rfl) rfl e13 ?_
        obtain ⟨q14, hG⟩ := ck_s hF; clear hF
        refine hp_getIN (f := 0) d_M_confirms_27 q14 (by decide) rfl (by decide) (k9 89 rfl rfl) rfl ?_
        refine ab_topi (fun x15 ex15 => ?_)
        replace hG := bnd_s ex15 hG
        refine ab_iconst (v := 1) d_M_confirms_30 (by decide) ?_
        refine ab_iadd d_M_confirms_31 ?_
        refine ab_topi (fun x16 ex16 => ?_)
        replace hG := bnd_s ex16 hG
        refine ab_istore_n (lv' := [some (.ref p0), some (.int l1), some (.int x16), none]) d_M_confirms_32 rfl (by decide) rfl ?_
        refine ab_iconst (v := 0) d_M_confirms_33 (by decide) ?_
        refine ab_istore_n (lv' := [some (.ref p0), some (.int l1), some (.int x16), some (.int 0)]) d_M_confirms_34 rfl (by decide) rfl ?_
        exact kB_M_confirms_35 (mB_M_confirms_2 n) ih N l1 x16 0 H r hG
def F_M_confirms (N : Nat) (p0 : Nat) (H : Hp) : Option (Unit × Hp) :=
    B_M_confirms_2 N p0 N 1 H
set_option maxRecDepth 20000 in
set_option maxHeartbeats 2000000 in
theorem m_M_confirms {N : Nat} {p0 : Nat} {H : Hp} {r : Unit × Hp} (hF : F_M_confirms N p0 H = some r) : Sa H r.2 := by
  unfold F_M_confirms at hF
  have hm := Sa.rf H
  exact hm.tr (mB_M_confirms_2 N 1 H r hF)
set_option maxRecDepth 20000 in
set_option maxHeartbeats 2000000 in
theorem k_M_confirms {N : Nat} {p0 : Nat} {H : Hp} {r : Unit × Hp} (hF : F_M_confirms N p0 H = some r) : ab_M y_M_confirms { frames := 330, cells := 0, slots := 0, locals := 8128 } [.ref p0] (hpw H) (po (.returned none) r.2) := by
  unfold F_M_confirms at hF
  refine ab_of2 (lv := [some (.ref p0), none, none, none]) 3 rfl rfl (Nat.le_of_ble_eq_true rfl) ?_
  refine ab_iconst (v := 1) d_M_confirms_0 (by decide) ?_
  refine ab_istore_n (lv' := [some (.ref p0), some (.int 1), none, none]) d_M_confirms_1 rfl (by decide) rfl ?_
  exact kB_M_confirms_2 N 1 H r hF
