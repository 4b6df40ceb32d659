def y_Store_readEvents : ab_Y := (⟨"WorldEngine$Store", "readEvents", "(LWorldEngine$Shapes;LWorldEngine$World;)V"⟩, prog_10_method_15_code, 9, none, [])
theorem d_Store_readEvents_0 : decode y_Store_readEvents.2.1 0 = .ok (.aload_n 0, 1) := by decide +kernel
theorem d_Store_readEvents_1 : decode y_Store_readEvents.2.1 1 = .ok (.iconst 2, 1) := by decide +kernel
theorem d_Store_readEvents_2 : decode y_Store_readEvents.2.1 2 = .ok (.iconst 0, 1) := by decide +kernel
theorem d_Store_readEvents_3 : decode y_Store_readEvents.2.1 3 = .ok (.sipush 256, 3) := by decide +kernel
theorem d_Store_readEvents_6 : decode y_Store_readEvents.2.1 6 = .ok (.invokevirtual 122, 3) := by decide +kernel
theorem d_Store_readEvents_9 : decode y_Store_readEvents.2.1 9 = .ok (.istore_n 3, 1) := by decide +kernel
theorem d_Store_readEvents_10 : decode y_Store_readEvents.2.1 10 = .ok (.iconst 0, 1) := by decide +kernel
theorem d_Store_readEvents_11 : decode y_Store_readEvents.2.1 11 = .ok (.istore 4, 2) := by decide +kernel
theorem d_Store_readEvents_13 : decode y_Store_readEvents.2.1 13 = .ok (.iload 4, 2) := by decide +kernel
theorem d_Store_readEvents_15 : decode y_Store_readEvents.2.1 15 = .ok (.iload_n 3, 1) := by decide +kernel
theorem d_Store_readEvents_16 : decode y_Store_readEvents.2.1 16 = .ok (.if_icmp .ge 141, 3) := by decide +kernel
theorem d_Store_readEvents_19 : decode y_Store_readEvents.2.1 19 = .ok (.iload 4, 2) := by decide +kernel
theorem d_Store_readEvents_21 : decode y_Store_readEvents.2.1 21 = .ok (.bipush 7, 2) := by decide +kernel
theorem d_Store_readEvents_23 : decode y_Store_readEvents.2.1 23 = .ok (.imul, 1) := by decide +kernel
theorem d_Store_readEvents_24 : decode y_Store_readEvents.2.1 24 = .ok (.istore 5, 2) := by decide +kernel
theorem d_Store_readEvents_26 : decode y_Store_readEvents.2.1 26 = .ok (.aload_n 0, 1) := by decide +kernel
theorem d_Store_readEvents_27 : decode y_Store_readEvents.2.1 27 = .ok (.iconst 1, 1) := by decide +kernel
theorem d_Store_readEvents_28 : decode y_Store_readEvents.2.1 28 = .ok (.iconst 0, 1) := by decide +kernel
theorem d_Store_readEvents_29 : decode y_Store_readEvents.2.1 29 = .ok (.aload_n 1, 1) := by decide +kernel
theorem d_Store_readEvents_30 : decode y_Store_readEvents.2.1 30 = .ok (.getfield 76, 3) := by decide +kernel
theorem d_Store_readEvents_33 : decode y_Store_readEvents.2.1 33 = .ok (.iconst 1, 1) := by decide +kernel
theorem d_Store_readEvents_34 : decode y_Store_readEvents.2.1 34 = .ok (.isub, 1) := by decide +kernel
theorem d_Store_readEvents_35 : decode y_Store_readEvents.2.1 35 = .ok (.invokevirtual 122, 3) := by decide +kernel
theorem d_Store_readEvents_38 : decode y_Store_readEvents.2.1 38 = .ok (.istore 6, 2) := by decide +kernel
theorem d_Store_readEvents_40 : decode y_Store_readEvents.2.1 40 = .ok (.aload_n 2, 1) := by decide +kernel
theorem d_Store_readEvents_41 : decode y_Store_readEvents.2.1 41 = .ok (.getfield 108, 3) := by decide +kernel
theorem d_Store_readEvents_44 : decode y_Store_readEvents.2.1 44 = .ok (.iload 5, 2) := by decide +kernel
theorem d_Store_readEvents_46 : decode y_Store_readEvents.2.1 46 = .ok (.iload 6, 2) := by decide +kernel
theorem d_Store_readEvents_48 : decode y_Store_readEvents.2.1 48 = .ok (.iastore, 1) := by decide +kernel
theorem d_Store_readEvents_49 : decode y_Store_readEvents.2.1 49 = .ok (.aload_n 2, 1) := by decide +kernel
theorem d_Store_readEvents_50 : decode y_Store_readEvents.2.1 50 = .ok (.getfield 108, 3) := by decide +kernel
theorem d_Store_readEvents_53 : decode y_Store_readEvents.2.1 53 = .ok (.iload 5, 2) := by decide +kernel
theorem d_Store_readEvents_55 : decode y_Store_readEvents.2.1 55 = .ok (.iconst 1, 1) := by decide +kernel
theorem d_Store_readEvents_56 : decode y_Store_readEvents.2.1 56 = .ok (.iadd, 1) := by decide +kernel
theorem d_Store_readEvents_57 : decode y_Store_readEvents.2.1 57 = .ok (.aload_n 0, 1) := by decide +kernel
theorem d_Store_readEvents_58 : decode y_Store_readEvents.2.1 58 = .ok (.iconst 4, 1) := by decide +kernel
theorem d_Store_readEvents_59 : decode y_Store_readEvents.2.1 59 = .ok (.aload_n 2, 1) := by decide +kernel
theorem d_Store_readEvents_60 : decode y_Store_readEvents.2.1 60 = .ok (.getfield 44, 3) := by decide +kernel
theorem d_Store_readEvents_63 : decode y_Store_readEvents.2.1 63 = .ok (.iconst 1, 1) := by decide +kernel
theorem d_Store_readEvents_64 : decode y_Store_readEvents.2.1 64 = .ok (.iadd, 1) := by decide +kernel
theorem d_Store_readEvents_65 : decode y_Store_readEvents.2.1 65 = .ok (.aload_n 2, 1) := by decide +kernel
theorem d_Store_readEvents_66 : decode y_Store_readEvents.2.1 66 = .ok (.getfield 44, 3) := by decide +kernel
theorem d_Store_readEvents_69 : decode y_Store_readEvents.2.1 69 = .ok (.bipush 16, 2) := by decide +kernel
theorem d_Store_readEvents_71 : decode y_Store_readEvents.2.1 71 = .ok (.iadd, 1) := by decide +kernel
theorem d_Store_readEvents_72 : decode y_Store_readEvents.2.1 72 = .ok (.invokevirtual 122, 3) := by decide +kernel
theorem d_Store_readEvents_75 : decode y_Store_readEvents.2.1 75 = .ok (.iastore, 1) := by decide +kernel
theorem d_Store_readEvents_76 : decode y_Store_readEvents.2.1 76 = .ok (.aload_n 2, 1) := by decide +kernel
theorem d_Store_readEvents_77 : decode y_Store_readEvents.2.1 77 = .ok (.getfield 108, 3) := by decide +kernel
theorem d_Store_readEvents_80 : decode y_Store_readEvents.2.1 80 = .ok (.iload 5, 2) := by decide +kernel
theorem d_Store_readEvents_82 : decode y_Store_readEvents.2.1 82 = .ok (.iconst 2, 1) := by decide +kernel
theorem d_Store_readEvents_83 : decode y_Store_readEvents.2.1 83 = .ok (.iadd, 1) := by decide +kernel
theorem d_Store_readEvents_84 : decode y_Store_readEvents.2.1 84 = .ok (.aload_n 0, 1) := by decide +kernel
theorem d_Store_readEvents_85 : decode y_Store_readEvents.2.1 85 = .ok (.iconst 4, 1) := by decide +kernel
theorem d_Store_readEvents_86 : decode y_Store_readEvents.2.1 86 = .ok (.iconst (-1), 1) := by decide +kernel
theorem d_Store_readEvents_87 : decode y_Store_readEvents.2.1 87 = .ok (.ldc 131, 2) := by decide +kernel
theorem d_Store_readEvents_89 : decode y_Store_readEvents.2.1 89 = .ok (.invokevirtual 122, 3) := by decide +kernel
theorem d_Store_readEvents_92 : decode y_Store_readEvents.2.1 92 = .ok (.iastore, 1) := by decide +kernel
theorem d_Store_readEvents_93 : decode y_Store_readEvents.2.1 93 = .ok (.aload_n 1, 1) := by decide +kernel
theorem d_Store_readEvents_94 : decode y_Store_readEvents.2.1 94 = .ok (.iload 6, 2) := by decide +kernel
theorem d_Store_readEvents_96 : decode y_Store_readEvents.2.1 96 = .ok (.invokevirtual 81, 3) := by decide +kernel
theorem d_Store_readEvents_99 : decode y_Store_readEvents.2.1 99 = .ok (.istore 7, 2) := by decide +kernel
theorem d_Store_readEvents_101 : decode y_Store_readEvents.2.1 101 = .ok (.iconst 0, 1) := by decide +kernel
theorem d_Store_readEvents_102 : decode y_Store_readEvents.2.1 102 = .ok (.istore 8, 2) := by decide +kernel
theorem d_Store_readEvents_104 : decode y_Store_readEvents.2.1 104 = .ok (.iload 8, 2) := by decide +kernel
theorem d_Store_readEvents_106 : decode y_Store_readEvents.2.1 106 = .ok (.iload 7, 2) := by decide +kernel
theorem d_Store_readEvents_108 : decode y_Store_readEvents.2.1 108 = .ok (.if_icmp .ge 43, 3) := by decide +kernel
theorem d_Store_readEvents_111 : decode y_Store_readEvents.2.1 111 = .ok (.aload_n 2, 1) := by decide +kernel
theorem d_Store_readEvents_112 : decode y_Store_readEvents.2.1 112 = .ok (.getfield 108, 3) := by decide +kernel
theorem d_Store_readEvents_115 : decode y_Store_readEvents.2.1 115 = .ok (.iload 5, 2) := by decide +kernel
theorem d_Store_readEvents_117 : decode y_Store_readEvents.2.1 117 = .ok (.iconst 3, 1) := by decide +kernel
theorem d_Store_readEvents_118 : decode y_Store_readEvents.2.1 118 = .ok (.iadd, 1) := by decide +kernel
theorem d_Store_readEvents_119 : decode y_Store_readEvents.2.1 119 = .ok (.iload 8, 2) := by decide +kernel
theorem d_Store_readEvents_121 : decode y_Store_readEvents.2.1 121 = .ok (.iadd, 1) := by decide +kernel
theorem d_Store_readEvents_122 : decode y_Store_readEvents.2.1 122 = .ok (.aload_n 0, 1) := by decide +kernel
theorem d_Store_readEvents_123 : decode y_Store_readEvents.2.1 123 = .ok (.aload_n 1, 1) := by decide +kernel
theorem d_Store_readEvents_124 : decode y_Store_readEvents.2.1 124 = .ok (.getfield 88, 3) := by decide +kernel
theorem d_Store_readEvents_127 : decode y_Store_readEvents.2.1 127 = .ok (.aload_n 1, 1) := by decide +kernel
theorem d_Store_readEvents_128 : decode y_Store_readEvents.2.1 128 = .ok (.getfield 85, 3) := by decide +kernel
theorem d_Store_readEvents_131 : decode y_Store_readEvents.2.1 131 = .ok (.iload 6, 2) := by decide +kernel
theorem d_Store_readEvents_133 : decode y_Store_readEvents.2.1 133 = .ok (.iaload, 1) := by decide +kernel
theorem d_Store_readEvents_134 : decode y_Store_readEvents.2.1 134 = .ok (.iload 8, 2) := by decide +kernel
theorem d_Store_readEvents_136 : decode y_Store_readEvents.2.1 136 = .ok (.iadd, 1) := by decide +kernel
theorem d_Store_readEvents_137 : decode y_Store_readEvents.2.1 137 = .ok (.aaload, 1) := by decide +kernel
theorem d_Store_readEvents_138 : decode y_Store_readEvents.2.1 138 = .ok (.getfield 92, 3) := by decide +kernel
theorem d_Store_readEvents_141 : decode y_Store_readEvents.2.1 141 = .ok (.invokevirtual 162, 3) := by decide +kernel
theorem d_Store_readEvents_144 : decode y_Store_readEvents.2.1 144 = .ok (.iastore, 1) := by decide +kernel
theorem d_Store_readEvents_145 : decode y_Store_readEvents.2.1 145 = .ok (.iinc 8 1, 3) := by decide +kernel
theorem d_Store_readEvents_148 : decode y_Store_readEvents.2.1 148 = .ok (.goto (-44), 3) := by decide +kernel
theorem d_Store_readEvents_151 : decode y_Store_readEvents.2.1 151 = .ok (.iinc 4 1, 3) := by decide +kernel
theorem d_Store_readEvents_154 : decode y_Store_readEvents.2.1 154 = .ok (.goto (-141), 3) := by decide +kernel
theorem d_Store_readEvents_157 : decode y_Store_readEvents.2.1 157 = .ok (.aload_n 2, 1) := by decide +kernel
theorem d_Store_readEvents_158 : decode y_Store_readEvents.2.1 158 = .ok (.iload_n 3, 1) := by decide +kernel
theorem d_Store_readEvents_159 : decode y_Store_readEvents.2.1 159 = .ok (.putfield 105, 3) := by decide +kernel
theorem d_Store_readEvents_162 : decode y_Store_readEvents.2.1 162 = .ok (.return_, 1) := by decide +kernel
theorem s_Store_readEvents : ab_Stat y_Store_readEvents 2 := ⟨(k8 85 rfl rfl), (k1 14 rfl rfl), ⟨by decide, by decide⟩, by decide +kernel⟩
theorem i_Store_readEvents : Cond.instanceMethod y_Store_readEvents.1 ∈ ab_T := (k8 84 rfl rfl)
theorem v_Store_readEvents : Cond.selects "WorldEngine$Store" y_Store_readEvents.1 y_Store_readEvents.1 ∈ ab_T := ab_s (List.mem_of_getElem? (i := 103) rfl) rfl
def B_Store_readEvents_104 (N : Nat) (p0 : Nat) (p1 : Nat) (p2 : Nat) (kq13 : Int32 → Int32 → Hp → Option ((Ot Unit) × Hp)) : Nat → Int32 → Int32 → Int32 → Int32 → Int32 → Int32 → Hp → Option ((Ot Unit) × Hp)
  | 0, _, _, _, _, _, _, _ => none
  | n + 1, l3, l4, l5, l6, l7, l8, H =>
    if l7 ≤ l8 then
    kq13 l3 (l4 + 1) H
    else
    ck (H.sh[p2]? = some (7, 0)) <|
    rf (H.P p2 12) fun a51 =>
    ck (H.sh[p1]? = some (3, 0)) <|
    rf (H.P p1 1) fun a54 =>
    rf (H.P p1 2) fun a56 =>
    ar H 100 a56 fun n58 =>
    ck (inb l6 n58) <|
    bnd ((H.D a56 (l6).toNatClampNeg)) fun x61 =>
    ar H 106 a54 fun n62 =>
    ck (inb (x61 + l8) n62) <|
    rf (H.P a54 ((x61 + l8)).toNatClampNeg) fun a65 =>
    ck (H.sh[a65]? = some (2, 0)) <|
    bnd ((H.D a65 3)) fun x68 =>
    ck (H.sh[p0]? = some (11, 0)) <|
    bT (F_Store_readMember N p0 x68 H) fun v71 H72 =>
    ar H72 100 a51 fun n74 =>
    ck (inb ((l5 + (3 : Int32)) + l8) n74) <|
    bnd (H72.sD a51 (((l5 + (3 : Int32)) + l8)).toNatClampNeg v71) fun H77 =>
    B_Store_readEvents_104 N p0 p1 p2 kq13 n l3 l4 l5 l6 l7 (l8 + 1) H77
termination_by structural n => n
set_option maxRecDepth 20000 in
set_option maxHeartbeats 2000000 in
theorem mB_Store_readEvents_104 {N : Nat} {p0 : Nat} {p1 : Nat} {p2 : Nat} {kq13 : Int32 → Int32 → Hp → Option ((Ot Unit) × Hp)} (hm13 : ∀ (l3 : Int32) (l4 : Int32) (H : Hp) (r : (Ot Unit) × Hp), kq13 l3 l4 H = some r → Mo H r.2) : ∀ (n : Nat) (l3 : Int32) (l4 : Int32) (l5 : Int32) (l6 : Int32) (l7 : Int32) (l8 : Int32) (H : Hp) (r : (Ot Unit) × Hp), B_Store_readEvents_104 N p0 p1 p2 kq13 n l3 l4 l5 l6 l7 l8 H = some r → Mo H r.2 := by
  intro n
  induction n with
  | zero => intro l3 l4 l5 l6 l7 l8 H r hF; rw [B_Store_readEvents_104] at hF; cases hF
  | succ n ih =>
    intro l3 l4 l5 l6 l7 l8 H r hF
    rw [B_Store_readEvents_104] at hF
    have hm := Mo.rf H
    rcases ite_s hF with ⟨q_33, hG⟩ | ⟨q_33, hG⟩
    · clear hF
      exact hm.tr (hm13 l3 (l4 + 1) H r hG)
    · clear hF
      obtain ⟨q79, hF⟩ := ck_s hG; clear hG
      obtain ⟨a80, e81, hG⟩ := rf_s hF; clear hF
      obtain ⟨q82, hF⟩ := ck_s hG; clear hG
      obtain ⟨a83, e84, hG⟩ := rf_s hF; clear hF
      obtain ⟨a85, e86, hF⟩ := rf_s hG; clear hG
      obtain ⟨n87, q88, hG⟩ := ar_s hF; clear hF
      obtain ⟨q89, hF⟩ := ck_s hG; clear hG
      obtain ⟨x90, -, hG⟩ := bnd_g hF; clear hF
      obtain ⟨n91, q92, hF⟩ := ar_s hG; clear hG
      obtain ⟨q93, hG⟩ := ck_s hF; clear hF
      obtain ⟨a94, e95, hF⟩ := rf_s hG; clear hG
      obtain ⟨q96, hG⟩ := ck_s hF; clear hF
      obtain ⟨x97, -, hF⟩ := bnd_g hG; clear hG
      obtain ⟨q98, hG⟩ := ck_s hF; clear hF
      refine bT_c hG (fun x102 H101 z99 er => ?_) (fun v100 H101 z99 hF => ?_)
      · subst er; exact hm.tr (m_Store_readMember z99)
      clear hG
      replace hm : Mo H H101 := hm.tr (m_Store_readMember z99)
      obtain ⟨n103, q104, hG⟩ := ar_s hF; clear hF
      obtain ⟨q105, hF⟩ := ck_s hG; clear hG
      obtain ⟨H106, eH106, hG⟩ := bnd_g hF; clear hF
      replace hm : Mo H H106 := by rw [eH106]; exact hm
      exact hm.tr (ih l3 l4 l5 l6 l7 (l8 + 1) H106 r hG)
set_option maxRecDepth 20000 in
set_option maxHeartbeats 2000000 in
theorem kB_Store_readEvents_104 {N : Nat} {p0 : Nat} {p1 : Nat} {p2 : Nat} {kq13 : Int32 → Int32 → Hp → Option ((Ot Unit) × Hp)} {c0 s0 C Sl : Nat} (hm13 : ∀ (l3 : Int32) (l4 : Int32) (H : Hp) (r : (Ot Unit) × Hp), kq13 l3 l4 H = some r → Mo H r.2) (hk13 : ∀ (l3 : Int32) (l4 : Int32) (H : Hp) (r : (Ot Unit) × Hp), kq13 l3 l4 H = some r → c0 ≤ H.sh.length → s0 ≤ H.sl → H.sh.length ≤ c0 + C → H.sl ≤ s0 + Sl → r.2.sh.length ≤ c0 + C → r.2.sl ≤ s0 + Sl → ab_V y_Store_readEvents { frames := 8, cells := C, slots := Sl, locals := 146 } (po (oV r.1) r.2) C Sl (H.sh.length - c0) (H.sl - s0) 13 [some (.ref p0), some (.ref p1), some (.ref p2), some (.int l3), some (.int l4), none, none, none, none] [] (hpw H)) : ∀ (n : Nat) (l3 : Int32) (l4 : Int32) (l5 : Int32) (l6 : Int32) (l7 : Int32) (l8 : Int32) (H : Hp) (r : (Ot Unit) × Hp), B_Store_readEvents_104 N p0 p1 p2 kq13 n l3 l4 l5 l6 l7 l8 H = some r → c0 ≤ H.sh.length → s0 ≤ H.sl → H.sh.length ≤ c0 + C → H.sl ≤ s0 + Sl → r.2.sh.length ≤ c0 + C → r.2.sl ≤ s0 + Sl → ab_V y_Store_readEvents { frames := 8, cells := C, slots := Sl, locals := 146 } (po (oV r.1) r.2) C Sl (H.sh.length - c0) (H.sl - s0) 104 [some (.ref p0), some (.ref p1), some (.ref p2), some (.int l3), some (.int l4), some (.int l5), some (.int l6), some (.int l7), some (.int l8)] [] (hpw H) := by
  intro n
  induction n with
  | zero => intro l3 l4 l5 l6 l7 l8 H r hF; rw [B_Store_readEvents_104] at hF; cases hF
  | succ n ih =>
    intro l3 l4 l5 l6 l7 l8 H r hF hc0 hs0 hcc hss hC hS
    rw [B_Store_readEvents_104] at hF
    refine ab_iload d_Store_readEvents_104 rfl ?_
    refine ab_iload d_Store_readEvents_106 rfl ?_
    refine ab_icmp_ge (tgt := 151) d_Store_readEvents_108 (by decide) (fun q49 => ?_) (fun q49 => ?_)
    · rw [if_pos q49] at hF
      refine ab_iinc (v := l4 + 1) (lv' := [some (.ref p0), some (.ref p1), some (.ref p2), some (.int l3), some (.int (l4 + 1)), some (.int l5), some (.int l6), some (.int l7), some (.int l8)]) d_Store_readEvents_151 rfl rfl (by decide) rfl ?_
      refine ab_goto (tgt := 13) d_Store_readEvents_154 (by decide) ?_
      refine ab_le (lv' := [some (.ref p0), some (.ref p1), some (.ref p2), some (.int l3), some (.int (l4 + 1)), none, none, none, none]) ⟨rfl, ⟨rfl, ⟨rfl, ⟨rfl, ⟨rfl, trivial⟩⟩⟩⟩⟩ ?_
      exact hk13 l3 (l4 + 1) H r hF hc0 hs0 hcc hss hC hS
    · rw [if_neg q49] at hF
      refine ab_aload_n d_Store_readEvents_111 rfl rfl rfl ?_
      obtain ⟨q50, hG⟩ := ck_s hF; clear hF
      obtain ⟨a51, e52, hF⟩ := rf_s hG; clear hG
      refine hp_getR (f := 12) d_Store_readEvents_112 q50 (by decide) rfl (by decide) (k2 0 rfl rfl) rfl e52 ?_
      refine ab_iload d_Store_readEvents_115 rfl ?_
      refine ab_iconst (v := 3) d_Store_readEvents_117 (by decide) ?_
      refine ab_iadd d_Store_readEvents_118 ?_
      refine ab_iload d_Store_readEvents_119 rfl ?_
      refine ab_iadd d_Store_readEvents_121 ?_
      refine ab_aload_n d_Store_readEvents_122 rfl rfl rfl ?_
      refine ab_aload_n d_Store_readEvents_123 rfl rfl rfl ?_
      obtain ⟨q53, hG⟩ := ck_s hF; clear hF
      obtain ⟨a54, e55, hF⟩ := rf_s hG; clear hG
      refine hp_getR (f := 1) d_Store_readEvents_124 q53 (by decide) rfl (by decide) (k3 26 rfl rfl) rfl e55 ?_
      refine ab_aload_n d_Store_readEvents_127 rfl rfl rfl ?_
      obtain ⟨a56, e57, hG⟩ := rf_s hF; clear hF
      refine hp_getR (f := 2) d_Store_readEvents_128 q53 (by decide) rfl (by decide) (k3 33 rfl rfl) rfl e57 ?_
      refine ab_iload d_Store_readEvents_131 rfl ?_
      obtain ⟨n58, q59, hF⟩ := ar_s hG; clear hG
      obtain ⟨q60, hG⟩ := ck_s hF; clear hF
      refine hp_iald d_Store_readEvents_133 tI q59 q60 ?_
      refine ab_topi (fun x61 ex61 => ?_)
      replace hG := bnd_s ex61 hG
      refine ab_iload d_Store_readEvents_134 rfl ?_
      refine ab_iadd d_Store_readEvents_136 ?_
      obtain ⟨n62, q63, hF⟩ := ar_s hG; clear hG
      obtain ⟨q64, hG⟩ := ck_s hF; clear hF
      obtain ⟨a65, e66, hF⟩ := rf_s hG; clear hG
      refine hp_aald (q := 106) d_Store_readEvents_137 (by decide) tN q63 q64 e66 ?_
      obtain ⟨q67, hG⟩ := ck_s hF; clear hF
      refine hp_getI (f := 3) d_Store_readEvents_138 q67 (by decide) rfl (by decide) (k2 239 rfl rfl) rfl ?_
      refine ab_topi (fun x68 ex68 => ?_)
      replace hG := bnd_s ex68 hG
      obtain ⟨q69, hF⟩ := ck_s hG; clear hG
      refine bT_c hF (fun x73 H72 z70 er => ?_) (fun v71 H72 z70 hG => ?_)
      · subst er
        have mz : Mo H H72 := (m_Store_readMember z70)
        have ml := mz.len
        have m2 := mz.2
        have hC9 : H72.sh.length ≤ c0 + C := hC
        have hS9 : H72.sl ≤ s0 + Sl := hS
        refine hp_callV_t (x := x73) (H1 := H72) (As := [.int x68]) (rest := [.int ((l5 + (3 : Int32)) + l8), .ref a51]) d_Store_readEvents_141 (k_Store_readMember z70 (C := H72.sh.length - H.sh.length) (Sl := H72.sl - H.sl) (by show H72.sh.length ≤ _; omega) (by show H72.sl ≤ _; omega)) (ab_mkC s_Store_readMember (Nat.le_of_ble_eq_true rfl) (Nat.le_of_ble_eq_true rfl) (show (H.sh.length - c0) + (H72.sh.length - H.sh.length) ≤ C from by omega) (show (H.sl - s0) + (H72.sl - H.sl) ≤ Sl from by omega)) (k8 77 rfl rfl) i_Store_readMember v_Store_readMember q69 (by decide) rfl rfl (Nat.le_of_ble_eq_true rfl) ?_
        exact ab_U_out rfl (by show _ + (H72.sh.length - H.sh.length) ≤ C; omega) (by show _ + (H72.sl - H.sl) ≤ Sl; omega) ⟨rfl, rfl⟩
      clear hF
      have mz_23 : Mo H H72 := (m_Store_readMember z70)
      have b_24l := (mz_23).len
      have b_24s := (mz_23).2
      have b_24c : c0 ≤ H72.sh.length := by omega
      have b_24d : s0 ≤ H72.sl := by omega
      have q_25 := (mz_23).get q50
      have q_26 := (mz_23).get q53
      have q_27 := (mz_23).get q59
      have q_28 := (mz_23).get q63
      have q_29 := (mz_23).get q67
      have q_30 := (mz_23).get q69
      obtain ⟨n74, q75, hF⟩ := ar_s hG; clear hG
      obtain ⟨q76, hG⟩ := ck_s hF; clear hF
      obtain ⟨H77, eH77, hF⟩ := bnd_g hG; clear hG
      have jH77 : Mo H72 H77 := by rw [eH77]; exact Mo.rf _
      have fH77 : Mo H77 r.2 := by
        have hm := Mo.rf H77
        exact hm.tr (mB_Store_readEvents_104 hm13 n l3 l4 l5 l6 l7 (l8 + 1) H77 r hF)
      have fH72 : Mo H72 r.2 := jH77.tr fH77
      have b_24m := (fH72).len
      have b_24n := (fH72).2
      have b_24p : H72.sh.length ≤ c0 + C := by omega
      have b_24q : H72.sl ≤ s0 + Sl := by omega
      refine hp_callV_a (v := .int v71) (H1 := H72) (As := [.int x68]) (rest := [.int ((l5 + (3 : Int32)) + l8), .ref a51]) d_Store_readEvents_141 (k_Store_readMember z70 (C := H72.sh.length - H.sh.length) (Sl := H72.sl - H.sl) (by show H72.sh.length ≤ _; omega) (by show H72.sl ≤ _; omega)) (ab_mkC s_Store_readMember (Nat.le_of_ble_eq_true rfl) (Nat.le_of_ble_eq_true rfl) (show (H.sh.length - c0) + (H72.sh.length - H.sh.length) ≤ C from by omega) (show (H.sl - s0) + (H72.sl - H.sl) ≤ Sl from by omega)) (k8 77 rfl rfl) i_Store_readMember v_Store_readMember q69 (by decide) rfl rfl (Nat.le_of_ble_eq_true rfl) ?_
      refine ab_widen (cells' := H72.sh.length - c0) (slots' := H72.sl - s0) (by show _ + (H72.sh.length - H.sh.length) ≤ _; omega) (by show _ + (H72.sl - H.sl) ≤ _; omega) ?_
      clear b_24l b_24s b_24m b_24n
      refine hp_iast d_Store_readEvents_144 tI q75 q76 ?_
      refine hp_genx eH77 ?_
      have s_32 : Sa H72 H77 := by rw [eH77]; exact Sa.rf _
      refine ab_iinc (v := l8 + 1) (lv' := [some (.ref p0), some (.ref p1), some (.ref p2), some (.int l3), some (.int l4), some (.int l5), some (.int l6), some (.int l7), some (.int (l8 + 1))]) d_Store_readEvents_145 rfl rfl (by decide) rfl ?_
      refine ab_goto (tgt := 104) d_Store_readEvents_148 (by decide) ?_
      refine ab_widen (cells' := H77.sh.length - c0) (slots' := H77.sl - s0) (by rw [(s_32).1]; exact Nat.le_refl _) (by rw [(s_32).2]; exact Nat.le_refl _) ?_
      exact ih l3 l4 l5 l6 l7 (l8 + 1) H77 r hF (by rw [(s_32).1]; exact b_24c) (by rw [(s_32).2]; exact b_24d) (by rw [(s_32).1]; exact b_24p) (by rw [(s_32).2]; exact b_24q) hC hS
def B_Store_readEvents_13 (N : Nat) (p0 : Nat) (p1 : Nat) (p2 : Nat) : Nat → Int32 → Int32 → Hp → Option ((Ot Unit) × Hp)
  | 0, _, _, _ => none
  | n + 1, l3, l4, H =>
    if l3 ≤ l4 then
    ck (H.sh[p2]? = some (7, 0)) <|
    bnd (H.sD p2 13 l3) fun H8 =>
    some (.inl (), H8)
    else
    bnd ((l4 * (7 : Int32))) fun x9 =>
    ck (H.sh[p1]? = some (3, 0)) <|
    bnd ((H.D p1 3)) fun x11 =>
    ck (H.sh[p0]? = some (11, 0)) <|
    bT (F_Store_readNumber N p0 (1 : Int32) (0 : Int32) (x11 - (1 : Int32)) H) fun v14 H15 =>
    ck (H15.sh[p2]? = some (7, 0)) <|
    rf (H15.P p2 12) fun a18 =>
    ar H15 100 a18 fun n20 =>
    ck (inb x9 n20) <|
    bnd (H15.sD a18 (x9).toNatClampNeg v14) fun H23 =>
    rf (H23.P p2 12) fun a24 =>
    bnd ((H23.D p2 0)) fun x26 =>
    bnd ((H23.D p2 0)) fun x27 =>
    bT (F_Store_readNumber N p0 (4 : Int32) (x26 + (1 : Int32)) (x27 + (16 : Int32)) H23) fun v29 H30 =>
    ar H30 100 a24 fun n32 =>
    ck (inb (x9 + (1 : Int32)) n32) <|
    bnd (H30.sD a24 ((x9 + (1 : Int32))).toNatClampNeg v29) fun H35 =>
    rf (H35.P p2 12) fun a36 =>
    bT (F_Store_readNumber N p0 (4 : Int32) ((-1) : Int32) (2147483647 : Int32) H35) fun v39 H40 =>
    ar H40 100 a36 fun n42 =>
    ck (inb (x9 + (2 : Int32)) n42) <|
    bnd (H40.sD a36 ((x9 + (2 : Int32))).toNatClampNeg v39) fun H45 =>
    bC (F_Shapes_sizeOf N p1 v14 H45) fun v47 H48 =>
    B_Store_readEvents_104 N p0 p1 p2 (fun l3 l4 H => B_Store_readEvents_13 N p0 p1 p2 n l3 l4 H) N l3 l4 x9 v14 v47 0 H48
termination_by structural n => n
set_option maxRecDepth 20000 in
set_option maxHeartbeats 2000000 in
theorem mB_Store_readEvents_13 {N : Nat} {p0 : Nat} {p1 : Nat} {p2 : Nat} : ∀ (n : Nat) (l3 : Int32) (l4 : Int32) (H : Hp) (r : (Ot Unit) × Hp), B_Store_readEvents_13 N p0 p1 p2 n l3 l4 H = some r → Mo H r.2 := by
  intro n
  induction n with
  | zero => intro l3 l4 H r hF; rw [B_Store_readEvents_13] at hF; cases hF
  | succ n ih =>
    intro l3 l4 H r hF
    rw [B_Store_readEvents_13] at hF
    have hm := Mo.rf H
    rcases ite_s hF with ⟨q_70, hG⟩ | ⟨q_70, hG⟩
    · clear hF
      obtain ⟨q50, hF⟩ := ck_s hG; clear hG
      obtain ⟨H51, eH51, hG⟩ := bnd_g hF; clear hF
      replace hm : Mo H H51 := by rw [eH51]; exact hm
      have hr := Option.some.inj hG; subst hr
      exact hm
    · clear hF
      obtain ⟨x52, -, hF⟩ := bnd_g hG; clear hG
      obtain ⟨q53, hG⟩ := ck_s hF; clear hF
      obtain ⟨x54, -, hF⟩ := bnd_g hG; clear hG
      obtain ⟨q55, hG⟩ := ck_s hF; clear hF
      refine bT_c hG (fun x59 H58 z56 er => ?_) (fun v57 H58 z56 hF => ?_)
      · subst er; exact hm.tr (m_Store_readNumber z56)
      clear hG
      replace hm : Mo H H58 := hm.tr (m_Store_readNumber z56)
      obtain ⟨q60, hG⟩ := ck_s hF; clear hF
      obtain ⟨a61, e62, hF⟩ := rf_s hG; clear hG
      obtain ⟨n63, q64, hG⟩ := ar_s hF; clear hF
      obtain ⟨q65, hF⟩ := ck_s hG; clear hG
      obtain ⟨H66, eH66, hG⟩ := bnd_g hF; clear hF
      replace hm : Mo H H66 := by rw [eH66]; exact hm
      obtain ⟨a67, e68, hF⟩ := rf_s hG; clear hG
      obtain ⟨x69, -, hG⟩ := bnd_g hF; clear hF
      obtain ⟨x70, -, hF⟩ := bnd_g hG; clear hG
      refine bT_c hF (fun x74 H73 z71 er => ?_) (fun v72 H73 z71 hG => ?_)
      · subst er; exact hm.tr (m_Store_readNumber z71)
      clear hF
      replace hm : Mo H H73 := hm.tr (m_Store_readNumber z71)
      obtain ⟨n75, q76, hF⟩ := ar_s hG; clear hG
      obtain ⟨q77, hG⟩ := ck_s hF; clear hF
      obtain ⟨H78, eH78, hF⟩ := bnd_g hG; clear hG
      replace hm : Mo H H78 := by rw [eH78]; exact hm
      obtain ⟨a79, e80, hG⟩ := rf_s hF; clear hF
      refine bT_c hG (fun x84 H83 z81 er => ?_) (fun v82 H83 z81 hF => ?_)
      · subst er; exact hm.tr (m_Store_readNumber z81)
      clear hG
      replace hm : Mo H H83 := hm.tr (m_Store_readNumber z81)
      obtain ⟨n85, q86, hG⟩ := ar_s hF; clear hF
      obtain ⟨q87, hF⟩ := ck_s hG; clear hG
      obtain ⟨H88, eH88, hG⟩ := bnd_g hF; clear hF
      replace hm : Mo H H88 := by rw [eH88]; exact hm
      obtain ⟨v90, H91, z89, hF⟩ := bC_s hG; clear hG
      replace hm : Mo H H91 := hm.tr ((m_Shapes_sizeOf z89)).mo
      exact hm.tr (mB_Store_readEvents_104 ih N l3 l4 x52 v57 v90 0 H91 r hF)
set_option maxRecDepth 20000 in
set_option maxHeartbeats 2000000 in
theorem kB_Store_readEvents_13 {N : Nat} {p0 : Nat} {p1 : Nat} {p2 : Nat} {c0 s0 C Sl : Nat} : ∀ (n : Nat) (l3 : Int32) (l4 : Int32) (H : Hp) (r : (Ot Unit) × Hp), B_Store_readEvents_13 N p0 p1 p2 n l3 l4 H = some r → c0 ≤ H.sh.length → s0 ≤ H.sl → H.sh.length ≤ c0 + C → H.sl ≤ s0 + Sl → r.2.sh.length ≤ c0 + C → r.2.sl ≤ s0 + Sl → ab_V y_Store_readEvents { frames := 8, cells := C, slots := Sl, locals := 146 } (po (oV r.1) r.2) C Sl (H.sh.length - c0) (H.sl - s0) 13 [some (.ref p0), some (.ref p1), some (.ref p2), some (.int l3), some (.int l4), none, none, none, none] [] (hpw H) := by
  intro n
  induction n with
  | zero => intro l3 l4 H r hF; rw [B_Store_readEvents_13] at hF; cases hF
  | succ n ih =>
    intro l3 l4 H r hF hc0 hs0 hcc hss hC hS
    rw [B_Store_readEvents_13] at hF
    refine ab_iload d_Store_readEvents_13 rfl ?_
    refine ab_iload_n d_Store_readEvents_15 rfl rfl ?_
    refine ab_icmp_ge (tgt := 157) d_Store_readEvents_16 (by decide) (fun q6 => ?_) (fun q6 => ?_)
    · rw [if_pos q6] at hF
      refine ab_aload_n d_Store_readEvents_157 rfl rfl rfl ?_
      refine ab_iload_n d_Store_readEvents_158 rfl rfl ?_
      obtain ⟨q7, hG⟩ := ck_s hF; clear hF
      refine hp_putI (v := l3) (f := 13) d_Store_readEvents_159 q7 (by decide) rfl (by decide) (k2 5 rfl rfl) rfl rfl (fun _ => rfl) (fun _ => rfl) rfl ?_
      refine hp_gen (fun H8 eH8 => ?_)
      replace hG := bnd_s eH8 hG
      have s_4 : Sa H H8 := by rw [eH8]; exact Sa.rf _
      exact ab_vret d_Store_readEvents_162 rfl (by show _ ≤ C; omega) (by show _ ≤ Sl; omega) (by have hr := Option.some.inj hG; subst hr; exact ⟨rfl, rfl⟩)
    · rw [if_neg q6] at hF
      refine ab_iload d_Store_readEvents_19 rfl ?_
      refine ab_bipush (v := 7) d_Store_readEvents_21 (by decide) ?_
      refine ab_imul d_Store_readEvents_23 ?_
      refine ab_topi (fun x9 ex9 => ?_)
      replace hF := bnd_s ex9 hF
      refine ab_istore (lv' := [some (.ref p0), some (.ref p1), some (.ref p2), some (.int l3), some (.int l4), some (.int x9), none, none, none]) d_Store_readEvents_24 (by decide) rfl ?_
      refine ab_aload_n d_Store_readEvents_26 rfl rfl rfl ?_
      refine ab_iconst (v := 1) d_Store_readEvents_27 (by decide) ?_
      refine ab_iconst (v := 0) d_Store_readEvents_28 (by decide) ?_
      refine ab_aload_n d_Store_readEvents_29 rfl rfl rfl ?_
      obtain ⟨q10, hG⟩ := ck_s hF; clear hF
      refine hp_getI (f := 3) d_Store_readEvents_30 q10 (by decide) rfl (by decide) (k3 40 rfl rfl) rfl ?_
      refine ab_topi (fun x11 ex11 => ?_)
      replace hG := bnd_s ex11 hG
      refine ab_iconst (v := 1) d_Store_readEvents_33 (by decide) ?_
      refine ab_isub d_Store_readEvents_34 ?_
      obtain ⟨q12, hF⟩ := ck_s hG; clear hG
      refine bT_c hF (fun x16 H15 z13 er => ?_) (fun v14 H15 z13 hG => ?_)
      · subst er
        have mz : Mo H H15 := (m_Store_readNumber z13)
        have ml := mz.len
        have m2 := mz.2
        have hC9 : H15.sh.length ≤ c0 + C := hC
        have hS9 : H15.sl ≤ s0 + Sl := hS
        refine hp_callV_t (x := x16) (H1 := H15) (As := [.int 1, .int 0, .int (x11 - (1 : Int32))]) (rest := []) d_Store_readEvents_35 (k_Store_readNumber z13 (C := H15.sh.length - H.sh.length) (Sl := H15.sl - H.sl) (by show H15.sh.length ≤ _; omega) (by show H15.sl ≤ _; omega)) (ab_mkC s_Store_readNumber (Nat.le_of_ble_eq_true rfl) (Nat.le_of_ble_eq_true rfl) (show (H.sh.length - c0) + (H15.sh.length - H.sh.length) ≤ C from by omega) (show (H.sl - s0) + (H15.sl - H.sl) ≤ Sl from by omega)) (k8 53 rfl rfl) i_Store_readNumber v_Store_readNumber q12 (by decide) rfl rfl (Nat.le_of_ble_eq_true rfl) ?_
        exact ab_U_out rfl (by show _ + (H15.sh.length - H.sh.length) ≤ C; omega) (by show _ + (H15.sl - H.sl) ≤ Sl; omega) ⟨rfl, rfl⟩
      clear hF
      have mz_5 : Mo H H15 := (m_Store_readNumber z13)
      have b_6l := (mz_5).len
      have b_6s := (mz_5).2
      have b_6c : c0 ≤ H15.sh.length := by omega
      have b_6d : s0 ≤ H15.sl := by omega
      have q_7 := (mz_5).get q10
      have q_8 := (mz_5).get q12
      obtain ⟨q17, hF⟩ := ck_s hG; clear hG
      obtain ⟨a18, e19, hG⟩ := rf_s hF; clear hF
      obtain ⟨n20, q21, hF⟩ := ar_s hG; clear hG
      obtain ⟨q22, hG⟩ := ck_s hF; clear hF
      obtain ⟨H23, eH23, hF⟩ := bnd_g hG; clear hG
      have jH23 : Mo H15 H23 := by rw [eH23]; exact Mo.rf _
      obtain ⟨a24, e25, hG⟩ := rf_s hF; clear hF
      obtain ⟨x26, ex26, hF⟩ := bnd_g hG; clear hG
      obtain ⟨x27, ex27, hG⟩ := bnd_g hF; clear hF
      have fH23 : Mo H23 r.2 := by
        have hm := Mo.rf H23
        refine bT_c hG (fun x31 H30 z28 er => ?_) (fun v29 H30 z28 hF => ?_)
        · subst er; exact hm.tr (m_Store_readNumber z28)
        clear hG
        replace hm : Mo H23 H30 := hm.tr (m_Store_readNumber z28)
        obtain ⟨n32, q33, hG⟩ := ar_s hF; clear hF
        obtain ⟨q34, hF⟩ := ck_s hG; clear hG
        obtain ⟨H35, eH35, hG⟩ := bnd_g hF; clear hF
        replace hm : Mo H23 H35 := by rw [eH35]; exact hm
        obtain ⟨a36, e37, hF⟩ := rf_s hG; clear hG
        refine bT_c hF (fun x41 H40 z38 er => ?_) (fun v39 H40 z38 hG => ?_)
        · subst er; exact hm.tr (m_Store_readNumber z38)
        clear hF
        replace hm : Mo H23 H40 := hm.tr (m_Store_readNumber z38)
        obtain ⟨n42, q43, hF⟩ := ar_s hG; clear hG
        obtain ⟨q44, hG⟩ := ck_s hF; clear hF
        obtain ⟨H45, eH45, hF⟩ := bnd_g hG; clear hG
        replace hm : Mo H23 H45 := by rw [eH45]; exact hm
        obtain ⟨v47, H48, z46, hG⟩ := bC_s hF; clear hF
        replace hm : Mo H23 H48 := hm.tr ((m_Shapes_sizeOf z46)).mo
        exact hm.tr (mB_Store_readEvents_104 (mB_Store_readEvents_13 n) N l3 l4 x9 v14 v47 0 H48 r hG)
      have fH15 : Mo H15 r.2 := jH23.tr fH23
      have b_6m := (fH15).len
      have b_6n := (fH15).2
      have b_6p : H15.sh.length ≤ c0 + C := by omega
      have b_6q : H15.sl ≤ s0 + Sl := by omega
      refine hp_callV_a (v := .int v14) (H1 := H15) (As := [.int 1, .int 0, .int (x11 - (1 : Int32))]) (rest := []) d_Store_readEvents_35 (k_Store_readNumber z13 (C := H15.sh.length - H.sh.length) (Sl := H15.sl - H.sl) (by show H15.sh.length ≤ _; omega) (by show H15.sl ≤ _; omega)) (ab_mkC s_Store_readNumber (Nat.le_of_ble_eq_true rfl) (Nat.le_of_ble_eq_true rfl) (show (H.sh.length - c0) + (H15.sh.length - H.sh.length) ≤ C from by omega) (show (H.sl - s0) + (H15.sl - H.sl) ≤ Sl from by omega)) (k8 53 rfl rfl) i_Store_readNumber v_Store_readNumber q12 (by decide) rfl rfl (Nat.le_of_ble_eq_true rfl) ?_
      refine ab_widen (cells' := H15.sh.length - c0) (slots' := H15.sl - s0) (by show _ + (H15.sh.length - H.sh.length) ≤ _; omega) (by show _ + (H15.sl - H.sl) ≤ _; omega) ?_
      clear b_6l b_6s b_6m b_6n
      refine ab_istore (lv' := [some (.ref p0), some (.ref p1), some (.ref p2), some (.int l3), some (.int l4), some (.int x9), some (.int v14), none, none]) d_Store_readEvents_38 (by decide) rfl ?_
      refine ab_aload_n d_Store_readEvents_40 rfl rfl rfl ?_
      refine hp_getR (f := 12) d_Store_readEvents_41 q17 (by decide) rfl (by decide) (k2 0 rfl rfl) rfl e19 ?_
      refine ab_iload d_Store_readEvents_44 rfl ?_
      refine ab_iload d_Store_readEvents_46 rfl ?_
      refine hp_iast d_Store_readEvents_48 tI q21 q22 ?_
      refine hp_genx eH23 ?_
      have s_42 : Sa H15 H23 := by rw [eH23]; exact Sa.rf _
      refine ab_aload_n d_Store_readEvents_49 rfl rfl rfl ?_
      refine hp_getR (f := 12) d_Store_readEvents_50 (by rw [(s_42).1]; exact q17) (by decide) rfl (by decide) (k2 0 rfl rfl) rfl e25 ?_
      refine ab_iload d_Store_readEvents_53 rfl ?_
      refine ab_iconst (v := 1) d_Store_readEvents_55 (by decide) ?_
      refine ab_iadd d_Store_readEvents_56 ?_
      refine ab_aload_n d_Store_readEvents_57 rfl rfl rfl ?_
      refine ab_iconst (v := 4) d_Store_readEvents_58 (by decide) ?_
      refine ab_aload_n d_Store_readEvents_59 rfl rfl rfl ?_
      refine hp_getI (f := 0) d_Store_readEvents_60 (by rw [(s_42).1]; exact q17) (by decide) rfl (by decide) (k1 207 rfl rfl) rfl ?_
      refine ab_topxi ex26 ?_
      refine ab_iconst (v := 1) d_Store_readEvents_63 (by decide) ?_
      refine ab_iadd d_Store_readEvents_64 ?_
      refine ab_aload_n d_Store_readEvents_65 rfl rfl rfl ?_
      refine hp_getI (f := 0) d_Store_readEvents_66 (by rw [(s_42).1]; exact q17) (by decide) rfl (by decide) (k1 207 rfl rfl) rfl ?_
      refine ab_topxi ex27 ?_
      refine ab_bipush (v := 16) d_Store_readEvents_69 (by decide) ?_
      refine ab_iadd d_Store_readEvents_71 ?_
      refine bT_c hG (fun x31 H30 z28 er => ?_) (fun v29 H30 z28 hF => ?_)
      · subst er
        refine ab_widen (cells' := H23.sh.length - c0) (slots' := H23.sl - s0) (by rw [(s_42).1]; exact Nat.le_refl _) (by rw [(s_42).2]; exact Nat.le_refl _) ?_
        have mz : Mo H23 H30 := (m_Store_readNumber z28)
        have ml := mz.len
        have m2 := mz.2
        have be := congrArg List.length (s_42).1
        have bfx := (s_42).2
        have hC9 : H30.sh.length ≤ c0 + C := hC
        have hS9 : H30.sl ≤ s0 + Sl := hS
        refine hp_callV_t (x := x31) (H1 := H30) (As := [.int 4, .int (x26 + (1 : Int32)), .int (x27 + (16 : Int32))]) (rest := [.int (x9 + (1 : Int32)), .ref a24]) d_Store_readEvents_72 (k_Store_readNumber z28 (C := H30.sh.length - H23.sh.length) (Sl := H30.sl - H23.sl) (by show H30.sh.length ≤ _; omega) (by show H30.sl ≤ _; omega)) (ab_mkC s_Store_readNumber (Nat.le_of_ble_eq_true rfl) (Nat.le_of_ble_eq_true rfl) (show (H23.sh.length - c0) + (H30.sh.length - H23.sh.length) ≤ C from by omega) (show (H23.sl - s0) + (H30.sl - H23.sl) ≤ Sl from by omega)) (k8 53 rfl rfl) i_Store_readNumber v_Store_readNumber (by rw [(s_42).1]; exact q_8) (by decide) rfl rfl (Nat.le_of_ble_eq_true rfl) ?_
        exact ab_U_out rfl (by show _ + (H30.sh.length - H23.sh.length) ≤ C; omega) (by show _ + (H30.sl - H23.sl) ≤ Sl; omega) ⟨rfl, rfl⟩
      clear hG
      refine ab_widen (cells' := H23.sh.length - c0) (slots' := H23.sl - s0) (by rw [(s_42).1]; exact Nat.le_refl _) (by rw [(s_42).2]; exact Nat.le_refl _) ?_
      have mz_43 : Mo H23 H30 := (m_Store_readNumber z28)
      have b_44l := (mz_43).len
      have b_44s := (mz_43).2
      have b_44e := congrArg List.length (s_42).1
      have b_44f := (s_42).2
      have b_44c : c0 ≤ H30.sh.length := by omega
      have b_44d : s0 ≤ H30.sl := by omega
      have q_45 := (mz_43).get (by rw [(s_42).1]; exact q_7)
      have q_46 := (mz_43).get (by rw [(s_42).1]; exact q_8)
      have q_47 := (mz_43).get (by rw [(s_42).1]; exact q17)
      have q_48 := (mz_43).get (by rw [(s_42).1]; exact q21)
      obtain ⟨n32, q33, hG⟩ := ar_s hF; clear hF
      obtain ⟨q34, hF⟩ := ck_s hG; clear hG
      obtain ⟨H35, eH35, hG⟩ := bnd_g hF; clear hF
      have jH35 : Mo H30 H35 := by rw [eH35]; exact Mo.rf _
      obtain ⟨a36, e37, hF⟩ := rf_s hG; clear hG
      have fH35 : Mo H35 r.2 := by
        have hm := Mo.rf H35
        refine bT_c hF (fun x41 H40 z38 er => ?_) (fun v39 H40 z38 hG => ?_)
        · subst er; exact hm.tr (m_Store_readNumber z38)
        clear hF
        replace hm : Mo H35 H40 := hm.tr (m_Store_readNumber z38)
        obtain ⟨n42, q43, hF⟩ := ar_s hG; clear hG
        obtain ⟨q44, hG⟩ := ck_s hF; clear hF
        obtain ⟨H45, eH45, hF⟩ := bnd_g hG; clear hG
        replace hm : Mo H35 H45 := by rw [eH45]; exact hm
        obtain ⟨v47, H48, z46, hG⟩ := bC_s hF; clear hF
        replace hm : Mo H35 H48 := hm.tr ((m_Shapes_sizeOf z46)).mo
        exact hm.tr (mB_Store_readEvents_104 (mB_Store_readEvents_13 n) N l3 l4 x9 v14 v47 0 H48 r hG)
      have fH30 : Mo H30 r.2 := jH35.tr fH35
      have b_44m := (fH30).len
      have b_44n := (fH30).2
      have b_44p : H30.sh.length ≤ c0 + C := by omega
      have b_44q : H30.sl ≤ s0 + Sl := by omega
      refine hp_callV_a (v := .int v29) (H1 := H30) (As := [.int 4, .int (x26 + (1 : Int32)), .int (x27 + (16 : Int32))]) (rest := [.int (x9 + (1 : Int32)), .ref a24]) d_Store_readEvents_72 (k_Store_readNumber z28 (C := H30.sh.length - H23.sh.length) (Sl := H30.sl - H23.sl) (by show H30.sh.length ≤ _; omega) (by show H30.sl ≤ _; omega)) (ab_mkC s_Store_readNumber (Nat.le_of_ble_eq_true rfl) (Nat.le_of_ble_eq_true rfl) (show (H23.sh.length - c0) + (H30.sh.length - H23.sh.length) ≤ C from by omega) (show (H23.sl - s0) + (H30.sl - H23.sl) ≤ Sl from by omega)) (k8 53 rfl rfl) i_Store_readNumber v_Store_readNumber (by rw [(s_42).1]; exact q_8) (by decide) rfl rfl (Nat.le_of_ble_eq_true rfl) ?_
      refine ab_widen (cells' := H30.sh.length - c0) (slots' := H30.sl - s0) (by show _ + (H30.sh.length - H23.sh.length) ≤ _; omega) (by show _ + (H30.sl - H23.sl) ≤ _; omega) ?_
      clear b_44l b_44s b_44m b_44n b_44e b_44f b_6c b_6d b_6p b_6q
      refine hp_iast d_Store_readEvents_75 tI q33 q34 ?_
      refine hp_genx eH35 ?_
      have s_57 : Sa H30 H35 := by rw [eH35]; exact Sa.rf _
      refine ab_aload_n d_Store_readEvents_76 rfl rfl rfl ?_
      refine hp_getR (f := 12) d_Store_readEvents_77 (by rw [(s_57).1]; exact q_47) (by decide) rfl (by decide) (k2 0 rfl rfl) rfl e37 ?_
      refine ab_iload d_Store_readEvents_80 rfl ?_
      refine ab_iconst (v := 2) d_Store_readEvents_82 (by decide) ?_
      refine ab_iadd d_Store_readEvents_83 ?_
      refine ab_aload_n d_Store_readEvents_84 rfl rfl rfl ?_
      refine ab_iconst (v := 4) d_Store_readEvents_85 (by decide) ?_
      refine ab_iconst (v := (-1)) d_Store_readEvents_86 (by decide) ?_
      refine ab_ldc d_Store_readEvents_87 (k8 66 rfl rfl) ?_
      refine bT_c hF (fun x41 H40 z38 er => ?_) (fun v39 H40 z38 hG => ?_)
      · subst er
        refine ab_widen (cells' := H35.sh.length - c0) (slots' := H35.sl - s0) (by rw [(s_57).1]; exact Nat.le_refl _) (by rw [(s_57).2]; exact Nat.le_refl _) ?_
        have mz : Mo H35 H40 := (m_Store_readNumber z38)
        have ml := mz.len
        have m2 := mz.2
        have be := congrArg List.length (s_57).1
        have bfx := (s_57).2
        have hC9 : H40.sh.length ≤ c0 + C := hC
        have hS9 : H40.sl ≤ s0 + Sl := hS
        refine hp_callV_t (x := x41) (H1 := H40) (As := [.int 4, .int (-1), .int 2147483647]) (rest := [.int (x9 + (2 : Int32)), .ref a36]) d_Store_readEvents_89 (k_Store_readNumber z38 (C := H40.sh.length - H35.sh.length) (Sl := H40.sl - H35.sl) (by show H40.sh.length ≤ _; omega) (by show H40.sl ≤ _; omega)) (ab_mkC s_Store_readNumber (Nat.le_of_ble_eq_true rfl) (Nat.le_of_ble_eq_true rfl) (show (H35.sh.length - c0) + (H40.sh.length - H35.sh.length) ≤ C from by omega) (show (H35.sl - s0) + (H40.sl - H35.sl) ≤ Sl from by omega)) (k8 53 rfl rfl) i_Store_readNumber v_Store_readNumber (by rw [(s_57).1]; exact q_46) (by decide) rfl rfl (Nat.le_of_ble_eq_true rfl) ?_
        exact ab_U_out rfl (by show _ + (H40.sh.length - H35.sh.length) ≤ C; omega) (by show _ + (H40.sl - H35.sl) ≤ Sl; omega) ⟨rfl, rfl⟩
      clear hF
      refine ab_widen (cells' := H35.sh.length - c0) (slots' := H35.sl - s0) (by rw [(s_57).1]; exact Nat.le_refl _) (by rw [(s_57).2]; exact Nat.le_refl _) ?_
      have mz_58 : Mo H35 H40 := (m_Store_readNumber z38)
      have b_59l := (mz_58).len
      have b_59s := (mz_58).2
      have b_59e := congrArg List.length (s_57).1
      have b_59f := (s_57).2
      have b_59c : c0 ≤ H40.sh.length := by omega
      have b_59d : s0 ≤ H40.sl := by omega
      have q_60 := (mz_58).get (by rw [(s_57).1]; exact q_45)
      have q_61 := (mz_58).get (by rw [(s_57).1]; exact q_46)
      have q_62 := (mz_58).get (by rw [(s_57).1]; exact q_47)
      have q_63 := (mz_58).get (by rw [(s_57).1]; exact q_48)
      have q_64 := (mz_58).get (by rw [(s_57).1]; exact q33)
      obtain ⟨n42, q43, hF⟩ := ar_s hG; clear hG
      obtain ⟨q44, hG⟩ := ck_s hF; clear hF
      obtain ⟨H45, eH45, hF⟩ := bnd_g hG; clear hG
      have jH45 : Mo H40 H45 := by rw [eH45]; exact Mo.rf _
      obtain ⟨v47, H48, z46, hG⟩ := bC_s hF; clear hF
      have jH48 : Mo H45 H48 := ((m_Shapes_sizeOf z46)).mo
      have fH48 : Mo H48 r.2 := by
        have hm := Mo.rf H48
        exact hm.tr (mB_Store_readEvents_104 (mB_Store_readEvents_13 n) N l3 l4 x9 v14 v47 0 H48 r hG)
      have fH45 : Mo H45 r.2 := jH48.tr fH48
      have fH40 : Mo H40 r.2 := jH45.tr fH45
      have b_59m := (fH40).len
      have b_59n := (fH40).2
      have b_59p : H40.sh.length ≤ c0 + C := by omega
      have b_59q : H40.sl ≤ s0 + Sl := by omega
      refine hp_callV_a (v := .int v39) (H1 := H40) (As := [.int 4, .int (-1), .int 2147483647]) (rest := [.int (x9 + (2 : Int32)), .ref a36]) d_Store_readEvents_89 (k_Store_readNumber z38 (C := H40.sh.length - H35.sh.length) (Sl := H40.sl - H35.sl) (by show H40.sh.length ≤ _; omega) (by show H40.sl ≤ _; omega)) (ab_mkC s_Store_readNumber (Nat.le_of_ble_eq_true rfl) (Nat.le_of_ble_eq_true rfl) (show (H35.sh.length - c0) + (H40.sh.length - H35.sh.length) ≤ C from by omega) (show (H35.sl - s0) + (H40.sl - H35.sl) ≤ Sl from by omega)) (k8 53 rfl rfl) i_Store_readNumber v_Store_readNumber (by rw [(s_57).1]; exact q_46) (by decide) rfl rfl (Nat.le_of_ble_eq_true rfl) ?_
      refine ab_widen (cells' := H40.sh.length - c0) (slots' := H40.sl - s0) (by show _ + (H40.sh.length - H35.sh.length) ≤ _; omega) (by show _ + (H40.sl - H35.sl) ≤ _; omega) ?_
      clear b_59l b_59s b_59m b_59n b_59e b_59f b_44c b_44d b_44p b_44q
      refine hp_iast d_Store_readEvents_92 tI q43 q44 ?_
      refine hp_genx eH45 ?_
      have s_67 : Sa H40 H45 := by rw [eH45]; exact Sa.rf _
      refine ab_aload_n d_Store_readEvents_93 rfl rfl rfl ?_
      refine ab_iload d_Store_readEvents_94 rfl ?_
      refine ab_widen (cells' := H45.sh.length - c0) (slots' := H45.sl - s0) (by rw [(s_67).1]; exact Nat.le_refl _) (by rw [(s_67).2]; exact Nat.le_refl _) ?_
      have b_68e := congrArg List.length (s_67).1
      have b_68f := (s_67).2
      refine hp_callV_a (v := .int v47) (H1 := H48) (As := [.int v14]) (rest := []) d_Store_readEvents_96 (k_Shapes_sizeOf z46) (ab_mkC s_Shapes_sizeOf (Nat.le_of_ble_eq_true rfl) (Nat.le_of_ble_eq_true rfl) (show (H45.sh.length - c0) + 0 ≤ C from by omega) (show (H45.sl - s0) + 0 ≤ Sl from by omega)) (k8 8 rfl rfl) i_Shapes_sizeOf v_Shapes_sizeOf (by rw [(s_67).1]; exact q_60) (by decide) rfl rfl (Nat.le_of_ble_eq_true rfl) ?_
      have s_69 : Sa H40 H48 := (s_67).tr (m_Shapes_sizeOf z46)
      refine ab_widen (cells' := H40.sh.length - c0) (slots' := H40.sl - s0) (by show (H45.sh.length - c0) + 0 ≤ _; omega) (by show (H45.sl - s0) + 0 ≤ _; omega) ?_
      clear b_68e b_68f
      refine ab_istore (lv' := [some (.ref p0), some (.ref p1), some (.ref p2), some (.int l3), some (.int l4), some (.int x9), some (.int v14), some (.int v47), none]) d_Store_readEvents_99 (by decide) rfl ?_
      refine ab_iconst (v := 0) d_Store_readEvents_101 (by decide) ?_
      refine ab_istore (lv' := [some (.ref p0), some (.ref p1), some (.ref p2), some (.int l3), some (.int l4), some (.int x9), some (.int v14), some (.int v47), some (.int 0)]) d_Store_readEvents_102 (by decide) rfl ?_
      refine ab_widen (cells' := H48.sh.length - c0) (slots' := H48.sl - s0) (by rw [(s_69).1]; exact Nat.le_refl _) (by rw [(s_69).2]; exact Nat.le_refl _) ?_
      exact kB_Store_readEvents_104 (mB_Store_readEvents_13 n) ih N l3 l4 x9 v14 v47 0 H48 r hG (by rw [(s_69).1]; exact b_59c) (by rw [(s_69).2]; exact b_59d) (by rw [(s_69).1]; exact b_59p) (by rw [(s_69).2]; exact b_59q) hC hS
def F_Store_readEvents (N : Nat) (p0 : Nat) (p1 : Nat) (p2 : Nat) (H : Hp) : Option ((Ot Unit) × Hp) :=
    ck (H.sh[p0]? = some (11, 0)) <|
    bT (F_Store_readNumber N p0 (2 : Int32) (0 : Int32) (256 : Int32) H) fun v3 H4 =>
    B_Store_readEvents_13 N p0 p1 p2 N v3 0 H4
set_option maxRecDepth 20000 in
set_option maxHeartbeats 2000000 in
theorem m_Store_readEvents {N : Nat} {p0 : Nat} {p1 : Nat} {p2 : Nat} {H : Hp} {r : (Ot Unit) × Hp} (hF : F_Store_readEvents N p0 p1 p2 H = some r) : Mo H r.2 := by
  unfold F_Store_readEvents at hF
  have hm := Mo.rf H
  obtain ⟨q6, hG⟩ := ck_s hF; clear hF
  refine bT_c hG (fun x10 H9 z7 er => ?_) (fun v8 H9 z7 hF => ?_)
  · subst er; exact hm.tr (m_Store_readNumber z7)
  clear hG
  replace hm : Mo H H9 := hm.tr (m_Store_readNumber z7)
  exact hm.tr (mB_Store_readEvents_13 N v8 0 H9 r hF)
set_option maxRecDepth 20000 in
set_option maxHeartbeats 2000000 in
theorem k_Store_readEvents {N : Nat} {p0 : Nat} {p1 : Nat} {p2 : Nat} {H : Hp} {r : (Ot Unit) × Hp} {C Sl : Nat} (hF : F_Store_readEvents N p0 p1 p2 H = some r) (hC : r.2.sh.length ≤ H.sh.length + C) (hS : r.2.sl ≤ H.sl + Sl) : ab_M y_Store_readEvents { frames := 8, cells := C, slots := Sl, locals := 146 } [.ref p0, .ref p1, .ref p2] (hpw H) (po (oV r.1) r.2) := by
  unfold F_Store_readEvents at hF
  obtain ⟨c0, e0⟩ : ∃ q, q = H.sh.length := ⟨_, rfl⟩
  obtain ⟨s0, e1⟩ : ∃ q, q = H.sl := ⟨_, rfl⟩
  rw [← e0] at hC
  rw [← e1] at hS
  have hc0 : c0 ≤ H.sh.length := Nat.le_of_eq e0
  have hs0 : s0 ≤ H.sl := Nat.le_of_eq e1
  have hcc : H.sh.length ≤ c0 + C := by omega
  have hss : H.sl ≤ s0 + Sl := by omega
  refine ab_of2 (lv := [some (.ref p0), some (.ref p1), some (.ref p2), none, none, none, none, none, none]) 6 rfl rfl (Nat.le_of_ble_eq_true rfl) ?_
  refine ab_widen (cells' := H.sh.length - c0) (slots' := H.sl - s0) (Nat.zero_le _) (Nat.zero_le _) ?_
  refine ab_aload_n d_Store_readEvents_0 rfl rfl rfl ?_
  refine ab_iconst (v := 2) d_Store_readEvents_1 (by decide) ?_
  refine ab_iconst (v := 0) d_Store_readEvents_2 (by decide) ?_
  refine ab_sipush (v := 256) d_Store_readEvents_3 (by decide) ?_
  obtain ⟨q1, hG⟩ := ck_s hF; clear hF
  refine bT_c hG (fun x5 H4 z2 er => ?_) (fun v3 H4 z2 hF => ?_)
  · subst er
    have mz : Mo H H4 := (m_Store_readNumber z2)
    have ml := mz.len
    have m2 := mz.2
    have hC9 : H4.sh.length ≤ c0 + C := hC
    have hS9 : H4.sl ≤ s0 + Sl := hS
    refine hp_callV_t (x := x5) (H1 := H4) (As := [.int 2, .int 0, .int 256]) (rest := []) d_Store_readEvents_6 (k_Store_readNumber z2 (C := H4.sh.length - H.sh.length) (Sl := H4.sl - H.sl) (by show H4.sh.length ≤ _; omega) (by show H4.sl ≤ _; omega)) (ab_mkC s_Store_readNumber (Nat.le_of_ble_eq_true rfl) (Nat.le_of_ble_eq_true rfl) (show (H.sh.length - c0) + (H4.sh.length - H.sh.length) ≤ C from by omega) (show (H.sl - s0) + (H4.sl - H.sl) ≤ Sl from by omega)) (k8 53 rfl rfl) i_Store_readNumber v_Store_readNumber q1 (by decide) rfl rfl (Nat.le_of_ble_eq_true rfl) ?_
    exact ab_U_out rfl (by show _ + (H4.sh.length - H.sh.length) ≤ C; omega) (by show _ + (H4.sl - H.sl) ≤ Sl; omega) ⟨rfl, rfl⟩
  clear hG
  have mz_1 : Mo H H4 := (m_Store_readNumber z2)
  have b_2l := (mz_1).len
  have b_2s := (mz_1).2
  have b_2c : c0 ≤ H4.sh.length := by omega
  have b_2d : s0 ≤ H4.sl := by omega
  have q_3 := (mz_1).get q1
  have fH4 : Mo H4 r.2 := by
    have hm := Mo.rf H4
    exact hm.tr (mB_Store_readEvents_13 N v3 0 H4 r hF)
  have b_2m := (fH4).len
  have b_2n := (fH4).2
  have b_2p : H4.sh.length ≤ c0 + C := by omega
  have b_2q : H4.sl ≤ s0 + Sl := by omega
  refine hp_callV_a (v := .int v3) (H1 := H4) (As := [.int 2, .int 0, .int 256]) (rest := []) d_Store_readEvents_6 (k_Store_readNumber z2 (C := H4.sh.length - H.sh.length) (Sl := H4.sl - H.sl) (by show H4.sh.length ≤ _; omega) (by show H4.sl ≤ _; omega)) (ab_mkC s_Store_readNumber (Nat.le_of_ble_eq_true rfl) (Nat.le_of_ble_eq_true rfl) (show (H.sh.length - c0) + (H4.sh.length - H.sh.length) ≤ C from by omega) (show (H.sl - s0) + (H4.sl - H.sl) ≤ Sl from by omega)) (k8 53 rfl rfl) i_Store_readNumber v_Store_readNumber q1 (by decide) rfl rfl (Nat.le_of_ble_eq_true rfl) ?_
  refine ab_widen (cells' := H4.sh.length - c0) (slots' := H4.sl - s0) (by show _ + (H4.sh.length - H.sh.length) ≤ _; omega) (by show _ + (H4.sl - H.sl) ≤ _; omega) ?_
  clear b_2l b_2s b_2m b_2n
  refine ab_istore_n (lv' := [some (.ref p0), some (.ref p1), some (.ref p2), some (.int v3), none, none, none, none, none]) d_Store_readEvents_9 rfl (by decide) rfl ?_
  refine ab_iconst (v := 0) d_Store_readEvents_10 (by decide) ?_
  refine ab_istore (lv' := [some (.ref p0), some (.ref p1), some (.ref p2), some (.int v3), some (.int 0), none, none, none, none]) d_Store_readEvents_11 (by decide) rfl ?_
  exact kB_Store_readEvents_13 N v3 0 H4 r hF b_2c b_2d b_2p b_2q hC hS
def y_Store_readEnd : ab_Y := (⟨"WorldEngine$Store", "readEnd", "()V"⟩, prog_10_method_10_code, 1, none, [])
theorem d_Store_readEnd_0 : decode y_Store_readEnd.2.1 0 = .ok (.aload_n 0, 1) := by decide +kernel
theorem d_Store_readEnd_1 : decode y_Store_readEnd.2.1 1 = .ok (.getfield 111, 3) := by decide +kernel
theorem d_Store_readEnd_4 : decode y_Store_readEnd.2.1 4 = .ok (.aload_n 0, 1) := by decide +kernel
theorem d_Store_readEnd_5 : decode y_Store_readEnd.2.1 5 = .ok (.getfield 24, 3) := by decide +kernel
theorem d_Store_readEnd_8 : decode y_Store_readEnd.2.1 8 = .ok (.if_icmp .ge 21, 3) := by decide +kernel
theorem d_Store_readEnd_11 : decode y_Store_readEnd.2.1 11 = .ok (.aload_n 0, 1) := by decide +kernel
theorem d_Store_readEnd_12 : decode y_Store_readEnd.2.1 12 = .ok (.aload_n 0, 1) := by decide +kernel
theorem d_Store_readEnd_13 : decode y_Store_readEnd.2.1 13 = .ok (.getfield 111, 3) := by decide +kernel
theorem d_Store_readEnd_16 : decode y_Store_readEnd.2.1 16 = .ok (.putfield 143, 3) := by decide +kernel
theorem d_Store_readEnd_19 : decode y_Store_readEnd.2.1 19 = .ok (.new 141, 3) := by decide +kernel
theorem d_Store_readEnd_22 : decode y_Store_readEnd.2.1 22 = .ok (.dup, 1) := by decide +kernel
theorem d_Store_readEnd_23 : decode y_Store_readEnd.2.1 23 = .ok (.ldc 153, 2) := by decide +kernel
theorem d_Store_readEnd_25 : decode y_Store_readEnd.2.1 25 = .ok (.invokespecial 148, 3) := by decide +kernel
theorem d_Store_readEnd_28 : decode y_Store_readEnd.2.1 28 = .ok (.athrow, 1) := by decide +kernel
theorem d_Store_readEnd_29 : decode y_Store_readEnd.2.1 29 = .ok (.return_, 1) := by decide +kernel
theorem s_Store_readEnd : ab_Stat y_Store_readEnd 0 := ⟨(k8 89 rfl rfl), (k1 14 rfl rfl), ⟨by decide, by decide⟩, by decide +kernel⟩
theorem i_Store_readEnd : Cond.instanceMethod y_Store_readEnd.1 ∈ ab_T := (k8 88 rfl rfl)
theorem v_Store_readEnd : Cond.selects "WorldEngine$Store" y_Store_readEnd.1 y_Store_readEnd.1 ∈ ab_T := ab_s (List.mem_of_getElem? (i := 104) rfl) rfl
def F_Store_readEnd (N : Nat) (p0 : Nat) (H : Hp) : Option ((Ot Unit) × Hp) :=
    ck (H.sh[p0]? = some (11, 0)) <|
    bnd ((H.D p0 5)) fun x2 =>
    bnd ((H.D p0 1)) fun x3 =>
    if x3 ≤ x2 then
    some (.inl (), H)
    else
    bnd ((H.D p0 5)) fun x5 =>
    bnd (H.sD p0 2 x5) fun H6 =>
    some (.inr H6.sh.length, H6.nx (17, 0) 6)
set_option maxRecDepth 20000 in
set_option maxHeartbeats 2000000 in
theorem m_Store_readEnd {N : Nat} {p0 : Nat} {H : Hp} {r : (Ot Unit) × Hp} (hF : F_Store_readEnd N p0 H = some r) : Mo H r.2 := by
  unfold F_Store_readEnd at hF
  have hm := Mo.rf H
  obtain ⟨q8, hG⟩ := ck_s hF; clear hF
  obtain ⟨x9, -, hF⟩ := bnd_g hG; clear hG
  obtain ⟨x10, -, hG⟩ := bnd_g hF; clear hF
  rcases ite_s hG with ⟨q_2, hF⟩ | ⟨q_2, hF⟩
  · clear hG
    have hr := Option.some.inj hF; subst hr
    exact hm
  · clear hG
    obtain ⟨x12, -, hG⟩ := bnd_g hF; clear hF
    obtain ⟨H13, eH13, hF⟩ := bnd_g hG; clear hG
    replace hm : Mo H H13 := by rw [eH13]; exact hm
    cases hF
    exact hm.tr (Mo.nx _ _ _)
set_option maxRecDepth 20000 in
set_option maxHeartbeats 2000000 in
theorem k_Store_readEnd {N : Nat} {p0 : Nat} {H : Hp} {r : (Ot Unit) × Hp} {C Sl : Nat} (hF : F_Store_readEnd N p0 H = some r) (hC : r.2.sh.length ≤ H.sh.length + C) (hS : r.2.sl ≤ H.sl + Sl) : ab_M y_Store_readEnd { frames := 6, cells := C, slots := Sl, locals := 100 } [.ref p0] (hpw H) (po (oV r.1) r.2) := by
  unfold F_Store_readEnd at hF
  obtain ⟨c0, e0⟩ : ∃ q, q = H.sh.length := ⟨_, rfl⟩
  obtain ⟨s0, e1⟩ : ∃ q, q = H.sl := ⟨_, rfl⟩
  rw [← e0] at hC
  rw [← e1] at hS
  have hc0 : c0 ≤ H.sh.length := Nat.le_of_eq e0
  have hs0 : s0 ≤ H.sl := Nat.le_of_eq e1
  have hcc : H.sh.length ≤ c0 + C := by omega
  have hss : H.sl ≤ s0 + Sl := by omega
  refine ab_of2 (lv := [some (.ref p0)]) 0 rfl rfl (Nat.le_of_ble_eq_true rfl) ?_
  refine ab_widen (cells' := H.sh.length - c0) (slots' := H.sl - s0) (Nat.zero_le _) (Nat.zero_le _) ?_
  refine ab_aload_n d_Store_readEnd_0 rfl rfl rfl ?_
  obtain ⟨q1, hG⟩ := ck_s hF; clear hF
  refine hp_getI (f := 5) d_Store_readEnd_1 q1 (by decide) rfl (by decide) (k2 194 rfl rfl) rfl ?_
  refine ab_topi (fun x2 ex2 => ?_)
  replace hG := bnd_s ex2 hG
  refine ab_aload_n d_Store_readEnd_4 rfl rfl rfl ?_
  refine hp_getI (f := 1) d_Store_readEnd_5 q1 (by decide) rfl (by decide) (k2 188 rfl rfl) rfl ?_
  refine ab_topi (fun x3 ex3 => ?_)
  replace hG := bnd_s ex3 hG
  refine ab_icmp_ge (tgt := 29) d_Store_readEnd_8 (by decide) (fun q4 => ?_) (fun q4 => ?_)
  · rw [if_pos q4] at hG
    exact ab_vret d_Store_readEnd_29 rfl (by show _ ≤ C; omega) (by show _ ≤ Sl; omega) (by have hr := Option.some.inj hG; subst hr; exact ⟨rfl, rfl⟩)
  · rw [if_neg q4] at hG
    refine ab_aload_n d_Store_readEnd_11 rfl rfl rfl ?_
    refine ab_aload_n d_Store_readEnd_12 rfl rfl rfl ?_
    refine hp_getI (f := 5) d_Store_readEnd_13 q1 (by decide) rfl (by decide) (k2 194 rfl rfl) rfl ?_
    refine ab_topi (fun x5 ex5 => ?_)
    replace hG := bnd_s ex5 hG
    refine hp_putI (v := x5) (f := 2) d_Store_readEnd_16 q1 (by decide) rfl (by decide) (k2 190 rfl rfl) rfl rfl (fun _ => rfl) (fun _ => rfl) rfl ?_
    refine hp_gen (fun H6 eH6 => ?_)
    replace hG := bnd_s eH6 hG
    have s_1 : Sa H H6 := by rw [eH6]; exact Sa.rf _
    obtain ⟨H7, eH7⟩ : ∃ K, K = H6.nx (17, 0) 6 := ⟨_, rfl⟩
    rw [← eH7] at hG
    cases hG
    have bx : H7.sh.length = H6.sh.length + 1 := by rw [eH7]; simp [Hp.nx, mkH_sh]
    have by_ : H7.sl = H6.sl + 6 := by rw [eH7]; rfl
    have hC9 : H7.sh.length ≤ c0 + C := hC
    have hS9 : H7.sl ≤ s0 + Sl := hS
    have be := congrArg List.length (s_1).1
    have bfx := (s_1).2
    exact hp_throw (ci := 17) (names := ["java/lang/RuntimeException", "java/lang/Exception"]) (k0 := 7) d_Store_readEnd_19 d_Store_readEnd_22 d_Store_readEnd_23 d_Store_readEnd_25 d_Store_readEnd_28 rfl (k8 50 rfl rfl) (k4 102 rfl rfl) (k1 27 rfl rfl) (by decide +kernel) (by decide +kernel) ow_Store_148 (List.mem_of_getElem? (i := 8) rfl) rfl rfl rfl rfl (by show _ ≤ C; omega) (by show _ ≤ Sl; omega) (by show _ ≤ C; omega) (by show _ ≤ Sl; omega) (Nat.le_of_ble_eq_true rfl) (Nat.le_of_ble_eq_true rfl) (by decide) rfl (by rw [← eH7]; exact ⟨rfl, rfl⟩)
