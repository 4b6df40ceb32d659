def y_Reader_readPrefab : ab_Y := (⟨"WorldEngine$Reader", "readPrefab", "()V"⟩, prog_7_method_9_code, 4, none, [])
theorem d_Reader_readPrefab_0 : decode y_Reader_readPrefab.2.1 0 = .ok (.aload_n 0, 1) := by decide +kernel
theorem d_Reader_readPrefab_1 : decode y_Reader_readPrefab.2.1 1 = .ok (.aload_n 0, 1) := by decide +kernel
theorem d_Reader_readPrefab_2 : decode y_Reader_readPrefab.2.1 2 = .ok (.getfield 22, 3) := by decide +kernel
theorem d_Reader_readPrefab_5 : decode y_Reader_readPrefab.2.1 5 = .ok (.getfield 143, 3) := by decide +kernel
theorem d_Reader_readPrefab_8 : decode y_Reader_readPrefab.2.1 8 = .ok (.bipush 16, 2) := by decide +kernel
theorem d_Reader_readPrefab_10 : decode y_Reader_readPrefab.2.1 10 = .ok (.invokevirtual 103, 3) := by decide +kernel
theorem d_Reader_readPrefab_13 : decode y_Reader_readPrefab.2.1 13 = .ok (.aload_n 0, 1) := by decide +kernel
theorem d_Reader_readPrefab_14 : decode y_Reader_readPrefab.2.1 14 = .ok (.getfield 22, 3) := by decide +kernel
theorem d_Reader_readPrefab_17 : decode y_Reader_readPrefab.2.1 17 = .ok (.getfield 143, 3) := by decide +kernel
theorem d_Reader_readPrefab_20 : decode y_Reader_readPrefab.2.1 20 = .ok (.istore_n 1, 1) := by decide +kernel
theorem d_Reader_readPrefab_21 : decode y_Reader_readPrefab.2.1 21 = .ok (.aload_n 0, 1) := by decide +kernel
theorem d_Reader_readPrefab_22 : decode y_Reader_readPrefab.2.1 22 = .ok (.iconst 2, 1) := by decide +kernel
theorem d_Reader_readPrefab_23 : decode y_Reader_readPrefab.2.1 23 = .ok (.iload_n 1, 1) := by decide +kernel
theorem d_Reader_readPrefab_24 : decode y_Reader_readPrefab.2.1 24 = .ok (.invokevirtual 106, 3) := by decide +kernel
theorem d_Reader_readPrefab_27 : decode y_Reader_readPrefab.2.1 27 = .ok (.pop, 1) := by decide +kernel
theorem d_Reader_readPrefab_28 : decode y_Reader_readPrefab.2.1 28 = .ok (.aload_n 0, 1) := by decide +kernel
theorem d_Reader_readPrefab_29 : decode y_Reader_readPrefab.2.1 29 = .ok (.getfield 22, 3) := by decide +kernel
theorem d_Reader_readPrefab_32 : decode y_Reader_readPrefab.2.1 32 = .ok (.iload_n 1, 1) := by decide +kernel
theorem d_Reader_readPrefab_33 : decode y_Reader_readPrefab.2.1 33 = .ok (.iconst 1, 1) := by decide +kernel
theorem d_Reader_readPrefab_34 : decode y_Reader_readPrefab.2.1 34 = .ok (.iadd, 1) := by decide +kernel
theorem d_Reader_readPrefab_35 : decode y_Reader_readPrefab.2.1 35 = .ok (.putfield 143, 3) := by decide +kernel
theorem d_Reader_readPrefab_38 : decode y_Reader_readPrefab.2.1 38 = .ok (.aload_n 0, 1) := by decide +kernel
theorem d_Reader_readPrefab_39 : decode y_Reader_readPrefab.2.1 39 = .ok (.getfield 22, 3) := by decide +kernel
theorem d_Reader_readPrefab_42 : decode y_Reader_readPrefab.2.1 42 = .ok (.getfield 146, 3) := by decide +kernel
theorem d_Reader_readPrefab_45 : decode y_Reader_readPrefab.2.1 45 = .ok (.iload_n 1, 1) := by decide +kernel
theorem d_Reader_readPrefab_46 : decode y_Reader_readPrefab.2.1 46 = .ok (.iconst 0, 1) := by decide +kernel
theorem d_Reader_readPrefab_47 : decode y_Reader_readPrefab.2.1 47 = .ok (.iastore, 1) := by decide +kernel
theorem d_Reader_readPrefab_48 : decode y_Reader_readPrefab.2.1 48 = .ok (.aload_n 0, 1) := by decide +kernel
theorem d_Reader_readPrefab_49 : decode y_Reader_readPrefab.2.1 49 = .ok (.getfield 22, 3) := by decide +kernel
theorem d_Reader_readPrefab_52 : decode y_Reader_readPrefab.2.1 52 = .ok (.getfield 94, 3) := by decide +kernel
theorem d_Reader_readPrefab_55 : decode y_Reader_readPrefab.2.1 55 = .ok (.invokevirtual 127, 3) := by decide +kernel
theorem d_Reader_readPrefab_58 : decode y_Reader_readPrefab.2.1 58 = .ok (.istore_n 2, 1) := by decide +kernel
theorem d_Reader_readPrefab_59 : decode y_Reader_readPrefab.2.1 59 = .ok (.iconst 0, 1) := by decide +kernel
theorem d_Reader_readPrefab_60 : decode y_Reader_readPrefab.2.1 60 = .ok (.istore_n 3, 1) := by decide +kernel
theorem d_Reader_readPrefab_61 : decode y_Reader_readPrefab.2.1 61 = .ok (.iload_n 3, 1) := by decide +kernel
theorem d_Reader_readPrefab_62 : decode y_Reader_readPrefab.2.1 62 = .ok (.iload_n 2, 1) := by decide +kernel
theorem d_Reader_readPrefab_63 : decode y_Reader_readPrefab.2.1 63 = .ok (.if_icmp .ge 31, 3) := by decide +kernel
theorem d_Reader_readPrefab_66 : decode y_Reader_readPrefab.2.1 66 = .ok (.aload_n 0, 1) := by decide +kernel
theorem d_Reader_readPrefab_67 : decode y_Reader_readPrefab.2.1 67 = .ok (.getfield 22, 3) := by decide +kernel
theorem d_Reader_readPrefab_70 : decode y_Reader_readPrefab.2.1 70 = .ok (.getfield 150, 3) := by decide +kernel
theorem d_Reader_readPrefab_73 : decode y_Reader_readPrefab.2.1 73 = .ok (.iload_n 1, 1) := by decide +kernel
theorem d_Reader_readPrefab_74 : decode y_Reader_readPrefab.2.1 74 = .ok (.bipush 48, 2) := by decide +kernel
theorem d_Reader_readPrefab_76 : decode y_Reader_readPrefab.2.1 76 = .ok (.imul, 1) := by decide +kernel
theorem d_Reader_readPrefab_77 : decode y_Reader_readPrefab.2.1 77 = .ok (.iload_n 3, 1) := by decide +kernel
theorem d_Reader_readPrefab_78 : decode y_Reader_readPrefab.2.1 78 = .ok (.iadd, 1) := by decide +kernel
theorem d_Reader_readPrefab_79 : decode y_Reader_readPrefab.2.1 79 = .ok (.aload_n 0, 1) := by decide +kernel
theorem d_Reader_readPrefab_80 : decode y_Reader_readPrefab.2.1 80 = .ok (.getfield 22, 3) := by decide +kernel
theorem d_Reader_readPrefab_83 : decode y_Reader_readPrefab.2.1 83 = .ok (.iload_n 3, 1) := by decide +kernel
theorem d_Reader_readPrefab_84 : decode y_Reader_readPrefab.2.1 84 = .ok (.invokevirtual 153, 3) := by decide +kernel
theorem d_Reader_readPrefab_87 : decode y_Reader_readPrefab.2.1 87 = .ok (.iastore, 1) := by decide +kernel
theorem d_Reader_readPrefab_88 : decode y_Reader_readPrefab.2.1 88 = .ok (.iinc 3 1, 3) := by decide +kernel
theorem d_Reader_readPrefab_91 : decode y_Reader_readPrefab.2.1 91 = .ok (.goto (-30), 3) := by decide +kernel
theorem d_Reader_readPrefab_94 : decode y_Reader_readPrefab.2.1 94 = .ok (.aload_n 0, 1) := by decide +kernel
theorem d_Reader_readPrefab_95 : decode y_Reader_readPrefab.2.1 95 = .ok (.getfield 7, 3) := by decide +kernel
theorem d_Reader_readPrefab_98 : decode y_Reader_readPrefab.2.1 98 = .ok (.bipush 10, 2) := by decide +kernel
theorem d_Reader_readPrefab_100 : decode y_Reader_readPrefab.2.1 100 = .ok (.invokevirtual 113, 3) := by decide +kernel
theorem d_Reader_readPrefab_103 : decode y_Reader_readPrefab.2.1 103 = .ok (.iconst 0, 1) := by decide +kernel
theorem d_Reader_readPrefab_104 : decode y_Reader_readPrefab.2.1 104 = .ok (.istore_n 3, 1) := by decide +kernel
theorem d_Reader_readPrefab_105 : decode y_Reader_readPrefab.2.1 105 = .ok (.iload_n 3, 1) := by decide +kernel
theorem d_Reader_readPrefab_106 : decode y_Reader_readPrefab.2.1 106 = .ok (.bipush 8, 2) := by decide +kernel
theorem d_Reader_readPrefab_108 : decode y_Reader_readPrefab.2.1 108 = .ok (.if_icmp .gt 35, 3) := by decide +kernel
theorem d_Reader_readPrefab_111 : decode y_Reader_readPrefab.2.1 111 = .ok (.aload_n 0, 1) := by decide +kernel
theorem d_Reader_readPrefab_112 : decode y_Reader_readPrefab.2.1 112 = .ok (.getfield 7, 3) := by decide +kernel
theorem d_Reader_readPrefab_115 : decode y_Reader_readPrefab.2.1 115 = .ok (.getfield 36, 3) := by decide +kernel
theorem d_Reader_readPrefab_118 : decode y_Reader_readPrefab.2.1 118 = .ok (.bipush 11, 2) := by decide +kernel
theorem d_Reader_readPrefab_120 : decode y_Reader_readPrefab.2.1 120 = .ok (.if_icmp .eq 23, 3) := by decide +kernel
theorem d_Reader_readPrefab_123 : decode y_Reader_readPrefab.2.1 123 = .ok (.aload_n 0, 1) := by decide +kernel
theorem d_Reader_readPrefab_124 : decode y_Reader_readPrefab.2.1 124 = .ok (.iload_n 1, 1) := by decide +kernel
theorem d_Reader_readPrefab_125 : decode y_Reader_readPrefab.2.1 125 = .ok (.invokevirtual 156, 3) := by decide +kernel
theorem d_Reader_readPrefab_128 : decode y_Reader_readPrefab.2.1 128 = .ok (.aload_n 0, 1) := by decide +kernel
theorem d_Reader_readPrefab_129 : decode y_Reader_readPrefab.2.1 129 = .ok (.getfield 7, 3) := by decide +kernel
theorem d_Reader_readPrefab_132 : decode y_Reader_readPrefab.2.1 132 = .ok (.bipush 15, 2) := by decide +kernel
theorem d_Reader_readPrefab_134 : decode y_Reader_readPrefab.2.1 134 = .ok (.invokevirtual 113, 3) := by decide +kernel
theorem d_Reader_readPrefab_137 : decode y_Reader_readPrefab.2.1 137 = .ok (.iinc 3 1, 3) := by decide +kernel
theorem d_Reader_readPrefab_140 : decode y_Reader_readPrefab.2.1 140 = .ok (.goto (-35), 3) := by decide +kernel
theorem d_Reader_readPrefab_143 : decode y_Reader_readPrefab.2.1 143 = .ok (.aload_n 0, 1) := by decide +kernel
theorem d_Reader_readPrefab_144 : decode y_Reader_readPrefab.2.1 144 = .ok (.getfield 7, 3) := by decide +kernel
theorem d_Reader_readPrefab_147 : decode y_Reader_readPrefab.2.1 147 = .ok (.bipush 11, 2) := by decide +kernel
theorem d_Reader_readPrefab_149 : decode y_Reader_readPrefab.2.1 149 = .ok (.invokevirtual 113, 3) := by decide +kernel
theorem d_Reader_readPrefab_152 : decode y_Reader_readPrefab.2.1 152 = .ok (.return_, 1) := by decide +kernel
theorem s_Reader_readPrefab : ab_Stat y_Reader_readPrefab 0 := ⟨(k5 58 rfl rfl), (k1 7 rfl rfl), ⟨by decide, by decide⟩, by decide +kernel⟩
theorem i_Reader_readPrefab : Cond.instanceMethod y_Reader_readPrefab.1 ∈ ab_T := (k5 57 rfl rfl)
theorem v_Reader_readPrefab : Cond.selects "WorldEngine$Reader" y_Reader_readPrefab.1 y_Reader_readPrefab.1 ∈ ab_T := ab_s (List.mem_of_getElem? (i := 14) rfl) rfl
def B_Reader_readPrefab_143 (N : Nat) (p0 : Nat)  (H : Hp) : Option ((Ot Unit) × Hp) :=
    ck (H.sh[p0]? = some (5, 0)) <|
    rf (H.P p0 0) fun a52 =>
    ck (H.sh[a52]? = some (1, 0)) <|
    bT (F_Lexer_take N a52 (11 : Int32) H) fun v56 H57 =>
    some (.inl (), H57)
set_option maxRecDepth 20000 in
set_option maxHeartbeats 2000000 in
theorem mB_Reader_readPrefab_143 {N : Nat} {p0 : Nat}  {H : Hp} {r : (Ot Unit) × Hp} (hF : B_Reader_readPrefab_143 N p0  H = some r) : Mo H r.2 := by
  unfold B_Reader_readPrefab_143 at hF
  have hm := Mo.rf H
  obtain ⟨q59, hG⟩ := ck_s hF; clear hF
  obtain ⟨a60, e61, hF⟩ := rf_s hG; clear hG
  obtain ⟨q62, hG⟩ := ck_s hF; clear hF
  refine bT_c hG (fun x66 H65 z63 er => ?_) (fun v64 H65 z63 hF => ?_)
  · subst er; exact hm.tr (m_Lexer_take z63)
  clear hG
  replace hm : Mo H H65 := hm.tr (m_Lexer_take z63)
  have hr := Option.some.inj hF; subst hr
  exact hm
set_option maxRecDepth 20000 in
set_option maxHeartbeats 2000000 in
theorem kB_Reader_readPrefab_143 {N : Nat} {p0 : Nat} {c0 s0 C Sl : Nat}  {H : Hp} {r : (Ot Unit) × Hp} (hF : B_Reader_readPrefab_143 N p0  H = some r) (hc0 : c0 ≤ H.sh.length) (hs0 : s0 ≤ H.sl) (hcc : H.sh.length ≤ c0 + C) (hss : H.sl ≤ s0 + Sl) (hC : r.2.sh.length ≤ c0 + C) (hS : r.2.sl ≤ s0 + Sl) : ab_V y_Reader_readPrefab { frames := 11, cells := C, slots := Sl, locals := 223 } (po (oV r.1) r.2) C Sl (H.sh.length - c0) (H.sl - s0) 143 [some (.ref p0), none, none, none] [] (hpw H) := by
  unfold B_Reader_readPrefab_143 at hF
  refine ab_aload_n d_Reader_readPrefab_143 rfl rfl rfl ?_
  obtain ⟨q51, hG⟩ := ck_s hF; clear hF
  obtain ⟨a52, e53, hF⟩ := rf_s hG; clear hG
  refine hp_getR (f := 0) d_Reader_readPrefab_144 q51 (by decide) rfl (by decide) (k1 179 rfl rfl) rfl e53 ?_
  refine ab_bipush (v := 11) d_Reader_readPrefab_147 (by decide) ?_
  obtain ⟨q54, hG⟩ := ck_s hF; clear hF
  refine bT_c hG (fun x58 H57 z55 er => ?_) (fun v56 H57 z55 hF => ?_)
  · subst er
    have mz : Mo H H57 := (m_Lexer_take z55)
    have ml := mz.len
    have m2 := mz.2
    have hC9 : H57.sh.length ≤ c0 + C := hC
    have hS9 : H57.sl ≤ s0 + Sl := hS
    refine hp_callV_t (x := x58) (H1 := H57) (As := [.int 11]) (rest := []) d_Reader_readPrefab_149 (k_Lexer_take z55 (C := H57.sh.length - H.sh.length) (Sl := H57.sl - H.sl) (by show H57.sh.length ≤ _; omega) (by show H57.sl ≤ _; omega)) (ab_mkC s_Lexer_take (Nat.le_of_ble_eq_true rfl) (Nat.le_of_ble_eq_true rfl) (show (H.sh.length - c0) + (H57.sh.length - H.sh.length) ≤ C from by omega) (show (H.sl - s0) + (H57.sl - H.sl) ≤ Sl from by omega)) (k5 24 rfl rfl) i_Lexer_take v_Lexer_take q54 (by decide) rfl rfl (Nat.le_of_ble_eq_true rfl) ?_
    exact ab_U_out rfl (by show _ + (H57.sh.length - H.sh.length) ≤ C; omega) (by show _ + (H57.sl - H.sl) ≤ Sl; omega) ⟨rfl, rfl⟩
  clear hG
  have mz_15 : Mo H H57 := (m_Lexer_take z55)
  have b_16l := (mz_15).len
  have b_16s := (mz_15).2
  have b_16c : c0 ≤ H57.sh.length := by omega
  have b_16d : s0 ≤ H57.sl := by omega
  have q_17 := (mz_15).get q51
  have q_18 := (mz_15).get q54
  have fH57 : Mo H57 r.2 := by
    have hm := Mo.rf H57
    have hr := Option.some.inj hF; subst hr
    exact hm
  have b_16m := (fH57).len
  have b_16n := (fH57).2
  have b_16p : H57.sh.length ≤ c0 + C := by omega
  have b_16q : H57.sl ≤ s0 + Sl := by omega
  refine hp_callV_v (H1 := H57) (As := [.int 11]) (rest := []) d_Reader_readPrefab_149 (k_Lexer_take z55 (C := H57.sh.length - H.sh.length) (Sl := H57.sl - H.sl) (by show H57.sh.length ≤ _; omega) (by show H57.sl ≤ _; omega)) (ab_mkC s_Lexer_take (Nat.le_of_ble_eq_true rfl) (Nat.le_of_ble_eq_true rfl) (show (H.sh.length - c0) + (H57.sh.length - H.sh.length) ≤ C from by omega) (show (H.sl - s0) + (H57.sl - H.sl) ≤ Sl from by omega)) (k5 24 rfl rfl) i_Lexer_take v_Lexer_take q54 (by decide) rfl rfl (Nat.le_of_ble_eq_true rfl) ?_
  refine ab_widen (cells' := H57.sh.length - c0) (slots' := H57.sl - s0) (by show _ + (H57.sh.length - H.sh.length) ≤ _; omega) (by show _ + (H57.sl - H.sl) ≤ _; omega) ?_
  clear b_16l b_16s b_16m b_16n
  exact ab_vret d_Reader_readPrefab_152 rfl (by show _ ≤ C; omega) (by show _ ≤ Sl; omega) (by have hr := Option.some.inj hF; subst hr; exact ⟨rfl, rfl⟩)
def B_Reader_readPrefab_105 (N : Nat) (p0 : Nat) : Nat → Int32 → Int32 → Hp → Option ((Ot Unit) × Hp)
  | 0, _, _, _ => none
  | n + 1, l1, l3, H =>
    if (8 : Int32) < l3 then
    B_Reader_readPrefab_143 N p0  H
    else
    ck (H.sh[p0]? = some (5, 0)) <|
    rf (H.P p0 0) fun a68 =>
    ck (H.sh[a68]? = some (1, 0)) <|
    bnd ((H.D a68 2)) fun x71 =>
    if x71 = (11 : Int32) then
    B_Reader_readPrefab_143 N p0  H
    else
    bT (F_Reader_readPart N p0 l1 H) fun v74 H75 =>
    rf (H75.P p0 0) fun a77 =>
    ck (H75.sh[a77]? = some (1, 0)) <|
    bT (F_Lexer_take N a77 (15 : Int32) H75) fun v81 H82 =>
    B_Reader_readPrefab_105 N p0 n l1 (l3 + 1) H82
termination_by structural n => n
set_option maxRecDepth 20000 in
set_option maxHeartbeats 2000000 in
theorem mB_Reader_readPrefab_105 {N : Nat} {p0 : Nat} : ∀ (n : Nat) (l1 : Int32) (l3 : Int32) (H : Hp) (r : (Ot Unit) × Hp), B_Reader_readPrefab_105 N p0 n l1 l3 H = some r → Mo H r.2 := by
  intro n
  induction n with
  | zero => intro l1 l3 H r hF; rw [B_Reader_readPrefab_105] at hF; cases hF
  | succ n ih =>
    intro l1 l3 H r hF
    rw [B_Reader_readPrefab_105] at hF
    have hm := Mo.rf H
    rcases ite_s hF with ⟨q_35, hG⟩ | ⟨q_35, hG⟩
    · clear hF
      exact hm.tr (mB_Reader_readPrefab_143 hG)
    · clear hF
      obtain ⟨q85, hF⟩ := ck_s hG; clear hG
      obtain ⟨a86, e87, hG⟩ := rf_s hF; clear hF
      obtain ⟨q88, hF⟩ := ck_s hG; clear hG
      obtain ⟨x89, -, hG⟩ := bnd_g hF; clear hF
      rcases ite_s hG with ⟨q_36, hF⟩ | ⟨q_36, hF⟩
      · clear hG
        exact hm.tr (mB_Reader_readPrefab_143 hF)
      · clear hG
        refine bT_c hF (fun x94 H93 z91 er => ?_) (fun v92 H93 z91 hG => ?_)
        · subst er; exact hm.tr (m_Reader_readPart z91)
        clear hF
        replace hm : Mo H H93 := hm.tr (m_Reader_readPart z91)
        obtain ⟨a95, e96, hF⟩ := rf_s hG; clear hG
        obtain ⟨q97, hG⟩ := ck_s hF; clear hF
        refine bT_c hG (fun x101 H100 z98 er => ?_) (fun v99 H100 z98 hF => ?_)
        · subst er; exact hm.tr (m_Lexer_take z98)
        clear hG
        replace hm : Mo H H100 := hm.tr (m_Lexer_take z98)
        exact hm.tr (ih l1 (l3 + 1) H100 r hF)
set_option maxRecDepth 20000 in
set_option maxHeartbeats 2000000 in
theorem kB_Reader_readPrefab_105 {N : Nat} {p0 : Nat} {c0 s0 C Sl : Nat} : ∀ (n : Nat) (l1 : Int32) (l3 : Int32) (H : Hp) (r : (Ot Unit) × Hp), B_Reader_readPrefab_105 N p0 n l1 l3 H = some r → c0 ≤ H.sh.length → s0 ≤ H.sl → H.sh.length ≤ c0 + C → H.sl ≤ s0 + Sl → r.2.sh.length ≤ c0 + C → r.2.sl ≤ s0 + Sl → ab_V y_Reader_readPrefab { frames := 11, cells := C, slots := Sl, locals := 223 } (po (oV r.1) r.2) C Sl (H.sh.length - c0) (H.sl - s0) 105 [some (.ref p0), some (.int l1), none, some (.int l3)] [] (hpw H) := by
  intro n
  induction n with
  | zero => intro l1 l3 H r hF; rw [B_Reader_readPrefab_105] at hF; cases hF
  | succ n ih =>
    intro l1 l3 H r hF hc0 hs0 hcc hss hC hS
    rw [B_Reader_readPrefab_105] at hF
    refine ab_iload_n d_Reader_readPrefab_105 rfl rfl ?_
    refine ab_bipush (v := 8) d_Reader_readPrefab_106 (by decide) ?_
    refine ab_icmp_gt (tgt := 143) d_Reader_readPrefab_108 (by decide) (fun q50 => ?_) (fun q50 => ?_)
    · rw [if_pos q50] at hF
      refine ab_le (lv' := [some (.ref p0), none, none, none]) ⟨rfl, trivial⟩ ?_
      exact kB_Reader_readPrefab_143 hF hc0 hs0 hcc hss hC hS
    · rw [if_neg q50] at hF
      refine ab_aload_n d_Reader_readPrefab_111 rfl rfl rfl ?_
      obtain ⟨q67, hG⟩ := ck_s hF; clear hF
      obtain ⟨a68, e69, hF⟩ := rf_s hG; clear hG
      refine hp_getR (f := 0) d_Reader_readPrefab_112 q67 (by decide) rfl (by decide) (k1 179 rfl rfl) rfl e69 ?_
      obtain ⟨q70, hG⟩ := ck_s hF; clear hF
      refine hp_getI (f := 2) d_Reader_readPrefab_115 q70 (by decide) rfl (by decide) (k1 98 rfl rfl) rfl ?_
      refine ab_topi (fun x71 ex71 => ?_)
      replace hG := bnd_s ex71 hG
      refine ab_bipush (v := 11) d_Reader_readPrefab_118 (by decide) ?_
      refine ab_icmp_eq (tgt := 143) d_Reader_readPrefab_120 (by decide) (fun q72 => ?_) (fun q72 => ?_)
      · rw [if_pos q72] at hG
        refine ab_le (lv' := [some (.ref p0), none, none, none]) ⟨rfl, trivial⟩ ?_
        exact kB_Reader_readPrefab_143 hG hc0 hs0 hcc hss hC hS
      · rw [if_neg q72] at hG
        refine ab_aload_n d_Reader_readPrefab_123 rfl rfl rfl ?_
        refine ab_iload_n d_Reader_readPrefab_124 rfl rfl ?_
        refine bT_c hG (fun x76 H75 z73 er => ?_) (fun v74 H75 z73 hF => ?_)
        · subst er
          have mz : Mo H H75 := (m_Reader_readPart z73)
          have ml := mz.len
          have m2 := mz.2
          have hC9 : H75.sh.length ≤ c0 + C := hC
          have hS9 : H75.sl ≤ s0 + Sl := hS
          refine hp_callV_t (x := x76) (H1 := H75) (As := [.int l1]) (rest := []) d_Reader_readPrefab_125 (k_Reader_readPart z73 (C := H75.sh.length - H.sh.length) (Sl := H75.sl - H.sl) (by show H75.sh.length ≤ _; omega) (by show H75.sl ≤ _; omega)) (ab_mkC s_Reader_readPart (Nat.le_of_ble_eq_true rfl) (Nat.le_of_ble_eq_true rfl) (show (H.sh.length - c0) + (H75.sh.length - H.sh.length) ≤ C from by omega) (show (H.sl - s0) + (H75.sl - H.sl) ≤ Sl from by omega)) (k5 63 rfl rfl) i_Reader_readPart v_Reader_readPart q67 (by decide) rfl rfl (Nat.le_of_ble_eq_true rfl) ?_
          exact ab_U_out rfl (by show _ + (H75.sh.length - H.sh.length) ≤ C; omega) (by show _ + (H75.sl - H.sl) ≤ Sl; omega) ⟨rfl, rfl⟩
        clear hG
        have mz_22 : Mo H H75 := (m_Reader_readPart z73)
        have b_23l := (mz_22).len
        have b_23s := (mz_22).2
        have b_23c : c0 ≤ H75.sh.length := by omega
        have b_23d : s0 ≤ H75.sl := by omega
        have q_24 := (mz_22).get q67
        have q_25 := (mz_22).get q70
        obtain ⟨a77, e78, hG⟩ := rf_s hF; clear hF
        have fH75 : Mo H75 r.2 := by
          have hm := Mo.rf H75
          obtain ⟨q79, hF⟩ := ck_s hG; clear hG
          refine bT_c hF (fun x83 H82 z80 er => ?_) (fun v81 H82 z80 hG => ?_)
          · subst er; exact hm.tr (m_Lexer_take z80)
          clear hF
          replace hm : Mo H75 H82 := hm.tr (m_Lexer_take z80)
          exact hm.tr (mB_Reader_readPrefab_105 n l1 (l3 + 1) H82 r hG)
        have b_23m := (fH75).len
        have b_23n := (fH75).2
        have b_23p : H75.sh.length ≤ c0 + C := by omega
        have b_23q : H75.sl ≤ s0 + Sl := by omega
        refine hp_callV_v (H1 := H75) (As := [.int l1]) (rest := []) d_Reader_readPrefab_125 (k_Reader_readPart z73 (C := H75.sh.length - H.sh.length) (Sl := H75.sl - H.sl) (by show H75.sh.length ≤ _; omega) (by show H75.sl ≤ _; omega)) (ab_mkC s_Reader_readPart (Nat.le_of_ble_eq_true rfl) (Nat.le_of_ble_eq_true rfl) (show (H.sh.length - c0) + (H75.sh.length - H.sh.length) ≤ C from by omega) (show (H.sl - s0) + (H75.sl - H.sl) ≤ Sl from by omega)) (k5 63 rfl rfl) i_Reader_readPart v_Reader_readPart q67 (by decide) rfl rfl (Nat.le_of_ble_eq_true rfl) ?_
        refine ab_widen (cells' := H75.sh.length - c0) (slots' := H75.sl - s0) (by show _ + (H75.sh.length - H.sh.length) ≤ _; omega) (by show _ + (H75.sl - H.sl) ≤ _; omega) ?_
        clear b_23l b_23s b_23m b_23n
        refine ab_aload_n d_Reader_readPrefab_128 rfl rfl rfl ?_
        refine hp_getR (f := 0) d_Reader_readPrefab_129 q_24 (by decide) rfl (by decide) (k1 179 rfl rfl) rfl e78 ?_
        refine ab_bipush (v := 15) d_Reader_readPrefab_132 (by decide) ?_
        obtain ⟨q79, hF⟩ := ck_s hG; clear hG
        refine bT_c hF (fun x83 H82 z80 er => ?_) (fun v81 H82 z80 hG => ?_)
        · subst er
          have mz : Mo H75 H82 := (m_Lexer_take z80)
          have ml := mz.len
          have m2 := mz.2
          have hC9 : H82.sh.length ≤ c0 + C := hC
          have hS9 : H82.sl ≤ s0 + Sl := hS
          refine hp_callV_t (x := x83) (H1 := H82) (As := [.int 15]) (rest := []) d_Reader_readPrefab_134 (k_Lexer_take z80 (C := H82.sh.length - H75.sh.length) (Sl := H82.sl - H75.sl) (by show H82.sh.length ≤ _; omega) (by show H82.sl ≤ _; omega)) (ab_mkC s_Lexer_take (Nat.le_of_ble_eq_true rfl) (Nat.le_of_ble_eq_true rfl) (show (H75.sh.length - c0) + (H82.sh.length - H75.sh.length) ≤ C from by omega) (show (H75.sl - s0) + (H82.sl - H75.sl) ≤ Sl from by omega)) (k5 24 rfl rfl) i_Lexer_take v_Lexer_take q79 (by decide) rfl rfl (Nat.le_of_ble_eq_true rfl) ?_
          exact ab_U_out rfl (by show _ + (H82.sh.length - H75.sh.length) ≤ C; omega) (by show _ + (H82.sl - H75.sl) ≤ Sl; omega) ⟨rfl, rfl⟩
        clear hF
        have mz_30 : Mo H75 H82 := (m_Lexer_take z80)
        have b_31l := (mz_30).len
        have b_31s := (mz_30).2
        have b_31c : c0 ≤ H82.sh.length := by omega
        have b_31d : s0 ≤ H82.sl := by omega
        have q_32 := (mz_30).get q_24
        have q_33 := (mz_30).get q_25
        have q_34 := (mz_30).get q79
        have fH82 : Mo H82 r.2 := by
          have hm := Mo.rf H82
          exact hm.tr (mB_Reader_readPrefab_105 n l1 (l3 + 1) H82 r hG)
        have b_31m := (fH82).len
        have b_31n := (fH82).2
        have b_31p : H82.sh.length ≤ c0 + C := by omega
        have b_31q : H82.sl ≤ s0 + Sl := by omega
        refine hp_callV_v (H1 := H82) (As := [.int 15]) (rest := []) d_Reader_readPrefab_134 (k_Lexer_take z80 (C := H82.sh.length - H75.sh.length) (Sl := H82.sl - H75.sl) (by show H82.sh.length ≤ _; omega) (by show H82.sl ≤ _; omega)) (ab_mkC s_Lexer_take (Nat.le_of_ble_eq_true rfl) (Nat.le_of_ble_eq_true rfl) (show (H75.sh.length - c0) + (H82.sh.length - H75.sh.length) ≤ C from by omega) (show (H75.sl - s0) + (H82.sl - H75.sl) ≤ Sl from by omega)) (k5 24 rfl rfl) i_Lexer_take v_Lexer_take q79 (by decide) rfl rfl (Nat.le_of_ble_eq_true rfl) ?_
        refine ab_widen (cells' := H82.sh.length - c0) (slots' := H82.sl - s0) (by show _ + (H82.sh.length - H75.sh.length) ≤ _; omega) (by show _ + (H82.sl - H75.sl) ≤ _; omega) ?_
        clear b_31l b_31s b_31m b_31n b_23c b_23d b_23p b_23q
        refine ab_iinc (v := l3 + 1) (lv' := [some (.ref p0), some (.int l1), none, some (.int (l3 + 1))]) d_Reader_readPrefab_137 rfl rfl (by decide) rfl ?_
        refine ab_goto (tgt := 105) d_Reader_readPrefab_140 (by decide) ?_
        exact ih l1 (l3 + 1) H82 r hG b_31c b_31d b_31p b_31q hC hS
def B_Reader_readPrefab_61 (N : Nat) (p0 : Nat) : Nat → Int32 → Int32 → Int32 → Hp → Option ((Ot Unit) × Hp)
  | 0, _, _, _, _ => none
  | n + 1, l1, l2, l3, H =>
    if l2 ≤ l3 then
    ck (H.sh[p0]? = some (5, 0)) <|
    rf (H.P p0 0) fun a43 =>
    ck (H.sh[a43]? = some (1, 0)) <|
    bT (F_Lexer_take N a43 (10 : Int32) H) fun v47 H48 =>
    B_Reader_readPrefab_105 N p0 N l1 0 H48
    else
    ck (H.sh[p0]? = some (5, 0)) <|
    rf (H.P p0 2) fun a51 =>
    ck (H.sh[a51]? = some (4, 0)) <|
    rf (H.P a51 6) fun a54 =>
    rf (H.P p0 2) fun a56 =>
    ck (H.sh[a56]? = some (4, 0)) <|
    bC (F_Program_firstValue N a56 l3 H) fun v60 H61 =>
    ar H61 100 a54 fun n62 =>
    ck (inb ((l1 * (48 : Int32)) + l3) n62) <|
    bnd (H61.sD a54 (((l1 * (48 : Int32)) + l3)).toNatClampNeg v60) fun H65 =>
    B_Reader_readPrefab_61 N p0 n l1 l2 (l3 + 1) H65
termination_by structural n => n
set_option maxRecDepth 20000 in
set_option maxHeartbeats 2000000 in
theorem mB_Reader_readPrefab_61 {N : Nat} {p0 : Nat} : ∀ (n : Nat) (l1 : Int32) (l2 : Int32) (l3 : Int32) (H : Hp) (r : (Ot Unit) × Hp), B_Reader_readPrefab_61 N p0 n l1 l2 l3 H = some r → Mo H r.2 := by
  intro n
  induction n with
  | zero => intro l1 l2 l3 H r hF; rw [B_Reader_readPrefab_61] at hF; cases hF
  | succ n ih =>
    intro l1 l2 l3 H r hF
    rw [B_Reader_readPrefab_61] at hF
    have hm := Mo.rf H
    rcases ite_s hF with ⟨q_47, hG⟩ | ⟨q_47, hG⟩
    · clear hF
      obtain ⟨q67, hF⟩ := ck_s hG; clear hG
      obtain ⟨a68, e69, hG⟩ := rf_s hF; clear hF
      obtain ⟨q70, hF⟩ := ck_s hG; clear hG
      refine bT_c hF (fun x74 H73 z71 er => ?_) (fun v72 H73 z71 hG => ?_)
      · subst er; exact hm.tr (m_Lexer_take z71)
      clear hF
      replace hm : Mo H H73 := hm.tr (m_Lexer_take z71)
      exact hm.tr (mB_Reader_readPrefab_105 N l1 0 H73 r hG)
    · clear hF
      obtain ⟨q75, hF⟩ := ck_s hG; clear hG
      obtain ⟨a76, e77, hG⟩ := rf_s hF; clear hF
      obtain ⟨q78, hF⟩ := ck_s hG; clear hG
      obtain ⟨a79, e80, hG⟩ := rf_s hF; clear hF
      obtain ⟨a81, e82, hF⟩ := rf_s hG; clear hG
      obtain ⟨q83, hG⟩ := ck_s hF; clear hF
      obtain ⟨v85, H86, z84, hF⟩ := bC_s hG; clear hG
      replace hm : Mo H H86 := hm.tr ((m_Program_firstValue z84)).mo
      obtain ⟨n87, q88, hG⟩ := ar_s hF; clear hF
      obtain ⟨q89, hF⟩ := ck_s hG; clear hG
      obtain ⟨H90, eH90, hG⟩ := bnd_g hF; clear hF
      replace hm : Mo H H90 := by rw [eH90]; exact hm
      exact hm.tr (ih l1 l2 (l3 + 1) H90 r hG)
set_option maxRecDepth 20000 in
set_option maxHeartbeats 2000000 in
theorem kB_Reader_readPrefab_61 {N : Nat} {p0 : Nat} {c0 s0 C Sl : Nat} : ∀ (n : Nat) (l1 : Int32) (l2 : Int32) (l3 : Int32) (H : Hp) (r : (Ot Unit) × Hp), B_Reader_readPrefab_61 N p0 n l1 l2 l3 H = some r → c0 ≤ H.sh.length → s0 ≤ H.sl → H.sh.length ≤ c0 + C → H.sl ≤ s0 + Sl → r.2.sh.length ≤ c0 + C → r.2.sl ≤ s0 + Sl → ab_V y_Reader_readPrefab { frames := 11, cells := C, slots := Sl, locals := 223 } (po (oV r.1) r.2) C Sl (H.sh.length - c0) (H.sl - s0) 61 [some (.ref p0), some (.int l1), some (.int l2), some (.int l3)] [] (hpw H) := by
  intro n
  induction n with
  | zero => intro l1 l2 l3 H r hF; rw [B_Reader_readPrefab_61] at hF; cases hF
  | succ n ih =>
    intro l1 l2 l3 H r hF hc0 hs0 hcc hss hC hS
    rw [B_Reader_readPrefab_61] at hF
    refine ab_iload_n d_Reader_readPrefab_61 rfl rfl ?_
    refine ab_iload_n d_Reader_readPrefab_62 rfl rfl ?_
    refine ab_icmp_ge (tgt := 94) d_Reader_readPrefab_63 (by decide) (fun q41 => ?_) (fun q41 => ?_)
    · rw [if_pos q41] at hF
      refine ab_aload_n d_Reader_readPrefab_94 rfl rfl rfl ?_
      obtain ⟨q42, hG⟩ := ck_s hF; clear hF
      obtain ⟨a43, e44, hF⟩ := rf_s hG; clear hG
      refine hp_getR (f := 0) d_Reader_readPrefab_95 q42 (by decide) rfl (by decide) (k1 179 rfl rfl) rfl e44 ?_
      refine ab_bipush (v := 10) d_Reader_readPrefab_98 (by decide) ?_
      obtain ⟨q45, hG⟩ := ck_s hF; clear hF
      refine bT_c hG (fun x49 H48 z46 er => ?_) (fun v47 H48 z46 hF => ?_)
      · subst er
        have mz : Mo H H48 := (m_Lexer_take z46)
        have ml := mz.len
        have m2 := mz.2
        have hC9 : H48.sh.length ≤ c0 + C := hC
        have hS9 : H48.sl ≤ s0 + Sl := hS
        refine hp_callV_t (x := x49) (H1 := H48) (As := [.int 10]) (rest := []) d_Reader_readPrefab_100 (k_Lexer_take z46 (C := H48.sh.length - H.sh.length) (Sl := H48.sl - H.sl) (by show H48.sh.length ≤ _; omega) (by show H48.sl ≤ _; omega)) (ab_mkC s_Lexer_take (Nat.le_of_ble_eq_true rfl) (Nat.le_of_ble_eq_true rfl) (show (H.sh.length - c0) + (H48.sh.length - H.sh.length) ≤ C from by omega) (show (H.sl - s0) + (H48.sl - H.sl) ≤ Sl from by omega)) (k5 24 rfl rfl) i_Lexer_take v_Lexer_take q45 (by decide) rfl rfl (Nat.le_of_ble_eq_true rfl) ?_
        exact ab_U_out rfl (by show _ + (H48.sh.length - H.sh.length) ≤ C; omega) (by show _ + (H48.sl - H.sl) ≤ Sl; omega) ⟨rfl, rfl⟩
      clear hG
      have mz_11 : Mo H H48 := (m_Lexer_take z46)
      have b_12l := (mz_11).len
      have b_12s := (mz_11).2
      have b_12c : c0 ≤ H48.sh.length := by omega
      have b_12d : s0 ≤ H48.sl := by omega
      have q_13 := (mz_11).get q42
      have q_14 := (mz_11).get q45
      have fH48 : Mo H48 r.2 := by
        have hm := Mo.rf H48
        exact hm.tr (mB_Reader_readPrefab_105 N l1 0 H48 r hF)
      have b_12m := (fH48).len
      have b_12n := (fH48).2
      have b_12p : H48.sh.length ≤ c0 + C := by omega
      have b_12q : H48.sl ≤ s0 + Sl := by omega
      refine hp_callV_v (H1 := H48) (As := [.int 10]) (rest := []) d_Reader_readPrefab_100 (k_Lexer_take z46 (C := H48.sh.length - H.sh.length) (Sl := H48.sl - H.sl) (by show H48.sh.length ≤ _; omega) (by show H48.sl ≤ _; omega)) (ab_mkC s_Lexer_take (Nat.le_of_ble_eq_true rfl) (Nat.le_of_ble_eq_true rfl) (show (H.sh.length - c0) + (H48.sh.length - H.sh.length) ≤ C from by omega) (show (H.sl - s0) + (H48.sl - H.sl) ≤ Sl from by omega)) (k5 24 rfl rfl) i_Lexer_take v_Lexer_take q45 (by decide) rfl rfl (Nat.le_of_ble_eq_true rfl) ?_
      refine ab_widen (cells' := H48.sh.length - c0) (slots' := H48.sl - s0) (by show _ + (H48.sh.length - H.sh.length) ≤ _; omega) (by show _ + (H48.sl - H.sl) ≤ _; omega) ?_
      clear b_12l b_12s b_12m b_12n
      refine ab_iconst (v := 0) d_Reader_readPrefab_103 (by decide) ?_
      refine ab_istore_n (lv' := [some (.ref p0), some (.int l1), some (.int l2), some (.int 0)]) d_Reader_readPrefab_104 rfl (by decide) rfl ?_
      refine ab_le (lv' := [some (.ref p0), some (.int l1), none, some (.int 0)]) ⟨rfl, ⟨rfl, ⟨rfl, trivial⟩⟩⟩ ?_
      exact kB_Reader_readPrefab_105 N l1 0 H48 r hF b_12c b_12d b_12p b_12q hC hS
    · rw [if_neg q41] at hF
      refine ab_aload_n d_Reader_readPrefab_66 rfl rfl rfl ?_
      obtain ⟨q50, hG⟩ := ck_s hF; clear hF
      obtain ⟨a51, e52, hF⟩ := rf_s hG; clear hG
      refine hp_getR (f := 2) d_Reader_readPrefab_67 q50 (by decide) rfl (by decide) (k1 181 rfl rfl) rfl e52 ?_
      obtain ⟨q53, hG⟩ := ck_s hF; clear hF
      obtain ⟨a54, e55, hF⟩ := rf_s hG; clear hG
      refine hp_getR (f := 6) d_Reader_readPrefab_70 q53 (by decide) rfl (by decide) (k3 77 rfl rfl) rfl e55 ?_
      refine ab_iload_n d_Reader_readPrefab_73 rfl rfl ?_
      refine ab_bipush (v := 48) d_Reader_readPrefab_74 (by decide) ?_
      refine ab_imul d_Reader_readPrefab_76 ?_
      refine ab_iload_n d_Reader_readPrefab_77 rfl rfl ?_
      refine ab_iadd d_Reader_readPrefab_78 ?_
      refine ab_aload_n d_Reader_readPrefab_79 rfl rfl rfl ?_
      obtain ⟨a56, e57, hG⟩ := rf_s hF; clear hF
      refine hp_getR (f := 2) d_Reader_readPrefab_80 q50 (by decide) rfl (by decide) (k1 181 rfl rfl) rfl e57 ?_
      refine ab_iload_n d_Reader_readPrefab_83 rfl rfl ?_
      obtain ⟨q58, hF⟩ := ck_s hG; clear hG
      obtain ⟨v60, H61, z59, hG⟩ := bC_s hF; clear hF
      refine hp_callV_a (v := .int v60) (H1 := H61) (As := [.int l3]) (rest := [.int ((l1 * (48 : Int32)) + l3), .ref a54]) d_Reader_readPrefab_84 (k_Program_firstValue z59) (ab_mkC s_Program_firstValue (Nat.le_of_ble_eq_true rfl) (Nat.le_of_ble_eq_true rfl) (show (H.sh.length - c0) + 0 ≤ C from by omega) (show (H.sl - s0) + 0 ≤ Sl from by omega)) (k5 59 rfl rfl) i_Program_firstValue v_Program_firstValue q58 (by decide) rfl rfl (Nat.le_of_ble_eq_true rfl) ?_
      have s_45 : Sa H H61 := (m_Program_firstValue z59)
      refine ab_widen (cells' := H.sh.length - c0) (slots' := H.sl - s0) (by show (H.sh.length - c0) + 0 ≤ _; omega) (by show (H.sl - s0) + 0 ≤ _; omega) ?_
      obtain ⟨n62, q63, hF⟩ := ar_s hG; clear hG
      rw [(s_45).1] at q63
      obtain ⟨q64, hG⟩ := ck_s hF; clear hF
      refine hp_iast d_Reader_readPrefab_87 tI (by rw [(s_45).1]; exact q63) q64 ?_
      refine hp_gen (fun H65 eH65 => ?_)
      replace hG := bnd_s eH65 hG
      have s_46 : Sa H H65 := by rw [eH65]; exact s_45
      refine ab_iinc (v := l3 + 1) (lv' := [some (.ref p0), some (.int l1), some (.int l2), some (.int (l3 + 1))]) d_Reader_readPrefab_88 rfl rfl (by decide) rfl ?_
      refine ab_goto (tgt := 61) d_Reader_readPrefab_91 (by decide) ?_
      refine ab_widen (cells' := H65.sh.length - c0) (slots' := H65.sl - s0) (by rw [(s_46).1]; exact Nat.le_refl _) (by rw [(s_46).2]; exact Nat.le_refl _) ?_
      exact ih l1 l2 (l3 + 1) H65 r hG (by rw [(s_46).1]; exact hc0) (by rw [(s_46).2]; exact hs0) (by rw [(s_46).1]; exact hcc) (by rw [(s_46).2]; exact hss) hC hS
def F_Reader_readPrefab (N : Nat) (p0 : Nat) (H : Hp) : Option ((Ot Unit) × Hp) :=
    ck (H.sh[p0]? = some (5, 0)) <|
    rf (H.P p0 2) fun a2 =>
    ck (H.sh[a2]? = some (4, 0)) <|
    bnd ((H.D a2 4)) fun x5 =>
    bT (F_Reader_beginOne N p0 x5 (16 : Int32) H) fun v7 H8 =>
    rf (H8.P p0 2) fun a10 =>
    ck (H8.sh[a10]? = some (4, 0)) <|
    bnd ((H8.D a10 4)) fun x13 =>
    bT (F_Reader_declare N p0 (2 : Int32) x13 H8) fun v15 H16 =>
    on v15 fun a18 =>
    rf (H16.P p0 2) fun a19 =>
    ck (H16.sh[a19]? = some (4, 0)) <|
    bnd (H16.sD a19 4 (x13 + (1 : Int32))) fun H22 =>
    rf (H22.P p0 2) fun a23 =>
    ck (H22.sh[a23]? = some (4, 0)) <|
    rf (H22.P a23 5) fun a26 =>
    ar H22 100 a26 fun n28 =>
    ck (inb x13 n28) <|
    bnd (H22.sD a26 (x13).toNatClampNeg (0 : Int32)) fun H31 =>
    rf (H31.P p0 2) fun a32 =>
    ck (H31.sh[a32]? = some (4, 0)) <|
    rf (H31.P a32 2) fun a35 =>
    ck (H31.sh[a35]? = some (3, 0)) <|
    bC (F_Shapes_total N a35 H31) fun v39 H40 =>
    B_Reader_readPrefab_61 N p0 N x13 v39 0 H40
set_option maxRecDepth 20000 in
set_option maxHeartbeats 2000000 in
theorem m_Reader_readPrefab {N : Nat} {p0 : Nat} {H : Hp} {r : (Ot Unit) × Hp} (hF : F_Reader_readPrefab N p0 H = some r) : Mo H r.2 := by
  unfold F_Reader_readPrefab at hF
  have hm := Mo.rf H
  obtain ⟨q41, hG⟩ := ck_s hF; clear hF
  obtain ⟨a42, e43, hF⟩ := rf_s hG; clear hG
  obtain ⟨q44, hG⟩ := ck_s hF; clear hF
  obtain ⟨x45, -, hF⟩ := bnd_g hG; clear hG
  refine bT_c hF (fun x49 H48 z46 er => ?_) (fun v47 H48 z46 hG => ?_)
  · subst er; exact hm.tr (m_Reader_beginOne z46)
  clear hF
  replace hm : Mo H H48 := hm.tr (m_Reader_beginOne z46)
  obtain ⟨a50, e51, hF⟩ := rf_s hG; clear hG
  obtain ⟨q52, hG⟩ := ck_s hF; clear hF
  obtain ⟨x53, -, hF⟩ := bnd_g hG; clear hG
  refine bT_c hF (fun x57 H56 z54 er => ?_) (fun v55 H56 z54 hG => ?_)
  · subst er; exact hm.tr (m_Reader_declare z54)
  clear hF
  replace hm : Mo H H56 := hm.tr (m_Reader_declare z54)
  obtain ⟨a58, ea58, hF⟩ := on_s hG; clear hG
  subst ea58
  obtain ⟨a59, e60, hG⟩ := rf_s hF; clear hF
  obtain ⟨q61, hF⟩ := ck_s hG; clear hG
  obtain ⟨H62, eH62, hG⟩ := bnd_g hF; clear hF
  replace hm : Mo H H62 := by rw [eH62]; exact hm
  obtain ⟨a63, e64, hF⟩ := rf_s hG; clear hG
  obtain ⟨q65, hG⟩ := ck_s hF; clear hF
  obtain ⟨a66, e67, hF⟩ := rf_s hG; clear hG
  obtain ⟨n68, q69, hG⟩ := ar_s hF; clear hF
  obtain ⟨q70, hF⟩ := ck_s hG; clear hG
  obtain ⟨H71, eH71, hG⟩ := bnd_g hF; clear hF
  replace hm : Mo H H71 := by rw [eH71]; exact hm
  obtain ⟨a72, e73, hF⟩ := rf_s hG; clear hG
  obtain ⟨q74, hG⟩ := ck_s hF; clear hF
  obtain ⟨a75, e76, hF⟩ := rf_s hG; clear hG
  obtain ⟨q77, hG⟩ := ck_s hF; clear hF
  obtain ⟨v79, H80, z78, hF⟩ := bC_s hG; clear hG
  replace hm : Mo H H80 := hm.tr ((m_Shapes_total z78)).mo
  exact hm.tr (mB_Reader_readPrefab_61 N x53 v79 0 H80 r hF)
set_option maxRecDepth 20000 in
set_option maxHeartbeats 2000000 in
theorem k_Reader_readPrefab {N : Nat} {p0 : Nat} {H : Hp} {r : (Ot Unit) × Hp} {C Sl : Nat} (hF : F_Reader_readPrefab N p0 H = some r) (hC : r.2.sh.length ≤ H.sh.length + C) (hS : r.2.sl ≤ H.sl + Sl) : ab_M y_Reader_readPrefab { frames := 11, cells := C, slots := Sl, locals := 223 } [.ref p0] (hpw H) (po (oV r.1) r.2) := by
  unfold F_Reader_readPrefab at hF
  obtain ⟨c0, e0⟩ : ∃ q, q = H.sh.length := ⟨_, rfl⟩
  obtain ⟨s0, e1⟩ : ∃ q, q = H.sl := ⟨_, rfl⟩
  rw [← e0] at hC
  rw [← e1] at hS
  have hc0 : c0 ≤ H.sh.length := Nat.le_of_eq e0
  have hs0 : s0 ≤ H.sl := Nat.le_of_eq e1
  have hcc : H.sh.length ≤ c0 + C := by omega
  have hss : H.sl ≤ s0 + Sl := by omega
  refine ab_of2 (lv := [some (.ref p0), none, none, none]) 3 rfl rfl (Nat.le_of_ble_eq_true rfl) ?_
  refine ab_widen (cells' := H.sh.length - c0) (slots' := H.sl - s0) (Nat.zero_le _) (Nat.zero_le _) ?_
  refine ab_aload_n d_Reader_readPrefab_0 rfl rfl rfl ?_
  refine ab_aload_n d_Reader_readPrefab_1 rfl rfl rfl ?_
  obtain ⟨q1, hG⟩ := ck_s hF; clear hF
  obtain ⟨a2, e3, hF⟩ := rf_s hG; clear hG
  refine hp_getR (f := 2) d_Reader_readPrefab_2 q1 (by decide) rfl (by decide) (k1 181 rfl rfl) rfl e3 ?_
  obtain ⟨q4, hG⟩ := ck_s hF; clear hF
  refine hp_getI (f := 4) d_Reader_readPrefab_5 q4 (by decide) rfl (by decide) (k3 70 rfl rfl) rfl ?_
  refine ab_topi (fun x5 ex5 => ?_)
  replace hG := bnd_s ex5 hG
  refine ab_bipush (v := 16) d_Reader_readPrefab_8 (by decide) ?_
  refine bT_c hG (fun x9 H8 z6 er => ?_) (fun v7 H8 z6 hF => ?_)
  · subst er
    have mz : Mo H H8 := (m_Reader_beginOne z6)
    have ml := mz.len
    have m2 := mz.2
    have hC9 : H8.sh.length ≤ c0 + C := hC
    have hS9 : H8.sl ≤ s0 + Sl := hS
    refine hp_callV_t (x := x9) (H1 := H8) (As := [.int x5, .int 16]) (rest := []) d_Reader_readPrefab_10 (k_Reader_beginOne z6 (C := H8.sh.length - H.sh.length) (Sl := H8.sl - H.sl) (by show H8.sh.length ≤ _; omega) (by show H8.sl ≤ _; omega)) (ab_mkC s_Reader_beginOne (Nat.le_of_ble_eq_true rfl) (Nat.le_of_ble_eq_true rfl) (show (H.sh.length - c0) + (H8.sh.length - H.sh.length) ≤ C from by omega) (show (H.sl - s0) + (H8.sl - H.sl) ≤ Sl from by omega)) (k4 93 rfl rfl) i_Reader_beginOne v_Reader_beginOne q1 (by decide) rfl rfl (Nat.le_of_ble_eq_true rfl) ?_
    exact ab_U_out rfl (by show _ + (H8.sh.length - H.sh.length) ≤ C; omega) (by show _ + (H8.sl - H.sl) ≤ Sl; omega) ⟨rfl, rfl⟩
  clear hG
  have mz_1 : Mo H H8 := (m_Reader_beginOne z6)
  have b_2l := (mz_1).len
  have b_2s := (mz_1).2
  have b_2c : c0 ≤ H8.sh.length := by omega
  have b_2d : s0 ≤ H8.sl := by omega
  have q_3 := (mz_1).get q1
  have q_4 := (mz_1).get q4
  obtain ⟨a10, e11, hG⟩ := rf_s hF; clear hF
  obtain ⟨q12, hF⟩ := ck_s hG; clear hG
  obtain ⟨x13, ex13, hG⟩ := bnd_g hF; clear hF
  have fH8 : Mo H8 r.2 := by
    have hm := Mo.rf H8
    refine bT_c hG (fun x17 H16 z14 er => ?_) (fun v15 H16 z14 hF => ?_)
    · subst er; exact hm.tr (m_Reader_declare z14)
    clear hG
    replace hm : Mo H8 H16 := hm.tr (m_Reader_declare z14)
    obtain ⟨a18, ea18, hG⟩ := on_s hF; clear hF
    subst ea18
    obtain ⟨a19, e20, hF⟩ := rf_s hG; clear hG
    obtain ⟨q21, hG⟩ := ck_s hF; clear hF
    obtain ⟨H22, eH22, hF⟩ := bnd_g hG; clear hG
    replace hm : Mo H8 H22 := by rw [eH22]; exact hm
    obtain ⟨a23, e24, hG⟩ := rf_s hF; clear hF
    obtain ⟨q25, hF⟩ := ck_s hG; clear hG
    obtain ⟨a26, e27, hG⟩ := rf_s hF; clear hF
    obtain ⟨n28, q29, hF⟩ := ar_s hG; clear hG
    obtain ⟨q30, hG⟩ := ck_s hF; clear hF
    obtain ⟨H31, eH31, hF⟩ := bnd_g hG; clear hG
    replace hm : Mo H8 H31 := by rw [eH31]; exact hm
    obtain ⟨a32, e33, hG⟩ := rf_s hF; clear hF
    obtain ⟨q34, hF⟩ := ck_s hG; clear hG
    obtain ⟨a35, e36, hG⟩ := rf_s hF; clear hF
    obtain ⟨q37, hF⟩ := ck_s hG; clear hG
    obtain ⟨v39, H40, z38, hG⟩ := bC_s hF; clear hF
    replace hm : Mo H8 H40 := hm.tr ((m_Shapes_total z38)).mo
    exact hm.tr (mB_Reader_readPrefab_61 N x13 v39 0 H40 r hG)
  have b_2m := (fH8).len
  have b_2n := (fH8).2
  have b_2p : H8.sh.length ≤ c0 + C := by omega
  have b_2q : H8.sl ≤ s0 + Sl := by omega
  refine hp_callV_v (H1 := H8) (As := [.int x5, .int 16]) (rest := []) d_Reader_readPrefab_10 (k_Reader_beginOne z6 (C := H8.sh.length - H.sh.length) (Sl := H8.sl - H.sl) (by show H8.sh.length ≤ _; omega) (by show H8.sl ≤ _; omega)) (ab_mkC s_Reader_beginOne (Nat.le_of_ble_eq_true rfl) (Nat.le_of_ble_eq_true rfl) (show (H.sh.length - c0) + (H8.sh.length - H.sh.length) ≤ C from by omega) (show (H.sl - s0) + (H8.sl - H.sl) ≤ Sl from by omega)) (k4 93 rfl rfl) i_Reader_beginOne v_Reader_beginOne q1 (by decide) rfl rfl (Nat.le_of_ble_eq_true rfl) ?_
  refine ab_widen (cells' := H8.sh.length - c0) (slots' := H8.sl - s0) (by show _ + (H8.sh.length - H.sh.length) ≤ _; omega) (by show _ + (H8.sl - H.sl) ≤ _; omega) ?_
  clear b_2l b_2s b_2m b_2n
  refine ab_aload_n d_Reader_readPrefab_13 rfl rfl rfl ?_
  refine hp_getR (f := 2) d_Reader_readPrefab_14 q_3 (by decide) rfl (by decide) (k1 181 rfl rfl) rfl e11 ?_
  refine hp_getI (f := 4) d_Reader_readPrefab_17 q12 (by decide) rfl (by decide) (k3 70 rfl rfl) rfl ?_
  refine ab_topxi ex13 ?_
  refine ab_istore_n (lv' := [some (.ref p0), some (.int x13), none, none]) d_Reader_readPrefab_20 rfl (by decide) rfl ?_
  refine ab_aload_n d_Reader_readPrefab_21 rfl rfl rfl ?_
  refine ab_iconst (v := 2) d_Reader_readPrefab_22 (by decide) ?_
  refine ab_iload_n d_Reader_readPrefab_23 rfl rfl ?_
  refine bT_c hG (fun x17 H16 z14 er => ?_) (fun v15 H16 z14 hF => ?_)
  · subst er
    have mz : Mo H8 H16 := (m_Reader_declare z14)
    have ml := mz.len
    have m2 := mz.2
    have hC9 : H16.sh.length ≤ c0 + C := hC
    have hS9 : H16.sl ≤ s0 + Sl := hS
    refine hp_callV_t (x := x17) (H1 := H16) (As := [.int 2, .int x13]) (rest := []) d_Reader_readPrefab_24 (k_Reader_declare z14 (C := H16.sh.length - H8.sh.length) (Sl := H16.sl - H8.sl) (by show H16.sh.length ≤ _; omega) (by show H16.sl ≤ _; omega)) (ab_mkC s_Reader_declare (Nat.le_of_ble_eq_true rfl) (Nat.le_of_ble_eq_true rfl) (show (H8.sh.length - c0) + (H16.sh.length - H8.sh.length) ≤ C from by omega) (show (H8.sl - s0) + (H16.sl - H8.sl) ≤ Sl from by omega)) (k4 171 rfl rfl) i_Reader_declare v_Reader_declare q_3 (by decide) rfl rfl (Nat.le_of_ble_eq_true rfl) ?_
    exact ab_U_out rfl (by show _ + (H16.sh.length - H8.sh.length) ≤ C; omega) (by show _ + (H16.sl - H8.sl) ≤ Sl; omega) ⟨rfl, rfl⟩
  clear hG
  have mz_52 : Mo H8 H16 := (m_Reader_declare z14)
  have b_53l := (mz_52).len
  have b_53s := (mz_52).2
  have b_53c : c0 ≤ H16.sh.length := by omega
  have b_53d : s0 ≤ H16.sl := by omega
  have q_54 := (mz_52).get q_3
  have q_55 := (mz_52).get q_4
  have q_56 := (mz_52).get q12
  have mf_57 : Mo H16 r.2 := by
    have hm := Mo.rf H16
    obtain ⟨a18, ea18, hG⟩ := on_s hF; clear hF
    subst ea18
    obtain ⟨a19, e20, hF⟩ := rf_s hG; clear hG
    obtain ⟨q21, hG⟩ := ck_s hF; clear hF
    obtain ⟨H22, eH22, hF⟩ := bnd_g hG; clear hG
    replace hm : Mo H16 H22 := by rw [eH22]; exact hm
    obtain ⟨a23, e24, hG⟩ := rf_s hF; clear hF
    obtain ⟨q25, hF⟩ := ck_s hG; clear hG
    obtain ⟨a26, e27, hG⟩ := rf_s hF; clear hF
    obtain ⟨n28, q29, hF⟩ := ar_s hG; clear hG
    obtain ⟨q30, hG⟩ := ck_s hF; clear hF
    obtain ⟨H31, eH31, hF⟩ := bnd_g hG; clear hG
    replace hm : Mo H16 H31 := by rw [eH31]; exact hm
    obtain ⟨a32, e33, hG⟩ := rf_s hF; clear hF
    obtain ⟨q34, hF⟩ := ck_s hG; clear hG
    obtain ⟨a35, e36, hG⟩ := rf_s hF; clear hF
    obtain ⟨q37, hF⟩ := ck_s hG; clear hG
    obtain ⟨v39, H40, z38, hG⟩ := bC_s hF; clear hF
    replace hm : Mo H16 H40 := hm.tr ((m_Shapes_total z38)).mo
    exact hm.tr (mB_Reader_readPrefab_61 N x13 v39 0 H40 r hG)
  have b_53m := (mf_57).len
  have b_53n := (mf_57).2
  have b_53p : H16.sh.length ≤ c0 + C := by omega
  have b_53q : H16.sl ≤ s0 + Sl := by omega
  refine hp_callV_a (v := ab_rf v15) (H1 := H16) (As := [.int 2, .int x13]) (rest := []) d_Reader_readPrefab_24 (k_Reader_declare z14 (C := H16.sh.length - H8.sh.length) (Sl := H16.sl - H8.sl) (by show H16.sh.length ≤ _; omega) (by show H16.sl ≤ _; omega)) (ab_mkC s_Reader_declare (Nat.le_of_ble_eq_true rfl) (Nat.le_of_ble_eq_true rfl) (show (H8.sh.length - c0) + (H16.sh.length - H8.sh.length) ≤ C from by omega) (show (H8.sl - s0) + (H16.sl - H8.sl) ≤ Sl from by omega)) (k4 171 rfl rfl) i_Reader_declare v_Reader_declare q_3 (by decide) rfl rfl (Nat.le_of_ble_eq_true rfl) ?_
  refine ab_widen (cells' := H16.sh.length - c0) (slots' := H16.sl - s0) (by show _ + (H16.sh.length - H8.sh.length) ≤ _; omega) (by show _ + (H16.sl - H8.sl) ≤ _; omega) ?_
  clear b_53l b_53s b_53m b_53n b_2c b_2d b_2p b_2q
  obtain ⟨a18, ea18, hG⟩ := on_s hF; clear hF
  subst ea18
  refine ab_pop d_Reader_readPrefab_27 rfl ?_
  refine ab_aload_n d_Reader_readPrefab_28 rfl rfl rfl ?_
  obtain ⟨a19, e20, hF⟩ := rf_s hG; clear hG
  refine hp_getR (f := 2) d_Reader_readPrefab_29 q_54 (by decide) rfl (by decide) (k1 181 rfl rfl) rfl e20 ?_
  refine ab_iload_n d_Reader_readPrefab_32 rfl rfl ?_
  refine ab_iconst (v := 1) d_Reader_readPrefab_33 (by decide) ?_
  refine ab_iadd d_Reader_readPrefab_34 ?_
  obtain ⟨q21, hG⟩ := ck_s hF; clear hF
  refine hp_putI (v := x13 + (1 : Int32)) (f := 4) d_Reader_readPrefab_35 q21 (by decide) rfl (by decide) (k3 70 rfl rfl) rfl rfl (fun _ => rfl) (fun _ => rfl) rfl ?_
  refine hp_gen (fun H22 eH22 => ?_)
  replace hG := bnd_s eH22 hG
  have s_60 : Sa H16 H22 := by rw [eH22]; exact Sa.rf _
  refine ab_aload_n d_Reader_readPrefab_38 rfl rfl rfl ?_
  obtain ⟨a23, e24, hF⟩ := rf_s hG; clear hG
  refine hp_getR (f := 2) d_Reader_readPrefab_39 (by rw [(s_60).1]; exact q_54) (by decide) rfl (by decide) (k1 181 rfl rfl) rfl e24 ?_
  obtain ⟨q25, hG⟩ := ck_s hF; clear hF
  rw [(s_60).1] at q25
  obtain ⟨a26, e27, hF⟩ := rf_s hG; clear hG
  refine hp_getR (f := 5) d_Reader_readPrefab_42 (by rw [(s_60).1]; exact q25) (by decide) rfl (by decide) (k3 73 rfl rfl) rfl e27 ?_
  refine ab_iload_n d_Reader_readPrefab_45 rfl rfl ?_
  refine ab_iconst (v := 0) d_Reader_readPrefab_46 (by decide) ?_
  obtain ⟨n28, q29, hG⟩ := ar_s hF; clear hF
  rw [(s_60).1] at q29
  obtain ⟨q30, hF⟩ := ck_s hG; clear hG
  refine hp_iast d_Reader_readPrefab_47 tI (by rw [(s_60).1]; exact q29) q30 ?_
  refine hp_gen (fun H31 eH31 => ?_)
  replace hF := bnd_s eH31 hF
  have s_61 : Sa H16 H31 := by rw [eH31]; exact s_60
  refine ab_aload_n d_Reader_readPrefab_48 rfl rfl rfl ?_
  obtain ⟨a32, e33, hG⟩ := rf_s hF; clear hF
  refine hp_getR (f := 2) d_Reader_readPrefab_49 (by rw [(s_61).1]; exact q_54) (by decide) rfl (by decide) (k1 181 rfl rfl) rfl e33 ?_
  obtain ⟨q34, hF⟩ := ck_s hG; clear hG
  rw [(s_61).1] at q34
  obtain ⟨a35, e36, hG⟩ := rf_s hF; clear hF
  refine hp_getR (f := 2) d_Reader_readPrefab_52 (by rw [(s_61).1]; exact q34) (by decide) rfl (by decide) (k3 58 rfl rfl) rfl e36 ?_
  obtain ⟨q37, hF⟩ := ck_s hG; clear hG
  rw [(s_61).1] at q37
  obtain ⟨v39, H40, z38, hG⟩ := bC_s hF; clear hF
  refine ab_widen (cells' := H31.sh.length - c0) (slots' := H31.sl - s0) (by rw [(s_61).1]; exact Nat.le_refl _) (by rw [(s_61).2]; exact Nat.le_refl _) ?_
  have b_62e := congrArg List.length (s_61).1
  have b_62f := (s_61).2
  refine hp_callV_a (v := .int v39) (H1 := H40) (As := []) (rest := []) d_Reader_readPrefab_55 (k_Shapes_total z38) (ab_mkC s_Shapes_total (Nat.le_of_ble_eq_true rfl) (Nat.le_of_ble_eq_true rfl) (show (H31.sh.length - c0) + 0 ≤ C from by omega) (show (H31.sl - s0) + 0 ≤ Sl from by omega)) (k5 38 rfl rfl) i_Shapes_total v_Shapes_total (by rw [(s_61).1]; exact q37) (by decide) rfl rfl (Nat.le_of_ble_eq_true rfl) ?_
  have s_63 : Sa H16 H40 := (s_61).tr (m_Shapes_total z38)
  refine ab_widen (cells' := H16.sh.length - c0) (slots' := H16.sl - s0) (by show (H31.sh.length - c0) + 0 ≤ _; omega) (by show (H31.sl - s0) + 0 ≤ _; omega) ?_
  clear b_62e b_62f
  refine ab_istore_n (lv' := [some (.ref p0), some (.int x13), some (.int v39), none]) d_Reader_readPrefab_58 rfl (by decide) rfl ?_
  refine ab_iconst (v := 0) d_Reader_readPrefab_59 (by decide) ?_
  refine ab_istore_n (lv' := [some (.ref p0), some (.int x13), some (.int v39), some (.int 0)]) d_Reader_readPrefab_60 rfl (by decide) rfl ?_
  refine ab_widen (cells' := H40.sh.length - c0) (slots' := H40.sl - s0) (by rw [(s_63).1]; exact Nat.le_refl _) (by rw [(s_63).2]; exact Nat.le_refl _) ?_
  exact kB_Reader_readPrefab_61 N x13 v39 0 H40 r hG (by rw [(s_63).1]; exact b_53c) (by rw [(s_63).2]; exact b_53d) (by rw [(s_63).1]; exact b_53p) (by rw [(s_63).2]; exact b_53q) hC hS
def y_Reader_namesBehind : ab_Y := (⟨"WorldEngine$Reader", "namesBehind", "(IIII)I"⟩, prog_7_method_14_code, 10, (some FieldType.int), [])
theorem d_Reader_namesBehind_0 : decode y_Reader_namesBehind.2.1 0 = .ok (.aload_n 0, 1) := by decide +kernel
theorem d_Reader_namesBehind_1 : decode y_Reader_namesBehind.2.1 1 = .ok (.getfield 7, 3) := by decide +kernel
theorem d_Reader_namesBehind_4 : decode y_Reader_namesBehind.2.1 4 = .ok (.getfield 36, 3) := by decide +kernel
theorem d_Reader_namesBehind_7 : decode y_Reader_namesBehind.2.1 7 = .ok (.iload_n 1, 1) := by decide +kernel
theorem d_Reader_namesBehind_8 : decode y_Reader_namesBehind.2.1 8 = .ok (.if_icmp .eq 5, 3) := by decide +kernel
theorem d_Reader_namesBehind_11 : decode y_Reader_namesBehind.2.1 11 = .ok (.iconst 0, 1) := by decide +kernel
theorem d_Reader_namesBehind_12 : decode y_Reader_namesBehind.2.1 12 = .ok (.ireturn, 1) := by decide +kernel
theorem d_Reader_namesBehind_13 : decode y_Reader_namesBehind.2.1 13 = .ok (.iconst 0, 1) := by decide +kernel
theorem d_Reader_namesBehind_14 : decode y_Reader_namesBehind.2.1 14 = .ok (.istore 5, 2) := by decide +kernel
theorem d_Reader_namesBehind_16 : decode y_Reader_namesBehind.2.1 16 = .ok (.iconst 0, 1) := by decide +kernel
theorem d_Reader_namesBehind_17 : decode y_Reader_namesBehind.2.1 17 = .ok (.istore 6, 2) := by decide +kernel
theorem d_Reader_namesBehind_19 : decode y_Reader_namesBehind.2.1 19 = .ok (.iload 6, 2) := by decide +kernel
theorem d_Reader_namesBehind_21 : decode y_Reader_namesBehind.2.1 21 = .ok (.bipush 16, 2) := by decide +kernel
theorem d_Reader_namesBehind_23 : decode y_Reader_namesBehind.2.1 23 = .ok (.if_icmp .gt 127, 3) := by decide +kernel
theorem d_Reader_namesBehind_26 : decode y_Reader_namesBehind.2.1 26 = .ok (.aload_n 0, 1) := by decide +kernel
theorem d_Reader_namesBehind_27 : decode y_Reader_namesBehind.2.1 27 = .ok (.getfield 7, 3) := by decide +kernel
theorem d_Reader_namesBehind_30 : decode y_Reader_namesBehind.2.1 30 = .ok (.invokevirtual 77, 3) := by decide +kernel
theorem d_Reader_namesBehind_33 : decode y_Reader_namesBehind.2.1 33 = .ok (.aload_n 0, 1) := by decide +kernel
theorem d_Reader_namesBehind_34 : decode y_Reader_namesBehind.2.1 34 = .ok (.getfield 7, 3) := by decide +kernel
theorem d_Reader_namesBehind_37 : decode y_Reader_namesBehind.2.1 37 = .ok (.getfield 65, 3) := by decide +kernel
theorem d_Reader_namesBehind_40 : decode y_Reader_namesBehind.2.1 40 = .ok (.istore 7, 2) := by decide +kernel
theorem d_Reader_namesBehind_42 : decode y_Reader_namesBehind.2.1 42 = .ok (.aload_n 0, 1) := by decide +kernel
theorem d_Reader_namesBehind_43 : decode y_Reader_namesBehind.2.1 43 = .ok (.aload_n 0, 1) := by decide +kernel
theorem d_Reader_namesBehind_44 : decode y_Reader_namesBehind.2.1 44 = .ok (.getfield 7, 3) := by decide +kernel
theorem d_Reader_namesBehind_47 : decode y_Reader_namesBehind.2.1 47 = .ok (.invokevirtual 80, 3) := by decide +kernel
theorem d_Reader_namesBehind_50 : decode y_Reader_namesBehind.2.1 50 = .ok (.iload 7, 2) := by decide +kernel
theorem d_Reader_namesBehind_52 : decode y_Reader_namesBehind.2.1 52 = .ok (.invokevirtual 164, 3) := by decide +kernel
theorem d_Reader_namesBehind_55 : decode y_Reader_namesBehind.2.1 55 = .ok (.astore 8, 2) := by decide +kernel
theorem d_Reader_namesBehind_57 : decode y_Reader_namesBehind.2.1 57 = .ok (.iconst 1, 1) := by decide +kernel
theorem d_Reader_namesBehind_58 : decode y_Reader_namesBehind.2.1 58 = .ok (.aload 8, 2) := by decide +kernel
theorem d_Reader_namesBehind_60 : decode y_Reader_namesBehind.2.1 60 = .ok (.getfield 171, 3) := by decide +kernel
theorem d_Reader_namesBehind_63 : decode y_Reader_namesBehind.2.1 63 = .ok (.ishl, 1) := by decide +kernel
theorem d_Reader_namesBehind_64 : decode y_Reader_namesBehind.2.1 64 = .ok (.istore 9, 2) := by decide +kernel
theorem d_Reader_namesBehind_66 : decode y_Reader_namesBehind.2.1 66 = .ok (.aload 8, 2) := by decide +kernel
theorem d_Reader_namesBehind_68 : decode y_Reader_namesBehind.2.1 68 = .ok (.getfield 168, 3) := by decide +kernel
theorem d_Reader_namesBehind_71 : decode y_Reader_namesBehind.2.1 71 = .ok (.iload_n 2, 1) := by decide +kernel
theorem d_Reader_namesBehind_72 : decode y_Reader_namesBehind.2.1 72 = .ok (.if_icmp .ne 23, 3) := by decide +kernel
theorem d_Reader_namesBehind_75 : decode y_Reader_namesBehind.2.1 75 = .ok (.iload_n 3, 1) := by decide +kernel
theorem d_Reader_namesBehind_76 : decode y_Reader_namesBehind.2.1 76 = .ok (.iload 5, 2) := by decide +kernel
theorem d_Reader_namesBehind_78 : decode y_Reader_namesBehind.2.1 78 = .ok (.ior, 1) := by decide +kernel
theorem d_Reader_namesBehind_79 : decode y_Reader_namesBehind.2.1 79 = .ok (.iload 9, 2) := by decide +kernel
theorem d_Reader_namesBehind_81 : decode y_Reader_namesBehind.2.1 81 = .ok (.iand, 1) := by decide +kernel
theorem d_Reader_namesBehind_82 : decode y_Reader_namesBehind.2.1 82 = .ok (.ifCond .eq 13, 3) := by decide +kernel
theorem d_Reader_namesBehind_85 : decode y_Reader_namesBehind.2.1 85 = .ok (.aload_n 0, 1) := by decide +kernel
theorem d_Reader_namesBehind_86 : decode y_Reader_namesBehind.2.1 86 = .ok (.getfield 7, 3) := by decide +kernel
theorem d_Reader_namesBehind_89 : decode y_Reader_namesBehind.2.1 89 = .ok (.iconst 3, 1) := by decide +kernel
theorem d_Reader_namesBehind_90 : decode y_Reader_namesBehind.2.1 90 = .ok (.iload 7, 2) := by decide +kernel
theorem d_Reader_namesBehind_92 : decode y_Reader_namesBehind.2.1 92 = .ok (.invokevirtual 68, 3) := by decide +kernel
theorem d_Reader_namesBehind_95 : decode y_Reader_namesBehind.2.1 95 = .ok (.aload 8, 2) := by decide +kernel
theorem d_Reader_namesBehind_97 : decode y_Reader_namesBehind.2.1 97 = .ok (.getfield 168, 3) := by decide +kernel
theorem d_Reader_namesBehind_100 : decode y_Reader_namesBehind.2.1 100 = .ok (.iload_n 2, 1) := by decide +kernel
theorem d_Reader_namesBehind_101 : decode y_Reader_namesBehind.2.1 101 = .ok (.if_icmp .ne 11, 3) := by decide +kernel
theorem d_Reader_namesBehind_104 : decode y_Reader_namesBehind.2.1 104 = .ok (.iload 4, 2) := by decide +kernel
theorem d_Reader_namesBehind_106 : decode y_Reader_namesBehind.2.1 106 = .ok (.iload 9, 2) := by decide +kernel
theorem d_Reader_namesBehind_108 : decode y_Reader_namesBehind.2.1 108 = .ok (.iand, 1) := by decide +kernel
theorem d_Reader_namesBehind_109 : decode y_Reader_namesBehind.2.1 109 = .ok (.ifCond .ne 13, 3) := by decide +kernel
theorem d_Reader_namesBehind_112 : decode y_Reader_namesBehind.2.1 112 = .ok (.aload_n 0, 1) := by decide +kernel
theorem d_Reader_namesBehind_113 : decode y_Reader_namesBehind.2.1 113 = .ok (.getfield 7, 3) := by decide +kernel
theorem d_Reader_namesBehind_116 : decode y_Reader_namesBehind.2.1 116 = .ok (.iconst 5, 1) := by decide +kernel
theorem d_Reader_namesBehind_117 : decode y_Reader_namesBehind.2.1 117 = .ok (.iload 7, 2) := by decide +kernel
theorem d_Reader_namesBehind_119 : decode y_Reader_namesBehind.2.1 119 = .ok (.invokevirtual 68, 3) := by decide +kernel
theorem d_Reader_namesBehind_122 : decode y_Reader_namesBehind.2.1 122 = .ok (.iload 5, 2) := by decide +kernel
theorem d_Reader_namesBehind_124 : decode y_Reader_namesBehind.2.1 124 = .ok (.iload 9, 2) := by decide +kernel
theorem d_Reader_namesBehind_126 : decode y_Reader_namesBehind.2.1 126 = .ok (.ior, 1) := by decide +kernel
theorem d_Reader_namesBehind_127 : decode y_Reader_namesBehind.2.1 127 = .ok (.istore 5, 2) := by decide +kernel
theorem d_Reader_namesBehind_129 : decode y_Reader_namesBehind.2.1 129 = .ok (.aload_n 0, 1) := by decide +kernel
theorem d_Reader_namesBehind_130 : decode y_Reader_namesBehind.2.1 130 = .ok (.getfield 7, 3) := by decide +kernel
theorem d_Reader_namesBehind_133 : decode y_Reader_namesBehind.2.1 133 = .ok (.getfield 36, 3) := by decide +kernel
theorem d_Reader_namesBehind_136 : decode y_Reader_namesBehind.2.1 136 = .ok (.bipush 14, 2) := by decide +kernel
theorem d_Reader_namesBehind_138 : decode y_Reader_namesBehind.2.1 138 = .ok (.if_icmp .eq 6, 3) := by decide +kernel
theorem d_Reader_namesBehind_141 : decode y_Reader_namesBehind.2.1 141 = .ok (.goto 9, 3) := by decide +kernel
theorem d_Reader_namesBehind_144 : decode y_Reader_namesBehind.2.1 144 = .ok (.iinc 6 1, 3) := by decide +kernel
theorem d_Reader_namesBehind_147 : decode y_Reader_namesBehind.2.1 147 = .ok (.goto (-128), 3) := by decide +kernel
theorem d_Reader_namesBehind_150 : decode y_Reader_namesBehind.2.1 150 = .ok (.iload 5, 2) := by decide +kernel
theorem d_Reader_namesBehind_152 : decode y_Reader_namesBehind.2.1 152 = .ok (.ireturn, 1) := by decide +kernel
theorem s_Reader_namesBehind : ab_Stat y_Reader_namesBehind 4 := ⟨(k5 99 rfl rfl), (k1 7 rfl rfl), ⟨by decide, by decide⟩, by decide +kernel⟩
theorem i_Reader_namesBehind : Cond.instanceMethod y_Reader_namesBehind.1 ∈ ab_T := (k5 98 rfl rfl)
theorem v_Reader_namesBehind : Cond.selects "WorldEngine$Reader" y_Reader_namesBehind.1 y_Reader_namesBehind.1 ∈ ab_T := ab_s (List.mem_of_getElem? (i := 20) rfl) rfl
def B_Reader_namesBehind_122 (N : Nat) (p0 : Nat) (p1 : Int32) (p2 : Int32) (p3 : Int32) (p4 : Int32) (kq19 : Int32 → Int32 → Hp → Option ((Ot Int32) × Hp)) (l5 : Int32) (l6 : Int32) (l9 : Int32) (H : Hp) : Option ((Ot Int32) × Hp) :=
    ck (H.sh[p0]? = some (5, 0)) <|
    rf (H.P p0 0) fun a50 =>
    ck (H.sh[a50]? = some (1, 0)) <|
    bnd ((H.D a50 2)) fun x53 =>
    if x53 = (14 : Int32) then
    kq19 (l5 ||| l9) (l6 + 1) H
    else
    some (.inl (l5 ||| l9), H)
set_option maxRecDepth 20000 in
set_option maxHeartbeats 2000000 in
theorem mB_Reader_namesBehind_122 {N : Nat} {p0 : Nat} {p1 : Int32} {p2 : Int32} {p3 : Int32} {p4 : Int32} {kq19 : Int32 → Int32 → Hp → Option ((Ot Int32) × Hp)} (hm19 : ∀ (l5 : Int32) (l6 : Int32) (H : Hp) (r : (Ot Int32) × Hp), kq19 l5 l6 H = some r → Mo H r.2) {l5 : Int32} {l6 : Int32} {l9 : Int32} {H : Hp} {r : (Ot Int32) × Hp} (hF : B_Reader_namesBehind_122 N p0 p1 p2 p3 p4 kq19 l5 l6 l9 H = some r) : Mo H r.2 := by
  unfold B_Reader_namesBehind_122 at hF
  have hm := Mo.rf H
  obtain ⟨q55, hG⟩ := ck_s hF; clear hF
  obtain ⟨a56, e57, hF⟩ := rf_s hG; clear hG
  obtain ⟨q58, hG⟩ := ck_s hF; clear hF
  obtain ⟨x59, -, hF⟩ := bnd_g hG; clear hG
  rcases ite_s hF with ⟨q_21, hG⟩ | ⟨q_21, hG⟩
  · clear hF
    exact hm.tr (hm19 (l5 ||| l9) (l6 + 1) H r hG)
  · clear hF
    have hr := Option.some.inj hG; subst hr
    exact hm
set_option maxRecDepth 20000 in
set_option maxHeartbeats 2000000 in
theorem kB_Reader_namesBehind_122 {N : Nat} {p0 : Nat} {p1 : Int32} {p2 : Int32} {p3 : Int32} {p4 : Int32} {kq19 : Int32 → Int32 → Hp → Option ((Ot Int32) × Hp)} {c0 s0 C Sl : Nat} (hm19 : ∀ (l5 : Int32) (l6 : Int32) (H : Hp) (r : (Ot Int32) × Hp), kq19 l5 l6 H = some r → Mo H r.2) (hk19 : ∀ (l5 : Int32) (l6 : Int32) (H : Hp) (r : (Ot Int32) × Hp), kq19 l5 l6 H = some r → c0 ≤ H.sh.length → s0 ≤ H.sl → H.sh.length ≤ c0 + C → H.sl ≤ s0 + Sl → r.2.sh.length ≤ c0 + C → r.2.sl ≤ s0 + Sl → ab_V y_Reader_namesBehind { frames := 8, cells := C, slots := Sl, locals := 145 } (po (oI r.1) r.2) C Sl (H.sh.length - c0) (H.sl - s0) 19 [some (.ref p0), some (.int p1), some (.int p2), some (.int p3), some (.int p4), some (.int l5), some (.int l6), none, none, none] [] (hpw H)) {l5 : Int32} {l6 : Int32} {l9 : Int32} {H : Hp} {r : (Ot Int32) × Hp} (hF : B_Reader_namesBehind_122 N p0 p1 p2 p3 p4 kq19 l5 l6 l9 H = some r) (hc0 : c0 ≤ H.sh.length) (hs0 : s0 ≤ H.sl) (hcc : H.sh.length ≤ c0 + C) (hss : H.sl ≤ s0 + Sl) (hC : r.2.sh.length ≤ c0 + C) (hS : r.2.sl ≤ s0 + Sl) : ab_V y_Reader_namesBehind { frames := 8, cells := C, slots := Sl, locals := 145 } (po (oI r.1) r.2) C Sl (H.sh.length - c0) (H.sl - s0) 122 [some (.ref p0), some (.int p1), some (.int p2), some (.int p3), some (.int p4), some (.int l5), some (.int l6), none, none, some (.int l9)] [] (hpw H) := by
  unfold B_Reader_namesBehind_122 at hF
  refine ab_iload d_Reader_namesBehind_122 rfl ?_
  refine ab_iload d_Reader_namesBehind_124 rfl ?_
  refine ab_ior d_Reader_namesBehind_126 ?_
  refine ab_istore (lv' := [some (.ref p0), some (.int p1), some (.int p2), some (.int p3), some (.int p4), some (.int (l5 ||| l9)), some (.int l6), none, none, some (.int l9)]) d_Reader_namesBehind_127 (by decide) rfl ?_
  refine ab_aload_n d_Reader_namesBehind_129 rfl rfl rfl ?_
  obtain ⟨q49, hG⟩ := ck_s hF; clear hF
  obtain ⟨a50, e51, hF⟩ := rf_s hG; clear hG
  refine hp_getR (f := 0) d_Reader_namesBehind_130 q49 (by decide) rfl (by decide) (k1 179 rfl rfl) rfl e51 ?_
  obtain ⟨q52, hG⟩ := ck_s hF; clear hF
  refine hp_getI (f := 2) d_Reader_namesBehind_133 q52 (by decide) rfl (by decide) (k1 98 rfl rfl) rfl ?_
  refine ab_topi (fun x53 ex53 => ?_)
  replace hG := bnd_s ex53 hG
  refine ab_bipush (v := 14) d_Reader_namesBehind_136 (by decide) ?_
  refine ab_icmp_eq (tgt := 144) d_Reader_namesBehind_138 (by decide) (fun q54 => ?_) (fun q54 => ?_)
  · rw [if_pos q54] at hG
    refine ab_iinc (v := l6 + 1) (lv' := [some (.ref p0), some (.int p1), some (.int p2), some (.int p3), some (.int p4), some (.int (l5 ||| l9)), some (.int (l6 + 1)), none, none, some (.int l9)]) d_Reader_namesBehind_144 rfl rfl (by decide) rfl ?_
    refine ab_goto (tgt := 19) d_Reader_namesBehind_147 (by decide) ?_
    refine ab_le (lv' := [some (.ref p0), some (.int p1), some (.int p2), some (.int p3), some (.int p4), some (.int (l5 ||| l9)), some (.int (l6 + 1)), none, none, none]) ⟨rfl, ⟨rfl, ⟨rfl, ⟨rfl, ⟨rfl, ⟨rfl, ⟨rfl, trivial⟩⟩⟩⟩⟩⟩⟩ ?_
    exact hk19 (l5 ||| l9) (l6 + 1) H r hG hc0 hs0 hcc hss hC hS
  · rw [if_neg q54] at hG
    refine ab_goto (tgt := 150) d_Reader_namesBehind_141 (by decide) ?_
    refine ab_iload d_Reader_namesBehind_150 rfl ?_
    exact ab_iret d_Reader_namesBehind_152 rfl (by show _ ≤ C; omega) (by show _ ≤ Sl; omega) (by have hr := Option.some.inj hG; subst hr; exact ⟨rfl, rfl⟩)
def B_Reader_namesBehind_112 (N : Nat) (p0 : Nat) (p1 : Int32) (p2 : Int32) (p3 : Int32) (p4 : Int32) (kq19 : Int32 → Int32 → Hp → Option ((Ot Int32) × Hp)) (l5 : Int32) (l6 : Int32) (l7 : Int32) (l9 : Int32) (H : Hp) : Option ((Ot Int32) × Hp) :=
    ck (H.sh[p0]? = some (5, 0)) <|
    rf (H.P p0 0) fun a42 =>
    ck (H.sh[a42]? = some (1, 0)) <|
    bT (F_Lexer_refuse N a42 (5 : Int32) l7 H) fun v46 H47 =>
    B_Reader_namesBehind_122 N p0 p1 p2 p3 p4 kq19 l5 l6 l9 H47
set_option maxRecDepth 20000 in
set_option maxHeartbeats 2000000 in
theorem mB_Reader_namesBehind_112 {N : Nat} {p0 : Nat} {p1 : Int32} {p2 : Int32} {p3 : Int32} {p4 : Int32} {kq19 : Int32 → Int32 → Hp → Option ((Ot Int32) × Hp)} (hm19 : ∀ (l5 : Int32) (l6 : Int32) (H : Hp) (r : (Ot Int32) × Hp), kq19 l5 l6 H = some r → Mo H r.2) {l5 : Int32} {l6 : Int32} {l7 : Int32} {l9 : Int32} {H : Hp} {r : (Ot Int32) × Hp} (hF : B_Reader_namesBehind_112 N p0 p1 p2 p3 p4 kq19 l5 l6 l7 l9 H = some r) : Mo H r.2 := by
  unfold B_Reader_namesBehind_112 at hF
  have hm := Mo.rf H
  obtain ⟨q49, hG⟩ := ck_s hF; clear hF
  obtain ⟨a50, e51, hF⟩ := rf_s hG; clear hG
  obtain ⟨q52, hG⟩ := ck_s hF; clear hF
  refine bT_c hG (fun x56 H55 z53 er => ?_) (fun v54 H55 z53 hF => ?_)
  · subst er; exact hm.tr (m_Lexer_refuse z53)
  clear hG
  replace hm : Mo H H55 := hm.tr (m_Lexer_refuse z53)
  exact hm.tr (mB_Reader_namesBehind_122 hm19 hF)
set_option maxRecDepth 20000 in
set_option maxHeartbeats 2000000 in
theorem kB_Reader_namesBehind_112 {N : Nat} {p0 : Nat} {p1 : Int32} {p2 : Int32} {p3 : Int32} {p4 : Int32} {kq19 : Int32 → Int32 → Hp → Option ((Ot Int32) × Hp)} {c0 s0 C Sl : Nat} (hm19 : ∀ (l5 : Int32) (l6 : Int32) (H : Hp) (r : (Ot Int32) × Hp), kq19 l5 l6 H = some r → Mo H r.2) (hk19 : ∀ (l5 : Int32) (l6 : Int32) (H : Hp) (r : (Ot Int32) × Hp), kq19 l5 l6 H = some r → c0 ≤ H.sh.length → s0 ≤ H.sl → H.sh.length ≤ c0 + C → H.sl ≤ s0 + Sl → r.2.sh.length ≤ c0 + C → r.2.sl ≤ s0 + Sl → ab_V y_Reader_namesBehind { frames := 8, cells := C, slots := Sl, locals := 145 } (po (oI r.1) r.2) C Sl (H.sh.length - c0) (H.sl - s0) 19 [some (.ref p0), some (.int p1), some (.int p2), some (.int p3), some (.int p4), some (.int l5), some (.int l6), none, none, none] [] (hpw H)) {l5 : Int32} {l6 : Int32} {l7 : Int32} {l9 : Int32} {H : Hp} {r : (Ot Int32) × Hp} (hF : B_Reader_namesBehind_112 N p0 p1 p2 p3 p4 kq19 l5 l6 l7 l9 H = some r) (hc0 : c0 ≤ H.sh.length) (hs0 : s0 ≤ H.sl) (hcc : H.sh.length ≤ c0 + C) (hss : H.sl ≤ s0 + Sl) (hC : r.2.sh.length ≤ c0 + C) (hS : r.2.sl ≤ s0 + Sl) : ab_V y_Reader_namesBehind { frames := 8, cells := C, slots := Sl, locals := 145 } (po (oI r.1) r.2) C Sl (H.sh.length - c0) (H.sl - s0) 112 [some (.ref p0), some (.int p1), some (.int p2), some (.int p3), some (.int p4), some (.int l5), some (.int l6), some (.int l7), none, some (.int l9)] [] (hpw H) := by
  unfold B_Reader_namesBehind_112 at hF
  refine ab_aload_n d_Reader_namesBehind_112 rfl rfl rfl ?_
  obtain ⟨q41, hG⟩ := ck_s hF; clear hF
  obtain ⟨a42, e43, hF⟩ := rf_s hG; clear hG
  refine hp_getR (f := 0) d_Reader_namesBehind_113 q41 (by decide) rfl (by decide) (k1 179 rfl rfl) rfl e43 ?_
  refine ab_iconst (v := 5) d_Reader_namesBehind_116 (by decide) ?_
  refine ab_iload d_Reader_namesBehind_117 rfl ?_
  obtain ⟨q44, hG⟩ := ck_s hF; clear hF
  refine bT_c hG (fun x48 H47 z45 er => ?_) (fun v46 H47 z45 hF => ?_)
  · subst er
    have mz : Mo H H47 := (m_Lexer_refuse z45)
    have ml := mz.len
    have m2 := mz.2
    have hC9 : H47.sh.length ≤ c0 + C := hC
    have hS9 : H47.sl ≤ s0 + Sl := hS
    refine hp_callV_t (x := x48) (H1 := H47) (As := [.int 5, .int l7]) (rest := []) d_Reader_namesBehind_119 (k_Lexer_refuse z45 (C := H47.sh.length - H.sh.length) (Sl := H47.sl - H.sl) (by show H47.sh.length ≤ _; omega) (by show H47.sl ≤ _; omega)) (ab_mkC s_Lexer_refuse (Nat.le_of_ble_eq_true rfl) (Nat.le_of_ble_eq_true rfl) (show (H.sh.length - c0) + (H47.sh.length - H.sh.length) ≤ C from by omega) (show (H.sl - s0) + (H47.sl - H.sl) ≤ Sl from by omega)) (k4 97 rfl rfl) i_Lexer_refuse v_Lexer_refuse q44 (by decide) rfl rfl (Nat.le_of_ble_eq_true rfl) ?_
    exact ab_U_out rfl (by show _ + (H47.sh.length - H.sh.length) ≤ C; omega) (by show _ + (H47.sl - H.sl) ≤ Sl; omega) ⟨rfl, rfl⟩
  clear hG
  have mz_17 : Mo H H47 := (m_Lexer_refuse z45)
  have b_18l := (mz_17).len
  have b_18s := (mz_17).2
  have b_18c : c0 ≤ H47.sh.length := by omega
  have b_18d : s0 ≤ H47.sl := by omega
  have q_19 := (mz_17).get q41
  have q_20 := (mz_17).get q44
  have fH47 : Mo H47 r.2 := by
    have hm := Mo.rf H47
    exact hm.tr (mB_Reader_namesBehind_122 hm19 hF)
  have b_18m := (fH47).len
  have b_18n := (fH47).2
  have b_18p : H47.sh.length ≤ c0 + C := by omega
  have b_18q : H47.sl ≤ s0 + Sl := by omega
  refine hp_callV_v (H1 := H47) (As := [.int 5, .int l7]) (rest := []) d_Reader_namesBehind_119 (k_Lexer_refuse z45 (C := H47.sh.length - H.sh.length) (Sl := H47.sl - H.sl) (by show H47.sh.length ≤ _; omega) (by show H47.sl ≤ _; omega)) (ab_mkC s_Lexer_refuse (Nat.le_of_ble_eq_true rfl) (Nat.le_of_ble_eq_true rfl) (show (H.sh.length - c0) + (H47.sh.length - H.sh.length) ≤ C from by omega) (show (H.sl - s0) + (H47.sl - H.sl) ≤ Sl from by omega)) (k4 97 rfl rfl) i_Lexer_refuse v_Lexer_refuse q44 (by decide) rfl rfl (Nat.le_of_ble_eq_true rfl) ?_
  refine ab_widen (cells' := H47.sh.length - c0) (slots' := H47.sl - s0) (by show _ + (H47.sh.length - H.sh.length) ≤ _; omega) (by show _ + (H47.sl - H.sl) ≤ _; omega) ?_
  clear b_18l b_18s b_18m b_18n
  refine ab_le (lv' := [some (.ref p0), some (.int p1), some (.int p2), some (.int p3), some (.int p4), some (.int l5), some (.int l6), none, none, some (.int l9)]) ⟨rfl, ⟨rfl, ⟨rfl, ⟨rfl, ⟨rfl, ⟨rfl, ⟨rfl, ⟨rfl, trivial⟩⟩⟩⟩⟩⟩⟩⟩ ?_
  exact kB_Reader_namesBehind_122 hm19 hk19 hF b_18c b_18d b_18p b_18q hC hS
def B_Reader_namesBehind_95 (N : Nat) (p0 : Nat) (p1 : Int32) (p2 : Int32) (p3 : Int32) (p4 : Int32) (kq19 : Int32 → Int32 → Hp → Option ((Ot Int32) × Hp)) (l5 : Int32) (l6 : Int32) (l7 : Int32) (l8 : Nat) (l9 : Int32) (H : Hp) : Option ((Ot Int32) × Hp) :=
    ck (H.sh[l8]? = some (2, 0)) <|
    bnd ((H.D l8 1)) fun x39 =>
    if x39 = p2 then
    if (p4 &&& l9) = (0 : Int32) then
    B_Reader_namesBehind_112 N p0 p1 p2 p3 p4 kq19 l5 l6 l7 l9 H
    else
    B_Reader_namesBehind_122 N p0 p1 p2 p3 p4 kq19 l5 l6 l9 H
    else
    B_Reader_namesBehind_112 N p0 p1 p2 p3 p4 kq19 l5 l6 l7 l9 H
set_option maxRecDepth 20000 in
set_option maxHeartbeats 2000000 in
theorem mB_Reader_namesBehind_95 {N : Nat} {p0 : Nat} {p1 : Int32} {p2 : Int32} {p3 : Int32} {p4 : Int32} {kq19 : Int32 → Int32 → Hp → Option ((Ot Int32) × Hp)} (hm19 : ∀ (l5 : Int32) (l6 : Int32) (H : Hp) (r : (Ot Int32) × Hp), kq19 l5 l6 H = some r → Mo H r.2) {l5 : Int32} {l6 : Int32} {l7 : Int32} {l8 : Nat} {l9 : Int32} {H : Hp} {r : (Ot Int32) × Hp} (hF : B_Reader_namesBehind_95 N p0 p1 p2 p3 p4 kq19 l5 l6 l7 l8 l9 H = some r) : Mo H r.2 := by
  unfold B_Reader_namesBehind_95 at hF
  have hm := Mo.rf H
  obtain ⟨q58, hG⟩ := ck_s hF; clear hF
  obtain ⟨x59, -, hF⟩ := bnd_g hG; clear hG
  rcases ite_s hF with ⟨q_25, hG⟩ | ⟨q_25, hG⟩
  · clear hF
    rcases ite_s hG with ⟨q_26, hF⟩ | ⟨q_26, hF⟩
    · clear hG
      exact hm.tr (mB_Reader_namesBehind_112 hm19 hF)
    · clear hG
      exact hm.tr (mB_Reader_namesBehind_122 hm19 hF)
  · clear hF
    exact hm.tr (mB_Reader_namesBehind_112 hm19 hG)
set_option maxRecDepth 20000 in
set_option maxHeartbeats 2000000 in
theorem kB_Reader_namesBehind_95 {N : Nat} {p0 : Nat} {p1 : Int32} {p2 : Int32} {p3 : Int32} {p4 : Int32} {kq19 : Int32 → Int32 → Hp → Option ((Ot Int32) × Hp)} {c0 s0 C Sl : Nat} (hm19 : ∀ (l5 : Int32) (l6 : Int32) (H : Hp) (r : (Ot Int32) × Hp), kq19 l5 l6 H = some r → Mo H r.2) (hk19 : ∀ (l5 : Int32) (l6 : Int32) (H : Hp) (r : (Ot Int32) × Hp), kq19 l5 l6 H = some r → c0 ≤ H.sh.length → s0 ≤ H.sl → H.sh.length ≤ c0 + C → H.sl ≤ s0 + Sl → r.2.sh.length ≤ c0 + C → r.2.sl ≤ s0 + Sl → ab_V y_Reader_namesBehind { frames := 8, cells := C, slots := Sl, locals := 145 } (po (oI r.1) r.2) C Sl (H.sh.length - c0) (H.sl - s0) 19 [some (.ref p0), some (.int p1), some (.int p2), some (.int p3), some (.int p4), some (.int l5), some (.int l6), none, none, none] [] (hpw H)) {l5 : Int32} {l6 : Int32} {l7 : Int32} {l8 : Nat} {l9 : Int32} {H : Hp} {r : (Ot Int32) × Hp} (hF : B_Reader_namesBehind_95 N p0 p1 p2 p3 p4 kq19 l5 l6 l7 l8 l9 H = some r) (hc0 : c0 ≤ H.sh.length) (hs0 : s0 ≤ H.sl) (hcc : H.sh.length ≤ c0 + C) (hss : H.sl ≤ s0 + Sl) (hC : r.2.sh.length ≤ c0 + C) (hS : r.2.sl ≤ s0 + Sl) : ab_V y_Reader_namesBehind { frames := 8, cells := C, slots := Sl, locals := 145 } (po (oI r.1) r.2) C Sl (H.sh.length - c0) (H.sl - s0) 95 [some (.ref p0), some (.int p1), some (.int p2), some (.int p3), some (.int p4), some (.int l5), some (.int l6), some (.int l7), some (.ref l8), some (.int l9)] [] (hpw H) := by
  unfold B_Reader_namesBehind_95 at hF
  refine ab_aload d_Reader_namesBehind_95 rfl rfl ?_
  obtain ⟨q38, hG⟩ := ck_s hF; clear hF
  refine hp_getI (f := 1) d_Reader_namesBehind_97 q38 (by decide) rfl (by decide) (k2 233 rfl rfl) rfl ?_
  refine ab_topi (fun x39 ex39 => ?_)
  replace hG := bnd_s ex39 hG
  refine ab_iload_n d_Reader_namesBehind_100 rfl rfl ?_
  refine ab_icmp_ne (tgt := 112) d_Reader_namesBehind_101 (by decide) (fun q40 => ?_) (fun q40 => ?_)
  · rw [if_neg q40] at hG
    refine ab_le (lv' := [some (.ref p0), some (.int p1), some (.int p2), some (.int p3), some (.int p4), some (.int l5), some (.int l6), some (.int l7), none, some (.int l9)]) ⟨rfl, ⟨rfl, ⟨rfl, ⟨rfl, ⟨rfl, ⟨rfl, ⟨rfl, ⟨rfl, ⟨rfl, trivial⟩⟩⟩⟩⟩⟩⟩⟩⟩ ?_
    exact kB_Reader_namesBehind_112 hm19 hk19 hG hc0 hs0 hcc hss hC hS
  · rw [if_pos q40] at hG
    refine ab_iload d_Reader_namesBehind_104 rfl ?_
    refine ab_iload d_Reader_namesBehind_106 rfl ?_
    refine ab_iand d_Reader_namesBehind_108 ?_
    refine ab_if_ne (tgt := 122) d_Reader_namesBehind_109 (by decide) (fun q57 => ?_) (fun q57 => ?_)
    · rw [if_neg q57] at hG
      refine ab_le (lv' := [some (.ref p0), some (.int p1), some (.int p2), some (.int p3), some (.int p4), some (.int l5), some (.int l6), none, none, some (.int l9)]) ⟨rfl, ⟨rfl, ⟨rfl, ⟨rfl, ⟨rfl, ⟨rfl, ⟨rfl, ⟨rfl, trivial⟩⟩⟩⟩⟩⟩⟩⟩ ?_
      exact kB_Reader_namesBehind_122 hm19 hk19 hG hc0 hs0 hcc hss hC hS
    · rw [if_pos q57] at hG
      refine ab_le (lv' := [some (.ref p0), some (.int p1), some (.int p2), some (.int p3), some (.int p4), some (.int l5), some (.int l6), some (.int l7), none, some (.int l9)]) ⟨rfl, ⟨rfl, ⟨rfl, ⟨rfl, ⟨rfl, ⟨rfl, ⟨rfl, ⟨rfl, ⟨rfl, trivial⟩⟩⟩⟩⟩⟩⟩⟩⟩ ?_
      exact kB_Reader_namesBehind_112 hm19 hk19 hG hc0 hs0 hcc hss hC hS
def B_Reader_namesBehind_19 (N : Nat) (p0 : Nat) (p1 : Int32) (p2 : Int32) (p3 : Int32) (p4 : Int32) : Nat → Int32 → Int32 → Hp → Option ((Ot Int32) × Hp)
  | 0, _, _, _ => none
  | n + 1, l5, l6, H =>
    if (16 : Int32) < l6 then
    some (.inl l5, H)
    else
    ck (H.sh[p0]? = some (5, 0)) <|
    rf (H.P p0 0) fun a9 =>
    ck (H.sh[a9]? = some (1, 0)) <|
    bC (F_Lexer_advance N a9 H) fun v13 H14 =>
    rf (H14.P p0 0) fun a15 =>
    ck (H14.sh[a15]? = some (1, 0)) <|
    bnd ((H14.D a15 3)) fun x18 =>
    rf (H14.P p0 0) fun a19 =>
    ck (H14.sh[a19]? = some (1, 0)) <|
    bT (F_Lexer_takeName N a19 H14) fun v23 H24 =>
    on v23 fun a26 =>
    bT (F_Reader_known N p0 a26 x18 H24) fun v28 H29 =>
    on v28 fun a31 =>
    ck (H29.sh[a31]? = some (2, 0)) <|
    bnd ((H29.D a31 2)) fun x33 =>
    bnd (((1 : Int32) <<< (x33 &&& 31))) fun x34 =>
    bnd ((H29.D a31 1)) fun x35 =>
    if x35 = p2 then
    if ((p3 ||| l5) &&& x34) = (0 : Int32) then
    B_Reader_namesBehind_95 N p0 p1 p2 p3 p4 (fun l5 l6 H => B_Reader_namesBehind_19 N p0 p1 p2 p3 p4 n l5 l6 H) l5 l6 x18 a31 x34 H29
    else
    rf (H29.P p0 0) fun a38 =>
    ck (H29.sh[a38]? = some (1, 0)) <|
    bT (F_Lexer_refuse N a38 (3 : Int32) x18 H29) fun v42 H43 =>
    B_Reader_namesBehind_95 N p0 p1 p2 p3 p4 (fun l5 l6 H => B_Reader_namesBehind_19 N p0 p1 p2 p3 p4 n l5 l6 H) l5 l6 x18 a31 x34 H43
    else
    B_Reader_namesBehind_95 N p0 p1 p2 p3 p4 (fun l5 l6 H => B_Reader_namesBehind_19 N p0 p1 p2 p3 p4 n l5 l6 H) l5 l6 x18 a31 x34 H29
termination_by structural n => n
set_option maxRecDepth 20000 in
set_option maxHeartbeats 2000000 in
theorem mB_Reader_namesBehind_19 {N : Nat} {p0 : Nat} {p1 : Int32} {p2 : Int32} {p3 : Int32} {p4 : Int32} : ∀ (n : Nat) (l5 : Int32) (l6 : Int32) (H : Hp) (r : (Ot Int32) × Hp), B_Reader_namesBehind_19 N p0 p1 p2 p3 p4 n l5 l6 H = some r → Mo H r.2 := by
  intro n
  induction n with
  | zero => intro l5 l6 H r hF; rw [B_Reader_namesBehind_19] at hF; cases hF
  | succ n ih =>
    intro l5 l6 H r hF
    rw [B_Reader_namesBehind_19] at hF
    have hm := Mo.rf H
    rcases ite_s hF with ⟨q_58, hG⟩ | ⟨q_58, hG⟩
    · clear hF
      have hr := Option.some.inj hG; subst hr
      exact hm
    · clear hF
      obtain ⟨q46, hF⟩ := ck_s hG; clear hG
      obtain ⟨a47, e48, hG⟩ := rf_s hF; clear hF
      obtain ⟨q49, hF⟩ := ck_s hG; clear hG
      obtain ⟨v51, H52, z50, hG⟩ := bC_s hF; clear hF
      replace hm : Mo H H52 := hm.tr ((m_Lexer_advance z50)).mo
      obtain ⟨a53, e54, hF⟩ := rf_s hG; clear hG
      obtain ⟨q55, hG⟩ := ck_s hF; clear hF
      obtain ⟨x56, -, hF⟩ := bnd_g hG; clear hG
      obtain ⟨a57, e58, hG⟩ := rf_s hF; clear hF
      obtain ⟨q59, hF⟩ := ck_s hG; clear hG
      refine bT_c hF (fun x63 H62 z60 er => ?_) (fun v61 H62 z60 hG => ?_)
      · subst er; exact hm.tr (m_Lexer_takeName z60)
      clear hF
      replace hm : Mo H H62 := hm.tr (m_Lexer_takeName z60)
      obtain ⟨a64, ea64, hF⟩ := on_s hG; clear hG
      subst ea64
      refine bT_c hF (fun x68 H67 z65 er => ?_) (fun v66 H67 z65 hG => ?_)
      · subst er; exact hm.tr (m_Reader_known z65)
      clear hF
      replace hm : Mo H H67 := hm.tr (m_Reader_known z65)
      obtain ⟨a69, ea69, hF⟩ := on_s hG; clear hG
      subst ea69
      obtain ⟨q70, hG⟩ := ck_s hF; clear hF
      obtain ⟨x71, -, hF⟩ := bnd_g hG; clear hG
      obtain ⟨x72, -, hG⟩ := bnd_g hF; clear hF
      obtain ⟨x73, -, hF⟩ := bnd_g hG; clear hG
      rcases ite_s hF with ⟨q_69, hG⟩ | ⟨q_69, hG⟩
      · clear hF
        rcases ite_s hG with ⟨q_70, hF⟩ | ⟨q_70, hF⟩
        · clear hG
          exact hm.tr (mB_Reader_namesBehind_95 ih hF)
        · clear hG
          obtain ⟨a76, e77, hG⟩ := rf_s hF; clear hF
          obtain ⟨q78, hF⟩ := ck_s hG; clear hG
          refine bT_c hF (fun x82 H81 z79 er => ?_) (fun v80 H81 z79 hG => ?_)
          · subst er; exact hm.tr (m_Lexer_refuse z79)
          clear hF
          replace hm : Mo H H81 := hm.tr (m_Lexer_refuse z79)
          exact hm.tr (mB_Reader_namesBehind_95 ih hG)
      · clear hF
        exact hm.tr (mB_Reader_namesBehind_95 ih hG)
set_option maxRecDepth 20000 in
set_option maxHeartbeats 2000000 in
theorem kB_Reader_namesBehind_19 {N : Nat} {p0 : Nat} {p1 : Int32} {p2 : Int32} {p3 : Int32} {p4 : Int32} {c0 s0 C Sl : Nat} : ∀ (n : Nat) (l5 : Int32) (l6 : Int32) (H : Hp) (r : (Ot Int32) × Hp), B_Reader_namesBehind_19 N p0 p1 p2 p3 p4 n l5 l6 H = some r → c0 ≤ H.sh.length → s0 ≤ H.sl → H.sh.length ≤ c0 + C → H.sl ≤ s0 + Sl → r.2.sh.length ≤ c0 + C → r.2.sl ≤ s0 + Sl → ab_V y_Reader_namesBehind { frames := 8, cells := C, slots := Sl, locals := 145 } (po (oI r.1) r.2) C Sl (H.sh.length - c0) (H.sl - s0) 19 [some (.ref p0), some (.int p1), some (.int p2), some (.int p3), some (.int p4), some (.int l5), some (.int l6), none, none, none] [] (hpw H) := by
  intro n
  induction n with
  | zero => intro l5 l6 H r hF; rw [B_Reader_namesBehind_19] at hF; cases hF
  | succ n ih =>
    intro l5 l6 H r hF hc0 hs0 hcc hss hC hS
    rw [B_Reader_namesBehind_19] at hF
    refine ab_iload d_Reader_namesBehind_19 rfl ?_
    refine ab_bipush (v := 16) d_Reader_namesBehind_21 (by decide) ?_
    refine ab_icmp_gt (tgt := 150) d_Reader_namesBehind_23 (by decide) (fun q7 => ?_) (fun q7 => ?_)
    · rw [if_pos q7] at hF
      refine ab_iload d_Reader_namesBehind_150 rfl ?_
      exact ab_iret d_Reader_namesBehind_152 rfl (by show _ ≤ C; omega) (by show _ ≤ Sl; omega) (by have hr := Option.some.inj hF; subst hr; exact ⟨rfl, rfl⟩)
    · rw [if_neg q7] at hF
      refine ab_aload_n d_Reader_namesBehind_26 rfl rfl rfl ?_
      obtain ⟨q8, hG⟩ := ck_s hF; clear hF
      obtain ⟨a9, e10, hF⟩ := rf_s hG; clear hG
      refine hp_getR (f := 0) d_Reader_namesBehind_27 q8 (by decide) rfl (by decide) (k1 179 rfl rfl) rfl e10 ?_
      obtain ⟨q11, hG⟩ := ck_s hF; clear hF
      obtain ⟨v13, H14, z12, hF⟩ := bC_s hG; clear hG
      refine hp_callV_v (H1 := H14) (As := []) (rest := []) d_Reader_namesBehind_30 (k_Lexer_advance z12) (ab_mkC s_Lexer_advance (Nat.le_of_ble_eq_true rfl) (Nat.le_of_ble_eq_true rfl) (show (H.sh.length - c0) + 0 ≤ C from by omega) (show (H.sl - s0) + 0 ≤ Sl from by omega)) (k4 167 rfl rfl) i_Lexer_advance v_Lexer_advance q11 (by decide) rfl rfl (Nat.le_of_ble_eq_true rfl) ?_
      have s_2 : Sa H H14 := (m_Lexer_advance z12)
      refine ab_widen (cells' := H.sh.length - c0) (slots' := H.sl - s0) (by show (H.sh.length - c0) + 0 ≤ _; omega) (by show (H.sl - s0) + 0 ≤ _; omega) ?_
      refine ab_aload_n d_Reader_namesBehind_33 rfl rfl rfl ?_
      obtain ⟨a15, e16, hG⟩ := rf_s hF; clear hF
      refine hp_getR (f := 0) d_Reader_namesBehind_34 (by rw [(s_2).1]; exact q8) (by decide) rfl (by decide) (k1 179 rfl rfl) rfl e16 ?_
      obtain ⟨q17, hF⟩ := ck_s hG; clear hG
      rw [(s_2).1] at q17
      refine hp_getI (f := 3) d_Reader_namesBehind_37 (by rw [(s_2).1]; exact q17) (by decide) rfl (by decide) (k1 101 rfl rfl) rfl ?_
      refine ab_topi (fun x18 ex18 => ?_)
      replace hF := bnd_s ex18 hF
      refine ab_istore (lv' := [some (.ref p0), some (.int p1), some (.int p2), some (.int p3), some (.int p4), some (.int l5), some (.int l6), some (.int x18), none, none]) d_Reader_namesBehind_40 (by decide) rfl ?_
      refine ab_aload_n d_Reader_namesBehind_42 rfl rfl rfl ?_
      refine ab_aload_n d_Reader_namesBehind_43 rfl rfl rfl ?_
      obtain ⟨a19, e20, hG⟩ := rf_s hF; clear hF
      refine hp_getR (f := 0) d_Reader_namesBehind_44 (by rw [(s_2).1]; exact q8) (by decide) rfl (by decide) (k1 179 rfl rfl) rfl e20 ?_
      obtain ⟨q21, hF⟩ := ck_s hG; clear hG
      rw [(s_2).1] at q21
      refine bT_c hF (fun x25 H24 z22 er => ?_) (fun v23 H24 z22 hG => ?_)
      · subst er
        refine ab_widen (cells' := H14.sh.length - c0) (slots' := H14.sl - s0) (by rw [(s_2).1]; exact Nat.le_refl _) (by rw [(s_2).2]; exact Nat.le_refl _) ?_
        have mz : Mo H14 H24 := (m_Lexer_takeName z22)
        have ml := mz.len
        have m2 := mz.2
        have be := congrArg List.length (s_2).1
        have bfx := (s_2).2
        have hC9 : H24.sh.length ≤ c0 + C := hC
        have hS9 : H24.sl ≤ s0 + Sl := hS
        refine hp_callV_t (x := x25) (H1 := H24) (As := []) (rest := [.ref p0]) d_Reader_namesBehind_47 (k_Lexer_takeName z22 (C := H24.sh.length - H14.sh.length) (Sl := H24.sl - H14.sl) (by show H24.sh.length ≤ _; omega) (by show H24.sl ≤ _; omega)) (ab_mkC s_Lexer_takeName (Nat.le_of_ble_eq_true rfl) (Nat.le_of_ble_eq_true rfl) (show (H14.sh.length - c0) + (H24.sh.length - H14.sh.length) ≤ C from by omega) (show (H14.sl - s0) + (H24.sl - H14.sl) ≤ Sl from by omega)) (k4 175 rfl rfl) i_Lexer_takeName v_Lexer_takeName (by rw [(s_2).1]; exact q21) (by decide) rfl rfl (Nat.le_of_ble_eq_true rfl) ?_
        exact ab_U_out rfl (by show _ + (H24.sh.length - H14.sh.length) ≤ C; omega) (by show _ + (H24.sl - H14.sl) ≤ Sl; omega) ⟨rfl, rfl⟩
      clear hF
      refine ab_widen (cells' := H14.sh.length - c0) (slots' := H14.sl - s0) (by rw [(s_2).1]; exact Nat.le_refl _) (by rw [(s_2).2]; exact Nat.le_refl _) ?_
      have mz_3 : Mo H14 H24 := (m_Lexer_takeName z22)
      have b_4l := (mz_3).len
      have b_4s := (mz_3).2
      have b_4e := congrArg List.length (s_2).1
      have b_4f := (s_2).2
      have b_4c : c0 ≤ H24.sh.length := by omega
      have b_4d : s0 ≤ H24.sl := by omega
      have q_5 := (mz_3).get (by rw [(s_2).1]; exact q8)
      have q_6 := (mz_3).get (by rw [(s_2).1]; exact q11)
      have q_7 := (mz_3).get (by rw [(s_2).1]; exact q17)
      have q_8 := (mz_3).get (by rw [(s_2).1]; exact q21)
      have mf_9 : Mo H24 r.2 := by
        have hm := Mo.rf H24
        obtain ⟨a26, ea26, hF⟩ := on_s hG; clear hG
        subst ea26
        refine bT_c hF (fun x30 H29 z27 er => ?_) (fun v28 H29 z27 hG => ?_)
        · subst er; exact hm.tr (m_Reader_known z27)
        clear hF
        replace hm : Mo H24 H29 := hm.tr (m_Reader_known z27)
        obtain ⟨a31, ea31, hF⟩ := on_s hG; clear hG
        subst ea31
        obtain ⟨q32, hG⟩ := ck_s hF; clear hF
        obtain ⟨x33, -, hF⟩ := bnd_g hG; clear hG
        obtain ⟨x34, -, hG⟩ := bnd_g hF; clear hF
        obtain ⟨x35, -, hF⟩ := bnd_g hG; clear hG
        rcases ite_s hF with ⟨q_15, hG⟩ | ⟨q_15, hG⟩
        · clear hF
          rcases ite_s hG with ⟨q_16, hF⟩ | ⟨q_16, hF⟩
          · clear hG
            exact hm.tr (mB_Reader_namesBehind_95 (mB_Reader_namesBehind_19 n) hF)
          · clear hG
            obtain ⟨a62, e63, hG⟩ := rf_s hF; clear hF
            obtain ⟨q64, hF⟩ := ck_s hG; clear hG
            refine bT_c hF (fun x68 H67 z65 er => ?_) (fun v66 H67 z65 hG => ?_)
            · subst er; exact hm.tr (m_Lexer_refuse z65)
            clear hF
            replace hm : Mo H24 H67 := hm.tr (m_Lexer_refuse z65)
            exact hm.tr (mB_Reader_namesBehind_95 (mB_Reader_namesBehind_19 n) hG)
        · clear hF
          exact hm.tr (mB_Reader_namesBehind_95 (mB_Reader_namesBehind_19 n) hG)
      have b_4m := (mf_9).len
      have b_4n := (mf_9).2
      have b_4p : H24.sh.length ≤ c0 + C := by omega
      have b_4q : H24.sl ≤ s0 + Sl := by omega
      refine hp_callV_a (v := ab_rf v23) (H1 := H24) (As := []) (rest := [.ref p0]) d_Reader_namesBehind_47 (k_Lexer_takeName z22 (C := H24.sh.length - H14.sh.length) (Sl := H24.sl - H14.sl) (by show H24.sh.length ≤ _; omega) (by show H24.sl ≤ _; omega)) (ab_mkC s_Lexer_takeName (Nat.le_of_ble_eq_true rfl) (Nat.le_of_ble_eq_true rfl) (show (H14.sh.length - c0) + (H24.sh.length - H14.sh.length) ≤ C from by omega) (show (H14.sl - s0) + (H24.sl - H14.sl) ≤ Sl from by omega)) (k4 175 rfl rfl) i_Lexer_takeName v_Lexer_takeName (by rw [(s_2).1]; exact q21) (by decide) rfl rfl (Nat.le_of_ble_eq_true rfl) ?_
      refine ab_widen (cells' := H24.sh.length - c0) (slots' := H24.sl - s0) (by show _ + (H24.sh.length - H14.sh.length) ≤ _; omega) (by show _ + (H24.sl - H14.sl) ≤ _; omega) ?_
      clear b_4l b_4s b_4m b_4n b_4e b_4f
      obtain ⟨a26, ea26, hF⟩ := on_s hG; clear hG
      subst ea26
      refine ab_iload d_Reader_namesBehind_50 rfl ?_
      refine bT_c hF (fun x30 H29 z27 er => ?_) (fun v28 H29 z27 hG => ?_)
      · subst er
        have mz : Mo H24 H29 := (m_Reader_known z27)
        have ml := mz.len
        have m2 := mz.2
        have hC9 : H29.sh.length ≤ c0 + C := hC
        have hS9 : H29.sl ≤ s0 + Sl := hS
        refine hp_callV_t (x := x30) (H1 := H29) (As := [.ref a26, .int x18]) (rest := []) d_Reader_namesBehind_52 (k_Reader_known z27 (C := H29.sh.length - H24.sh.length) (Sl := H29.sl - H24.sl) (by show H29.sh.length ≤ _; omega) (by show H29.sl ≤ _; omega)) (ab_mkC s_Reader_known (Nat.le_of_ble_eq_true rfl) (Nat.le_of_ble_eq_true rfl) (show (H24.sh.length - c0) + (H29.sh.length - H24.sh.length) ≤ C from by omega) (show (H24.sl - s0) + (H29.sl - H24.sl) ≤ Sl from by omega)) (k5 73 rfl rfl) i_Reader_known v_Reader_known q_5 (by decide) rfl rfl (Nat.le_of_ble_eq_true rfl) ?_
        exact ab_U_out rfl (by show _ + (H29.sh.length - H24.sh.length) ≤ C; omega) (by show _ + (H29.sl - H24.sl) ≤ Sl; omega) ⟨rfl, rfl⟩
      clear hF
      have mz_34 : Mo H24 H29 := (m_Reader_known z27)
      have b_35l := (mz_34).len
      have b_35s := (mz_34).2
      have b_35c : c0 ≤ H29.sh.length := by omega
      have b_35d : s0 ≤ H29.sl := by omega
      have q_36 := (mz_34).get q_5
      have q_37 := (mz_34).get q_6
      have q_38 := (mz_34).get q_7
      have q_39 := (mz_34).get q_8
      have mf_40 : Mo H29 r.2 := by
        have hm := Mo.rf H29
        obtain ⟨a31, ea31, hF⟩ := on_s hG; clear hG
        subst ea31
        obtain ⟨q32, hG⟩ := ck_s hF; clear hF
        obtain ⟨x33, -, hF⟩ := bnd_g hG; clear hG
        obtain ⟨x34, -, hG⟩ := bnd_g hF; clear hF
        obtain ⟨x35, -, hF⟩ := bnd_g hG; clear hG
        rcases ite_s hF with ⟨q_41, hG⟩ | ⟨q_41, hG⟩
        · clear hF
          rcases ite_s hG with ⟨q_42, hF⟩ | ⟨q_42, hF⟩
          · clear hG
            exact hm.tr (mB_Reader_namesBehind_95 (mB_Reader_namesBehind_19 n) hF)
          · clear hG
            obtain ⟨a38, e39, hG⟩ := rf_s hF; clear hF
            obtain ⟨q40, hF⟩ := ck_s hG; clear hG
            refine bT_c hF (fun x44 H43 z41 er => ?_) (fun v42 H43 z41 hG => ?_)
            · subst er; exact hm.tr (m_Lexer_refuse z41)
            clear hF
            replace hm : Mo H29 H43 := hm.tr (m_Lexer_refuse z41)
            exact hm.tr (mB_Reader_namesBehind_95 (mB_Reader_namesBehind_19 n) hG)
        · clear hF
          exact hm.tr (mB_Reader_namesBehind_95 (mB_Reader_namesBehind_19 n) hG)
      have b_35m := (mf_40).len
      have b_35n := (mf_40).2
      have b_35p : H29.sh.length ≤ c0 + C := by omega
      have b_35q : H29.sl ≤ s0 + Sl := by omega
      refine hp_callV_a (v := ab_rf v28) (H1 := H29) (As := [.ref a26, .int x18]) (rest := []) d_Reader_namesBehind_52 (k_Reader_known z27 (C := H29.sh.length - H24.sh.length) (Sl := H29.sl - H24.sl) (by show H29.sh.length ≤ _; omega) (by show H29.sl ≤ _; omega)) (ab_mkC s_Reader_known (Nat.le_of_ble_eq_true rfl) (Nat.le_of_ble_eq_true rfl) (show (H24.sh.length - c0) + (H29.sh.length - H24.sh.length) ≤ C from by omega) (show (H24.sl - s0) + (H29.sl - H24.sl) ≤ Sl from by omega)) (k5 73 rfl rfl) i_Reader_known v_Reader_known q_5 (by decide) rfl rfl (Nat.le_of_ble_eq_true rfl) ?_
      refine ab_widen (cells' := H29.sh.length - c0) (slots' := H29.sl - s0) (by show _ + (H29.sh.length - H24.sh.length) ≤ _; omega) (by show _ + (H29.sl - H24.sl) ≤ _; omega) ?_
      clear b_35l b_35s b_35m b_35n b_4c b_4d b_4p b_4q
      obtain ⟨a31, ea31, hF⟩ := on_s hG; clear hG
      subst ea31
      refine ab_astore (lv' := [some (.ref p0), some (.int p1), some (.int p2), some (.int p3), some (.int p4), some (.int l5), some (.int l6), some (.int x18), some (.ref a31), none]) d_Reader_namesBehind_55 (by decide) rfl rfl ?_
      refine ab_iconst (v := 1) d_Reader_namesBehind_57 (by decide) ?_
      refine ab_aload d_Reader_namesBehind_58 rfl rfl ?_
      obtain ⟨q32, hG⟩ := ck_s hF; clear hF
      refine hp_getI (f := 2) d_Reader_namesBehind_60 q32 (by decide) rfl (by decide) (k2 236 rfl rfl) rfl ?_
      refine ab_topi (fun x33 ex33 => ?_)
      replace hG := bnd_s ex33 hG
      refine ab_ishl d_Reader_namesBehind_63 ?_
      refine ab_topi (fun x34 ex34 => ?_)
      replace hG := bnd_s ex34 hG
      refine ab_istore (lv' := [some (.ref p0), some (.int p1), some (.int p2), some (.int p3), some (.int p4), some (.int l5), some (.int l6), some (.int x18), some (.ref a31), some (.int x34)]) d_Reader_namesBehind_64 (by decide) rfl ?_
      refine ab_aload d_Reader_namesBehind_66 rfl rfl ?_
      refine hp_getI (f := 1) d_Reader_namesBehind_68 q32 (by decide) rfl (by decide) (k2 233 rfl rfl) rfl ?_
      refine ab_topi (fun x35 ex35 => ?_)
      replace hG := bnd_s ex35 hG
      refine ab_iload_n d_Reader_namesBehind_71 rfl rfl ?_
      refine ab_icmp_ne (tgt := 95) d_Reader_namesBehind_72 (by decide) (fun q36 => ?_) (fun q36 => ?_)
      · rw [if_neg q36] at hG
        exact kB_Reader_namesBehind_95 (mB_Reader_namesBehind_19 n) ih hG b_35c b_35d b_35p b_35q hC hS
      · rw [if_pos q36] at hG
        refine ab_iload_n d_Reader_namesBehind_75 rfl rfl ?_
        refine ab_iload d_Reader_namesBehind_76 rfl ?_
        refine ab_ior d_Reader_namesBehind_78 ?_
        refine ab_iload d_Reader_namesBehind_79 rfl ?_
        refine ab_iand d_Reader_namesBehind_81 ?_
        refine ab_if_eq (tgt := 95) d_Reader_namesBehind_82 (by decide) (fun q37 => ?_) (fun q37 => ?_)
        · rw [if_pos q37] at hG
          exact kB_Reader_namesBehind_95 (mB_Reader_namesBehind_19 n) ih hG b_35c b_35d b_35p b_35q hC hS
        · rw [if_neg q37] at hG
          refine ab_aload_n d_Reader_namesBehind_85 rfl rfl rfl ?_
          obtain ⟨a38, e39, hF⟩ := rf_s hG; clear hG
          refine hp_getR (f := 0) d_Reader_namesBehind_86 q_36 (by decide) rfl (by decide) (k1 179 rfl rfl) rfl e39 ?_
          refine ab_iconst (v := 3) d_Reader_namesBehind_89 (by decide) ?_
          refine ab_iload d_Reader_namesBehind_90 rfl ?_
          obtain ⟨q40, hG⟩ := ck_s hF; clear hF
          refine bT_c hG (fun x44 H43 z41 er => ?_) (fun v42 H43 z41 hF => ?_)
          · subst er
            have mz : Mo H29 H43 := (m_Lexer_refuse z41)
            have ml := mz.len
            have m2 := mz.2
            have hC9 : H43.sh.length ≤ c0 + C := hC
            have hS9 : H43.sl ≤ s0 + Sl := hS
            refine hp_callV_t (x := x44) (H1 := H43) (As := [.int 3, .int x18]) (rest := []) d_Reader_namesBehind_92 (k_Lexer_refuse z41 (C := H43.sh.length - H29.sh.length) (Sl := H43.sl - H29.sl) (by show H43.sh.length ≤ _; omega) (by show H43.sl ≤ _; omega)) (ab_mkC s_Lexer_refuse (Nat.le_of_ble_eq_true rfl) (Nat.le_of_ble_eq_true rfl) (show (H29.sh.length - c0) + (H43.sh.length - H29.sh.length) ≤ C from by omega) (show (H29.sl - s0) + (H43.sl - H29.sl) ≤ Sl from by omega)) (k4 97 rfl rfl) i_Lexer_refuse v_Lexer_refuse q40 (by decide) rfl rfl (Nat.le_of_ble_eq_true rfl) ?_
            exact ab_U_out rfl (by show _ + (H43.sh.length - H29.sh.length) ≤ C; omega) (by show _ + (H43.sl - H29.sl) ≤ Sl; omega) ⟨rfl, rfl⟩
          clear hG
          have mz_50 : Mo H29 H43 := (m_Lexer_refuse z41)
          have b_51l := (mz_50).len
          have b_51s := (mz_50).2
          have b_51c : c0 ≤ H43.sh.length := by omega
          have b_51d : s0 ≤ H43.sl := by omega
          have q_52 := (mz_50).get q_36
          have q_53 := (mz_50).get q_37
          have q_54 := (mz_50).get q_38
          have q_55 := (mz_50).get q_39
          have q_56 := (mz_50).get q32
          have q_57 := (mz_50).get q40
          have fH43 : Mo H43 r.2 := by
            have hm := Mo.rf H43
            exact hm.tr (mB_Reader_namesBehind_95 (mB_Reader_namesBehind_19 n) hF)
          have b_51m := (fH43).len
          have b_51n := (fH43).2
          have b_51p : H43.sh.length ≤ c0 + C := by omega
          have b_51q : H43.sl ≤ s0 + Sl := by omega
          refine hp_callV_v (H1 := H43) (As := [.int 3, .int x18]) (rest := []) d_Reader_namesBehind_92 (k_Lexer_refuse z41 (C := H43.sh.length - H29.sh.length) (Sl := H43.sl - H29.sl) (by show H43.sh.length ≤ _; omega) (by show H43.sl ≤ _; omega)) (ab_mkC s_Lexer_refuse (Nat.le_of_ble_eq_true rfl) (Nat.le_of_ble_eq_true rfl) (show (H29.sh.length - c0) + (H43.sh.length - H29.sh.length) ≤ C from by omega) (show (H29.sl - s0) + (H43.sl - H29.sl) ≤ Sl from by omega)) (k4 97 rfl rfl) i_Lexer_refuse v_Lexer_refuse q40 (by decide) rfl rfl (Nat.le_of_ble_eq_true rfl) ?_
          refine ab_widen (cells' := H43.sh.length - c0) (slots' := H43.sl - s0) (by show _ + (H43.sh.length - H29.sh.length) ≤ _; omega) (by show _ + (H43.sl - H29.sl) ≤ _; omega) ?_
          clear b_51l b_51s b_51m b_51n b_35c b_35d b_35p b_35q
          exact kB_Reader_namesBehind_95 (mB_Reader_namesBehind_19 n) ih hF b_51c b_51d b_51p b_51q hC hS
def F_Reader_namesBehind (N : Nat) (p0 : Nat) (p1 : Int32) (p2 : Int32) (p3 : Int32) (p4 : Int32) (H : Hp) : Option ((Ot Int32) × Hp) :=
    ck (H.sh[p0]? = some (5, 0)) <|
    rf (H.P p0 0) fun a2 =>
    ck (H.sh[a2]? = some (1, 0)) <|
    bnd ((H.D a2 2)) fun x5 =>
    if x5 = p1 then
    B_Reader_namesBehind_19 N p0 p1 p2 p3 p4 N 0 0 H
    else
    some (.inl 0, H)
set_option maxRecDepth 20000 in
set_option maxHeartbeats 2000000 in
theorem m_Reader_namesBehind {N : Nat} {p0 : Nat} {p1 : Int32} {p2 : Int32} {p3 : Int32} {p4 : Int32} {H : Hp} {r : (Ot Int32) × Hp} (hF : F_Reader_namesBehind N p0 p1 p2 p3 p4 H = some r) : Mo H r.2 := by
  unfold F_Reader_namesBehind at hF
  have hm := Mo.rf H
  obtain ⟨q83, hG⟩ := ck_s hF; clear hF
  obtain ⟨a84, e85, hF⟩ := rf_s hG; clear hG
  obtain ⟨q86, hG⟩ := ck_s hF; clear hF
  obtain ⟨x87, -, hF⟩ := bnd_g hG; clear hG
  rcases ite_s hF with ⟨q_78, hG⟩ | ⟨q_78, hG⟩
  · clear hF
    exact hm.tr (mB_Reader_namesBehind_19 N 0 0 H r hG)
  · clear hF
    have hr := Option.some.inj hG; subst hr
    exact hm
set_option maxRecDepth 20000 in
set_option maxHeartbeats 2000000 in
theorem k_Reader_namesBehind {N : Nat} {p0 : Nat} {p1 : Int32} {p2 : Int32} {p3 : Int32} {p4 : Int32} {H : Hp} {r : (Ot Int32) × Hp} {C Sl : Nat} (hF : F_Reader_namesBehind N p0 p1 p2 p3 p4 H = some r) (hC : r.2.sh.length ≤ H.sh.length + C) (hS : r.2.sl ≤ H.sl + Sl) : ab_M y_Reader_namesBehind { frames := 8, cells := C, slots := Sl, locals := 145 } [.ref p0, .int p1, .int p2, .int p3, .int p4] (hpw H) (po (oI r.1) r.2) := by
  unfold F_Reader_namesBehind at hF
  obtain ⟨c0, e0⟩ : ∃ q, q = H.sh.length := ⟨_, rfl⟩
  obtain ⟨s0, e1⟩ : ∃ q, q = H.sl := ⟨_, rfl⟩
  rw [← e0] at hC
  rw [← e1] at hS
  have hc0 : c0 ≤ H.sh.length := Nat.le_of_eq e0
  have hs0 : s0 ≤ H.sl := Nat.le_of_eq e1
  have hcc : H.sh.length ≤ c0 + C := by omega
  have hss : H.sl ≤ s0 + Sl := by omega
  refine ab_of2 (lv := [some (.ref p0), some (.int p1), some (.int p2), some (.int p3), some (.int p4), none, none, none, none, none]) 5 rfl rfl (Nat.le_of_ble_eq_true rfl) ?_
  refine ab_widen (cells' := H.sh.length - c0) (slots' := H.sl - s0) (Nat.zero_le _) (Nat.zero_le _) ?_
  refine ab_aload_n d_Reader_namesBehind_0 rfl rfl rfl ?_
  obtain ⟨q1, hG⟩ := ck_s hF; clear hF
  obtain ⟨a2, e3, hF⟩ := rf_s hG; clear hG
  refine hp_getR (f := 0) d_Reader_namesBehind_1 q1 (by decide) rfl (by decide) (k1 179 rfl rfl) rfl e3 ?_
  obtain ⟨q4, hG⟩ := ck_s hF; clear hF
  refine hp_getI (f := 2) d_Reader_namesBehind_4 q4 (by decide) rfl (by decide) (k1 98 rfl rfl) rfl ?_
  refine ab_topi (fun x5 ex5 => ?_)
  replace hG := bnd_s ex5 hG
  refine ab_iload_n d_Reader_namesBehind_7 rfl rfl ?_
  refine ab_icmp_eq (tgt := 13) d_Reader_namesBehind_8 (by decide) (fun q6 => ?_) (fun q6 => ?_)
  · rw [if_pos q6] at hG
    refine ab_iconst (v := 0) d_Reader_namesBehind_13 (by decide) ?_
    refine ab_istore (lv' := [some (.ref p0), some (.int p1), some (.int p2), some (.int p3), some (.int p4), some (.int 0), none, none, none, none]) d_Reader_namesBehind_14 (by decide) rfl ?_
    refine ab_iconst (v := 0) d_Reader_namesBehind_16 (by decide) ?_
    refine ab_istore (lv' := [some (.ref p0), some (.int p1), some (.int p2), some (.int p3), some (.int p4), some (.int 0), some (.int 0), none, none, none]) d_Reader_namesBehind_17 (by decide) rfl ?_
    exact kB_Reader_namesBehind_19 N 0 0 H r hG hc0 hs0 hcc hss hC hS
  · rw [if_neg q6] at hG
    refine ab_iconst (v := 0) d_Reader_namesBehind_11 (by decide) ?_
    exact ab_iret d_Reader_namesBehind_12 rfl (by show _ ≤ C; omega) (by show _ ≤ Sl; omega) (by have hr := Option.some.inj hG; subst hr; exact ⟨rfl, rfl⟩)
def y_Program_isApart : ab_Y := (⟨"WorldEngine$Program", "isApart", "(II)Z"⟩, prog_6_method_10_code, 5, (some FieldType.boolean), [])
theorem d_Program_isApart_0 : decode y_Program_isApart.2.1 0 = .ok (.aload_n 0, 1) := by decide +kernel
theorem d_Program_isApart_1 : decode y_Program_isApart.2.1 1 = .ok (.getfield 41, 3) := by decide +kernel
theorem d_Program_isApart_4 : decode y_Program_isApart.2.1 4 = .ok (.iload_n 2, 1) := by decide +kernel
theorem d_Program_isApart_5 : decode y_Program_isApart.2.1 5 = .ok (.iaload, 1) := by decide +kernel
theorem d_Program_isApart_6 : decode y_Program_isApart.2.1 6 = .ok (.aload_n 0, 1) := by decide +kernel
theorem d_Program_isApart_7 : decode y_Program_isApart.2.1 7 = .ok (.getfield 47, 3) := by decide +kernel
theorem d_Program_isApart_10 : decode y_Program_isApart.2.1 10 = .ok (.iload_n 2, 1) := by decide +kernel
theorem d_Program_isApart_11 : decode y_Program_isApart.2.1 11 = .ok (.iaload, 1) := by decide +kernel
theorem d_Program_isApart_12 : decode y_Program_isApart.2.1 12 = .ok (.ior, 1) := by decide +kernel
theorem d_Program_isApart_13 : decode y_Program_isApart.2.1 13 = .ok (.aload_n 0, 1) := by decide +kernel
theorem d_Program_isApart_14 : decode y_Program_isApart.2.1 14 = .ok (.getfield 50, 3) := by decide +kernel
theorem d_Program_isApart_17 : decode y_Program_isApart.2.1 17 = .ok (.iload_n 2, 1) := by decide +kernel
theorem d_Program_isApart_18 : decode y_Program_isApart.2.1 18 = .ok (.iaload, 1) := by decide +kernel
theorem d_Program_isApart_19 : decode y_Program_isApart.2.1 19 = .ok (.ior, 1) := by decide +kernel
theorem d_Program_isApart_20 : decode y_Program_isApart.2.1 20 = .ok (.istore_n 3, 1) := by decide +kernel
theorem d_Program_isApart_21 : decode y_Program_isApart.2.1 21 = .ok (.aload_n 0, 1) := by decide +kernel
theorem d_Program_isApart_22 : decode y_Program_isApart.2.1 22 = .ok (.getfield 41, 3) := by decide +kernel
theorem d_Program_isApart_25 : decode y_Program_isApart.2.1 25 = .ok (.iload_n 1, 1) := by decide +kernel
theorem d_Program_isApart_26 : decode y_Program_isApart.2.1 26 = .ok (.iaload, 1) := by decide +kernel
theorem d_Program_isApart_27 : decode y_Program_isApart.2.1 27 = .ok (.aload_n 0, 1) := by decide +kernel
theorem d_Program_isApart_28 : decode y_Program_isApart.2.1 28 = .ok (.getfield 47, 3) := by decide +kernel
theorem d_Program_isApart_31 : decode y_Program_isApart.2.1 31 = .ok (.iload_n 1, 1) := by decide +kernel
theorem d_Program_isApart_32 : decode y_Program_isApart.2.1 32 = .ok (.iaload, 1) := by decide +kernel
theorem d_Program_isApart_33 : decode y_Program_isApart.2.1 33 = .ok (.ior, 1) := by decide +kernel
theorem d_Program_isApart_34 : decode y_Program_isApart.2.1 34 = .ok (.aload_n 0, 1) := by decide +kernel
theorem d_Program_isApart_35 : decode y_Program_isApart.2.1 35 = .ok (.getfield 50, 3) := by decide +kernel
theorem d_Program_isApart_38 : decode y_Program_isApart.2.1 38 = .ok (.iload_n 1, 1) := by decide +kernel
theorem d_Program_isApart_39 : decode y_Program_isApart.2.1 39 = .ok (.iaload, 1) := by decide +kernel
theorem d_Program_isApart_40 : decode y_Program_isApart.2.1 40 = .ok (.ior, 1) := by decide +kernel
theorem d_Program_isApart_41 : decode y_Program_isApart.2.1 41 = .ok (.istore 4, 2) := by decide +kernel
theorem d_Program_isApart_43 : decode y_Program_isApart.2.1 43 = .ok (.aload_n 0, 1) := by decide +kernel
theorem d_Program_isApart_44 : decode y_Program_isApart.2.1 44 = .ok (.getfield 38, 3) := by decide +kernel
theorem d_Program_isApart_47 : decode y_Program_isApart.2.1 47 = .ok (.iload_n 1, 1) := by decide +kernel
theorem d_Program_isApart_48 : decode y_Program_isApart.2.1 48 = .ok (.iaload, 1) := by decide +kernel
theorem d_Program_isApart_49 : decode y_Program_isApart.2.1 49 = .ok (.iload_n 2, 1) := by decide +kernel
theorem d_Program_isApart_50 : decode y_Program_isApart.2.1 50 = .ok (.ishr, 1) := by decide +kernel
theorem d_Program_isApart_51 : decode y_Program_isApart.2.1 51 = .ok (.iconst 1, 1) := by decide +kernel
theorem d_Program_isApart_52 : decode y_Program_isApart.2.1 52 = .ok (.iand, 1) := by decide +kernel
theorem d_Program_isApart_53 : decode y_Program_isApart.2.1 53 = .ok (.iconst 1, 1) := by decide +kernel
theorem d_Program_isApart_54 : decode y_Program_isApart.2.1 54 = .ok (.if_icmp .eq 26, 3) := by decide +kernel
theorem d_Program_isApart_57 : decode y_Program_isApart.2.1 57 = .ok (.aload_n 0, 1) := by decide +kernel
theorem d_Program_isApart_58 : decode y_Program_isApart.2.1 58 = .ok (.getfield 47, 3) := by decide +kernel
theorem d_Program_isApart_61 : decode y_Program_isApart.2.1 61 = .ok (.iload_n 1, 1) := by decide +kernel
theorem d_Program_isApart_62 : decode y_Program_isApart.2.1 62 = .ok (.iaload, 1) := by decide +kernel
theorem d_Program_isApart_63 : decode y_Program_isApart.2.1 63 = .ok (.iload_n 3, 1) := by decide +kernel
theorem d_Program_isApart_64 : decode y_Program_isApart.2.1 64 = .ok (.iand, 1) := by decide +kernel
theorem d_Program_isApart_65 : decode y_Program_isApart.2.1 65 = .ok (.ifCond .ne 15, 3) := by decide +kernel
theorem d_Program_isApart_68 : decode y_Program_isApart.2.1 68 = .ok (.aload_n 0, 1) := by decide +kernel
theorem d_Program_isApart_69 : decode y_Program_isApart.2.1 69 = .ok (.getfield 47, 3) := by decide +kernel
theorem d_Program_isApart_72 : decode y_Program_isApart.2.1 72 = .ok (.iload_n 2, 1) := by decide +kernel
theorem d_Program_isApart_73 : decode y_Program_isApart.2.1 73 = .ok (.iaload, 1) := by decide +kernel
theorem d_Program_isApart_74 : decode y_Program_isApart.2.1 74 = .ok (.iload 4, 2) := by decide +kernel
theorem d_Program_isApart_76 : decode y_Program_isApart.2.1 76 = .ok (.iand, 1) := by decide +kernel
theorem d_Program_isApart_77 : decode y_Program_isApart.2.1 77 = .ok (.ifCond .eq 7, 3) := by decide +kernel
theorem d_Program_isApart_80 : decode y_Program_isApart.2.1 80 = .ok (.iconst 1, 1) := by decide +kernel
theorem d_Program_isApart_81 : decode y_Program_isApart.2.1 81 = .ok (.goto 4, 3) := by decide +kernel
theorem d_Program_isApart_84 : decode y_Program_isApart.2.1 84 = .ok (.iconst 0, 1) := by decide +kernel
theorem d_Program_isApart_85 : decode y_Program_isApart.2.1 85 = .ok (.ireturn, 1) := by decide +kernel
theorem s_Program_isApart : ab_Stat y_Program_isApart 2 := ⟨(k5 107 rfl rfl), (k1 15 rfl rfl), ⟨by decide, by decide⟩, by decide +kernel⟩
theorem i_Program_isApart : Cond.instanceMethod y_Program_isApart.1 ∈ ab_T := (k5 106 rfl rfl)
theorem v_Program_isApart : Cond.selects "WorldEngine$Program" y_Program_isApart.1 y_Program_isApart.1 ∈ ab_T := ab_s (List.mem_of_getElem? (i := 21) rfl) rfl
def B_Program_isApart_80 (N : Nat) (p0 : Nat) (p1 : Int32) (p2 : Int32)  (H : Hp) : Option (Int32 × Hp) :=
    some (1, H)
set_option maxRecDepth 20000 in
set_option maxHeartbeats 2000000 in
theorem mB_Program_isApart_80 {N : Nat} {p0 : Nat} {p1 : Int32} {p2 : Int32}  {H : Hp} {r : Int32 × Hp} (hF : B_Program_isApart_80 N p0 p1 p2  H = some r) : Sa H r.2 := by
  unfold B_Program_isApart_80 at hF
  have hm := Sa.rf H
  have hr := Option.some.inj hF; subst hr
  exact hm
set_option maxRecDepth 20000 in
set_option maxHeartbeats 2000000 in
theorem kB_Program_isApart_80 {N : Nat} {p0 : Nat} {p1 : Int32} {p2 : Int32}  {H : Hp} {r : Int32 × Hp} (hF : B_Program_isApart_80 N p0 p1 p2  H = some r) : ab_V y_Program_isApart { frames := 0, cells := 0, slots := 0, locals := 0 } (po (.returned (some (.int r.1))) r.2) 0 0 0 0 80 [some (.ref p0), some (.int p1), some (.int p2), none, none] [] (hpw H) := by
  unfold B_Program_isApart_80 at hF
  refine ab_iconst (v := 1) d_Program_isApart_80 (by decide) ?_
  refine ab_goto (tgt := 85) d_Program_isApart_81 (by decide) ?_
  exact ab_zret d_Program_isApart_85 rfl rfl (Nat.le_refl _) (Nat.le_refl _) (by have hr := Option.some.inj hF; subst hr; exact ⟨rfl, rfl⟩)
def F_Program_isApart (N : Nat) (p0 : Nat) (p1 : Int32) (p2 : Int32) (H : Hp) : Option (Int32 × Hp) :=
    ck (H.sh[p0]? = some (4, 0)) <|
    rf (H.P p0 9) fun a2 =>
    ar H 100 a2 fun n4 =>
    ck (inb p2 n4) <|
    bnd ((H.D a2 (p2).toNatClampNeg)) fun x7 =>
    rf (H.P p0 11) fun a8 =>
    ar H 100 a8 fun n10 =>
    ck (inb p2 n10) <|
    bnd ((H.D a8 (p2).toNatClampNeg)) fun x13 =>
    rf (H.P p0 12) fun a14 =>
    ar H 100 a14 fun n16 =>
    ck (inb p2 n16) <|
    bnd ((H.D a14 (p2).toNatClampNeg)) fun x19 =>
    bnd (((x7 ||| x13) ||| x19)) fun x20 =>
    rf (H.P p0 9) fun a21 =>
    ar H 100 a21 fun n23 =>
    ck (inb p1 n23) <|
    bnd ((H.D a21 (p1).toNatClampNeg)) fun x26 =>
    rf (H.P p0 11) fun a27 =>
    ar H 100 a27 fun n29 =>
    ck (inb p1 n29) <|
    bnd ((H.D a27 (p1).toNatClampNeg)) fun x32 =>
    rf (H.P p0 12) fun a33 =>
    ar H 100 a33 fun n35 =>
    ck (inb p1 n35) <|
    bnd ((H.D a33 (p1).toNatClampNeg)) fun x38 =>
    bnd (((x26 ||| x32) ||| x38)) fun x39 =>
    rf (H.P p0 8) fun a40 =>
    ar H 100 a40 fun n42 =>
    ck (inb p1 n42) <|
    bnd ((H.D a40 (p1).toNatClampNeg)) fun x45 =>
    if ((x45 >>> (p2 &&& 31)) &&& (1 : Int32)) = (1 : Int32) then
    B_Program_isApart_80 N p0 p1 p2  H
    else
    rf (H.P p0 11) fun a47 =>
    ar H 100 a47 fun n49 =>
    ck (inb p1 n49) <|
    bnd ((H.D a47 (p1).toNatClampNeg)) fun x52 =>
    if (x52 &&& x20) = (0 : Int32) then
    rf (H.P p0 11) fun a54 =>
    ar H 100 a54 fun n56 =>
    ck (inb p2 n56) <|
    bnd ((H.D a54 (p2).toNatClampNeg)) fun x59 =>
    if (x59 &&& x39) = (0 : Int32) then
    some (0, H)
    else
    B_Program_isApart_80 N p0 p1 p2  H
    else
    B_Program_isApart_80 N p0 p1 p2  H
set_option maxRecDepth 20000 in
set_option maxHeartbeats 2000000 in
theorem m_Program_isApart {N : Nat} {p0 : Nat} {p1 : Int32} {p2 : Int32} {H : Hp} {r : Int32 × Hp} (hF : F_Program_isApart N p0 p1 p2 H = some r) : Sa H r.2 := by
  unfold F_Program_isApart at hF
  have hm := Sa.rf H
  obtain ⟨q61, hG⟩ := ck_s hF; clear hF
  obtain ⟨a62, e63, hF⟩ := rf_s hG; clear hG
  obtain ⟨n64, q65, hG⟩ := ar_s hF; clear hF
  obtain ⟨q66, hF⟩ := ck_s hG; clear hG
  obtain ⟨x67, -, hG⟩ := bnd_g hF; clear hF
  obtain ⟨a68, e69, hF⟩ := rf_s hG; clear hG
  obtain ⟨n70, q71, hG⟩ := ar_s hF; clear hF
  obtain ⟨q72, hF⟩ := ck_s hG; clear hG
  obtain ⟨x73, -, hG⟩ := bnd_g hF; clear hF
  obtain ⟨a74, e75, hF⟩ := rf_s hG; clear hG
  obtain ⟨n76, q77, hG⟩ := ar_s hF; clear hF
  obtain ⟨q78, hF⟩ := ck_s hG; clear hG
  obtain ⟨x79, -, hG⟩ := bnd_g hF; clear hF
  obtain ⟨x80, -, hF⟩ := bnd_g hG; clear hG
  obtain ⟨a81, e82, hG⟩ := rf_s hF; clear hF
  obtain ⟨n83, q84, hF⟩ := ar_s hG; clear hG
  obtain ⟨q85, hG⟩ := ck_s hF; clear hF
  obtain ⟨x86, -, hF⟩ := bnd_g hG; clear hG
  obtain ⟨a87, e88, hG⟩ := rf_s hF; clear hF
  obtain ⟨n89, q90, hF⟩ := ar_s hG; clear hG
  obtain ⟨q91, hG⟩ := ck_s hF; clear hF
  obtain ⟨x92, -, hF⟩ := bnd_g hG; clear hG
  obtain ⟨a93, e94, hG⟩ := rf_s hF; clear hF
  obtain ⟨n95, q96, hF⟩ := ar_s hG; clear hG
  obtain ⟨q97, hG⟩ := ck_s hF; clear hF
  obtain ⟨x98, -, hF⟩ := bnd_g hG; clear hG
  obtain ⟨x99, -, hG⟩ := bnd_g hF; clear hF
  obtain ⟨a100, e101, hF⟩ := rf_s hG; clear hG
  obtain ⟨n102, q103, hG⟩ := ar_s hF; clear hF
  obtain ⟨q104, hF⟩ := ck_s hG; clear hG
  obtain ⟨x105, -, hG⟩ := bnd_g hF; clear hF
  rcases ite_s hG with ⟨q_1, hF⟩ | ⟨q_1, hF⟩
  · clear hG
    exact hm.tr (mB_Program_isApart_80 hF)
  · clear hG
    obtain ⟨a107, e108, hG⟩ := rf_s hF; clear hF
    obtain ⟨n109, q110, hF⟩ := ar_s hG; clear hG
    obtain ⟨q111, hG⟩ := ck_s hF; clear hF
    obtain ⟨x112, -, hF⟩ := bnd_g hG; clear hG
    rcases ite_s hF with ⟨q_2, hG⟩ | ⟨q_2, hG⟩
    · clear hF
      obtain ⟨a114, e115, hF⟩ := rf_s hG; clear hG
      obtain ⟨n116, q117, hG⟩ := ar_s hF; clear hF
      obtain ⟨q118, hF⟩ := ck_s hG; clear hG
      obtain ⟨x119, -, hG⟩ := bnd_g hF; clear hF
      rcases ite_s hG with ⟨q_3, hF⟩ | ⟨q_3, hF⟩
      · clear hG
        have hr := Option.some.inj hF; subst hr
        exact hm
      · clear hG
        exact hm.tr (mB_Program_isApart_80 hF)
    · clear hF
      exact hm.tr (mB_Program_isApart_80 hG)
set_option maxRecDepth 20000 in
set_option maxHeartbeats 2000000 in
theorem k_Program_isApart {N : Nat} {p0 : Nat} {p1 : Int32} {p2 : Int32} {H : Hp} {r : Int32 × Hp} (hF : F_Program_isApart N p0 p1 p2 H = some r) : ab_M y_Program_isApart { frames := 0, cells := 0, slots := 0, locals := 0 } [.ref p0, .int p1, .int p2] (hpw H) (po (.returned (some (.int r.1))) r.2) := by
  unfold F_Program_isApart at hF
  refine ab_of2 (lv := [some (.ref p0), some (.int p1), some (.int p2), none, none]) 2 rfl rfl (Nat.le_of_ble_eq_true rfl) ?_
  refine ab_aload_n d_Program_isApart_0 rfl rfl rfl ?_
  obtain ⟨q1, hG⟩ := ck_s hF; clear hF
  obtain ⟨a2, e3, hF⟩ := rf_s hG; clear hG
  refine hp_getR (f := 9) d_Program_isApart_1 q1 (by decide) rfl (by decide) (k3 86 rfl rfl) rfl e3 ?_
  refine ab_iload_n d_Program_isApart_4 rfl rfl ?_
  obtain ⟨n4, q5, hG⟩ := ar_s hF; clear hF
  obtain ⟨q6, hF⟩ := ck_s hG; clear hG
  refine hp_iald d_Program_isApart_5 tI q5 q6 ?_
  refine ab_topi (fun x7 ex7 => ?_)
  replace hF := bnd_s ex7 hF
  refine ab_aload_n d_Program_isApart_6 rfl rfl rfl ?_
  obtain ⟨a8, e9, hG⟩ := rf_s hF; clear hF
  refine hp_getR (f := 11) d_Program_isApart_7 q1 (by decide) rfl (by decide) (k3 95 rfl rfl) rfl e9 ?_
  refine ab_iload_n d_Program_isApart_10 rfl rfl ?_
  obtain ⟨n10, q11, hF⟩ := ar_s hG; clear hG
  obtain ⟨q12, hG⟩ := ck_s hF; clear hF
  refine hp_iald d_Program_isApart_11 tI q11 q12 ?_
  refine ab_topi (fun x13 ex13 => ?_)
  replace hG := bnd_s ex13 hG
  refine ab_ior d_Program_isApart_12 ?_
  refine ab_aload_n d_Program_isApart_13 rfl rfl rfl ?_
  obtain ⟨a14, e15, hF⟩ := rf_s hG; clear hG
  refine hp_getR (f := 12) d_Program_isApart_14 q1 (by decide) rfl (by decide) (k3 98 rfl rfl) rfl e15 ?_
  refine ab_iload_n d_Program_isApart_17 rfl rfl ?_
  obtain ⟨n16, q17, hG⟩ := ar_s hF; clear hF
  obtain ⟨q18, hF⟩ := ck_s hG; clear hG
  refine hp_iald d_Program_isApart_18 tI q17 q18 ?_
  refine ab_topi (fun x19 ex19 => ?_)
  replace hF := bnd_s ex19 hF
  refine ab_ior d_Program_isApart_19 ?_
  refine ab_topi (fun x20 ex20 => ?_)
  replace hF := bnd_s ex20 hF
  refine ab_istore_n (lv' := [some (.ref p0), some (.int p1), some (.int p2), some (.int x20), none]) d_Program_isApart_20 rfl (by decide) rfl ?_
  refine ab_aload_n d_Program_isApart_21 rfl rfl rfl ?_
  obtain ⟨a21, e22, hG⟩ := rf_s hF; clear hF
  refine hp_getR (f := 9) d_Program_isApart_22 q1 (by decide) rfl (by decide) (k3 86 rfl rfl) rfl e22 ?_
  refine ab_iload_n d_Program_isApart_25 rfl rfl ?_
  obtain ⟨n23, q24, hF⟩ := ar_s hG; clear hG
  obtain ⟨q25, hG⟩ := ck_s hF; clear hF
  refine hp_iald d_Program_isApart_26 tI q24 q25 ?_
  refine ab_topi (fun x26 ex26 => ?_)
  replace hG := bnd_s ex26 hG
  refine ab_aload_n d_Program_isApart_27 rfl rfl rfl ?_
  obtain ⟨a27, e28, hF⟩ := rf_s hG; clear hG
  refine hp_getR (f := 11) d_Program_isApart_28 q1 (by decide) rfl (by decide) (k3 95 rfl rfl) rfl e28 ?_
  refine ab_iload_n d_Program_isApart_31 rfl rfl ?_
  obtain ⟨n29, q30, hG⟩ := ar_s hF; clear hF
  obtain ⟨q31, hF⟩ := ck_s hG; clear hG
  refine hp_iald d_Program_isApart_32 tI q30 q31 ?_
  refine ab_topi (fun x32 ex32 => ?_)
  replace hF := bnd_s ex32 hF
  refine ab_ior d_Program_isApart_33 ?_
  refine ab_aload_n d_Program_isApart_34 rfl rfl rfl ?_
  obtain ⟨a33, e34, hG⟩ := rf_s hF; clear hF
  refine hp_getR (f := 12) d_Program_isApart_35 q1 (by decide) rfl (by decide) (k3 98 rfl rfl) rfl e34 ?_
  refine ab_iload_n d_Program_isApart_38 rfl rfl ?_
  obtain ⟨n35, q36, hF⟩ := ar_s hG; clear hG
  obtain ⟨q37, hG⟩ := ck_s hF; clear hF
  refine hp_iald d_Program_isApart_39 tI q36 q37 ?_
  refine ab_topi (fun x38 ex38 => ?_)
  replace hG := bnd_s ex38 hG
  refine ab_ior d_Program_isApart_40 ?_
  refine ab_topi (fun x39 ex39 => ?_)
  replace hG := bnd_s ex39 hG
  refine ab_istore (lv' := [some (.ref p0), some (.int p1), some (.int p2), some (.int x20), some (.int x39)]) d_Program_isApart_41 (by decide) rfl ?_
  refine ab_aload_n d_Program_isApart_43 rfl rfl rfl ?_
  obtain ⟨a40, e41, hF⟩ := rf_s hG; clear hG
  refine hp_getR (f := 8) d_Program_isApart_44 q1 (by decide) rfl (by decide) (k3 84 rfl rfl) rfl e41 ?_
  refine ab_iload_n d_Program_isApart_47 rfl rfl ?_
  obtain ⟨n42, q43, hG⟩ := ar_s hF; clear hF
  obtain ⟨q44, hF⟩ := ck_s hG; clear hG
  refine hp_iald d_Program_isApart_48 tI q43 q44 ?_
  refine ab_topi (fun x45 ex45 => ?_)
  replace hF := bnd_s ex45 hF
  refine ab_iload_n d_Program_isApart_49 rfl rfl ?_
  refine ab_ishr d_Program_isApart_50 ?_
  refine ab_iconst (v := 1) d_Program_isApart_51 (by decide) ?_
  refine ab_iand d_Program_isApart_52 ?_
  refine ab_iconst (v := 1) d_Program_isApart_53 (by decide) ?_
  refine ab_icmp_eq (tgt := 80) d_Program_isApart_54 (by decide) (fun q46 => ?_) (fun q46 => ?_)
  · rw [if_pos q46] at hF
    refine ab_le (lv' := [some (.ref p0), some (.int p1), some (.int p2), none, none]) ⟨rfl, ⟨rfl, ⟨rfl, trivial⟩⟩⟩ ?_
    exact kB_Program_isApart_80 hF
  · rw [if_neg q46] at hF
    refine ab_aload_n d_Program_isApart_57 rfl rfl rfl ?_
    obtain ⟨a47, e48, hG⟩ := rf_s hF; clear hF
    refine hp_getR (f := 11) d_Program_isApart_58 q1 (by decide) rfl (by decide) (k3 95 rfl rfl) rfl e48 ?_
    refine ab_iload_n d_Program_isApart_61 rfl rfl ?_
    obtain ⟨n49, q50, hF⟩ := ar_s hG; clear hG
    obtain ⟨q51, hG⟩ := ck_s hF; clear hF
    refine hp_iald d_Program_isApart_62 tI q50 q51 ?_
    refine ab_topi (fun x52 ex52 => ?_)
    replace hG := bnd_s ex52 hG
    refine ab_iload_n d_Program_isApart_63 rfl rfl ?_
    refine ab_iand d_Program_isApart_64 ?_
    refine ab_if_ne (tgt := 80) d_Program_isApart_65 (by decide) (fun q53 => ?_) (fun q53 => ?_)
    · rw [if_neg q53] at hG
      refine ab_le (lv' := [some (.ref p0), some (.int p1), some (.int p2), none, none]) ⟨rfl, ⟨rfl, ⟨rfl, trivial⟩⟩⟩ ?_
      exact kB_Program_isApart_80 hG
    · rw [if_pos q53] at hG
      refine ab_aload_n d_Program_isApart_68 rfl rfl rfl ?_
      obtain ⟨a54, e55, hF⟩ := rf_s hG; clear hG
      refine hp_getR (f := 11) d_Program_isApart_69 q1 (by decide) rfl (by decide) (k3 95 rfl rfl) rfl e55 ?_
      refine ab_iload_n d_Program_isApart_72 rfl rfl ?_
      obtain ⟨n56, q57, hG⟩ := ar_s hF; clear hF
      obtain ⟨q58, hF⟩ := ck_s hG; clear hG
      refine hp_iald d_Program_isApart_73 tI q57 q58 ?_
      refine ab_topi (fun x59 ex59 => ?_)
      replace hF := bnd_s ex59 hF
      refine ab_iload d_Program_isApart_74 rfl ?_
      refine ab_iand d_Program_isApart_76 ?_
      refine ab_if_eq (tgt := 84) d_Program_isApart_77 (by decide) (fun q60 => ?_) (fun q60 => ?_)
      · rw [if_pos q60] at hF
        refine ab_iconst (v := 0) d_Program_isApart_84 (by decide) ?_
        exact ab_zret d_Program_isApart_85 rfl rfl (Nat.le_refl _) (Nat.le_refl _) (by have hr := Option.some.inj hF; subst hr; exact ⟨rfl, rfl⟩)
      · rw [if_neg q60] at hF
        refine ab_le (lv' := [some (.ref p0), some (.int p1), some (.int p2), none, none]) ⟨rfl, ⟨rfl, ⟨rfl, trivial⟩⟩⟩ ?_
        exact kB_Program_isApart_80 hF
