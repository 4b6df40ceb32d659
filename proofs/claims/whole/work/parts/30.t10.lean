def y_Reader_readValues : ab_Y := (⟨"WorldEngine$Reader", "readValues", "(II)V"⟩, prog_7_method_11_code, 9, none, [])
theorem d_Reader_readValues_0 : decode y_Reader_readValues.2.1 0 = .ok (.iconst 0, 1) := by decide +kernel
theorem d_Reader_readValues_1 : decode y_Reader_readValues.2.1 1 = .ok (.istore_n 3, 1) := by decide +kernel
theorem d_Reader_readValues_2 : decode y_Reader_readValues.2.1 2 = .ok (.iconst 0, 1) := by decide +kernel
theorem d_Reader_readValues_3 : decode y_Reader_readValues.2.1 3 = .ok (.istore 4, 2) := by decide +kernel
theorem d_Reader_readValues_5 : decode y_Reader_readValues.2.1 5 = .ok (.iload 4, 2) := by decide +kernel
theorem d_Reader_readValues_7 : decode y_Reader_readValues.2.1 7 = .ok (.bipush 48, 2) := by decide +kernel
theorem d_Reader_readValues_9 : decode y_Reader_readValues.2.1 9 = .ok (.if_icmp .gt 164, 3) := by decide +kernel
theorem d_Reader_readValues_12 : decode y_Reader_readValues.2.1 12 = .ok (.aload_n 0, 1) := by decide +kernel
theorem d_Reader_readValues_13 : decode y_Reader_readValues.2.1 13 = .ok (.getfield 7, 3) := by decide +kernel
theorem d_Reader_readValues_16 : decode y_Reader_readValues.2.1 16 = .ok (.invokevirtual 77, 3) := by decide +kernel
theorem d_Reader_readValues_19 : decode y_Reader_readValues.2.1 19 = .ok (.aload_n 0, 1) := by decide +kernel
theorem d_Reader_readValues_20 : decode y_Reader_readValues.2.1 20 = .ok (.getfield 7, 3) := by decide +kernel
theorem d_Reader_readValues_23 : decode y_Reader_readValues.2.1 23 = .ok (.getfield 65, 3) := by decide +kernel
theorem d_Reader_readValues_26 : decode y_Reader_readValues.2.1 26 = .ok (.istore 5, 2) := by decide +kernel
theorem d_Reader_readValues_28 : decode y_Reader_readValues.2.1 28 = .ok (.aload_n 0, 1) := by decide +kernel
theorem d_Reader_readValues_29 : decode y_Reader_readValues.2.1 29 = .ok (.getfield 22, 3) := by decide +kernel
theorem d_Reader_readValues_32 : decode y_Reader_readValues.2.1 32 = .ok (.getfield 94, 3) := by decide +kernel
theorem d_Reader_readValues_35 : decode y_Reader_readValues.2.1 35 = .ok (.iload_n 2, 1) := by decide +kernel
theorem d_Reader_readValues_36 : decode y_Reader_readValues.2.1 36 = .ok (.aload_n 0, 1) := by decide +kernel
theorem d_Reader_readValues_37 : decode y_Reader_readValues.2.1 37 = .ok (.getfield 7, 3) := by decide +kernel
theorem d_Reader_readValues_40 : decode y_Reader_readValues.2.1 40 = .ok (.invokevirtual 80, 3) := by decide +kernel
theorem d_Reader_readValues_43 : decode y_Reader_readValues.2.1 43 = .ok (.invokevirtual 135, 3) := by decide +kernel
theorem d_Reader_readValues_46 : decode y_Reader_readValues.2.1 46 = .ok (.istore 6, 2) := by decide +kernel
theorem d_Reader_readValues_48 : decode y_Reader_readValues.2.1 48 = .ok (.iload 6, 2) := by decide +kernel
theorem d_Reader_readValues_50 : decode y_Reader_readValues.2.1 50 = .ok (.ifCond .ge 13, 3) := by decide +kernel
theorem d_Reader_readValues_53 : decode y_Reader_readValues.2.1 53 = .ok (.aload_n 0, 1) := by decide +kernel
theorem d_Reader_readValues_54 : decode y_Reader_readValues.2.1 54 = .ok (.getfield 7, 3) := by decide +kernel
theorem d_Reader_readValues_57 : decode y_Reader_readValues.2.1 57 = .ok (.iconst 4, 1) := by decide +kernel
theorem d_Reader_readValues_58 : decode y_Reader_readValues.2.1 58 = .ok (.iload 5, 2) := by decide +kernel
theorem d_Reader_readValues_60 : decode y_Reader_readValues.2.1 60 = .ok (.invokevirtual 68, 3) := by decide +kernel
theorem d_Reader_readValues_63 : decode y_Reader_readValues.2.1 63 = .ok (.iconst 1, 1) := by decide +kernel
theorem d_Reader_readValues_64 : decode y_Reader_readValues.2.1 64 = .ok (.iload 6, 2) := by decide +kernel
theorem d_Reader_readValues_66 : decode y_Reader_readValues.2.1 66 = .ok (.aload_n 0, 1) := by decide +kernel
theorem d_Reader_readValues_67 : decode y_Reader_readValues.2.1 67 = .ok (.getfield 22, 3) := by decide +kernel
theorem d_Reader_readValues_70 : decode y_Reader_readValues.2.1 70 = .ok (.getfield 94, 3) := by decide +kernel
theorem d_Reader_readValues_73 : decode y_Reader_readValues.2.1 73 = .ok (.getfield 177, 3) := by decide +kernel
theorem d_Reader_readValues_76 : decode y_Reader_readValues.2.1 76 = .ok (.iload_n 2, 1) := by decide +kernel
theorem d_Reader_readValues_77 : decode y_Reader_readValues.2.1 77 = .ok (.iaload, 1) := by decide +kernel
theorem d_Reader_readValues_78 : decode y_Reader_readValues.2.1 78 = .ok (.isub, 1) := by decide +kernel
theorem d_Reader_readValues_79 : decode y_Reader_readValues.2.1 79 = .ok (.ishl, 1) := by decide +kernel
theorem d_Reader_readValues_80 : decode y_Reader_readValues.2.1 80 = .ok (.istore 7, 2) := by decide +kernel
theorem d_Reader_readValues_82 : decode y_Reader_readValues.2.1 82 = .ok (.iload_n 3, 1) := by decide +kernel
theorem d_Reader_readValues_83 : decode y_Reader_readValues.2.1 83 = .ok (.iload 7, 2) := by decide +kernel
theorem d_Reader_readValues_85 : decode y_Reader_readValues.2.1 85 = .ok (.iand, 1) := by decide +kernel
theorem d_Reader_readValues_86 : decode y_Reader_readValues.2.1 86 = .ok (.ifCond .eq 13, 3) := by decide +kernel
theorem d_Reader_readValues_89 : decode y_Reader_readValues.2.1 89 = .ok (.aload_n 0, 1) := by decide +kernel
theorem d_Reader_readValues_90 : decode y_Reader_readValues.2.1 90 = .ok (.getfield 7, 3) := by decide +kernel
theorem d_Reader_readValues_93 : decode y_Reader_readValues.2.1 93 = .ok (.iconst 3, 1) := by decide +kernel
theorem d_Reader_readValues_94 : decode y_Reader_readValues.2.1 94 = .ok (.iload 5, 2) := by decide +kernel
theorem d_Reader_readValues_96 : decode y_Reader_readValues.2.1 96 = .ok (.invokevirtual 68, 3) := by decide +kernel
theorem d_Reader_readValues_99 : decode y_Reader_readValues.2.1 99 = .ok (.iload_n 3, 1) := by decide +kernel
theorem d_Reader_readValues_100 : decode y_Reader_readValues.2.1 100 = .ok (.iload 7, 2) := by decide +kernel
theorem d_Reader_readValues_102 : decode y_Reader_readValues.2.1 102 = .ok (.ior, 1) := by decide +kernel
theorem d_Reader_readValues_103 : decode y_Reader_readValues.2.1 103 = .ok (.istore_n 3, 1) := by decide +kernel
theorem d_Reader_readValues_104 : decode y_Reader_readValues.2.1 104 = .ok (.aload_n 0, 1) := by decide +kernel
theorem d_Reader_readValues_105 : decode y_Reader_readValues.2.1 105 = .ok (.getfield 7, 3) := by decide +kernel
theorem d_Reader_readValues_108 : decode y_Reader_readValues.2.1 108 = .ok (.bipush 17, 2) := by decide +kernel
theorem d_Reader_readValues_110 : decode y_Reader_readValues.2.1 110 = .ok (.invokevirtual 113, 3) := by decide +kernel
theorem d_Reader_readValues_113 : decode y_Reader_readValues.2.1 113 = .ok (.aload_n 0, 1) := by decide +kernel
theorem d_Reader_readValues_114 : decode y_Reader_readValues.2.1 114 = .ok (.aload_n 0, 1) := by decide +kernel
theorem d_Reader_readValues_115 : decode y_Reader_readValues.2.1 115 = .ok (.getfield 22, 3) := by decide +kernel
theorem d_Reader_readValues_118 : decode y_Reader_readValues.2.1 118 = .ok (.getfield 94, 3) := by decide +kernel
theorem d_Reader_readValues_121 : decode y_Reader_readValues.2.1 121 = .ok (.getfield 131, 3) := by decide +kernel
theorem d_Reader_readValues_124 : decode y_Reader_readValues.2.1 124 = .ok (.iload 6, 2) := by decide +kernel
theorem d_Reader_readValues_126 : decode y_Reader_readValues.2.1 126 = .ok (.aaload, 1) := by decide +kernel
theorem d_Reader_readValues_127 : decode y_Reader_readValues.2.1 127 = .ok (.getfield 180, 3) := by decide +kernel
theorem d_Reader_readValues_130 : decode y_Reader_readValues.2.1 130 = .ok (.invokevirtual 183, 3) := by decide +kernel
theorem d_Reader_readValues_133 : decode y_Reader_readValues.2.1 133 = .ok (.istore 8, 2) := by decide +kernel
theorem d_Reader_readValues_135 : decode y_Reader_readValues.2.1 135 = .ok (.aload_n 0, 1) := by decide +kernel
theorem d_Reader_readValues_136 : decode y_Reader_readValues.2.1 136 = .ok (.getfield 22, 3) := by decide +kernel
theorem d_Reader_readValues_139 : decode y_Reader_readValues.2.1 139 = .ok (.getfield 150, 3) := by decide +kernel
theorem d_Reader_readValues_142 : decode y_Reader_readValues.2.1 142 = .ok (.iload_n 1, 1) := by decide +kernel
theorem d_Reader_readValues_143 : decode y_Reader_readValues.2.1 143 = .ok (.bipush 48, 2) := by decide +kernel
theorem d_Reader_readValues_145 : decode y_Reader_readValues.2.1 145 = .ok (.imul, 1) := by decide +kernel
theorem d_Reader_readValues_146 : decode y_Reader_readValues.2.1 146 = .ok (.iload 6, 2) := by decide +kernel
theorem d_Reader_readValues_148 : decode y_Reader_readValues.2.1 148 = .ok (.iadd, 1) := by decide +kernel
theorem d_Reader_readValues_149 : decode y_Reader_readValues.2.1 149 = .ok (.iload 8, 2) := by decide +kernel
theorem d_Reader_readValues_151 : decode y_Reader_readValues.2.1 151 = .ok (.iastore, 1) := by decide +kernel
theorem d_Reader_readValues_152 : decode y_Reader_readValues.2.1 152 = .ok (.aload_n 0, 1) := by decide +kernel
theorem d_Reader_readValues_153 : decode y_Reader_readValues.2.1 153 = .ok (.getfield 7, 3) := by decide +kernel
theorem d_Reader_readValues_156 : decode y_Reader_readValues.2.1 156 = .ok (.getfield 36, 3) := by decide +kernel
theorem d_Reader_readValues_159 : decode y_Reader_readValues.2.1 159 = .ok (.bipush 14, 2) := by decide +kernel
theorem d_Reader_readValues_161 : decode y_Reader_readValues.2.1 161 = .ok (.if_icmp .eq 6, 3) := by decide +kernel
theorem d_Reader_readValues_164 : decode y_Reader_readValues.2.1 164 = .ok (.goto 9, 3) := by decide +kernel
theorem d_Reader_readValues_167 : decode y_Reader_readValues.2.1 167 = .ok (.iinc 4 1, 3) := by decide +kernel
theorem d_Reader_readValues_170 : decode y_Reader_readValues.2.1 170 = .ok (.goto (-165), 3) := by decide +kernel
theorem d_Reader_readValues_173 : decode y_Reader_readValues.2.1 173 = .ok (.aload_n 0, 1) := by decide +kernel
theorem d_Reader_readValues_174 : decode y_Reader_readValues.2.1 174 = .ok (.getfield 7, 3) := by decide +kernel
theorem d_Reader_readValues_177 : decode y_Reader_readValues.2.1 177 = .ok (.bipush 13, 2) := by decide +kernel
theorem d_Reader_readValues_179 : decode y_Reader_readValues.2.1 179 = .ok (.invokevirtual 113, 3) := by decide +kernel
theorem d_Reader_readValues_182 : decode y_Reader_readValues.2.1 182 = .ok (.return_, 1) := by decide +kernel
theorem s_Reader_readValues : ab_Stat y_Reader_readValues 2 := ⟨(k5 80 rfl rfl), (k1 7 rfl rfl), ⟨by decide, by decide⟩, by decide +kernel⟩
theorem i_Reader_readValues : Cond.instanceMethod y_Reader_readValues.1 ∈ ab_T := (k5 79 rfl rfl)
theorem v_Reader_readValues : Cond.selects "WorldEngine$Reader" y_Reader_readValues.1 y_Reader_readValues.1 ∈ ab_T := ab_s (List.mem_of_getElem? (i := 17) rfl) rfl
def B_Reader_readValues_173 (N : Nat) (p0 : Nat) (p1 : Int32) (p2 : Int32)  (H : Hp) : Option ((Ot Unit) × Hp) :=
    ck (H.sh[p0]? = some (5, 0)) <|
    rf (H.P p0 0) fun a3 =>
    ck (H.sh[a3]? = some (1, 0)) <|
    bT (F_Lexer_take N a3 (13 : Int32) H) fun v7 H8 =>
    some (.inl (), H8)
set_option maxRecDepth 20000 in
set_option maxHeartbeats 2000000 in
theorem mB_Reader_readValues_173 {N : Nat} {p0 : Nat} {p1 : Int32} {p2 : Int32}  {H : Hp} {r : (Ot Unit) × Hp} (hF : B_Reader_readValues_173 N p0 p1 p2  H = some r) : Mo H r.2 := by
  unfold B_Reader_readValues_173 at hF
  have hm := Mo.rf H
  obtain ⟨q10, hG⟩ := ck_s hF; clear hF
  obtain ⟨a11, e12, hF⟩ := rf_s hG; clear hG
  obtain ⟨q13, hG⟩ := ck_s hF; clear hF
  refine bT_c hG (fun x17 H16 z14 er => ?_) (fun v15 H16 z14 hF => ?_)
  · subst er; exact hm.tr (m_Lexer_take z14)
  clear hG
  replace hm : Mo H H16 := hm.tr (m_Lexer_take z14)
  have hr := Option.some.inj hF; subst hr
  exact hm
set_option maxRecDepth 20000 in
set_option maxHeartbeats 2000000 in
theorem kB_Reader_readValues_173 {N : Nat} {p0 : Nat} {p1 : Int32} {p2 : Int32} {c0 s0 C Sl : Nat}  {H : Hp} {r : (Ot Unit) × Hp} (hF : B_Reader_readValues_173 N p0 p1 p2  H = some r) (hc0 : c0 ≤ H.sh.length) (hs0 : s0 ≤ H.sl) (hcc : H.sh.length ≤ c0 + C) (hss : H.sl ≤ s0 + Sl) (hC : r.2.sh.length ≤ c0 + C) (hS : r.2.sl ≤ s0 + Sl) : ab_V y_Reader_readValues { frames := 9, cells := C, slots := Sl, locals := 170 } (po (oV r.1) r.2) C Sl (H.sh.length - c0) (H.sl - s0) 173 [some (.ref p0), some (.int p1), some (.int p2), none, none, none, none, none, none] [] (hpw H) := by
  unfold B_Reader_readValues_173 at hF
  refine ab_aload_n d_Reader_readValues_173 rfl rfl rfl ?_
  obtain ⟨q2, hG⟩ := ck_s hF; clear hF
  obtain ⟨a3, e4, hF⟩ := rf_s hG; clear hG
  refine hp_getR (f := 0) d_Reader_readValues_174 q2 (by decide) rfl (by decide) (k1 179 rfl rfl) rfl e4 ?_
  refine ab_bipush (v := 13) d_Reader_readValues_177 (by decide) ?_
  obtain ⟨q5, hG⟩ := ck_s hF; clear hF
  refine bT_c hG (fun x9 H8 z6 er => ?_) (fun v7 H8 z6 hF => ?_)
  · subst er
    have mz : Mo H H8 := (m_Lexer_take z6)
    have ml := mz.len
    have m2 := mz.2
    have hC9 : H8.sh.length ≤ c0 + C := hC
    have hS9 : H8.sl ≤ s0 + Sl := hS
    refine hp_callV_t (x := x9) (H1 := H8) (As := [.int 13]) (rest := []) d_Reader_readValues_179 (k_Lexer_take z6 (C := H8.sh.length - H.sh.length) (Sl := H8.sl - H.sl) (by show H8.sh.length ≤ _; omega) (by show H8.sl ≤ _; omega)) (ab_mkC s_Lexer_take (Nat.le_of_ble_eq_true rfl) (Nat.le_of_ble_eq_true rfl) (show (H.sh.length - c0) + (H8.sh.length - H.sh.length) ≤ C from by omega) (show (H.sl - s0) + (H8.sl - H.sl) ≤ Sl from by omega)) (k5 24 rfl rfl) i_Lexer_take v_Lexer_take q5 (by decide) rfl rfl (Nat.le_of_ble_eq_true rfl) ?_
    exact ab_U_out rfl (by show _ + (H8.sh.length - H.sh.length) ≤ C; omega) (by show _ + (H8.sl - H.sl) ≤ Sl; omega) ⟨rfl, rfl⟩
  clear hG
  have mz_1 : Mo H H8 := (m_Lexer_take z6)
  have b_2l := (mz_1).len
  have b_2s := (mz_1).2
  have b_2c : c0 ≤ H8.sh.length := by omega
  have b_2d : s0 ≤ H8.sl := by omega
  have q_3 := (mz_1).get q2
  have q_4 := (mz_1).get q5
  have fH8 : Mo H8 r.2 := by
    have hm := Mo.rf H8
    have hr := Option.some.inj hF; subst hr
    exact hm
  have b_2m := (fH8).len
  have b_2n := (fH8).2
  have b_2p : H8.sh.length ≤ c0 + C := by omega
  have b_2q : H8.sl ≤ s0 + Sl := by omega
  refine hp_callV_v (H1 := H8) (As := [.int 13]) (rest := []) d_Reader_readValues_179 (k_Lexer_take z6 (C := H8.sh.length - H.sh.length) (Sl := H8.sl - H.sl) (by show H8.sh.length ≤ _; omega) (by show H8.sl ≤ _; omega)) (ab_mkC s_Lexer_take (Nat.le_of_ble_eq_true rfl) (Nat.le_of_ble_eq_true rfl) (show (H.sh.length - c0) + (H8.sh.length - H.sh.length) ≤ C from by omega) (show (H.sl - s0) + (H8.sl - H.sl) ≤ Sl from by omega)) (k5 24 rfl rfl) i_Lexer_take v_Lexer_take q5 (by decide) rfl rfl (Nat.le_of_ble_eq_true rfl) ?_
  refine ab_widen (cells' := H8.sh.length - c0) (slots' := H8.sl - s0) (by show _ + (H8.sh.length - H.sh.length) ≤ _; omega) (by show _ + (H8.sl - H.sl) ≤ _; omega) ?_
  clear b_2l b_2s b_2m b_2n
  exact ab_vret d_Reader_readValues_182 rfl (by show _ ≤ C; omega) (by show _ ≤ Sl; omega) (by have hr := Option.some.inj hF; subst hr; exact ⟨rfl, rfl⟩)
def B_Reader_readValues_99 (N : Nat) (p0 : Nat) (p1 : Int32) (p2 : Int32) (kq5 : Int32 → Int32 → Hp → Option ((Ot Unit) × Hp)) (l3 : Int32) (l4 : Int32) (l6 : Int32) (l7 : Int32) (H : Hp) : Option ((Ot Unit) × Hp) :=
    ck (H.sh[p0]? = some (5, 0)) <|
    rf (H.P p0 0) fun a63 =>
    ck (H.sh[a63]? = some (1, 0)) <|
    bT (F_Lexer_take N a63 (17 : Int32) H) fun v67 H68 =>
    rf (H68.P p0 2) fun a70 =>
    ck (H68.sh[a70]? = some (4, 0)) <|
    rf (H68.P a70 2) fun a73 =>
    ck (H68.sh[a73]? = some (3, 0)) <|
    rf (H68.P a73 1) fun a76 =>
    ar H68 106 a76 fun n78 =>
    ck (inb l6 n78) <|
    rf (H68.P a76 (l6).toNatClampNeg) fun a81 =>
    ck (H68.sh[a81]? = some (2, 0)) <|
    bnd ((H68.D a81 3)) fun x84 =>
    bT (F_Reader_readConst N p0 x84 H68) fun v86 H87 =>
    rf (H87.P p0 2) fun a89 =>
    ck (H87.sh[a89]? = some (4, 0)) <|
    rf (H87.P a89 6) fun a92 =>
    ar H87 100 a92 fun n94 =>
    ck (inb ((p1 * (48 : Int32)) + l6) n94) <|
    bnd (H87.sD a92 (((p1 * (48 : Int32)) + l6)).toNatClampNeg v86) fun H97 =>
    rf (H97.P p0 0) fun a98 =>
    ck (H97.sh[a98]? = some (1, 0)) <|
    bnd ((H97.D a98 2)) fun x101 =>
    if x101 = (14 : Int32) then
    kq5 (l3 ||| l7) (l4 + 1) H97
    else
    B_Reader_readValues_173 N p0 p1 p2  H97
set_option maxRecDepth 20000 in
set_option maxHeartbeats 2000000 in
theorem mB_Reader_readValues_99 {N : Nat} {p0 : Nat} {p1 : Int32} {p2 : Int32} {kq5 : Int32 → Int32 → Hp → Option ((Ot Unit) × Hp)} (hm5 : ∀ (l3 : Int32) (l4 : Int32) (H : Hp) (r : (Ot Unit) × Hp), kq5 l3 l4 H = some r → Mo H r.2) {l3 : Int32} {l4 : Int32} {l6 : Int32} {l7 : Int32} {H : Hp} {r : (Ot Unit) × Hp} (hF : B_Reader_readValues_99 N p0 p1 p2 kq5 l3 l4 l6 l7 H = some r) : Mo H r.2 := by
  unfold B_Reader_readValues_99 at hF
  have hm := Mo.rf H
  obtain ⟨q103, hG⟩ := ck_s hF; clear hF
  obtain ⟨a104, e105, hF⟩ := rf_s hG; clear hG
  obtain ⟨q106, hG⟩ := ck_s hF; clear hF
  refine bT_c hG (fun x110 H109 z107 er => ?_) (fun v108 H109 z107 hF => ?_)
  · subst er; exact hm.tr (m_Lexer_take z107)
  clear hG
  replace hm : Mo H H109 := hm.tr (m_Lexer_take z107)
  obtain ⟨a111, e112, hG⟩ := rf_s hF; clear hF
  obtain ⟨q113, hF⟩ := ck_s hG; clear hG
  obtain ⟨a114, e115, hG⟩ := rf_s hF; clear hF
  obtain ⟨q116, hF⟩ := ck_s hG; clear hG
  obtain ⟨a117, e118, hG⟩ := rf_s hF; clear hF
  obtain ⟨n119, q120, hF⟩ := ar_s hG; clear hG
  obtain ⟨q121, hG⟩ := ck_s hF; clear hF
  obtain ⟨a122, e123, hF⟩ := rf_s hG; clear hG
  obtain ⟨q124, hG⟩ := ck_s hF; clear hF
  obtain ⟨x125, -, hF⟩ := bnd_g hG; clear hG
  refine bT_c hF (fun x129 H128 z126 er => ?_) (fun v127 H128 z126 hG => ?_)
  · subst er; exact hm.tr (m_Reader_readConst z126)
  clear hF
  replace hm : Mo H H128 := hm.tr (m_Reader_readConst z126)
  obtain ⟨a130, e131, hF⟩ := rf_s hG; clear hG
  obtain ⟨q132, hG⟩ := ck_s hF; clear hF
  obtain ⟨a133, e134, hF⟩ := rf_s hG; clear hG
  obtain ⟨n135, q136, hG⟩ := ar_s hF; clear hF
  obtain ⟨q137, hF⟩ := ck_s hG; clear hG
  obtain ⟨H138, eH138, hG⟩ := bnd_g hF; clear hF
  replace hm : Mo H H138 := by rw [eH138]; exact hm
  obtain ⟨a139, e140, hF⟩ := rf_s hG; clear hG
  obtain ⟨q141, hG⟩ := ck_s hF; clear hF
  obtain ⟨x142, -, hF⟩ := bnd_g hG; clear hG
  rcases ite_s hF with ⟨q_54, hG⟩ | ⟨q_54, hG⟩
  · clear hF
    exact hm.tr (hm5 (l3 ||| l7) (l4 + 1) H138 r hG)
  · clear hF
    exact hm.tr (mB_Reader_readValues_173 hG)
set_option maxRecDepth 20000 in
set_option maxHeartbeats 2000000 in
theorem kB_Reader_readValues_99 {N : Nat} {p0 : Nat} {p1 : Int32} {p2 : Int32} {kq5 : Int32 → Int32 → Hp → Option ((Ot Unit) × Hp)} {c0 s0 C Sl : Nat} (hm5 : ∀ (l3 : Int32) (l4 : Int32) (H : Hp) (r : (Ot Unit) × Hp), kq5 l3 l4 H = some r → Mo H r.2) (hk5 : ∀ (l3 : Int32) (l4 : Int32) (H : Hp) (r : (Ot Unit) × Hp), kq5 l3 l4 H = some r → c0 ≤ H.sh.length → s0 ≤ H.sl → H.sh.length ≤ c0 + C → H.sl ≤ s0 + Sl → r.2.sh.length ≤ c0 + C → r.2.sl ≤ s0 + Sl → ab_V y_Reader_readValues { frames := 9, cells := C, slots := Sl, locals := 170 } (po (oV r.1) r.2) C Sl (H.sh.length - c0) (H.sl - s0) 5 [some (.ref p0), some (.int p1), some (.int p2), some (.int l3), some (.int l4), none, none, none, none] [] (hpw H)) {l3 : Int32} {l4 : Int32} {l6 : Int32} {l7 : Int32} {H : Hp} {r : (Ot Unit) × Hp} (hF : B_Reader_readValues_99 N p0 p1 p2 kq5 l3 l4 l6 l7 H = some r) (hc0 : c0 ≤ H.sh.length) (hs0 : s0 ≤ H.sl) (hcc : H.sh.length ≤ c0 + C) (hss : H.sl ≤ s0 + Sl) (hC : r.2.sh.length ≤ c0 + C) (hS : r.2.sl ≤ s0 + Sl) : ab_V y_Reader_readValues { frames := 9, cells := C, slots := Sl, locals := 170 } (po (oV r.1) r.2) C Sl (H.sh.length - c0) (H.sl - s0) 99 [some (.ref p0), some (.int p1), some (.int p2), some (.int l3), some (.int l4), none, some (.int l6), some (.int l7), none] [] (hpw H) := by
  unfold B_Reader_readValues_99 at hF
  refine ab_iload_n d_Reader_readValues_99 rfl rfl ?_
  refine ab_iload d_Reader_readValues_100 rfl ?_
  refine ab_ior d_Reader_readValues_102 ?_
  refine ab_istore_n (lv' := [some (.ref p0), some (.int p1), some (.int p2), some (.int (l3 ||| l7)), some (.int l4), none, some (.int l6), some (.int l7), none]) d_Reader_readValues_103 rfl (by decide) rfl ?_
  refine ab_aload_n d_Reader_readValues_104 rfl rfl rfl ?_
  obtain ⟨q62, hG⟩ := ck_s hF; clear hF
  obtain ⟨a63, e64, hF⟩ := rf_s hG; clear hG
  refine hp_getR (f := 0) d_Reader_readValues_105 q62 (by decide) rfl (by decide) (k1 179 rfl rfl) rfl e64 ?_
  refine ab_bipush (v := 17) d_Reader_readValues_108 (by decide) ?_
  obtain ⟨q65, hG⟩ := ck_s hF; clear hF
  refine bT_c hG (fun x69 H68 z66 er => ?_) (fun v67 H68 z66 hF => ?_)
  · subst er
    have mz : Mo H H68 := (m_Lexer_take z66)
    have ml := mz.len
    have m2 := mz.2
    have hC9 : H68.sh.length ≤ c0 + C := hC
    have hS9 : H68.sl ≤ s0 + Sl := hS
    refine hp_callV_t (x := x69) (H1 := H68) (As := [.int 17]) (rest := []) d_Reader_readValues_110 (k_Lexer_take z66 (C := H68.sh.length - H.sh.length) (Sl := H68.sl - H.sl) (by show H68.sh.length ≤ _; omega) (by show H68.sl ≤ _; omega)) (ab_mkC s_Lexer_take (Nat.le_of_ble_eq_true rfl) (Nat.le_of_ble_eq_true rfl) (show (H.sh.length - c0) + (H68.sh.length - H.sh.length) ≤ C from by omega) (show (H.sl - s0) + (H68.sl - H.sl) ≤ Sl from by omega)) (k5 24 rfl rfl) i_Lexer_take v_Lexer_take q65 (by decide) rfl rfl (Nat.le_of_ble_eq_true rfl) ?_
    exact ab_U_out rfl (by show _ + (H68.sh.length - H.sh.length) ≤ C; omega) (by show _ + (H68.sl - H.sl) ≤ Sl; omega) ⟨rfl, rfl⟩
  clear hG
  have mz_19 : Mo H H68 := (m_Lexer_take z66)
  have b_20l := (mz_19).len
  have b_20s := (mz_19).2
  have b_20c : c0 ≤ H68.sh.length := by omega
  have b_20d : s0 ≤ H68.sl := by omega
  have q_21 := (mz_19).get q62
  have q_22 := (mz_19).get q65
  obtain ⟨a70, e71, hG⟩ := rf_s hF; clear hF
  obtain ⟨q72, hF⟩ := ck_s hG; clear hG
  obtain ⟨a73, e74, hG⟩ := rf_s hF; clear hF
  obtain ⟨q75, hF⟩ := ck_s hG; clear hG
  obtain ⟨a76, e77, hG⟩ := rf_s hF; clear hF
  obtain ⟨n78, q79, hF⟩ := ar_s hG; clear hG
  obtain ⟨q80, hG⟩ := ck_s hF; clear hF
  obtain ⟨a81, e82, hF⟩ := rf_s hG; clear hG
  obtain ⟨q83, hG⟩ := ck_s hF; clear hF
  obtain ⟨x84, ex84, hF⟩ := bnd_g hG; clear hG
  have fH68 : Mo H68 r.2 := by
    have hm := Mo.rf H68
    refine bT_c hF (fun x88 H87 z85 er => ?_) (fun v86 H87 z85 hG => ?_)
    · subst er; exact hm.tr (m_Reader_readConst z85)
    clear hF
    replace hm : Mo H68 H87 := hm.tr (m_Reader_readConst z85)
    obtain ⟨a89, e90, hF⟩ := rf_s hG; clear hG
    obtain ⟨q91, hG⟩ := ck_s hF; clear hF
    obtain ⟨a92, e93, hF⟩ := rf_s hG; clear hG
    obtain ⟨n94, q95, hG⟩ := ar_s hF; clear hF
    obtain ⟨q96, hF⟩ := ck_s hG; clear hG
    obtain ⟨H97, eH97, hG⟩ := bnd_g hF; clear hF
    replace hm : Mo H68 H97 := by rw [eH97]; exact hm
    obtain ⟨a98, e99, hF⟩ := rf_s hG; clear hG
    obtain ⟨q100, hG⟩ := ck_s hF; clear hF
    obtain ⟨x101, -, hF⟩ := bnd_g hG; clear hG
    rcases ite_s hF with ⟨q_31, hG⟩ | ⟨q_31, hG⟩
    · clear hF
      exact hm.tr (hm5 (l3 ||| l7) (l4 + 1) H97 r hG)
    · clear hF
      exact hm.tr (mB_Reader_readValues_173 hG)
  have b_20m := (fH68).len
  have b_20n := (fH68).2
  have b_20p : H68.sh.length ≤ c0 + C := by omega
  have b_20q : H68.sl ≤ s0 + Sl := by omega
  refine hp_callV_v (H1 := H68) (As := [.int 17]) (rest := []) d_Reader_readValues_110 (k_Lexer_take z66 (C := H68.sh.length - H.sh.length) (Sl := H68.sl - H.sl) (by show H68.sh.length ≤ _; omega) (by show H68.sl ≤ _; omega)) (ab_mkC s_Lexer_take (Nat.le_of_ble_eq_true rfl) (Nat.le_of_ble_eq_true rfl) (show (H.sh.length - c0) + (H68.sh.length - H.sh.length) ≤ C from by omega) (show (H.sl - s0) + (H68.sl - H.sl) ≤ Sl from by omega)) (k5 24 rfl rfl) i_Lexer_take v_Lexer_take q65 (by decide) rfl rfl (Nat.le_of_ble_eq_true rfl) ?_
  refine ab_widen (cells' := H68.sh.length - c0) (slots' := H68.sl - s0) (by show _ + (H68.sh.length - H.sh.length) ≤ _; omega) (by show _ + (H68.sl - H.sl) ≤ _; omega) ?_
  clear b_20l b_20s b_20m b_20n
  refine ab_aload_n d_Reader_readValues_113 rfl rfl rfl ?_
  refine ab_aload_n d_Reader_readValues_114 rfl rfl rfl ?_
  refine hp_getR (f := 2) d_Reader_readValues_115 q_21 (by decide) rfl (by decide) (k1 181 rfl rfl) rfl e71 ?_
  refine hp_getR (f := 2) d_Reader_readValues_118 q72 (by decide) rfl (by decide) (k3 58 rfl rfl) rfl e74 ?_
  refine hp_getR (f := 1) d_Reader_readValues_121 q75 (by decide) rfl (by decide) (k3 28 rfl rfl) rfl e77 ?_
  refine ab_iload d_Reader_readValues_124 rfl ?_
  refine hp_aald (q := 106) d_Reader_readValues_126 (by decide) tN q79 q80 e82 ?_
  refine hp_getI (f := 3) d_Reader_readValues_127 q83 (by decide) rfl (by decide) (k3 2 rfl rfl) rfl ?_
  refine ab_topxi ex84 ?_
  refine bT_c hF (fun x88 H87 z85 er => ?_) (fun v86 H87 z85 hG => ?_)
  · subst er
    have mz : Mo H68 H87 := (m_Reader_readConst z85)
    have ml := mz.len
    have m2 := mz.2
    have hC9 : H87.sh.length ≤ c0 + C := hC
    have hS9 : H87.sl ≤ s0 + Sl := hS
    refine hp_callV_t (x := x88) (H1 := H87) (As := [.int x84]) (rest := []) d_Reader_readValues_130 (k_Reader_readConst z85 (C := H87.sh.length - H68.sh.length) (Sl := H87.sl - H68.sl) (by show H87.sh.length ≤ _; omega) (by show H87.sl ≤ _; omega)) (ab_mkC s_Reader_readConst (Nat.le_of_ble_eq_true rfl) (Nat.le_of_ble_eq_true rfl) (show (H68.sh.length - c0) + (H87.sh.length - H68.sh.length) ≤ C from by omega) (show (H68.sl - s0) + (H87.sl - H68.sl) ≤ Sl from by omega)) (k5 81 rfl rfl) i_Reader_readConst v_Reader_readConst q_21 (by decide) rfl rfl (Nat.le_of_ble_eq_true rfl) ?_
    exact ab_U_out rfl (by show _ + (H87.sh.length - H68.sh.length) ≤ C; omega) (by show _ + (H87.sl - H68.sl) ≤ Sl; omega) ⟨rfl, rfl⟩
  clear hF
  have mz_32 : Mo H68 H87 := (m_Reader_readConst z85)
  have b_33l := (mz_32).len
  have b_33s := (mz_32).2
  have b_33c : c0 ≤ H87.sh.length := by omega
  have b_33d : s0 ≤ H87.sl := by omega
  have q_34 := (mz_32).get q_21
  have q_35 := (mz_32).get q_22
  have q_36 := (mz_32).get q72
  have q_37 := (mz_32).get q75
  have q_38 := (mz_32).get q79
  have q_39 := (mz_32).get q83
  obtain ⟨a89, e90, hF⟩ := rf_s hG; clear hG
  obtain ⟨q91, hG⟩ := ck_s hF; clear hF
  obtain ⟨a92, e93, hF⟩ := rf_s hG; clear hG
  obtain ⟨n94, q95, hG⟩ := ar_s hF; clear hF
  obtain ⟨q96, hF⟩ := ck_s hG; clear hG
  obtain ⟨H97, eH97, hG⟩ := bnd_g hF; clear hF
  have jH97 : Mo H87 H97 := by rw [eH97]; exact Mo.rf _
  obtain ⟨a98, e99, hF⟩ := rf_s hG; clear hG
  obtain ⟨q100, hG⟩ := ck_s hF; clear hF
  obtain ⟨x101, ex101, hF⟩ := bnd_g hG; clear hG
  have fH97 : Mo H97 r.2 := by
    have hm := Mo.rf H97
    rcases ite_s hF with ⟨q_41, hG⟩ | ⟨q_41, hG⟩
    · clear hF
      exact hm.tr (hm5 (l3 ||| l7) (l4 + 1) H97 r hG)
    · clear hF
      exact hm.tr (mB_Reader_readValues_173 hG)
  have fH87 : Mo H87 r.2 := jH97.tr fH97
  have b_33m := (fH87).len
  have b_33n := (fH87).2
  have b_33p : H87.sh.length ≤ c0 + C := by omega
  have b_33q : H87.sl ≤ s0 + Sl := by omega
  refine hp_callV_a (v := .int v86) (H1 := H87) (As := [.int x84]) (rest := []) d_Reader_readValues_130 (k_Reader_readConst z85 (C := H87.sh.length - H68.sh.length) (Sl := H87.sl - H68.sl) (by show H87.sh.length ≤ _; omega) (by show H87.sl ≤ _; omega)) (ab_mkC s_Reader_readConst (Nat.le_of_ble_eq_true rfl) (Nat.le_of_ble_eq_true rfl) (show (H68.sh.length - c0) + (H87.sh.length - H68.sh.length) ≤ C from by omega) (show (H68.sl - s0) + (H87.sl - H68.sl) ≤ Sl from by omega)) (k5 81 rfl rfl) i_Reader_readConst v_Reader_readConst q_21 (by decide) rfl rfl (Nat.le_of_ble_eq_true rfl) ?_
  refine ab_widen (cells' := H87.sh.length - c0) (slots' := H87.sl - s0) (by show _ + (H87.sh.length - H68.sh.length) ≤ _; omega) (by show _ + (H87.sl - H68.sl) ≤ _; omega) ?_
  clear b_33l b_33s b_33m b_33n b_20c b_20d b_20p b_20q
  refine ab_istore (lv' := [some (.ref p0), some (.int p1), some (.int p2), some (.int (l3 ||| l7)), some (.int l4), none, some (.int l6), some (.int l7), some (.int v86)]) d_Reader_readValues_133 (by decide) rfl ?_
  refine ab_aload_n d_Reader_readValues_135 rfl rfl rfl ?_
  refine hp_getR (f := 2) d_Reader_readValues_136 q_34 (by decide) rfl (by decide) (k1 181 rfl rfl) rfl e90 ?_
  refine hp_getR (f := 6) d_Reader_readValues_139 q91 (by decide) rfl (by decide) (k3 77 rfl rfl) rfl e93 ?_
  refine ab_iload_n d_Reader_readValues_142 rfl rfl ?_
  refine ab_bipush (v := 48) d_Reader_readValues_143 (by decide) ?_
  refine ab_imul d_Reader_readValues_145 ?_
  refine ab_iload d_Reader_readValues_146 rfl ?_
  refine ab_iadd d_Reader_readValues_148 ?_
  refine ab_iload d_Reader_readValues_149 rfl ?_
  refine hp_iast d_Reader_readValues_151 tI q95 q96 ?_
  refine hp_genx eH97 ?_
  have s_42 : Sa H87 H97 := by rw [eH97]; exact Sa.rf _
  refine ab_aload_n d_Reader_readValues_152 rfl rfl rfl ?_
  refine hp_getR (f := 0) d_Reader_readValues_153 (by rw [(s_42).1]; exact q_34) (by decide) rfl (by decide) (k1 179 rfl rfl) rfl e99 ?_
  rw [(s_42).1] at q100
  refine hp_getI (f := 2) d_Reader_readValues_156 (by rw [(s_42).1]; exact q100) (by decide) rfl (by decide) (k1 98 rfl rfl) rfl ?_
  refine ab_topxi ex101 ?_
  refine ab_bipush (v := 14) d_Reader_readValues_159 (by decide) ?_
  refine ab_icmp_eq (tgt := 167) d_Reader_readValues_161 (by decide) (fun q102 => ?_) (fun q102 => ?_)
  · rw [if_pos q102] at hF
    refine ab_iinc (v := l4 + 1) (lv' := [some (.ref p0), some (.int p1), some (.int p2), some (.int (l3 ||| l7)), some (.int (l4 + 1)), none, some (.int l6), some (.int l7), some (.int v86)]) d_Reader_readValues_167 rfl rfl (by decide) rfl ?_
    refine ab_goto (tgt := 5) d_Reader_readValues_170 (by decide) ?_
    refine ab_le (lv' := [some (.ref p0), some (.int p1), some (.int p2), some (.int (l3 ||| l7)), some (.int (l4 + 1)), none, none, none, none]) ⟨rfl, ⟨rfl, ⟨rfl, ⟨rfl, ⟨rfl, trivial⟩⟩⟩⟩⟩ ?_
    refine ab_widen (cells' := H97.sh.length - c0) (slots' := H97.sl - s0) (by rw [(s_42).1]; exact Nat.le_refl _) (by rw [(s_42).2]; exact Nat.le_refl _) ?_
    exact hk5 (l3 ||| l7) (l4 + 1) H97 r hF (by rw [(s_42).1]; exact b_33c) (by rw [(s_42).2]; exact b_33d) (by rw [(s_42).1]; exact b_33p) (by rw [(s_42).2]; exact b_33q) hC hS
  · rw [if_neg q102] at hF
    refine ab_goto (tgt := 173) d_Reader_readValues_164 (by decide) ?_
    refine ab_le (lv' := [some (.ref p0), some (.int p1), some (.int p2), none, none, none, none, none, none]) ⟨rfl, ⟨rfl, ⟨rfl, trivial⟩⟩⟩ ?_
    refine ab_widen (cells' := H97.sh.length - c0) (slots' := H97.sl - s0) (by rw [(s_42).1]; exact Nat.le_refl _) (by rw [(s_42).2]; exact Nat.le_refl _) ?_
    exact kB_Reader_readValues_173 hF (by rw [(s_42).1]; exact b_33c) (by rw [(s_42).2]; exact b_33d) (by rw [(s_42).1]; exact b_33p) (by rw [(s_42).2]; exact b_33q) hC hS
def B_Reader_readValues_63 (N : Nat) (p0 : Nat) (p1 : Int32) (p2 : Int32) (kq5 : Int32 → Int32 → Hp → Option ((Ot Unit) × Hp)) (l3 : Int32) (l4 : Int32) (l5 : Int32) (l6 : Int32) (H : Hp) : Option ((Ot Unit) × Hp) :=
    ck (H.sh[p0]? = some (5, 0)) <|
    rf (H.P p0 2) fun a48 =>
    ck (H.sh[a48]? = some (4, 0)) <|
    rf (H.P a48 2) fun a51 =>
    ck (H.sh[a51]? = some (3, 0)) <|
    rf (H.P a51 2) fun a54 =>
    ar H 100 a54 fun n56 =>
    ck (inb p2 n56) <|
    bnd ((H.D a54 (p2).toNatClampNeg)) fun x59 =>
    bnd (((1 : Int32) <<< ((l6 - x59) &&& 31))) fun x60 =>
    if (l3 &&& x60) = (0 : Int32) then
    B_Reader_readValues_99 N p0 p1 p2 kq5 l3 l4 l6 x60 H
    else
    rf (H.P p0 0) fun a144 =>
    ck (H.sh[a144]? = some (1, 0)) <|
    bT (F_Lexer_refuse N a144 (3 : Int32) l5 H) fun v148 H149 =>
    B_Reader_readValues_99 N p0 p1 p2 kq5 l3 l4 l6 x60 H149
set_option maxRecDepth 20000 in
set_option maxHeartbeats 2000000 in
theorem mB_Reader_readValues_63 {N : Nat} {p0 : Nat} {p1 : Int32} {p2 : Int32} {kq5 : Int32 → Int32 → Hp → Option ((Ot Unit) × Hp)} (hm5 : ∀ (l3 : Int32) (l4 : Int32) (H : Hp) (r : (Ot Unit) × Hp), kq5 l3 l4 H = some r → Mo H r.2) {l3 : Int32} {l4 : Int32} {l5 : Int32} {l6 : Int32} {H : Hp} {r : (Ot Unit) × Hp} (hF : B_Reader_readValues_63 N p0 p1 p2 kq5 l3 l4 l5 l6 H = some r) : Mo H r.2 := by
  unfold B_Reader_readValues_63 at hF
  have hm := Mo.rf H
  obtain ⟨q151, hG⟩ := ck_s hF; clear hF
  obtain ⟨a152, e153, hF⟩ := rf_s hG; clear hG
  obtain ⟨q154, hG⟩ := ck_s hF; clear hF
  obtain ⟨a155, e156, hF⟩ := rf_s hG; clear hG
  obtain ⟨q157, hG⟩ := ck_s hF; clear hF
  obtain ⟨a158, e159, hF⟩ := rf_s hG; clear hG
  obtain ⟨n160, q161, hG⟩ := ar_s hF; clear hF
  obtain ⟨q162, hF⟩ := ck_s hG; clear hG
  obtain ⟨x163, -, hG⟩ := bnd_g hF; clear hF
  obtain ⟨x164, -, hF⟩ := bnd_g hG; clear hG
  rcases ite_s hF with ⟨q_62, hG⟩ | ⟨q_62, hG⟩
  · clear hF
    exact hm.tr (mB_Reader_readValues_99 hm5 hG)
  · clear hF
    obtain ⟨a166, e167, hF⟩ := rf_s hG; clear hG
    obtain ⟨q168, hG⟩ := ck_s hF; clear hF
    refine bT_c hG (fun x172 H171 z169 er => ?_) (fun v170 H171 z169 hF => ?_)
    · subst er; exact hm.tr (m_Lexer_refuse z169)
    clear hG
    replace hm : Mo H H171 := hm.tr (m_Lexer_refuse z169)
    exact hm.tr (mB_Reader_readValues_99 hm5 hF)
set_option maxRecDepth 20000 in
set_option maxHeartbeats 2000000 in
theorem kB_Reader_readValues_63 {N : Nat} {p0 : Nat} {p1 : Int32} {p2 : Int32} {kq5 : Int32 → Int32 → Hp → Option ((Ot Unit) × Hp)} {c0 s0 C Sl : Nat} (hm5 : ∀ (l3 : Int32) (l4 : Int32) (H : Hp) (r : (Ot Unit) × Hp), kq5 l3 l4 H = some r → Mo H r.2) (hk5 : ∀ (l3 : Int32) (l4 : Int32) (H : Hp) (r : (Ot Unit) × Hp), kq5 l3 l4 H = some r → c0 ≤ H.sh.length → s0 ≤ H.sl → H.sh.length ≤ c0 + C → H.sl ≤ s0 + Sl → r.2.sh.length ≤ c0 + C → r.2.sl ≤ s0 + Sl → ab_V y_Reader_readValues { frames := 9, cells := C, slots := Sl, locals := 170 } (po (oV r.1) r.2) C Sl (H.sh.length - c0) (H.sl - s0) 5 [some (.ref p0), some (.int p1), some (.int p2), some (.int l3), some (.int l4), none, none, none, none] [] (hpw H)) {l3 : Int32} {l4 : Int32} {l5 : Int32} {l6 : Int32} {H : Hp} {r : (Ot Unit) × Hp} (hF : B_Reader_readValues_63 N p0 p1 p2 kq5 l3 l4 l5 l6 H = some r) (hc0 : c0 ≤ H.sh.length) (hs0 : s0 ≤ H.sl) (hcc : H.sh.length ≤ c0 + C) (hss : H.sl ≤ s0 + Sl) (hC : r.2.sh.length ≤ c0 + C) (hS : r.2.sl ≤ s0 + Sl) : ab_V y_Reader_readValues { frames := 9, cells := C, slots := Sl, locals := 170 } (po (oV r.1) r.2) C Sl (H.sh.length - c0) (H.sl - s0) 63 [some (.ref p0), some (.int p1), some (.int p2), some (.int l3), some (.int l4), some (.int l5), some (.int l6), none, none] [] (hpw H) := by
  unfold B_Reader_readValues_63 at hF
  refine ab_iconst (v := 1) d_Reader_readValues_63 (by decide) ?_
  refine ab_iload d_Reader_readValues_64 rfl ?_
  refine ab_aload_n d_Reader_readValues_66 rfl rfl rfl ?_
  obtain ⟨q47, hG⟩ := ck_s hF; clear hF
  obtain ⟨a48, e49, hF⟩ := rf_s hG; clear hG
  refine hp_getR (f := 2) d_Reader_readValues_67 q47 (by decide) rfl (by decide) (k1 181 rfl rfl) rfl e49 ?_
  obtain ⟨q50, hG⟩ := ck_s hF; clear hF
  obtain ⟨a51, e52, hF⟩ := rf_s hG; clear hG
  refine hp_getR (f := 2) d_Reader_readValues_70 q50 (by decide) rfl (by decide) (k3 58 rfl rfl) rfl e52 ?_
  obtain ⟨q53, hG⟩ := ck_s hF; clear hF
  obtain ⟨a54, e55, hF⟩ := rf_s hG; clear hG
  refine hp_getR (f := 2) d_Reader_readValues_73 q53 (by decide) rfl (by decide) (k3 35 rfl rfl) rfl e55 ?_
  refine ab_iload_n d_Reader_readValues_76 rfl rfl ?_
  obtain ⟨n56, q57, hG⟩ := ar_s hF; clear hF
  obtain ⟨q58, hF⟩ := ck_s hG; clear hG
  refine hp_iald d_Reader_readValues_77 tI q57 q58 ?_
  refine ab_topi (fun x59 ex59 => ?_)
  replace hF := bnd_s ex59 hF
  refine ab_isub d_Reader_readValues_78 ?_
  refine ab_ishl d_Reader_readValues_79 ?_
  refine ab_topi (fun x60 ex60 => ?_)
  replace hF := bnd_s ex60 hF
  refine ab_istore (lv' := [some (.ref p0), some (.int p1), some (.int p2), some (.int l3), some (.int l4), some (.int l5), some (.int l6), some (.int x60), none]) d_Reader_readValues_80 (by decide) rfl ?_
  refine ab_iload_n d_Reader_readValues_82 rfl rfl ?_
  refine ab_iload d_Reader_readValues_83 rfl ?_
  refine ab_iand d_Reader_readValues_85 ?_
  refine ab_if_eq (tgt := 99) d_Reader_readValues_86 (by decide) (fun q61 => ?_) (fun q61 => ?_)
  · rw [if_pos q61] at hF
    refine ab_le (lv' := [some (.ref p0), some (.int p1), some (.int p2), some (.int l3), some (.int l4), none, some (.int l6), some (.int x60), none]) ⟨rfl, ⟨rfl, ⟨rfl, ⟨rfl, ⟨rfl, ⟨rfl, ⟨rfl, trivial⟩⟩⟩⟩⟩⟩⟩ ?_
    exact kB_Reader_readValues_99 hm5 hk5 hF hc0 hs0 hcc hss hC hS
  · rw [if_neg q61] at hF
    refine ab_aload_n d_Reader_readValues_89 rfl rfl rfl ?_
    obtain ⟨a144, e145, hG⟩ := rf_s hF; clear hF
    refine hp_getR (f := 0) d_Reader_readValues_90 q47 (by decide) rfl (by decide) (k1 179 rfl rfl) rfl e145 ?_
    refine ab_iconst (v := 3) d_Reader_readValues_93 (by decide) ?_
    refine ab_iload d_Reader_readValues_94 rfl ?_
    obtain ⟨q146, hF⟩ := ck_s hG; clear hG
    refine bT_c hF (fun x150 H149 z147 er => ?_) (fun v148 H149 z147 hG => ?_)
    · subst er
      have mz : Mo H H149 := (m_Lexer_refuse z147)
      have ml := mz.len
      have m2 := mz.2
      have hC9 : H149.sh.length ≤ c0 + C := hC
      have hS9 : H149.sl ≤ s0 + Sl := hS
      refine hp_callV_t (x := x150) (H1 := H149) (As := [.int 3, .int l5]) (rest := []) d_Reader_readValues_96 (k_Lexer_refuse z147 (C := H149.sh.length - H.sh.length) (Sl := H149.sl - H.sl) (by show H149.sh.length ≤ _; omega) (by show H149.sl ≤ _; omega)) (ab_mkC s_Lexer_refuse (Nat.le_of_ble_eq_true rfl) (Nat.le_of_ble_eq_true rfl) (show (H.sh.length - c0) + (H149.sh.length - H.sh.length) ≤ C from by omega) (show (H.sl - s0) + (H149.sl - H.sl) ≤ Sl from by omega)) (k4 97 rfl rfl) i_Lexer_refuse v_Lexer_refuse q146 (by decide) rfl rfl (Nat.le_of_ble_eq_true rfl) ?_
      exact ab_U_out rfl (by show _ + (H149.sh.length - H.sh.length) ≤ C; omega) (by show _ + (H149.sl - H.sl) ≤ Sl; omega) ⟨rfl, rfl⟩
    clear hF
    have mz_55 : Mo H H149 := (m_Lexer_refuse z147)
    have b_56l := (mz_55).len
    have b_56s := (mz_55).2
    have b_56c : c0 ≤ H149.sh.length := by omega
    have b_56d : s0 ≤ H149.sl := by omega
    have q_57 := (mz_55).get q47
    have q_58 := (mz_55).get q50
    have q_59 := (mz_55).get q53
    have q_60 := (mz_55).get q57
    have q_61 := (mz_55).get q146
    have fH149 : Mo H149 r.2 := by
      have hm := Mo.rf H149
      exact hm.tr (mB_Reader_readValues_99 hm5 hG)
    have b_56m := (fH149).len
    have b_56n := (fH149).2
    have b_56p : H149.sh.length ≤ c0 + C := by omega
    have b_56q : H149.sl ≤ s0 + Sl := by omega
    refine hp_callV_v (H1 := H149) (As := [.int 3, .int l5]) (rest := []) d_Reader_readValues_96 (k_Lexer_refuse z147 (C := H149.sh.length - H.sh.length) (Sl := H149.sl - H.sl) (by show H149.sh.length ≤ _; omega) (by show H149.sl ≤ _; omega)) (ab_mkC s_Lexer_refuse (Nat.le_of_ble_eq_true rfl) (Nat.le_of_ble_eq_true rfl) (show (H.sh.length - c0) + (H149.sh.length - H.sh.length) ≤ C from by omega) (show (H.sl - s0) + (H149.sl - H.sl) ≤ Sl from by omega)) (k4 97 rfl rfl) i_Lexer_refuse v_Lexer_refuse q146 (by decide) rfl rfl (Nat.le_of_ble_eq_true rfl) ?_
    refine ab_widen (cells' := H149.sh.length - c0) (slots' := H149.sl - s0) (by show _ + (H149.sh.length - H.sh.length) ≤ _; omega) (by show _ + (H149.sl - H.sl) ≤ _; omega) ?_
    clear b_56l b_56s b_56m b_56n
    refine ab_le (lv' := [some (.ref p0), some (.int p1), some (.int p2), some (.int l3), some (.int l4), none, some (.int l6), some (.int x60), none]) ⟨rfl, ⟨rfl, ⟨rfl, ⟨rfl, ⟨rfl, ⟨rfl, ⟨rfl, trivial⟩⟩⟩⟩⟩⟩⟩ ?_
    exact kB_Reader_readValues_99 hm5 hk5 hG b_56c b_56d b_56p b_56q hC hS
def B_Reader_readValues_5 (N : Nat) (p0 : Nat) (p1 : Int32) (p2 : Int32) : Nat → Int32 → Int32 → Hp → Option ((Ot Unit) × Hp)
  | 0, _, _, _ => none
  | n + 1, l3, l4, H =>
    if (48 : Int32) < l4 then
    B_Reader_readValues_173 N p0 p1 p2  H
    else
    ck (H.sh[p0]? = some (5, 0)) <|
    rf (H.P p0 0) fun a19 =>
    ck (H.sh[a19]? = some (1, 0)) <|
    bC (F_Lexer_advance N a19 H) fun v23 H24 =>
    rf (H24.P p0 0) fun a25 =>
    ck (H24.sh[a25]? = some (1, 0)) <|
    bnd ((H24.D a25 3)) fun x28 =>
    rf (H24.P p0 2) fun a29 =>
    ck (H24.sh[a29]? = some (4, 0)) <|
    rf (H24.P a29 2) fun a32 =>
    rf (H24.P p0 0) fun a34 =>
    ck (H24.sh[a34]? = some (1, 0)) <|
    bT (F_Lexer_takeName N a34 H24) fun v38 H39 =>
    on v38 fun a41 =>
    ck (H39.sh[a32]? = some (3, 0)) <|
    bC (F_Shapes_memberNamed N a32 p2 a41 H39) fun v44 H45 =>
    if (0 : Int32) ≤ v44 then
    B_Reader_readValues_63 N p0 p1 p2 (fun l3 l4 H => B_Reader_readValues_5 N p0 p1 p2 n l3 l4 H) l3 l4 x28 v44 H45
    else
    rf (H45.P p0 0) fun a47 =>
    ck (H45.sh[a47]? = some (1, 0)) <|
    bT (F_Lexer_refuse N a47 (4 : Int32) x28 H45) fun v51 H52 =>
    B_Reader_readValues_63 N p0 p1 p2 (fun l3 l4 H => B_Reader_readValues_5 N p0 p1 p2 n l3 l4 H) l3 l4 x28 v44 H52
termination_by structural n => n
set_option maxRecDepth 20000 in
set_option maxHeartbeats 2000000 in
theorem mB_Reader_readValues_5 {N : Nat} {p0 : Nat} {p1 : Int32} {p2 : Int32} : ∀ (n : Nat) (l3 : Int32) (l4 : Int32) (H : Hp) (r : (Ot Unit) × Hp), B_Reader_readValues_5 N p0 p1 p2 n l3 l4 H = some r → Mo H r.2 := by
  intro n
  induction n with
  | zero => intro l3 l4 H r hF; rw [B_Reader_readValues_5] at hF; cases hF
  | succ n ih =>
    intro l3 l4 H r hF
    rw [B_Reader_readValues_5] at hF
    have hm := Mo.rf H
    rcases ite_s hF with ⟨q_88, hG⟩ | ⟨q_88, hG⟩
    · clear hF
      exact hm.tr (mB_Reader_readValues_173 hG)
    · clear hF
      obtain ⟨q55, hF⟩ := ck_s hG; clear hG
      obtain ⟨a56, e57, hG⟩ := rf_s hF; clear hF
      obtain ⟨q58, hF⟩ := ck_s hG; clear hG
      obtain ⟨v60, H61, z59, hG⟩ := bC_s hF; clear hF
      replace hm : Mo H H61 := hm.tr ((m_Lexer_advance z59)).mo
      obtain ⟨a62, e63, hF⟩ := rf_s hG; clear hG
      obtain ⟨q64, hG⟩ := ck_s hF; clear hF
      obtain ⟨x65, -, hF⟩ := bnd_g hG; clear hG
      obtain ⟨a66, e67, hG⟩ := rf_s hF; clear hF
      obtain ⟨q68, hF⟩ := ck_s hG; clear hG
      obtain ⟨a69, e70, hG⟩ := rf_s hF; clear hF
      obtain ⟨a71, e72, hF⟩ := rf_s hG; clear hG
      obtain ⟨q73, hG⟩ := ck_s hF; clear hF
      refine bT_c hG (fun x77 H76 z74 er => ?_) (fun v75 H76 z74 hF => ?_)
      · subst er; exact hm.tr (m_Lexer_takeName z74)
      clear hG
      replace hm : Mo H H76 := hm.tr (m_Lexer_takeName z74)
      obtain ⟨a78, ea78, hG⟩ := on_s hF; clear hF
      subst ea78
      obtain ⟨q79, hF⟩ := ck_s hG; clear hG
      obtain ⟨v81, H82, z80, hG⟩ := bC_s hF; clear hF
      replace hm : Mo H H82 := hm.tr ((m_Shapes_memberNamed z80)).mo
      rcases ite_s hG with ⟨q_95, hF⟩ | ⟨q_95, hF⟩
      · clear hG
        exact hm.tr (mB_Reader_readValues_63 ih hF)
      · clear hG
        obtain ⟨a84, e85, hG⟩ := rf_s hF; clear hF
        obtain ⟨q86, hF⟩ := ck_s hG; clear hG
        refine bT_c hF (fun x90 H89 z87 er => ?_) (fun v88 H89 z87 hG => ?_)
        · subst er; exact hm.tr (m_Lexer_refuse z87)
        clear hF
        replace hm : Mo H H89 := hm.tr (m_Lexer_refuse z87)
        exact hm.tr (mB_Reader_readValues_63 ih hG)
set_option maxRecDepth 20000 in
set_option maxHeartbeats 2000000 in
theorem kB_Reader_readValues_5 {N : Nat} {p0 : Nat} {p1 : Int32} {p2 : Int32} {c0 s0 C Sl : Nat} : ∀ (n : Nat) (l3 : Int32) (l4 : Int32) (H : Hp) (r : (Ot Unit) × Hp), B_Reader_readValues_5 N p0 p1 p2 n l3 l4 H = some r → c0 ≤ H.sh.length → s0 ≤ H.sl → H.sh.length ≤ c0 + C → H.sl ≤ s0 + Sl → r.2.sh.length ≤ c0 + C → r.2.sl ≤ s0 + Sl → ab_V y_Reader_readValues { frames := 9, cells := C, slots := Sl, locals := 170 } (po (oV r.1) r.2) C Sl (H.sh.length - c0) (H.sl - s0) 5 [some (.ref p0), some (.int p1), some (.int p2), some (.int l3), some (.int l4), none, none, none, none] [] (hpw H) := by
  intro n
  induction n with
  | zero => intro l3 l4 H r hF; rw [B_Reader_readValues_5] at hF; cases hF
  | succ n ih =>
    intro l3 l4 H r hF hc0 hs0 hcc hss hC hS
    rw [B_Reader_readValues_5] at hF
    refine ab_iload d_Reader_readValues_5 rfl ?_
    refine ab_bipush (v := 48) d_Reader_readValues_7 (by decide) ?_
    refine ab_icmp_gt (tgt := 173) d_Reader_readValues_9 (by decide) (fun q1 => ?_) (fun q1 => ?_)
    · rw [if_pos q1] at hF
      refine ab_le (lv' := [some (.ref p0), some (.int p1), some (.int p2), none, none, none, none, none, none]) ⟨rfl, ⟨rfl, ⟨rfl, trivial⟩⟩⟩ ?_
      exact kB_Reader_readValues_173 hF hc0 hs0 hcc hss hC hS
    · rw [if_neg q1] at hF
      refine ab_aload_n d_Reader_readValues_12 rfl rfl rfl ?_
      obtain ⟨q18, hG⟩ := ck_s hF; clear hF
      obtain ⟨a19, e20, hF⟩ := rf_s hG; clear hG
      refine hp_getR (f := 0) d_Reader_readValues_13 q18 (by decide) rfl (by decide) (k1 179 rfl rfl) rfl e20 ?_
      obtain ⟨q21, hG⟩ := ck_s hF; clear hF
      obtain ⟨v23, H24, z22, hF⟩ := bC_s hG; clear hG
      refine hp_callV_v (H1 := H24) (As := []) (rest := []) d_Reader_readValues_16 (k_Lexer_advance z22) (ab_mkC s_Lexer_advance (Nat.le_of_ble_eq_true rfl) (Nat.le_of_ble_eq_true rfl) (show (H.sh.length - c0) + 0 ≤ C from by omega) (show (H.sl - s0) + 0 ≤ Sl from by omega)) (k4 167 rfl rfl) i_Lexer_advance v_Lexer_advance q21 (by decide) rfl rfl (Nat.le_of_ble_eq_true rfl) ?_
      have s_9 : Sa H H24 := (m_Lexer_advance z22)
      refine ab_widen (cells' := H.sh.length - c0) (slots' := H.sl - s0) (by show (H.sh.length - c0) + 0 ≤ _; omega) (by show (H.sl - s0) + 0 ≤ _; omega) ?_
      refine ab_aload_n d_Reader_readValues_19 rfl rfl rfl ?_
      obtain ⟨a25, e26, hG⟩ := rf_s hF; clear hF
      refine hp_getR (f := 0) d_Reader_readValues_20 (by rw [(s_9).1]; exact q18) (by decide) rfl (by decide) (k1 179 rfl rfl) rfl e26 ?_
      obtain ⟨q27, hF⟩ := ck_s hG; clear hG
      rw [(s_9).1] at q27
      refine hp_getI (f := 3) d_Reader_readValues_23 (by rw [(s_9).1]; exact q27) (by decide) rfl (by decide) (k1 101 rfl rfl) rfl ?_
      refine ab_topi (fun x28 ex28 => ?_)
      replace hF := bnd_s ex28 hF
      refine ab_istore (lv' := [some (.ref p0), some (.int p1), some (.int p2), some (.int l3), some (.int l4), some (.int x28), none, none, none]) d_Reader_readValues_26 (by decide) rfl ?_
      refine ab_aload_n d_Reader_readValues_28 rfl rfl rfl ?_
      obtain ⟨a29, e30, hG⟩ := rf_s hF; clear hF
      refine hp_getR (f := 2) d_Reader_readValues_29 (by rw [(s_9).1]; exact q18) (by decide) rfl (by decide) (k1 181 rfl rfl) rfl e30 ?_
      obtain ⟨q31, hF⟩ := ck_s hG; clear hG
      rw [(s_9).1] at q31
      obtain ⟨a32, e33, hG⟩ := rf_s hF; clear hF
      refine hp_getR (f := 2) d_Reader_readValues_32 (by rw [(s_9).1]; exact q31) (by decide) rfl (by decide) (k3 58 rfl rfl) rfl e33 ?_
      refine ab_iload_n d_Reader_readValues_35 rfl rfl ?_
      refine ab_aload_n d_Reader_readValues_36 rfl rfl rfl ?_
      obtain ⟨a34, e35, hF⟩ := rf_s hG; clear hG
      refine hp_getR (f := 0) d_Reader_readValues_37 (by rw [(s_9).1]; exact q18) (by decide) rfl (by decide) (k1 179 rfl rfl) rfl e35 ?_
      obtain ⟨q36, hG⟩ := ck_s hF; clear hF
      rw [(s_9).1] at q36
      refine bT_c hG (fun x40 H39 z37 er => ?_) (fun v38 H39 z37 hF => ?_)
      · subst er
        refine ab_widen (cells' := H24.sh.length - c0) (slots' := H24.sl - s0) (by rw [(s_9).1]; exact Nat.le_refl _) (by rw [(s_9).2]; exact Nat.le_refl _) ?_
        have mz : Mo H24 H39 := (m_Lexer_takeName z37)
        have ml := mz.len
        have m2 := mz.2
        have be := congrArg List.length (s_9).1
        have bfx := (s_9).2
        have hC9 : H39.sh.length ≤ c0 + C := hC
        have hS9 : H39.sl ≤ s0 + Sl := hS
        refine hp_callV_t (x := x40) (H1 := H39) (As := []) (rest := [.int p2, .ref a32]) d_Reader_readValues_40 (k_Lexer_takeName z37 (C := H39.sh.length - H24.sh.length) (Sl := H39.sl - H24.sl) (by show H39.sh.length ≤ _; omega) (by show H39.sl ≤ _; omega)) (ab_mkC s_Lexer_takeName (Nat.le_of_ble_eq_true rfl) (Nat.le_of_ble_eq_true rfl) (show (H24.sh.length - c0) + (H39.sh.length - H24.sh.length) ≤ C from by omega) (show (H24.sl - s0) + (H39.sl - H24.sl) ≤ Sl from by omega)) (k4 175 rfl rfl) i_Lexer_takeName v_Lexer_takeName (by rw [(s_9).1]; exact q36) (by decide) rfl rfl (Nat.le_of_ble_eq_true rfl) ?_
        exact ab_U_out rfl (by show _ + (H39.sh.length - H24.sh.length) ≤ C; omega) (by show _ + (H39.sl - H24.sl) ≤ Sl; omega) ⟨rfl, rfl⟩
      clear hG
      refine ab_widen (cells' := H24.sh.length - c0) (slots' := H24.sl - s0) (by rw [(s_9).1]; exact Nat.le_refl _) (by rw [(s_9).2]; exact Nat.le_refl _) ?_
      have mz_10 : Mo H24 H39 := (m_Lexer_takeName z37)
      have b_11l := (mz_10).len
      have b_11s := (mz_10).2
      have b_11e := congrArg List.length (s_9).1
      have b_11f := (s_9).2
      have b_11c : c0 ≤ H39.sh.length := by omega
      have b_11d : s0 ≤ H39.sl := by omega
      have q_12 := (mz_10).get (by rw [(s_9).1]; exact q18)
      have q_13 := (mz_10).get (by rw [(s_9).1]; exact q21)
      have q_14 := (mz_10).get (by rw [(s_9).1]; exact q27)
      have q_15 := (mz_10).get (by rw [(s_9).1]; exact q31)
      have q_16 := (mz_10).get (by rw [(s_9).1]; exact q36)
      have mf_17 : Mo H39 r.2 := by
        have hm := Mo.rf H39
        obtain ⟨a41, ea41, hG⟩ := on_s hF; clear hF
        subst ea41
        obtain ⟨q42, hF⟩ := ck_s hG; clear hG
        obtain ⟨v44, H45, z43, hG⟩ := bC_s hF; clear hF
        replace hm : Mo H39 H45 := hm.tr ((m_Shapes_memberNamed z43)).mo
        rcases ite_s hG with ⟨q_18, hF⟩ | ⟨q_18, hF⟩
        · clear hG
          exact hm.tr (mB_Reader_readValues_63 (mB_Reader_readValues_5 n) hF)
        · clear hG
          obtain ⟨a173, e174, hG⟩ := rf_s hF; clear hF
          obtain ⟨q175, hF⟩ := ck_s hG; clear hG
          refine bT_c hF (fun x179 H178 z176 er => ?_) (fun v177 H178 z176 hG => ?_)
          · subst er; exact hm.tr (m_Lexer_refuse z176)
          clear hF
          replace hm : Mo H39 H178 := hm.tr (m_Lexer_refuse z176)
          exact hm.tr (mB_Reader_readValues_63 (mB_Reader_readValues_5 n) hG)
      have b_11m := (mf_17).len
      have b_11n := (mf_17).2
      have b_11p : H39.sh.length ≤ c0 + C := by omega
      have b_11q : H39.sl ≤ s0 + Sl := by omega
      refine hp_callV_a (v := ab_rf v38) (H1 := H39) (As := []) (rest := [.int p2, .ref a32]) d_Reader_readValues_40 (k_Lexer_takeName z37 (C := H39.sh.length - H24.sh.length) (Sl := H39.sl - H24.sl) (by show H39.sh.length ≤ _; omega) (by show H39.sl ≤ _; omega)) (ab_mkC s_Lexer_takeName (Nat.le_of_ble_eq_true rfl) (Nat.le_of_ble_eq_true rfl) (show (H24.sh.length - c0) + (H39.sh.length - H24.sh.length) ≤ C from by omega) (show (H24.sl - s0) + (H39.sl - H24.sl) ≤ Sl from by omega)) (k4 175 rfl rfl) i_Lexer_takeName v_Lexer_takeName (by rw [(s_9).1]; exact q36) (by decide) rfl rfl (Nat.le_of_ble_eq_true rfl) ?_
      refine ab_widen (cells' := H39.sh.length - c0) (slots' := H39.sl - s0) (by show _ + (H39.sh.length - H24.sh.length) ≤ _; omega) (by show _ + (H39.sl - H24.sl) ≤ _; omega) ?_
      clear b_11l b_11s b_11m b_11n b_11e b_11f
      obtain ⟨a41, ea41, hG⟩ := on_s hF; clear hF
      subst ea41
      obtain ⟨q42, hF⟩ := ck_s hG; clear hG
      obtain ⟨v44, H45, z43, hG⟩ := bC_s hF; clear hF
      refine hp_callV_a (v := .int v44) (H1 := H45) (As := [.int p2, .ref a41]) (rest := []) d_Reader_readValues_43 (k_Shapes_memberNamed z43) (ab_mkC s_Shapes_memberNamed (Nat.le_of_ble_eq_true rfl) (Nat.le_of_ble_eq_true rfl) (show (H39.sh.length - c0) + 0 ≤ C from by omega) (show (H39.sl - s0) + 0 ≤ Sl from by omega)) (k5 42 rfl rfl) i_Shapes_memberNamed v_Shapes_memberNamed q42 (by decide) rfl rfl (Nat.le_of_ble_eq_true rfl) ?_
      have s_78 : Sa H39 H45 := (m_Shapes_memberNamed z43)
      refine ab_widen (cells' := H39.sh.length - c0) (slots' := H39.sl - s0) (by show (H39.sh.length - c0) + 0 ≤ _; omega) (by show (H39.sl - s0) + 0 ≤ _; omega) ?_
      refine ab_istore (lv' := [some (.ref p0), some (.int p1), some (.int p2), some (.int l3), some (.int l4), some (.int x28), some (.int v44), none, none]) d_Reader_readValues_46 (by decide) rfl ?_
      refine ab_iload d_Reader_readValues_48 rfl ?_
      refine ab_if_ge (tgt := 63) d_Reader_readValues_50 (by decide) (fun q46 => ?_) (fun q46 => ?_)
      · rw [if_pos q46] at hG
        refine ab_widen (cells' := H45.sh.length - c0) (slots' := H45.sl - s0) (by rw [(s_78).1]; exact Nat.le_refl _) (by rw [(s_78).2]; exact Nat.le_refl _) ?_
        exact kB_Reader_readValues_63 (mB_Reader_readValues_5 n) ih hG (by rw [(s_78).1]; exact b_11c) (by rw [(s_78).2]; exact b_11d) (by rw [(s_78).1]; exact b_11p) (by rw [(s_78).2]; exact b_11q) hC hS
      · rw [if_neg q46] at hG
        refine ab_aload_n d_Reader_readValues_53 rfl rfl rfl ?_
        obtain ⟨a47, e48, hF⟩ := rf_s hG; clear hG
        refine hp_getR (f := 0) d_Reader_readValues_54 (by rw [(s_78).1]; exact q_12) (by decide) rfl (by decide) (k1 179 rfl rfl) rfl e48 ?_
        refine ab_iconst (v := 4) d_Reader_readValues_57 (by decide) ?_
        refine ab_iload d_Reader_readValues_58 rfl ?_
        obtain ⟨q49, hG⟩ := ck_s hF; clear hF
        rw [(s_78).1] at q49
        refine bT_c hG (fun x53 H52 z50 er => ?_) (fun v51 H52 z50 hF => ?_)
        · subst er
          refine ab_widen (cells' := H45.sh.length - c0) (slots' := H45.sl - s0) (by rw [(s_78).1]; exact Nat.le_refl _) (by rw [(s_78).2]; exact Nat.le_refl _) ?_
          have mz : Mo H45 H52 := (m_Lexer_refuse z50)
          have ml := mz.len
          have m2 := mz.2
          have be := congrArg List.length (s_78).1
          have bfx := (s_78).2
          have hC9 : H52.sh.length ≤ c0 + C := hC
          have hS9 : H52.sl ≤ s0 + Sl := hS
          refine hp_callV_t (x := x53) (H1 := H52) (As := [.int 4, .int x28]) (rest := []) d_Reader_readValues_60 (k_Lexer_refuse z50 (C := H52.sh.length - H45.sh.length) (Sl := H52.sl - H45.sl) (by show H52.sh.length ≤ _; omega) (by show H52.sl ≤ _; omega)) (ab_mkC s_Lexer_refuse (Nat.le_of_ble_eq_true rfl) (Nat.le_of_ble_eq_true rfl) (show (H45.sh.length - c0) + (H52.sh.length - H45.sh.length) ≤ C from by omega) (show (H45.sl - s0) + (H52.sl - H45.sl) ≤ Sl from by omega)) (k4 97 rfl rfl) i_Lexer_refuse v_Lexer_refuse (by rw [(s_78).1]; exact q49) (by decide) rfl rfl (Nat.le_of_ble_eq_true rfl) ?_
          exact ab_U_out rfl (by show _ + (H52.sh.length - H45.sh.length) ≤ C; omega) (by show _ + (H52.sl - H45.sl) ≤ Sl; omega) ⟨rfl, rfl⟩
        clear hG
        refine ab_widen (cells' := H45.sh.length - c0) (slots' := H45.sl - s0) (by rw [(s_78).1]; exact Nat.le_refl _) (by rw [(s_78).2]; exact Nat.le_refl _) ?_
        have mz_79 : Mo H45 H52 := (m_Lexer_refuse z50)
        have b_80l := (mz_79).len
        have b_80s := (mz_79).2
        have b_80e := congrArg List.length (s_78).1
        have b_80f := (s_78).2
        have b_80c : c0 ≤ H52.sh.length := by omega
        have b_80d : s0 ≤ H52.sl := by omega
        have q_81 := (mz_79).get (by rw [(s_78).1]; exact q_12)
        have q_82 := (mz_79).get (by rw [(s_78).1]; exact q_13)
        have q_83 := (mz_79).get (by rw [(s_78).1]; exact q_14)
        have q_84 := (mz_79).get (by rw [(s_78).1]; exact q_15)
        have q_85 := (mz_79).get (by rw [(s_78).1]; exact q_16)
        have q_86 := (mz_79).get (by rw [(s_78).1]; exact q42)
        have q_87 := (mz_79).get (by rw [(s_78).1]; exact q49)
        have fH52 : Mo H52 r.2 := by
          have hm := Mo.rf H52
          exact hm.tr (mB_Reader_readValues_63 (mB_Reader_readValues_5 n) hF)
        have b_80m := (fH52).len
        have b_80n := (fH52).2
        have b_80p : H52.sh.length ≤ c0 + C := by omega
        have b_80q : H52.sl ≤ s0 + Sl := by omega
        refine hp_callV_v (H1 := H52) (As := [.int 4, .int x28]) (rest := []) d_Reader_readValues_60 (k_Lexer_refuse z50 (C := H52.sh.length - H45.sh.length) (Sl := H52.sl - H45.sl) (by show H52.sh.length ≤ _; omega) (by show H52.sl ≤ _; omega)) (ab_mkC s_Lexer_refuse (Nat.le_of_ble_eq_true rfl) (Nat.le_of_ble_eq_true rfl) (show (H45.sh.length - c0) + (H52.sh.length - H45.sh.length) ≤ C from by omega) (show (H45.sl - s0) + (H52.sl - H45.sl) ≤ Sl from by omega)) (k4 97 rfl rfl) i_Lexer_refuse v_Lexer_refuse (by rw [(s_78).1]; exact q49) (by decide) rfl rfl (Nat.le_of_ble_eq_true rfl) ?_
        refine ab_widen (cells' := H52.sh.length - c0) (slots' := H52.sl - s0) (by show _ + (H52.sh.length - H45.sh.length) ≤ _; omega) (by show _ + (H52.sl - H45.sl) ≤ _; omega) ?_
        clear b_80l b_80s b_80m b_80n b_80e b_80f b_11c b_11d b_11p b_11q
        exact kB_Reader_readValues_63 (mB_Reader_readValues_5 n) ih hF b_80c b_80d b_80p b_80q hC hS
def F_Reader_readValues (N : Nat) (p0 : Nat) (p1 : Int32) (p2 : Int32) (H : Hp) : Option ((Ot Unit) × Hp) :=
    B_Reader_readValues_5 N p0 p1 p2 N 0 0 H
set_option maxRecDepth 20000 in
set_option maxHeartbeats 2000000 in
theorem m_Reader_readValues {N : Nat} {p0 : Nat} {p1 : Int32} {p2 : Int32} {H : Hp} {r : (Ot Unit) × Hp} (hF : F_Reader_readValues N p0 p1 p2 H = some r) : Mo H r.2 := by
  unfold F_Reader_readValues at hF
  have hm := Mo.rf H
  exact hm.tr (mB_Reader_readValues_5 N 0 0 H r hF)
set_option maxRecDepth 20000 in
set_option maxHeartbeats 2000000 in
theorem k_Reader_readValues {N : Nat} {p0 : Nat} {p1 : Int32} {p2 : Int32} {H : Hp} {r : (Ot Unit) × Hp} {C Sl : Nat} (hF : F_Reader_readValues N p0 p1 p2 H = some r) (hC : r.2.sh.length ≤ H.sh.length + C) (hS : r.2.sl ≤ H.sl + Sl) : ab_M y_Reader_readValues { frames := 9, cells := C, slots := Sl, locals := 170 } [.ref p0, .int p1, .int p2] (hpw H) (po (oV r.1) r.2) := by
  unfold F_Reader_readValues at hF
  obtain ⟨c0, e0⟩ : ∃ q, q = H.sh.length := ⟨_, rfl⟩
  obtain ⟨s0, e1⟩ : ∃ q, q = H.sl := ⟨_, rfl⟩
  rw [← e0] at hC
  rw [← e1] at hS
  have hc0 : c0 ≤ H.sh.length := Nat.le_of_eq e0
  have hs0 : s0 ≤ H.sl := Nat.le_of_eq e1
  have hcc : H.sh.length ≤ c0 + C := by omega
  have hss : H.sl ≤ s0 + Sl := by omega
  refine ab_of2 (lv := [some (.ref p0), some (.int p1), some (.int p2), none, none, none, none, none, none]) 6 rfl rfl (Nat.le_of_ble_eq_true rfl) ?_
  refine ab_widen (cells' := H.sh.length - c0) (slots' := H.sl - s0) (Nat.zero_le _) (Nat.zero_le _) ?_
  refine ab_iconst (v := 0) d_Reader_readValues_0 (by decide) ?_
  refine ab_istore_n (lv' := [some (.ref p0), some (.int p1), some (.int p2), some (.int 0), none, none, none, none, none]) d_Reader_readValues_1 rfl (by decide) rfl ?_
  refine ab_iconst (v := 0) d_Reader_readValues_2 (by decide) ?_
  refine ab_istore (lv' := [some (.ref p0), some (.int p1), some (.int p2), some (.int 0), some (.int 0), none, none, none, none]) d_Reader_readValues_3 (by decide) rfl ?_
  exact kB_Reader_readValues_5 N 0 0 H r hF hc0 hs0 hcc hss hC hS
def y_Reader_readPart : ab_Y := (⟨"WorldEngine$Reader", "readPart", "(I)V"⟩, prog_7_method_10_code, 6, none, [])
theorem d_Reader_readPart_0 : decode y_Reader_readPart.2.1 0 = .ok (.aload_n 0, 1) := by decide +kernel
theorem d_Reader_readPart_1 : decode y_Reader_readPart.2.1 1 = .ok (.getfield 7, 3) := by decide +kernel
theorem d_Reader_readPart_4 : decode y_Reader_readPart.2.1 4 = .ok (.getfield 65, 3) := by decide +kernel
theorem d_Reader_readPart_7 : decode y_Reader_readPart.2.1 7 = .ok (.istore_n 2, 1) := by decide +kernel
theorem d_Reader_readPart_8 : decode y_Reader_readPart.2.1 8 = .ok (.aload_n 0, 1) := by decide +kernel
theorem d_Reader_readPart_9 : decode y_Reader_readPart.2.1 9 = .ok (.getfield 7, 3) := by decide +kernel
theorem d_Reader_readPart_12 : decode y_Reader_readPart.2.1 12 = .ok (.invokevirtual 80, 3) := by decide +kernel
theorem d_Reader_readPart_15 : decode y_Reader_readPart.2.1 15 = .ok (.astore_n 3, 1) := by decide +kernel
theorem d_Reader_readPart_16 : decode y_Reader_readPart.2.1 16 = .ok (.aload_n 0, 1) := by decide +kernel
theorem d_Reader_readPart_17 : decode y_Reader_readPart.2.1 17 = .ok (.getfield 22, 3) := by decide +kernel
theorem d_Reader_readPart_20 : decode y_Reader_readPart.2.1 20 = .ok (.getfield 146, 3) := by decide +kernel
theorem d_Reader_readPart_23 : decode y_Reader_readPart.2.1 23 = .ok (.iload_n 1, 1) := by decide +kernel
theorem d_Reader_readPart_24 : decode y_Reader_readPart.2.1 24 = .ok (.iaload, 1) := by decide +kernel
theorem d_Reader_readPart_25 : decode y_Reader_readPart.2.1 25 = .ok (.istore 4, 2) := by decide +kernel
theorem d_Reader_readPart_27 : decode y_Reader_readPart.2.1 27 = .ok (.iload 4, 2) := by decide +kernel
theorem d_Reader_readPart_29 : decode y_Reader_readPart.2.1 29 = .ok (.invokestatic 159, 3) := by decide +kernel
theorem d_Reader_readPart_32 : decode y_Reader_readPart.2.1 32 = .ok (.bipush 8, 2) := by decide +kernel
theorem d_Reader_readPart_34 : decode y_Reader_readPart.2.1 34 = .ok (.if_icmp .lt 12, 3) := by decide +kernel
theorem d_Reader_readPart_37 : decode y_Reader_readPart.2.1 37 = .ok (.aload_n 0, 1) := by decide +kernel
theorem d_Reader_readPart_38 : decode y_Reader_readPart.2.1 38 = .ok (.getfield 7, 3) := by decide +kernel
theorem d_Reader_readPart_41 : decode y_Reader_readPart.2.1 41 = .ok (.iconst 2, 1) := by decide +kernel
theorem d_Reader_readPart_42 : decode y_Reader_readPart.2.1 42 = .ok (.iload_n 2, 1) := by decide +kernel
theorem d_Reader_readPart_43 : decode y_Reader_readPart.2.1 43 = .ok (.invokevirtual 68, 3) := by decide +kernel
theorem d_Reader_readPart_46 : decode y_Reader_readPart.2.1 46 = .ok (.aload_n 0, 1) := by decide +kernel
theorem d_Reader_readPart_47 : decode y_Reader_readPart.2.1 47 = .ok (.aload_n 3, 1) := by decide +kernel
theorem d_Reader_readPart_48 : decode y_Reader_readPart.2.1 48 = .ok (.iload_n 2, 1) := by decide +kernel
theorem d_Reader_readPart_49 : decode y_Reader_readPart.2.1 49 = .ok (.invokevirtual 164, 3) := by decide +kernel
theorem d_Reader_readPart_52 : decode y_Reader_readPart.2.1 52 = .ok (.astore 5, 2) := by decide +kernel
theorem d_Reader_readPart_54 : decode y_Reader_readPart.2.1 54 = .ok (.aload 5, 2) := by decide +kernel
theorem d_Reader_readPart_56 : decode y_Reader_readPart.2.1 56 = .ok (.getfield 168, 3) := by decide +kernel
theorem d_Reader_readPart_59 : decode y_Reader_readPart.2.1 59 = .ok (.ifCond .eq 12, 3) := by decide +kernel
theorem d_Reader_readPart_62 : decode y_Reader_readPart.2.1 62 = .ok (.aload_n 0, 1) := by decide +kernel
theorem d_Reader_readPart_63 : decode y_Reader_readPart.2.1 63 = .ok (.getfield 7, 3) := by decide +kernel
theorem d_Reader_readPart_66 : decode y_Reader_readPart.2.1 66 = .ok (.iconst 5, 1) := by decide +kernel
theorem d_Reader_readPart_67 : decode y_Reader_readPart.2.1 67 = .ok (.iload_n 2, 1) := by decide +kernel
theorem d_Reader_readPart_68 : decode y_Reader_readPart.2.1 68 = .ok (.invokevirtual 68, 3) := by decide +kernel
theorem d_Reader_readPart_71 : decode y_Reader_readPart.2.1 71 = .ok (.iload 4, 2) := by decide +kernel
theorem d_Reader_readPart_73 : decode y_Reader_readPart.2.1 73 = .ok (.aload 5, 2) := by decide +kernel
theorem d_Reader_readPart_75 : decode y_Reader_readPart.2.1 75 = .ok (.getfield 171, 3) := by decide +kernel
theorem d_Reader_readPart_78 : decode y_Reader_readPart.2.1 78 = .ok (.ishr, 1) := by decide +kernel
theorem d_Reader_readPart_79 : decode y_Reader_readPart.2.1 79 = .ok (.iconst 1, 1) := by decide +kernel
theorem d_Reader_readPart_80 : decode y_Reader_readPart.2.1 80 = .ok (.iand, 1) := by decide +kernel
theorem d_Reader_readPart_81 : decode y_Reader_readPart.2.1 81 = .ok (.iconst 1, 1) := by decide +kernel
theorem d_Reader_readPart_82 : decode y_Reader_readPart.2.1 82 = .ok (.if_icmp .ne 12, 3) := by decide +kernel
theorem d_Reader_readPart_85 : decode y_Reader_readPart.2.1 85 = .ok (.aload_n 0, 1) := by decide +kernel
theorem d_Reader_readPart_86 : decode y_Reader_readPart.2.1 86 = .ok (.getfield 7, 3) := by decide +kernel
theorem d_Reader_readPart_89 : decode y_Reader_readPart.2.1 89 = .ok (.iconst 3, 1) := by decide +kernel
theorem d_Reader_readPart_90 : decode y_Reader_readPart.2.1 90 = .ok (.iload_n 2, 1) := by decide +kernel
theorem d_Reader_readPart_91 : decode y_Reader_readPart.2.1 91 = .ok (.invokevirtual 68, 3) := by decide +kernel
theorem d_Reader_readPart_94 : decode y_Reader_readPart.2.1 94 = .ok (.aload_n 0, 1) := by decide +kernel
theorem d_Reader_readPart_95 : decode y_Reader_readPart.2.1 95 = .ok (.getfield 22, 3) := by decide +kernel
theorem d_Reader_readPart_98 : decode y_Reader_readPart.2.1 98 = .ok (.getfield 146, 3) := by decide +kernel
theorem d_Reader_readPart_101 : decode y_Reader_readPart.2.1 101 = .ok (.iload_n 1, 1) := by decide +kernel
theorem d_Reader_readPart_102 : decode y_Reader_readPart.2.1 102 = .ok (.iload 4, 2) := by decide +kernel
theorem d_Reader_readPart_104 : decode y_Reader_readPart.2.1 104 = .ok (.iconst 1, 1) := by decide +kernel
theorem d_Reader_readPart_105 : decode y_Reader_readPart.2.1 105 = .ok (.aload 5, 2) := by decide +kernel
theorem d_Reader_readPart_107 : decode y_Reader_readPart.2.1 107 = .ok (.getfield 171, 3) := by decide +kernel
theorem d_Reader_readPart_110 : decode y_Reader_readPart.2.1 110 = .ok (.ishl, 1) := by decide +kernel
theorem d_Reader_readPart_111 : decode y_Reader_readPart.2.1 111 = .ok (.ior, 1) := by decide +kernel
theorem d_Reader_readPart_112 : decode y_Reader_readPart.2.1 112 = .ok (.iastore, 1) := by decide +kernel
theorem d_Reader_readPart_113 : decode y_Reader_readPart.2.1 113 = .ok (.aload_n 0, 1) := by decide +kernel
theorem d_Reader_readPart_114 : decode y_Reader_readPart.2.1 114 = .ok (.getfield 7, 3) := by decide +kernel
theorem d_Reader_readPart_117 : decode y_Reader_readPart.2.1 117 = .ok (.getfield 36, 3) := by decide +kernel
theorem d_Reader_readPart_120 : decode y_Reader_readPart.2.1 120 = .ok (.bipush 12, 2) := by decide +kernel
theorem d_Reader_readPart_122 : decode y_Reader_readPart.2.1 122 = .ok (.if_icmp .ne 13, 3) := by decide +kernel
theorem d_Reader_readPart_125 : decode y_Reader_readPart.2.1 125 = .ok (.aload_n 0, 1) := by decide +kernel
theorem d_Reader_readPart_126 : decode y_Reader_readPart.2.1 126 = .ok (.iload_n 1, 1) := by decide +kernel
theorem d_Reader_readPart_127 : decode y_Reader_readPart.2.1 127 = .ok (.aload 5, 2) := by decide +kernel
theorem d_Reader_readPart_129 : decode y_Reader_readPart.2.1 129 = .ok (.getfield 171, 3) := by decide +kernel
theorem d_Reader_readPart_132 : decode y_Reader_readPart.2.1 132 = .ok (.invokevirtual 174, 3) := by decide +kernel
theorem d_Reader_readPart_135 : decode y_Reader_readPart.2.1 135 = .ok (.return_, 1) := by decide +kernel
theorem s_Reader_readPart : ab_Stat y_Reader_readPart 1 := ⟨(k5 66 rfl rfl), (k1 7 rfl rfl), ⟨by decide, by decide⟩, by decide +kernel⟩
theorem i_Reader_readPart : Cond.instanceMethod y_Reader_readPart.1 ∈ ab_T := (k5 65 rfl rfl)
theorem v_Reader_readPart : Cond.selects "WorldEngine$Reader" y_Reader_readPart.1 y_Reader_readPart.1 ∈ ab_T := ab_s (List.mem_of_getElem? (i := 15) rfl) rfl
def B_Reader_readPart_94 (N : Nat) (p0 : Nat) (p1 : Int32) (l4 : Int32) (l5 : Nat) (H : Hp) : Option ((Ot Unit) × Hp) :=
    ck (H.sh[p0]? = some (5, 0)) <|
    rf (H.P p0 2) fun a40 =>
    ck (H.sh[a40]? = some (4, 0)) <|
    rf (H.P a40 5) fun a43 =>
    ck (H.sh[l5]? = some (2, 0)) <|
    bnd ((H.D l5 2)) fun x46 =>
    ar H 100 a43 fun n47 =>
    ck (inb p1 n47) <|
    bnd (H.sD a43 (p1).toNatClampNeg (l4 ||| ((1 : Int32) <<< (x46 &&& 31)))) fun H50 =>
    rf (H50.P p0 0) fun a51 =>
    ck (H50.sh[a51]? = some (1, 0)) <|
    bnd ((H50.D a51 2)) fun x54 =>
    if x54 = (12 : Int32) then
    bnd ((H50.D l5 2)) fun x56 =>
    bT (F_Reader_readValues N p0 p1 x56 H50) fun v58 H59 =>
    some (.inl (), H59)
    else
    some (.inl (), H50)
set_option maxRecDepth 20000 in
set_option maxHeartbeats 2000000 in
theorem mB_Reader_readPart_94 {N : Nat} {p0 : Nat} {p1 : Int32} {l4 : Int32} {l5 : Nat} {H : Hp} {r : (Ot Unit) × Hp} (hF : B_Reader_readPart_94 N p0 p1 l4 l5 H = some r) : Mo H r.2 := by
  unfold B_Reader_readPart_94 at hF
  have hm := Mo.rf H
  obtain ⟨q61, hG⟩ := ck_s hF; clear hF
  obtain ⟨a62, e63, hF⟩ := rf_s hG; clear hG
  obtain ⟨q64, hG⟩ := ck_s hF; clear hF
  obtain ⟨a65, e66, hF⟩ := rf_s hG; clear hG
  obtain ⟨q67, hG⟩ := ck_s hF; clear hF
  obtain ⟨x68, -, hF⟩ := bnd_g hG; clear hG
  obtain ⟨n69, q70, hG⟩ := ar_s hF; clear hF
  obtain ⟨q71, hF⟩ := ck_s hG; clear hG
  obtain ⟨H72, eH72, hG⟩ := bnd_g hF; clear hF
  replace hm : Mo H H72 := by rw [eH72]; exact hm
  obtain ⟨a73, e74, hF⟩ := rf_s hG; clear hG
  obtain ⟨q75, hG⟩ := ck_s hF; clear hF
  obtain ⟨x76, -, hF⟩ := bnd_g hG; clear hG
  rcases ite_s hF with ⟨q_22, hG⟩ | ⟨q_22, hG⟩
  · clear hF
    obtain ⟨x78, -, hF⟩ := bnd_g hG; clear hG
    refine bT_c hF (fun x82 H81 z79 er => ?_) (fun v80 H81 z79 hG => ?_)
    · subst er; exact hm.tr (m_Reader_readValues z79)
    clear hF
    replace hm : Mo H H81 := hm.tr (m_Reader_readValues z79)
    have hr := Option.some.inj hG; subst hr
    exact hm
  · clear hF
    have hr := Option.some.inj hG; subst hr
    exact hm
set_option maxRecDepth 20000 in
set_option maxHeartbeats 2000000 in
theorem kB_Reader_readPart_94 {N : Nat} {p0 : Nat} {p1 : Int32} {c0 s0 C Sl : Nat} {l4 : Int32} {l5 : Nat} {H : Hp} {r : (Ot Unit) × Hp} (hF : B_Reader_readPart_94 N p0 p1 l4 l5 H = some r) (hc0 : c0 ≤ H.sh.length) (hs0 : s0 ≤ H.sl) (hcc : H.sh.length ≤ c0 + C) (hss : H.sl ≤ s0 + Sl) (hC : r.2.sh.length ≤ c0 + C) (hS : r.2.sl ≤ s0 + Sl) : ab_V y_Reader_readPart { frames := 10, cells := C, slots := Sl, locals := 198 } (po (oV r.1) r.2) C Sl (H.sh.length - c0) (H.sl - s0) 94 [some (.ref p0), some (.int p1), none, none, some (.int l4), some (.ref l5)] [] (hpw H) := by
  unfold B_Reader_readPart_94 at hF
  refine ab_aload_n d_Reader_readPart_94 rfl rfl rfl ?_
  obtain ⟨q39, hG⟩ := ck_s hF; clear hF
  obtain ⟨a40, e41, hF⟩ := rf_s hG; clear hG
  refine hp_getR (f := 2) d_Reader_readPart_95 q39 (by decide) rfl (by decide) (k1 181 rfl rfl) rfl e41 ?_
  obtain ⟨q42, hG⟩ := ck_s hF; clear hF
  obtain ⟨a43, e44, hF⟩ := rf_s hG; clear hG
  refine hp_getR (f := 5) d_Reader_readPart_98 q42 (by decide) rfl (by decide) (k3 73 rfl rfl) rfl e44 ?_
  refine ab_iload_n d_Reader_readPart_101 rfl rfl ?_
  refine ab_iload d_Reader_readPart_102 rfl ?_
  refine ab_iconst (v := 1) d_Reader_readPart_104 (by decide) ?_
  refine ab_aload d_Reader_readPart_105 rfl rfl ?_
  obtain ⟨q45, hG⟩ := ck_s hF; clear hF
  refine hp_getI (f := 2) d_Reader_readPart_107 q45 (by decide) rfl (by decide) (k2 236 rfl rfl) rfl ?_
  refine ab_topi (fun x46 ex46 => ?_)
  replace hG := bnd_s ex46 hG
  refine ab_ishl d_Reader_readPart_110 ?_
  refine ab_ior d_Reader_readPart_111 ?_
  obtain ⟨n47, q48, hF⟩ := ar_s hG; clear hG
  obtain ⟨q49, hG⟩ := ck_s hF; clear hF
  refine hp_iast d_Reader_readPart_112 tI q48 q49 ?_
  refine hp_gen (fun H50 eH50 => ?_)
  replace hG := bnd_s eH50 hG
  have s_13 : Sa H H50 := by rw [eH50]; exact Sa.rf _
  refine ab_aload_n d_Reader_readPart_113 rfl rfl rfl ?_
  obtain ⟨a51, e52, hF⟩ := rf_s hG; clear hG
  refine hp_getR (f := 0) d_Reader_readPart_114 (by rw [(s_13).1]; exact q39) (by decide) rfl (by decide) (k1 179 rfl rfl) rfl e52 ?_
  obtain ⟨q53, hG⟩ := ck_s hF; clear hF
  rw [(s_13).1] at q53
  refine hp_getI (f := 2) d_Reader_readPart_117 (by rw [(s_13).1]; exact q53) (by decide) rfl (by decide) (k1 98 rfl rfl) rfl ?_
  refine ab_topi (fun x54 ex54 => ?_)
  replace hG := bnd_s ex54 hG
  refine ab_bipush (v := 12) d_Reader_readPart_120 (by decide) ?_
  refine ab_icmp_ne (tgt := 135) d_Reader_readPart_122 (by decide) (fun q55 => ?_) (fun q55 => ?_)
  · rw [if_neg q55] at hG
    exact ab_vret d_Reader_readPart_135 rfl (by show _ ≤ C; omega) (by show _ ≤ Sl; omega) (by have hr := Option.some.inj hG; subst hr; exact ⟨rfl, rfl⟩)
  · rw [if_pos q55] at hG
    refine ab_aload_n d_Reader_readPart_125 rfl rfl rfl ?_
    refine ab_iload_n d_Reader_readPart_126 rfl rfl ?_
    refine ab_aload d_Reader_readPart_127 rfl rfl ?_
    refine hp_getI (f := 2) d_Reader_readPart_129 (by rw [(s_13).1]; exact q45) (by decide) rfl (by decide) (k2 236 rfl rfl) rfl ?_
    refine ab_topi (fun x56 ex56 => ?_)
    replace hG := bnd_s ex56 hG
    refine bT_c hG (fun x60 H59 z57 er => ?_) (fun v58 H59 z57 hF => ?_)
    · subst er
      refine ab_widen (cells' := H50.sh.length - c0) (slots' := H50.sl - s0) (by rw [(s_13).1]; exact Nat.le_refl _) (by rw [(s_13).2]; exact Nat.le_refl _) ?_
      have mz : Mo H50 H59 := (m_Reader_readValues z57)
      have ml := mz.len
      have m2 := mz.2
      have be := congrArg List.length (s_13).1
      have bfx := (s_13).2
      have hC9 : H59.sh.length ≤ c0 + C := hC
      have hS9 : H59.sl ≤ s0 + Sl := hS
      refine hp_callV_t (x := x60) (H1 := H59) (As := [.int p1, .int x56]) (rest := []) d_Reader_readPart_132 (k_Reader_readValues z57 (C := H59.sh.length - H50.sh.length) (Sl := H59.sl - H50.sl) (by show H59.sh.length ≤ _; omega) (by show H59.sl ≤ _; omega)) (ab_mkC s_Reader_readValues (Nat.le_of_ble_eq_true rfl) (Nat.le_of_ble_eq_true rfl) (show (H50.sh.length - c0) + (H59.sh.length - H50.sh.length) ≤ C from by omega) (show (H50.sl - s0) + (H59.sl - H50.sl) ≤ Sl from by omega)) (k5 77 rfl rfl) i_Reader_readValues v_Reader_readValues (by rw [(s_13).1]; exact q39) (by decide) rfl rfl (Nat.le_of_ble_eq_true rfl) ?_
      exact ab_U_out rfl (by show _ + (H59.sh.length - H50.sh.length) ≤ C; omega) (by show _ + (H59.sl - H50.sl) ≤ Sl; omega) ⟨rfl, rfl⟩
    clear hG
    refine ab_widen (cells' := H50.sh.length - c0) (slots' := H50.sl - s0) (by rw [(s_13).1]; exact Nat.le_refl _) (by rw [(s_13).2]; exact Nat.le_refl _) ?_
    have mz_14 : Mo H50 H59 := (m_Reader_readValues z57)
    have b_15l := (mz_14).len
    have b_15s := (mz_14).2
    have b_15e := congrArg List.length (s_13).1
    have b_15f := (s_13).2
    have b_15c : c0 ≤ H59.sh.length := by omega
    have b_15d : s0 ≤ H59.sl := by omega
    have q_16 := (mz_14).get (by rw [(s_13).1]; exact q39)
    have q_17 := (mz_14).get (by rw [(s_13).1]; exact q42)
    have q_18 := (mz_14).get (by rw [(s_13).1]; exact q45)
    have q_19 := (mz_14).get (by rw [(s_13).1]; exact q48)
    have q_20 := (mz_14).get (by rw [(s_13).1]; exact q53)
    have fH59 : Mo H59 r.2 := by
      have hm := Mo.rf H59
      have hr := Option.some.inj hF; subst hr
      exact hm
    have b_15m := (fH59).len
    have b_15n := (fH59).2
    have b_15p : H59.sh.length ≤ c0 + C := by omega
    have b_15q : H59.sl ≤ s0 + Sl := by omega
    refine hp_callV_v (H1 := H59) (As := [.int p1, .int x56]) (rest := []) d_Reader_readPart_132 (k_Reader_readValues z57 (C := H59.sh.length - H50.sh.length) (Sl := H59.sl - H50.sl) (by show H59.sh.length ≤ _; omega) (by show H59.sl ≤ _; omega)) (ab_mkC s_Reader_readValues (Nat.le_of_ble_eq_true rfl) (Nat.le_of_ble_eq_true rfl) (show (H50.sh.length - c0) + (H59.sh.length - H50.sh.length) ≤ C from by omega) (show (H50.sl - s0) + (H59.sl - H50.sl) ≤ Sl from by omega)) (k5 77 rfl rfl) i_Reader_readValues v_Reader_readValues (by rw [(s_13).1]; exact q39) (by decide) rfl rfl (Nat.le_of_ble_eq_true rfl) ?_
    refine ab_widen (cells' := H59.sh.length - c0) (slots' := H59.sl - s0) (by show _ + (H59.sh.length - H50.sh.length) ≤ _; omega) (by show _ + (H59.sl - H50.sl) ≤ _; omega) ?_
    clear b_15l b_15s b_15m b_15n b_15e b_15f
    exact ab_vret d_Reader_readPart_135 rfl (by show _ ≤ C; omega) (by show _ ≤ Sl; omega) (by have hr := Option.some.inj hF; subst hr; exact ⟨rfl, rfl⟩)
def B_Reader_readPart_71 (N : Nat) (p0 : Nat) (p1 : Int32) (l2 : Int32) (l4 : Int32) (l5 : Nat) (H : Hp) : Option ((Ot Unit) × Hp) :=
    ck (H.sh[l5]? = some (2, 0)) <|
    bnd ((H.D l5 2)) fun x37 =>
    if ((l4 >>> (x37 &&& 31)) &&& (1 : Int32)) = (1 : Int32) then
    ck (H.sh[p0]? = some (5, 0)) <|
    rf (H.P p0 0) fun a84 =>
    ck (H.sh[a84]? = some (1, 0)) <|
    bT (F_Lexer_refuse N a84 (3 : Int32) l2 H) fun v88 H89 =>
    B_Reader_readPart_94 N p0 p1 l4 l5 H89
    else
    B_Reader_readPart_94 N p0 p1 l4 l5 H
set_option maxRecDepth 20000 in
set_option maxHeartbeats 2000000 in
theorem mB_Reader_readPart_71 {N : Nat} {p0 : Nat} {p1 : Int32} {l2 : Int32} {l4 : Int32} {l5 : Nat} {H : Hp} {r : (Ot Unit) × Hp} (hF : B_Reader_readPart_71 N p0 p1 l2 l4 l5 H = some r) : Mo H r.2 := by
  unfold B_Reader_readPart_71 at hF
  have hm := Mo.rf H
  obtain ⟨q91, hG⟩ := ck_s hF; clear hF
  obtain ⟨x92, -, hF⟩ := bnd_g hG; clear hG
  rcases ite_s hF with ⟨q_34, hG⟩ | ⟨q_34, hG⟩
  · clear hF
    obtain ⟨q94, hF⟩ := ck_s hG; clear hG
    obtain ⟨a95, e96, hG⟩ := rf_s hF; clear hF
    obtain ⟨q97, hF⟩ := ck_s hG; clear hG
    refine bT_c hF (fun x101 H100 z98 er => ?_) (fun v99 H100 z98 hG => ?_)
    · subst er; exact hm.tr (m_Lexer_refuse z98)
    clear hF
    replace hm : Mo H H100 := hm.tr (m_Lexer_refuse z98)
    exact hm.tr (mB_Reader_readPart_94 hG)
  · clear hF
    exact hm.tr (mB_Reader_readPart_94 hG)
set_option maxRecDepth 20000 in
set_option maxHeartbeats 2000000 in
theorem kB_Reader_readPart_71 {N : Nat} {p0 : Nat} {p1 : Int32} {c0 s0 C Sl : Nat} {l2 : Int32} {l4 : Int32} {l5 : Nat} {H : Hp} {r : (Ot Unit) × Hp} (hF : B_Reader_readPart_71 N p0 p1 l2 l4 l5 H = some r) (hc0 : c0 ≤ H.sh.length) (hs0 : s0 ≤ H.sl) (hcc : H.sh.length ≤ c0 + C) (hss : H.sl ≤ s0 + Sl) (hC : r.2.sh.length ≤ c0 + C) (hS : r.2.sl ≤ s0 + Sl) : ab_V y_Reader_readPart { frames := 10, cells := C, slots := Sl, locals := 198 } (po (oV r.1) r.2) C Sl (H.sh.length - c0) (H.sl - s0) 71 [some (.ref p0), some (.int p1), some (.int l2), none, some (.int l4), some (.ref l5)] [] (hpw H) := by
  unfold B_Reader_readPart_71 at hF
  refine ab_iload d_Reader_readPart_71 rfl ?_
  refine ab_aload d_Reader_readPart_73 rfl rfl ?_
  obtain ⟨q36, hG⟩ := ck_s hF; clear hF
  refine hp_getI (f := 2) d_Reader_readPart_75 q36 (by decide) rfl (by decide) (k2 236 rfl rfl) rfl ?_
  refine ab_topi (fun x37 ex37 => ?_)
  replace hG := bnd_s ex37 hG
  refine ab_ishr d_Reader_readPart_78 ?_
  refine ab_iconst (v := 1) d_Reader_readPart_79 (by decide) ?_
  refine ab_iand d_Reader_readPart_80 ?_
  refine ab_iconst (v := 1) d_Reader_readPart_81 (by decide) ?_
  refine ab_icmp_ne (tgt := 94) d_Reader_readPart_82 (by decide) (fun q38 => ?_) (fun q38 => ?_)
  · rw [if_neg q38] at hG
    refine ab_le (lv' := [some (.ref p0), some (.int p1), none, none, some (.int l4), some (.ref l5)]) ⟨rfl, ⟨rfl, ⟨rfl, ⟨rfl, trivial⟩⟩⟩⟩ ?_
    exact kB_Reader_readPart_94 hG hc0 hs0 hcc hss hC hS
  · rw [if_pos q38] at hG
    refine ab_aload_n d_Reader_readPart_85 rfl rfl rfl ?_
    obtain ⟨q83, hF⟩ := ck_s hG; clear hG
    obtain ⟨a84, e85, hG⟩ := rf_s hF; clear hF
    refine hp_getR (f := 0) d_Reader_readPart_86 q83 (by decide) rfl (by decide) (k1 179 rfl rfl) rfl e85 ?_
    refine ab_iconst (v := 3) d_Reader_readPart_89 (by decide) ?_
    refine ab_iload_n d_Reader_readPart_90 rfl rfl ?_
    obtain ⟨q86, hF⟩ := ck_s hG; clear hG
    refine bT_c hF (fun x90 H89 z87 er => ?_) (fun v88 H89 z87 hG => ?_)
    · subst er
      have mz : Mo H H89 := (m_Lexer_refuse z87)
      have ml := mz.len
      have m2 := mz.2
      have hC9 : H89.sh.length ≤ c0 + C := hC
      have hS9 : H89.sl ≤ s0 + Sl := hS
      refine hp_callV_t (x := x90) (H1 := H89) (As := [.int 3, .int l2]) (rest := []) d_Reader_readPart_91 (k_Lexer_refuse z87 (C := H89.sh.length - H.sh.length) (Sl := H89.sl - H.sl) (by show H89.sh.length ≤ _; omega) (by show H89.sl ≤ _; omega)) (ab_mkC s_Lexer_refuse (Nat.le_of_ble_eq_true rfl) (Nat.le_of_ble_eq_true rfl) (show (H.sh.length - c0) + (H89.sh.length - H.sh.length) ≤ C from by omega) (show (H.sl - s0) + (H89.sl - H.sl) ≤ Sl from by omega)) (k4 97 rfl rfl) i_Lexer_refuse v_Lexer_refuse q86 (by decide) rfl rfl (Nat.le_of_ble_eq_true rfl) ?_
      exact ab_U_out rfl (by show _ + (H89.sh.length - H.sh.length) ≤ C; omega) (by show _ + (H89.sl - H.sl) ≤ Sl; omega) ⟨rfl, rfl⟩
    clear hF
    have mz_29 : Mo H H89 := (m_Lexer_refuse z87)
    have b_30l := (mz_29).len
    have b_30s := (mz_29).2
    have b_30c : c0 ≤ H89.sh.length := by omega
    have b_30d : s0 ≤ H89.sl := by omega
    have q_31 := (mz_29).get q36
    have q_32 := (mz_29).get q83
    have q_33 := (mz_29).get q86
    have fH89 : Mo H89 r.2 := by
      have hm := Mo.rf H89
      exact hm.tr (mB_Reader_readPart_94 hG)
    have b_30m := (fH89).len
    have b_30n := (fH89).2
    have b_30p : H89.sh.length ≤ c0 + C := by omega
    have b_30q : H89.sl ≤ s0 + Sl := by omega
    refine hp_callV_v (H1 := H89) (As := [.int 3, .int l2]) (rest := []) d_Reader_readPart_91 (k_Lexer_refuse z87 (C := H89.sh.length - H.sh.length) (Sl := H89.sl - H.sl) (by show H89.sh.length ≤ _; omega) (by show H89.sl ≤ _; omega)) (ab_mkC s_Lexer_refuse (Nat.le_of_ble_eq_true rfl) (Nat.le_of_ble_eq_true rfl) (show (H.sh.length - c0) + (H89.sh.length - H.sh.length) ≤ C from by omega) (show (H.sl - s0) + (H89.sl - H.sl) ≤ Sl from by omega)) (k4 97 rfl rfl) i_Lexer_refuse v_Lexer_refuse q86 (by decide) rfl rfl (Nat.le_of_ble_eq_true rfl) ?_
    refine ab_widen (cells' := H89.sh.length - c0) (slots' := H89.sl - s0) (by show _ + (H89.sh.length - H.sh.length) ≤ _; omega) (by show _ + (H89.sl - H.sl) ≤ _; omega) ?_
    clear b_30l b_30s b_30m b_30n
    refine ab_le (lv' := [some (.ref p0), some (.int p1), none, none, some (.int l4), some (.ref l5)]) ⟨rfl, ⟨rfl, ⟨rfl, ⟨rfl, trivial⟩⟩⟩⟩ ?_
    exact kB_Reader_readPart_94 hG b_30c b_30d b_30p b_30q hC hS
def B_Reader_readPart_46 (N : Nat) (p0 : Nat) (p1 : Int32) (l2 : Int32) (l3 : Nat) (l4 : Int32) (H : Hp) : Option ((Ot Unit) × Hp) :=
    ck (H.sh[p0]? = some (5, 0)) <|
    bT (F_Reader_known N p0 l3 l2 H) fun v29 H30 =>
    on v29 fun a32 =>
    ck (H30.sh[a32]? = some (2, 0)) <|
    bnd ((H30.D a32 1)) fun x34 =>
    if x34 = (0 : Int32) then
    B_Reader_readPart_71 N p0 p1 l2 l4 a32 H30
    else
    rf (H30.P p0 0) fun a36 =>
    ck (H30.sh[a36]? = some (1, 0)) <|
    bT (F_Lexer_refuse N a36 (5 : Int32) l2 H30) fun v40 H41 =>
    B_Reader_readPart_71 N p0 p1 l2 l4 a32 H41
set_option maxRecDepth 20000 in
set_option maxHeartbeats 2000000 in
theorem mB_Reader_readPart_46 {N : Nat} {p0 : Nat} {p1 : Int32} {l2 : Int32} {l3 : Nat} {l4 : Int32} {H : Hp} {r : (Ot Unit) × Hp} (hF : B_Reader_readPart_46 N p0 p1 l2 l3 l4 H = some r) : Mo H r.2 := by
  unfold B_Reader_readPart_46 at hF
  have hm := Mo.rf H
  obtain ⟨q43, hG⟩ := ck_s hF; clear hF
  refine bT_c hG (fun x47 H46 z44 er => ?_) (fun v45 H46 z44 hF => ?_)
  · subst er; exact hm.tr (m_Reader_known z44)
  clear hG
  replace hm : Mo H H46 := hm.tr (m_Reader_known z44)
  obtain ⟨a48, ea48, hG⟩ := on_s hF; clear hF
  subst ea48
  obtain ⟨q49, hF⟩ := ck_s hG; clear hG
  obtain ⟨x50, -, hG⟩ := bnd_g hF; clear hF
  rcases ite_s hG with ⟨q_50, hF⟩ | ⟨q_50, hF⟩
  · clear hG
    exact hm.tr (mB_Reader_readPart_71 hF)
  · clear hG
    obtain ⟨a52, e53, hG⟩ := rf_s hF; clear hF
    obtain ⟨q54, hF⟩ := ck_s hG; clear hG
    refine bT_c hF (fun x58 H57 z55 er => ?_) (fun v56 H57 z55 hG => ?_)
    · subst er; exact hm.tr (m_Lexer_refuse z55)
    clear hF
    replace hm : Mo H H57 := hm.tr (m_Lexer_refuse z55)
    exact hm.tr (mB_Reader_readPart_71 hG)
set_option maxRecDepth 20000 in
set_option maxHeartbeats 2000000 in
theorem kB_Reader_readPart_46 {N : Nat} {p0 : Nat} {p1 : Int32} {c0 s0 C Sl : Nat} {l2 : Int32} {l3 : Nat} {l4 : Int32} {H : Hp} {r : (Ot Unit) × Hp} (hF : B_Reader_readPart_46 N p0 p1 l2 l3 l4 H = some r) (hc0 : c0 ≤ H.sh.length) (hs0 : s0 ≤ H.sl) (hcc : H.sh.length ≤ c0 + C) (hss : H.sl ≤ s0 + Sl) (hC : r.2.sh.length ≤ c0 + C) (hS : r.2.sl ≤ s0 + Sl) : ab_V y_Reader_readPart { frames := 10, cells := C, slots := Sl, locals := 198 } (po (oV r.1) r.2) C Sl (H.sh.length - c0) (H.sl - s0) 46 [some (.ref p0), some (.int p1), some (.int l2), some (.ref l3), some (.int l4), none] [] (hpw H) := by
  unfold B_Reader_readPart_46 at hF
  refine ab_aload_n d_Reader_readPart_46 rfl rfl rfl ?_
  refine ab_aload_n d_Reader_readPart_47 rfl rfl rfl ?_
  refine ab_iload_n d_Reader_readPart_48 rfl rfl ?_
  obtain ⟨q27, hG⟩ := ck_s hF; clear hF
  refine bT_c hG (fun x31 H30 z28 er => ?_) (fun v29 H30 z28 hF => ?_)
  · subst er
    have mz : Mo H H30 := (m_Reader_known z28)
    have ml := mz.len
    have m2 := mz.2
    have hC9 : H30.sh.length ≤ c0 + C := hC
    have hS9 : H30.sl ≤ s0 + Sl := hS
    refine hp_callV_t (x := x31) (H1 := H30) (As := [.ref l3, .int l2]) (rest := []) d_Reader_readPart_49 (k_Reader_known z28 (C := H30.sh.length - H.sh.length) (Sl := H30.sl - H.sl) (by show H30.sh.length ≤ _; omega) (by show H30.sl ≤ _; omega)) (ab_mkC s_Reader_known (Nat.le_of_ble_eq_true rfl) (Nat.le_of_ble_eq_true rfl) (show (H.sh.length - c0) + (H30.sh.length - H.sh.length) ≤ C from by omega) (show (H.sl - s0) + (H30.sl - H.sl) ≤ Sl from by omega)) (k5 73 rfl rfl) i_Reader_known v_Reader_known q27 (by decide) rfl rfl (Nat.le_of_ble_eq_true rfl) ?_
    exact ab_U_out rfl (by show _ + (H30.sh.length - H.sh.length) ≤ C; omega) (by show _ + (H30.sl - H.sl) ≤ Sl; omega) ⟨rfl, rfl⟩
  clear hG
  have mz_8 : Mo H H30 := (m_Reader_known z28)
  have b_9l := (mz_8).len
  have b_9s := (mz_8).2
  have b_9c : c0 ≤ H30.sh.length := by omega
  have b_9d : s0 ≤ H30.sl := by omega
  have q_10 := (mz_8).get q27
  have mf_11 : Mo H30 r.2 := by
    have hm := Mo.rf H30
    obtain ⟨a32, ea32, hG⟩ := on_s hF; clear hF
    subst ea32
    obtain ⟨q33, hF⟩ := ck_s hG; clear hG
    obtain ⟨x34, -, hG⟩ := bnd_g hF; clear hF
    rcases ite_s hG with ⟨q_12, hF⟩ | ⟨q_12, hF⟩
    · clear hG
      exact hm.tr (mB_Reader_readPart_71 hF)
    · clear hG
      obtain ⟨a102, e103, hG⟩ := rf_s hF; clear hF
      obtain ⟨q104, hF⟩ := ck_s hG; clear hG
      refine bT_c hF (fun x108 H107 z105 er => ?_) (fun v106 H107 z105 hG => ?_)
      · subst er; exact hm.tr (m_Lexer_refuse z105)
      clear hF
      replace hm : Mo H30 H107 := hm.tr (m_Lexer_refuse z105)
      exact hm.tr (mB_Reader_readPart_71 hG)
  have b_9m := (mf_11).len
  have b_9n := (mf_11).2
  have b_9p : H30.sh.length ≤ c0 + C := by omega
  have b_9q : H30.sl ≤ s0 + Sl := by omega
  refine hp_callV_a (v := ab_rf v29) (H1 := H30) (As := [.ref l3, .int l2]) (rest := []) d_Reader_readPart_49 (k_Reader_known z28 (C := H30.sh.length - H.sh.length) (Sl := H30.sl - H.sl) (by show H30.sh.length ≤ _; omega) (by show H30.sl ≤ _; omega)) (ab_mkC s_Reader_known (Nat.le_of_ble_eq_true rfl) (Nat.le_of_ble_eq_true rfl) (show (H.sh.length - c0) + (H30.sh.length - H.sh.length) ≤ C from by omega) (show (H.sl - s0) + (H30.sl - H.sl) ≤ Sl from by omega)) (k5 73 rfl rfl) i_Reader_known v_Reader_known q27 (by decide) rfl rfl (Nat.le_of_ble_eq_true rfl) ?_
  refine ab_widen (cells' := H30.sh.length - c0) (slots' := H30.sl - s0) (by show _ + (H30.sh.length - H.sh.length) ≤ _; omega) (by show _ + (H30.sl - H.sl) ≤ _; omega) ?_
  clear b_9l b_9s b_9m b_9n
  obtain ⟨a32, ea32, hG⟩ := on_s hF; clear hF
  subst ea32
  refine ab_astore (lv' := [some (.ref p0), some (.int p1), some (.int l2), some (.ref l3), some (.int l4), some (.ref a32)]) d_Reader_readPart_52 (by decide) rfl rfl ?_
  refine ab_aload d_Reader_readPart_54 rfl rfl ?_
  obtain ⟨q33, hF⟩ := ck_s hG; clear hG
  refine hp_getI (f := 1) d_Reader_readPart_56 q33 (by decide) rfl (by decide) (k2 233 rfl rfl) rfl ?_
  refine ab_topi (fun x34 ex34 => ?_)
  replace hF := bnd_s ex34 hF
  refine ab_if_eq (tgt := 71) d_Reader_readPart_59 (by decide) (fun q35 => ?_) (fun q35 => ?_)
  · rw [if_pos q35] at hF
    refine ab_le (lv' := [some (.ref p0), some (.int p1), some (.int l2), none, some (.int l4), some (.ref a32)]) ⟨rfl, ⟨rfl, ⟨rfl, ⟨rfl, ⟨rfl, trivial⟩⟩⟩⟩⟩ ?_
    exact kB_Reader_readPart_71 hF b_9c b_9d b_9p b_9q hC hS
  · rw [if_neg q35] at hF
    refine ab_aload_n d_Reader_readPart_62 rfl rfl rfl ?_
    obtain ⟨a36, e37, hG⟩ := rf_s hF; clear hF
    refine hp_getR (f := 0) d_Reader_readPart_63 q_10 (by decide) rfl (by decide) (k1 179 rfl rfl) rfl e37 ?_
    refine ab_iconst (v := 5) d_Reader_readPart_66 (by decide) ?_
    refine ab_iload_n d_Reader_readPart_67 rfl rfl ?_
    obtain ⟨q38, hF⟩ := ck_s hG; clear hG
    refine bT_c hF (fun x42 H41 z39 er => ?_) (fun v40 H41 z39 hG => ?_)
    · subst er
      have mz : Mo H30 H41 := (m_Lexer_refuse z39)
      have ml := mz.len
      have m2 := mz.2
      have hC9 : H41.sh.length ≤ c0 + C := hC
      have hS9 : H41.sl ≤ s0 + Sl := hS
      refine hp_callV_t (x := x42) (H1 := H41) (As := [.int 5, .int l2]) (rest := []) d_Reader_readPart_68 (k_Lexer_refuse z39 (C := H41.sh.length - H30.sh.length) (Sl := H41.sl - H30.sl) (by show H41.sh.length ≤ _; omega) (by show H41.sl ≤ _; omega)) (ab_mkC s_Lexer_refuse (Nat.le_of_ble_eq_true rfl) (Nat.le_of_ble_eq_true rfl) (show (H30.sh.length - c0) + (H41.sh.length - H30.sh.length) ≤ C from by omega) (show (H30.sl - s0) + (H41.sl - H30.sl) ≤ Sl from by omega)) (k4 97 rfl rfl) i_Lexer_refuse v_Lexer_refuse q38 (by decide) rfl rfl (Nat.le_of_ble_eq_true rfl) ?_
      exact ab_U_out rfl (by show _ + (H41.sh.length - H30.sh.length) ≤ C; omega) (by show _ + (H41.sl - H30.sl) ≤ Sl; omega) ⟨rfl, rfl⟩
    clear hF
    have mz_43 : Mo H30 H41 := (m_Lexer_refuse z39)
    have b_44l := (mz_43).len
    have b_44s := (mz_43).2
    have b_44c : c0 ≤ H41.sh.length := by omega
    have b_44d : s0 ≤ H41.sl := by omega
    have q_45 := (mz_43).get q_10
    have q_46 := (mz_43).get q33
    have q_47 := (mz_43).get q38
    have fH41 : Mo H41 r.2 := by
      have hm := Mo.rf H41
      exact hm.tr (mB_Reader_readPart_71 hG)
    have b_44m := (fH41).len
    have b_44n := (fH41).2
    have b_44p : H41.sh.length ≤ c0 + C := by omega
    have b_44q : H41.sl ≤ s0 + Sl := by omega
    refine hp_callV_v (H1 := H41) (As := [.int 5, .int l2]) (rest := []) d_Reader_readPart_68 (k_Lexer_refuse z39 (C := H41.sh.length - H30.sh.length) (Sl := H41.sl - H30.sl) (by show H41.sh.length ≤ _; omega) (by show H41.sl ≤ _; omega)) (ab_mkC s_Lexer_refuse (Nat.le_of_ble_eq_true rfl) (Nat.le_of_ble_eq_true rfl) (show (H30.sh.length - c0) + (H41.sh.length - H30.sh.length) ≤ C from by omega) (show (H30.sl - s0) + (H41.sl - H30.sl) ≤ Sl from by omega)) (k4 97 rfl rfl) i_Lexer_refuse v_Lexer_refuse q38 (by decide) rfl rfl (Nat.le_of_ble_eq_true rfl) ?_
    refine ab_widen (cells' := H41.sh.length - c0) (slots' := H41.sl - s0) (by show _ + (H41.sh.length - H30.sh.length) ≤ _; omega) (by show _ + (H41.sl - H30.sl) ≤ _; omega) ?_
    clear b_44l b_44s b_44m b_44n b_9c b_9d b_9p b_9q
    refine ab_le (lv' := [some (.ref p0), some (.int p1), some (.int l2), none, some (.int l4), some (.ref a32)]) ⟨rfl, ⟨rfl, ⟨rfl, ⟨rfl, ⟨rfl, trivial⟩⟩⟩⟩⟩ ?_
    exact kB_Reader_readPart_71 hG b_44c b_44d b_44p b_44q hC hS
def F_Reader_readPart (N : Nat) (p0 : Nat) (p1 : Int32) (H : Hp) : Option ((Ot Unit) × Hp) :=
    ck (H.sh[p0]? = some (5, 0)) <|
    rf (H.P p0 0) fun a2 =>
    ck (H.sh[a2]? = some (1, 0)) <|
    bnd ((H.D a2 3)) fun x5 =>
    rf (H.P p0 0) fun a6 =>
    ck (H.sh[a6]? = some (1, 0)) <|
    bT (F_Lexer_takeName N a6 H) fun v10 H11 =>
    on v10 fun a13 =>
    rf (H11.P p0 2) fun a14 =>
    ck (H11.sh[a14]? = some (4, 0)) <|
    rf (H11.P a14 5) fun a17 =>
    ar H11 100 a17 fun n19 =>
    ck (inb p1 n19) <|
    bnd ((H11.D a17 (p1).toNatClampNeg)) fun x22 =>
    bC (F_Integer_bitCount N x22 H11) fun v24 H25 =>
    if v24 < (8 : Int32) then
    B_Reader_readPart_46 N p0 p1 x5 a13 x22 H25
    else
    rf (H25.P p0 0) fun a27 =>
    ck (H25.sh[a27]? = some (1, 0)) <|
    bT (F_Lexer_refuse N a27 (2 : Int32) x5 H25) fun v31 H32 =>
    B_Reader_readPart_46 N p0 p1 x5 a13 x22 H32
set_option maxRecDepth 20000 in
set_option maxHeartbeats 2000000 in
theorem m_Reader_readPart {N : Nat} {p0 : Nat} {p1 : Int32} {H : Hp} {r : (Ot Unit) × Hp} (hF : F_Reader_readPart N p0 p1 H = some r) : Mo H r.2 := by
  unfold F_Reader_readPart at hF
  have hm := Mo.rf H
  obtain ⟨q34, hG⟩ := ck_s hF; clear hF
  obtain ⟨a35, e36, hF⟩ := rf_s hG; clear hG
  obtain ⟨q37, hG⟩ := ck_s hF; clear hF
  obtain ⟨x38, -, hF⟩ := bnd_g hG; clear hG
  obtain ⟨a39, e40, hG⟩ := rf_s hF; clear hF
  obtain ⟨q41, hF⟩ := ck_s hG; clear hG
  refine bT_c hF (fun x45 H44 z42 er => ?_) (fun v43 H44 z42 hG => ?_)
  · subst er; exact hm.tr (m_Lexer_takeName z42)
  clear hF
  replace hm : Mo H H44 := hm.tr (m_Lexer_takeName z42)
  obtain ⟨a46, ea46, hF⟩ := on_s hG; clear hG
  subst ea46
  obtain ⟨a47, e48, hG⟩ := rf_s hF; clear hF
  obtain ⟨q49, hF⟩ := ck_s hG; clear hG
  obtain ⟨a50, e51, hG⟩ := rf_s hF; clear hF
  obtain ⟨n52, q53, hF⟩ := ar_s hG; clear hG
  obtain ⟨q54, hG⟩ := ck_s hF; clear hF
  obtain ⟨x55, -, hF⟩ := bnd_g hG; clear hG
  obtain ⟨v57, H58, z56, hG⟩ := bC_s hF; clear hF
  replace hm : Mo H H58 := hm.tr ((m_Integer_bitCount z56)).mo
  rcases ite_s hG with ⟨q_76, hF⟩ | ⟨q_76, hF⟩
  · clear hG
    exact hm.tr (mB_Reader_readPart_46 hF)
  · clear hG
    obtain ⟨a60, e61, hG⟩ := rf_s hF; clear hF
    obtain ⟨q62, hF⟩ := ck_s hG; clear hG
    refine bT_c hF (fun x66 H65 z63 er => ?_) (fun v64 H65 z63 hG => ?_)
    · subst er; exact hm.tr (m_Lexer_refuse z63)
    clear hF
    replace hm : Mo H H65 := hm.tr (m_Lexer_refuse z63)
    exact hm.tr (mB_Reader_readPart_46 hG)
set_option maxRecDepth 20000 in
set_option maxHeartbeats 2000000 in
theorem k_Reader_readPart {N : Nat} {p0 : Nat} {p1 : Int32} {H : Hp} {r : (Ot Unit) × Hp} {C Sl : Nat} (hF : F_Reader_readPart N p0 p1 H = some r) (hC : r.2.sh.length ≤ H.sh.length + C) (hS : r.2.sl ≤ H.sl + Sl) : ab_M y_Reader_readPart { frames := 10, cells := C, slots := Sl, locals := 198 } [.ref p0, .int p1] (hpw H) (po (oV r.1) r.2) := by
  unfold F_Reader_readPart at hF
  obtain ⟨c0, e0⟩ : ∃ q, q = H.sh.length := ⟨_, rfl⟩
  obtain ⟨s0, e1⟩ : ∃ q, q = H.sl := ⟨_, rfl⟩
  rw [← e0] at hC
  rw [← e1] at hS
  have hc0 : c0 ≤ H.sh.length := Nat.le_of_eq e0
  have hs0 : s0 ≤ H.sl := Nat.le_of_eq e1
  have hcc : H.sh.length ≤ c0 + C := by omega
  have hss : H.sl ≤ s0 + Sl := by omega
  refine ab_of2 (lv := [some (.ref p0), some (.int p1), none, none, none, none]) 4 rfl rfl (Nat.le_of_ble_eq_true rfl) ?_
  refine ab_widen (cells' := H.sh.length - c0) (slots' := H.sl - s0) (Nat.zero_le _) (Nat.zero_le _) ?_
  refine ab_aload_n d_Reader_readPart_0 rfl rfl rfl ?_
  obtain ⟨q1, hG⟩ := ck_s hF; clear hF
  obtain ⟨a2, e3, hF⟩ := rf_s hG; clear hG
  refine hp_getR (f := 0) d_Reader_readPart_1 q1 (by decide) rfl (by decide) (k1 179 rfl rfl) rfl e3 ?_
  obtain ⟨q4, hG⟩ := ck_s hF; clear hF
  refine hp_getI (f := 3) d_Reader_readPart_4 q4 (by decide) rfl (by decide) (k1 101 rfl rfl) rfl ?_
  refine ab_topi (fun x5 ex5 => ?_)
  replace hG := bnd_s ex5 hG
  refine ab_istore_n (lv' := [some (.ref p0), some (.int p1), some (.int x5), none, none, none]) d_Reader_readPart_7 rfl (by decide) rfl ?_
  refine ab_aload_n d_Reader_readPart_8 rfl rfl rfl ?_
  obtain ⟨a6, e7, hF⟩ := rf_s hG; clear hG
  refine hp_getR (f := 0) d_Reader_readPart_9 q1 (by decide) rfl (by decide) (k1 179 rfl rfl) rfl e7 ?_
  obtain ⟨q8, hG⟩ := ck_s hF; clear hF
  refine bT_c hG (fun x12 H11 z9 er => ?_) (fun v10 H11 z9 hF => ?_)
  · subst er
    have mz : Mo H H11 := (m_Lexer_takeName z9)
    have ml := mz.len
    have m2 := mz.2
    have hC9 : H11.sh.length ≤ c0 + C := hC
    have hS9 : H11.sl ≤ s0 + Sl := hS
    refine hp_callV_t (x := x12) (H1 := H11) (As := []) (rest := []) d_Reader_readPart_12 (k_Lexer_takeName z9 (C := H11.sh.length - H.sh.length) (Sl := H11.sl - H.sl) (by show H11.sh.length ≤ _; omega) (by show H11.sl ≤ _; omega)) (ab_mkC s_Lexer_takeName (Nat.le_of_ble_eq_true rfl) (Nat.le_of_ble_eq_true rfl) (show (H.sh.length - c0) + (H11.sh.length - H.sh.length) ≤ C from by omega) (show (H.sl - s0) + (H11.sl - H.sl) ≤ Sl from by omega)) (k4 175 rfl rfl) i_Lexer_takeName v_Lexer_takeName q8 (by decide) rfl rfl (Nat.le_of_ble_eq_true rfl) ?_
    exact ab_U_out rfl (by show _ + (H11.sh.length - H.sh.length) ≤ C; omega) (by show _ + (H11.sl - H.sl) ≤ Sl; omega) ⟨rfl, rfl⟩
  clear hG
  have mz_1 : Mo H H11 := (m_Lexer_takeName z9)
  have b_2l := (mz_1).len
  have b_2s := (mz_1).2
  have b_2c : c0 ≤ H11.sh.length := by omega
  have b_2d : s0 ≤ H11.sl := by omega
  have q_3 := (mz_1).get q1
  have q_4 := (mz_1).get q4
  have q_5 := (mz_1).get q8
  have mf_6 : Mo H11 r.2 := by
    have hm := Mo.rf H11
    obtain ⟨a13, ea13, hG⟩ := on_s hF; clear hF
    subst ea13
    obtain ⟨a14, e15, hF⟩ := rf_s hG; clear hG
    obtain ⟨q16, hG⟩ := ck_s hF; clear hF
    obtain ⟨a17, e18, hF⟩ := rf_s hG; clear hG
    obtain ⟨n19, q20, hG⟩ := ar_s hF; clear hF
    obtain ⟨q21, hF⟩ := ck_s hG; clear hG
    obtain ⟨x22, -, hG⟩ := bnd_g hF; clear hF
    obtain ⟨v24, H25, z23, hF⟩ := bC_s hG; clear hG
    replace hm : Mo H11 H25 := hm.tr ((m_Integer_bitCount z23)).mo
    rcases ite_s hF with ⟨q_7, hG⟩ | ⟨q_7, hG⟩
    · clear hF
      exact hm.tr (mB_Reader_readPart_46 hG)
    · clear hF
      obtain ⟨a59, e60, hF⟩ := rf_s hG; clear hG
      obtain ⟨q61, hG⟩ := ck_s hF; clear hF
      refine bT_c hG (fun x65 H64 z62 er => ?_) (fun v63 H64 z62 hF => ?_)
      · subst er; exact hm.tr (m_Lexer_refuse z62)
      clear hG
      replace hm : Mo H11 H64 := hm.tr (m_Lexer_refuse z62)
      exact hm.tr (mB_Reader_readPart_46 hF)
  have b_2m := (mf_6).len
  have b_2n := (mf_6).2
  have b_2p : H11.sh.length ≤ c0 + C := by omega
  have b_2q : H11.sl ≤ s0 + Sl := by omega
  refine hp_callV_a (v := ab_rf v10) (H1 := H11) (As := []) (rest := []) d_Reader_readPart_12 (k_Lexer_takeName z9 (C := H11.sh.length - H.sh.length) (Sl := H11.sl - H.sl) (by show H11.sh.length ≤ _; omega) (by show H11.sl ≤ _; omega)) (ab_mkC s_Lexer_takeName (Nat.le_of_ble_eq_true rfl) (Nat.le_of_ble_eq_true rfl) (show (H.sh.length - c0) + (H11.sh.length - H.sh.length) ≤ C from by omega) (show (H.sl - s0) + (H11.sl - H.sl) ≤ Sl from by omega)) (k4 175 rfl rfl) i_Lexer_takeName v_Lexer_takeName q8 (by decide) rfl rfl (Nat.le_of_ble_eq_true rfl) ?_
  refine ab_widen (cells' := H11.sh.length - c0) (slots' := H11.sl - s0) (by show _ + (H11.sh.length - H.sh.length) ≤ _; omega) (by show _ + (H11.sl - H.sl) ≤ _; omega) ?_
  clear b_2l b_2s b_2m b_2n
  obtain ⟨a13, ea13, hG⟩ := on_s hF; clear hF
  subst ea13
  refine ab_astore_n (lv' := [some (.ref p0), some (.int p1), some (.int x5), some (.ref a13), none, none]) d_Reader_readPart_15 rfl (by decide) rfl rfl ?_
  refine ab_aload_n d_Reader_readPart_16 rfl rfl rfl ?_
  obtain ⟨a14, e15, hF⟩ := rf_s hG; clear hG
  refine hp_getR (f := 2) d_Reader_readPart_17 q_3 (by decide) rfl (by decide) (k1 181 rfl rfl) rfl e15 ?_
  obtain ⟨q16, hG⟩ := ck_s hF; clear hF
  obtain ⟨a17, e18, hF⟩ := rf_s hG; clear hG
  refine hp_getR (f := 5) d_Reader_readPart_20 q16 (by decide) rfl (by decide) (k3 73 rfl rfl) rfl e18 ?_
  refine ab_iload_n d_Reader_readPart_23 rfl rfl ?_
  obtain ⟨n19, q20, hG⟩ := ar_s hF; clear hF
  obtain ⟨q21, hF⟩ := ck_s hG; clear hG
  refine hp_iald d_Reader_readPart_24 tI q20 q21 ?_
  refine ab_topi (fun x22 ex22 => ?_)
  replace hF := bnd_s ex22 hF
  refine ab_istore (lv' := [some (.ref p0), some (.int p1), some (.int x5), some (.ref a13), some (.int x22), none]) d_Reader_readPart_25 (by decide) rfl ?_
  refine ab_iload d_Reader_readPart_27 rfl ?_
  obtain ⟨v24, H25, z23, hG⟩ := bC_s hF; clear hF
  refine hp_callS_a (v := .int v24) (H1 := H25) (As := [.int x22]) (rest := []) d_Reader_readPart_29 (k_Integer_bitCount z23) (ab_mkC s_Integer_bitCount (Nat.le_of_ble_eq_true rfl) (Nat.le_of_ble_eq_true rfl) (show (H11.sh.length - c0) + 0 ≤ C from by omega) (show (H11.sl - s0) + 0 ≤ Sl from by omega)) (k5 67 rfl rfl) t_Integer_bitCount rfl (Nat.le_of_ble_eq_true rfl) ?_
  have s_63 : Sa H11 H25 := (m_Integer_bitCount z23)
  refine ab_widen (cells' := H11.sh.length - c0) (slots' := H11.sl - s0) (by show (H11.sh.length - c0) + 0 ≤ _; omega) (by show (H11.sl - s0) + 0 ≤ _; omega) ?_
  refine ab_bipush (v := 8) d_Reader_readPart_32 (by decide) ?_
  refine ab_icmp_lt (tgt := 46) d_Reader_readPart_34 (by decide) (fun q26 => ?_) (fun q26 => ?_)
  · rw [if_pos q26] at hG
    refine ab_widen (cells' := H25.sh.length - c0) (slots' := H25.sl - s0) (by rw [(s_63).1]; exact Nat.le_refl _) (by rw [(s_63).2]; exact Nat.le_refl _) ?_
    exact kB_Reader_readPart_46 hG (by rw [(s_63).1]; exact b_2c) (by rw [(s_63).2]; exact b_2d) (by rw [(s_63).1]; exact b_2p) (by rw [(s_63).2]; exact b_2q) hC hS
  · rw [if_neg q26] at hG
    refine ab_aload_n d_Reader_readPart_37 rfl rfl rfl ?_
    obtain ⟨a27, e28, hF⟩ := rf_s hG; clear hG
    refine hp_getR (f := 0) d_Reader_readPart_38 (by rw [(s_63).1]; exact q_3) (by decide) rfl (by decide) (k1 179 rfl rfl) rfl e28 ?_
    refine ab_iconst (v := 2) d_Reader_readPart_41 (by decide) ?_
    refine ab_iload_n d_Reader_readPart_42 rfl rfl ?_
    obtain ⟨q29, hG⟩ := ck_s hF; clear hF
    rw [(s_63).1] at q29
    refine bT_c hG (fun x33 H32 z30 er => ?_) (fun v31 H32 z30 hF => ?_)
    · subst er
      refine ab_widen (cells' := H25.sh.length - c0) (slots' := H25.sl - s0) (by rw [(s_63).1]; exact Nat.le_refl _) (by rw [(s_63).2]; exact Nat.le_refl _) ?_
      have mz : Mo H25 H32 := (m_Lexer_refuse z30)
      have ml := mz.len
      have m2 := mz.2
      have be := congrArg List.length (s_63).1
      have bfx := (s_63).2
      have hC9 : H32.sh.length ≤ c0 + C := hC
      have hS9 : H32.sl ≤ s0 + Sl := hS
      refine hp_callV_t (x := x33) (H1 := H32) (As := [.int 2, .int x5]) (rest := []) d_Reader_readPart_43 (k_Lexer_refuse z30 (C := H32.sh.length - H25.sh.length) (Sl := H32.sl - H25.sl) (by show H32.sh.length ≤ _; omega) (by show H32.sl ≤ _; omega)) (ab_mkC s_Lexer_refuse (Nat.le_of_ble_eq_true rfl) (Nat.le_of_ble_eq_true rfl) (show (H25.sh.length - c0) + (H32.sh.length - H25.sh.length) ≤ C from by omega) (show (H25.sl - s0) + (H32.sl - H25.sl) ≤ Sl from by omega)) (k4 97 rfl rfl) i_Lexer_refuse v_Lexer_refuse (by rw [(s_63).1]; exact q29) (by decide) rfl rfl (Nat.le_of_ble_eq_true rfl) ?_
      exact ab_U_out rfl (by show _ + (H32.sh.length - H25.sh.length) ≤ C; omega) (by show _ + (H32.sl - H25.sl) ≤ Sl; omega) ⟨rfl, rfl⟩
    clear hG
    refine ab_widen (cells' := H25.sh.length - c0) (slots' := H25.sl - s0) (by rw [(s_63).1]; exact Nat.le_refl _) (by rw [(s_63).2]; exact Nat.le_refl _) ?_
    have mz_64 : Mo H25 H32 := (m_Lexer_refuse z30)
    have b_65l := (mz_64).len
    have b_65s := (mz_64).2
    have b_65e := congrArg List.length (s_63).1
    have b_65f := (s_63).2
    have b_65c : c0 ≤ H32.sh.length := by omega
    have b_65d : s0 ≤ H32.sl := by omega
    have q_66 := (mz_64).get (by rw [(s_63).1]; exact q_3)
    have q_67 := (mz_64).get (by rw [(s_63).1]; exact q_4)
    have q_68 := (mz_64).get (by rw [(s_63).1]; exact q_5)
    have q_69 := (mz_64).get (by rw [(s_63).1]; exact q16)
    have q_70 := (mz_64).get (by rw [(s_63).1]; exact q20)
    have q_71 := (mz_64).get (by rw [(s_63).1]; exact q29)
    have fH32 : Mo H32 r.2 := by
      have hm := Mo.rf H32
      exact hm.tr (mB_Reader_readPart_46 hF)
    have b_65m := (fH32).len
    have b_65n := (fH32).2
    have b_65p : H32.sh.length ≤ c0 + C := by omega
    have b_65q : H32.sl ≤ s0 + Sl := by omega
    refine hp_callV_v (H1 := H32) (As := [.int 2, .int x5]) (rest := []) d_Reader_readPart_43 (k_Lexer_refuse z30 (C := H32.sh.length - H25.sh.length) (Sl := H32.sl - H25.sl) (by show H32.sh.length ≤ _; omega) (by show H32.sl ≤ _; omega)) (ab_mkC s_Lexer_refuse (Nat.le_of_ble_eq_true rfl) (Nat.le_of_ble_eq_true rfl) (show (H25.sh.length - c0) + (H32.sh.length - H25.sh.length) ≤ C from by omega) (show (H25.sl - s0) + (H32.sl - H25.sl) ≤ Sl from by omega)) (k4 97 rfl rfl) i_Lexer_refuse v_Lexer_refuse (by rw [(s_63).1]; exact q29) (by decide) rfl rfl (Nat.le_of_ble_eq_true rfl) ?_
    refine ab_widen (cells' := H32.sh.length - c0) (slots' := H32.sl - s0) (by show _ + (H32.sh.length - H25.sh.length) ≤ _; omega) (by show _ + (H32.sl - H25.sl) ≤ _; omega) ?_
    clear b_65l b_65s b_65m b_65n b_65e b_65f b_2c b_2d b_2p b_2q
    exact kB_Reader_readPart_46 hF b_65c b_65d b_65p b_65q hC hS
