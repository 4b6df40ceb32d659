def y_Body_readEmit : ab_Y := (⟨"WorldEngine$Body", "readEmit", "()V"⟩, prog_2_method_28_code, 6, none, [])
theorem d_Body_readEmit_0 : decode y_Body_readEmit.2.1 0 = .ok (.aload_n 0, 1) := by decide +kernel
theorem d_Body_readEmit_1 : decode y_Body_readEmit.2.1 1 = .ok (.getfield 7, 3) := by decide +kernel
theorem d_Body_readEmit_4 : decode y_Body_readEmit.2.1 4 = .ok (.invokevirtual 93, 3) := by decide +kernel
theorem d_Body_readEmit_7 : decode y_Body_readEmit.2.1 7 = .ok (.aload_n 0, 1) := by decide +kernel
theorem d_Body_readEmit_8 : decode y_Body_readEmit.2.1 8 = .ok (.iconst 1, 1) := by decide +kernel
theorem d_Body_readEmit_9 : decode y_Body_readEmit.2.1 9 = .ok (.invokevirtual 134, 3) := by decide +kernel
theorem d_Body_readEmit_12 : decode y_Body_readEmit.2.1 12 = .ok (.istore_n 1, 1) := by decide +kernel
theorem d_Body_readEmit_13 : decode y_Body_readEmit.2.1 13 = .ok (.aload_n 0, 1) := by decide +kernel
theorem d_Body_readEmit_14 : decode y_Body_readEmit.2.1 14 = .ok (.invokevirtual 211, 3) := by decide +kernel
theorem d_Body_readEmit_17 : decode y_Body_readEmit.2.1 17 = .ok (.aload_n 0, 1) := by decide +kernel
theorem d_Body_readEmit_18 : decode y_Body_readEmit.2.1 18 = .ok (.getfield 17, 3) := by decide +kernel
theorem d_Body_readEmit_21 : decode y_Body_readEmit.2.1 21 = .ok (.getfield 224, 3) := by decide +kernel
theorem d_Body_readEmit_24 : decode y_Body_readEmit.2.1 24 = .ok (.iload_n 1, 1) := by decide +kernel
theorem d_Body_readEmit_25 : decode y_Body_readEmit.2.1 25 = .ok (.invokevirtual 163, 3) := by decide +kernel
theorem d_Body_readEmit_28 : decode y_Body_readEmit.2.1 28 = .ok (.istore_n 2, 1) := by decide +kernel
theorem d_Body_readEmit_29 : decode y_Body_readEmit.2.1 29 = .ok (.iconst 0, 1) := by decide +kernel
theorem d_Body_readEmit_30 : decode y_Body_readEmit.2.1 30 = .ok (.istore_n 3, 1) := by decide +kernel
theorem d_Body_readEmit_31 : decode y_Body_readEmit.2.1 31 = .ok (.aload_n 0, 1) := by decide +kernel
theorem d_Body_readEmit_32 : decode y_Body_readEmit.2.1 32 = .ok (.getfield 7, 3) := by decide +kernel
theorem d_Body_readEmit_35 : decode y_Body_readEmit.2.1 35 = .ok (.getfield 45, 3) := by decide +kernel
theorem d_Body_readEmit_38 : decode y_Body_readEmit.2.1 38 = .ok (.bipush 13, 2) := by decide +kernel
theorem d_Body_readEmit_40 : decode y_Body_readEmit.2.1 40 = .ok (.if_icmp .eq 7, 3) := by decide +kernel
theorem d_Body_readEmit_43 : decode y_Body_readEmit.2.1 43 = .ok (.iconst 1, 1) := by decide +kernel
theorem d_Body_readEmit_44 : decode y_Body_readEmit.2.1 44 = .ok (.goto 4, 3) := by decide +kernel
theorem d_Body_readEmit_47 : decode y_Body_readEmit.2.1 47 = .ok (.iconst 0, 1) := by decide +kernel
theorem d_Body_readEmit_48 : decode y_Body_readEmit.2.1 48 = .ok (.istore 4, 2) := by decide +kernel
theorem d_Body_readEmit_50 : decode y_Body_readEmit.2.1 50 = .ok (.iconst 0, 1) := by decide +kernel
theorem d_Body_readEmit_51 : decode y_Body_readEmit.2.1 51 = .ok (.istore 5, 2) := by decide +kernel
theorem d_Body_readEmit_53 : decode y_Body_readEmit.2.1 53 = .ok (.iload 5, 2) := by decide +kernel
theorem d_Body_readEmit_55 : decode y_Body_readEmit.2.1 55 = .ok (.sipush 6000, 3) := by decide +kernel
theorem d_Body_readEmit_58 : decode y_Body_readEmit.2.1 58 = .ok (.if_icmp .gt 90, 3) := by decide +kernel
theorem d_Body_readEmit_61 : decode y_Body_readEmit.2.1 61 = .ok (.iload 4, 2) := by decide +kernel
theorem d_Body_readEmit_63 : decode y_Body_readEmit.2.1 63 = .ok (.ifCond .eq 85, 3) := by decide +kernel
theorem d_Body_readEmit_66 : decode y_Body_readEmit.2.1 66 = .ok (.aload_n 0, 1) := by decide +kernel
theorem d_Body_readEmit_67 : decode y_Body_readEmit.2.1 67 = .ok (.iload_n 3, 1) := by decide +kernel
theorem d_Body_readEmit_68 : decode y_Body_readEmit.2.1 68 = .ok (.iload_n 2, 1) := by decide +kernel
theorem d_Body_readEmit_69 : decode y_Body_readEmit.2.1 69 = .ok (.if_icmp .ge 34, 3) := by decide +kernel
theorem d_Body_readEmit_72 : decode y_Body_readEmit.2.1 72 = .ok (.aload_n 0, 1) := by decide +kernel
theorem d_Body_readEmit_73 : decode y_Body_readEmit.2.1 73 = .ok (.getfield 17, 3) := by decide +kernel
theorem d_Body_readEmit_76 : decode y_Body_readEmit.2.1 76 = .ok (.getfield 224, 3) := by decide +kernel
theorem d_Body_readEmit_79 : decode y_Body_readEmit.2.1 79 = .ok (.getfield 166, 3) := by decide +kernel
theorem d_Body_readEmit_82 : decode y_Body_readEmit.2.1 82 = .ok (.aload_n 0, 1) := by decide +kernel
theorem d_Body_readEmit_83 : decode y_Body_readEmit.2.1 83 = .ok (.getfield 17, 3) := by decide +kernel
theorem d_Body_readEmit_86 : decode y_Body_readEmit.2.1 86 = .ok (.getfield 224, 3) := by decide +kernel
theorem d_Body_readEmit_89 : decode y_Body_readEmit.2.1 89 = .ok (.getfield 152, 3) := by decide +kernel
theorem d_Body_readEmit_92 : decode y_Body_readEmit.2.1 92 = .ok (.iload_n 1, 1) := by decide +kernel
theorem d_Body_readEmit_93 : decode y_Body_readEmit.2.1 93 = .ok (.iaload, 1) := by decide +kernel
theorem d_Body_readEmit_94 : decode y_Body_readEmit.2.1 94 = .ok (.iload_n 3, 1) := by decide +kernel
theorem d_Body_readEmit_95 : decode y_Body_readEmit.2.1 95 = .ok (.iadd, 1) := by decide +kernel
theorem d_Body_readEmit_96 : decode y_Body_readEmit.2.1 96 = .ok (.aaload, 1) := by decide +kernel
theorem d_Body_readEmit_97 : decode y_Body_readEmit.2.1 97 = .ok (.getfield 170, 3) := by decide +kernel
theorem d_Body_readEmit_100 : decode y_Body_readEmit.2.1 100 = .ok (.goto 4, 3) := by decide +kernel
theorem d_Body_readEmit_103 : decode y_Body_readEmit.2.1 103 = .ok (.iconst (-1), 1) := by decide +kernel
theorem d_Body_readEmit_104 : decode y_Body_readEmit.2.1 104 = .ok (.invokevirtual 111, 3) := by decide +kernel
theorem d_Body_readEmit_107 : decode y_Body_readEmit.2.1 107 = .ok (.pop, 1) := by decide +kernel
theorem d_Body_readEmit_108 : decode y_Body_readEmit.2.1 108 = .ok (.iinc 3 1, 3) := by decide +kernel
theorem d_Body_readEmit_111 : decode y_Body_readEmit.2.1 111 = .ok (.aload_n 0, 1) := by decide +kernel
theorem d_Body_readEmit_112 : decode y_Body_readEmit.2.1 112 = .ok (.getfield 7, 3) := by decide +kernel
theorem d_Body_readEmit_115 : decode y_Body_readEmit.2.1 115 = .ok (.getfield 45, 3) := by decide +kernel
theorem d_Body_readEmit_118 : decode y_Body_readEmit.2.1 118 = .ok (.bipush 14, 2) := by decide +kernel
theorem d_Body_readEmit_120 : decode y_Body_readEmit.2.1 120 = .ok (.if_icmp .ne 7, 3) := by decide +kernel
theorem d_Body_readEmit_123 : decode y_Body_readEmit.2.1 123 = .ok (.iconst 1, 1) := by decide +kernel
theorem d_Body_readEmit_124 : decode y_Body_readEmit.2.1 124 = .ok (.goto 4, 3) := by decide +kernel
theorem d_Body_readEmit_127 : decode y_Body_readEmit.2.1 127 = .ok (.iconst 0, 1) := by decide +kernel
theorem d_Body_readEmit_128 : decode y_Body_readEmit.2.1 128 = .ok (.istore 4, 2) := by decide +kernel
theorem d_Body_readEmit_130 : decode y_Body_readEmit.2.1 130 = .ok (.iload 4, 2) := by decide +kernel
theorem d_Body_readEmit_132 : decode y_Body_readEmit.2.1 132 = .ok (.ifCond .eq 10, 3) := by decide +kernel
theorem d_Body_readEmit_135 : decode y_Body_readEmit.2.1 135 = .ok (.aload_n 0, 1) := by decide +kernel
theorem d_Body_readEmit_136 : decode y_Body_readEmit.2.1 136 = .ok (.getfield 7, 3) := by decide +kernel
theorem d_Body_readEmit_139 : decode y_Body_readEmit.2.1 139 = .ok (.invokevirtual 93, 3) := by decide +kernel
theorem d_Body_readEmit_142 : decode y_Body_readEmit.2.1 142 = .ok (.iinc 5 1, 3) := by decide +kernel
theorem d_Body_readEmit_145 : decode y_Body_readEmit.2.1 145 = .ok (.goto (-92), 3) := by decide +kernel
theorem d_Body_readEmit_148 : decode y_Body_readEmit.2.1 148 = .ok (.aload_n 0, 1) := by decide +kernel
theorem d_Body_readEmit_149 : decode y_Body_readEmit.2.1 149 = .ok (.getfield 7, 3) := by decide +kernel
theorem d_Body_readEmit_152 : decode y_Body_readEmit.2.1 152 = .ok (.getfield 45, 3) := by decide +kernel
theorem d_Body_readEmit_155 : decode y_Body_readEmit.2.1 155 = .ok (.bipush 13, 2) := by decide +kernel
theorem d_Body_readEmit_157 : decode y_Body_readEmit.2.1 157 = .ok (.if_icmp .ne 23, 3) := by decide +kernel
theorem d_Body_readEmit_160 : decode y_Body_readEmit.2.1 160 = .ok (.iload_n 3, 1) := by decide +kernel
theorem d_Body_readEmit_161 : decode y_Body_readEmit.2.1 161 = .ok (.iload_n 2, 1) := by decide +kernel
theorem d_Body_readEmit_162 : decode y_Body_readEmit.2.1 162 = .ok (.if_icmp .eq 18, 3) := by decide +kernel
theorem d_Body_readEmit_165 : decode y_Body_readEmit.2.1 165 = .ok (.aload_n 0, 1) := by decide +kernel
theorem d_Body_readEmit_166 : decode y_Body_readEmit.2.1 166 = .ok (.getfield 7, 3) := by decide +kernel
theorem d_Body_readEmit_169 : decode y_Body_readEmit.2.1 169 = .ok (.iconst 5, 1) := by decide +kernel
theorem d_Body_readEmit_170 : decode y_Body_readEmit.2.1 170 = .ok (.aload_n 0, 1) := by decide +kernel
theorem d_Body_readEmit_171 : decode y_Body_readEmit.2.1 171 = .ok (.getfield 7, 3) := by decide +kernel
theorem d_Body_readEmit_174 : decode y_Body_readEmit.2.1 174 = .ok (.getfield 96, 3) := by decide +kernel
theorem d_Body_readEmit_177 : decode y_Body_readEmit.2.1 177 = .ok (.invokevirtual 99, 3) := by decide +kernel
theorem d_Body_readEmit_180 : decode y_Body_readEmit.2.1 180 = .ok (.aload_n 0, 1) := by decide +kernel
theorem d_Body_readEmit_181 : decode y_Body_readEmit.2.1 181 = .ok (.invokevirtual 218, 3) := by decide +kernel
theorem d_Body_readEmit_184 : decode y_Body_readEmit.2.1 184 = .ok (.aload_n 0, 1) := by decide +kernel
theorem d_Body_readEmit_185 : decode y_Body_readEmit.2.1 185 = .ok (.getfield 7, 3) := by decide +kernel
theorem d_Body_readEmit_188 : decode y_Body_readEmit.2.1 188 = .ok (.bipush 68, 2) := by decide +kernel
theorem d_Body_readEmit_190 : decode y_Body_readEmit.2.1 190 = .ok (.invokevirtual 41, 3) := by decide +kernel
theorem d_Body_readEmit_193 : decode y_Body_readEmit.2.1 193 = .ok (.aload_n 0, 1) := by decide +kernel
theorem d_Body_readEmit_194 : decode y_Body_readEmit.2.1 194 = .ok (.iconst 4, 1) := by decide +kernel
theorem d_Body_readEmit_195 : decode y_Body_readEmit.2.1 195 = .ok (.invokevirtual 141, 3) := by decide +kernel
theorem d_Body_readEmit_198 : decode y_Body_readEmit.2.1 198 = .ok (.pop, 1) := by decide +kernel
theorem d_Body_readEmit_199 : decode y_Body_readEmit.2.1 199 = .ok (.aload_n 0, 1) := by decide +kernel
theorem d_Body_readEmit_200 : decode y_Body_readEmit.2.1 200 = .ok (.getfield 7, 3) := by decide +kernel
theorem d_Body_readEmit_203 : decode y_Body_readEmit.2.1 203 = .ok (.bipush 59, 2) := by decide +kernel
theorem d_Body_readEmit_205 : decode y_Body_readEmit.2.1 205 = .ok (.invokevirtual 41, 3) := by decide +kernel
theorem d_Body_readEmit_208 : decode y_Body_readEmit.2.1 208 = .ok (.aload_n 0, 1) := by decide +kernel
theorem d_Body_readEmit_209 : decode y_Body_readEmit.2.1 209 = .ok (.iconst 0, 1) := by decide +kernel
theorem d_Body_readEmit_210 : decode y_Body_readEmit.2.1 210 = .ok (.invokevirtual 141, 3) := by decide +kernel
theorem d_Body_readEmit_213 : decode y_Body_readEmit.2.1 213 = .ok (.pop, 1) := by decide +kernel
theorem d_Body_readEmit_214 : decode y_Body_readEmit.2.1 214 = .ok (.aload_n 0, 1) := by decide +kernel
theorem d_Body_readEmit_215 : decode y_Body_readEmit.2.1 215 = .ok (.getfield 7, 3) := by decide +kernel
theorem d_Body_readEmit_218 : decode y_Body_readEmit.2.1 218 = .ok (.bipush 15, 2) := by decide +kernel
theorem d_Body_readEmit_220 : decode y_Body_readEmit.2.1 220 = .ok (.invokevirtual 41, 3) := by decide +kernel
theorem d_Body_readEmit_223 : decode y_Body_readEmit.2.1 223 = .ok (.aload_n 0, 1) := by decide +kernel
theorem d_Body_readEmit_224 : decode y_Body_readEmit.2.1 224 = .ok (.getfield 17, 3) := by decide +kernel
theorem d_Body_readEmit_227 : decode y_Body_readEmit.2.1 227 = .ok (.bipush 25, 2) := by decide +kernel
theorem d_Body_readEmit_229 : decode y_Body_readEmit.2.1 229 = .ok (.invokevirtual 50, 3) := by decide +kernel
theorem d_Body_readEmit_232 : decode y_Body_readEmit.2.1 232 = .ok (.pop, 1) := by decide +kernel
theorem d_Body_readEmit_233 : decode y_Body_readEmit.2.1 233 = .ok (.aload_n 0, 1) := by decide +kernel
theorem d_Body_readEmit_234 : decode y_Body_readEmit.2.1 234 = .ok (.getfield 17, 3) := by decide +kernel
theorem d_Body_readEmit_237 : decode y_Body_readEmit.2.1 237 = .ok (.iload_n 1, 1) := by decide +kernel
theorem d_Body_readEmit_238 : decode y_Body_readEmit.2.1 238 = .ok (.invokevirtual 50, 3) := by decide +kernel
theorem d_Body_readEmit_241 : decode y_Body_readEmit.2.1 241 = .ok (.pop, 1) := by decide +kernel
theorem d_Body_readEmit_242 : decode y_Body_readEmit.2.1 242 = .ok (.return_, 1) := by decide +kernel
theorem s_Body_readEmit : ab_Stat y_Body_readEmit 0 := ⟨(k6 63 rfl rfl), (k1 8 rfl rfl), ⟨by decide, by decide⟩, by decide +kernel⟩
theorem i_Body_readEmit : Cond.instanceMethod y_Body_readEmit.1 ∈ ab_T := (k6 62 rfl rfl)
theorem v_Body_readEmit : Cond.selects "WorldEngine$Body" y_Body_readEmit.1 y_Body_readEmit.1 ∈ ab_T := ab_s (List.mem_of_getElem? (i := 59) rfl) rfl
def B_Body_readEmit_180 (N : Nat) (p0 : Nat) (l1 : Int32) (H : Hp) : Option ((Ot Unit) × Hp) :=
    ck (H.sh[p0]? = some (6, 0)) <|
    bT (F_Body_closeParens N p0 H) fun v39 H40 =>
    rf (H40.P p0 0) fun a42 =>
    ck (H40.sh[a42]? = some (1, 0)) <|
    bT (F_Lexer_take N a42 (68 : Int32) H40) fun v46 H47 =>
    bT (F_Body_inParens N (X_BodyE N 140) p0 (4 : Int32) H47) fun v50 H51 =>
    rf (H51.P p0 0) fun a53 =>
    ck (H51.sh[a53]? = some (1, 0)) <|
    bT (F_Lexer_take N a53 (59 : Int32) H51) fun v57 H58 =>
    bT (F_Body_inParens N (X_BodyE N 140) p0 (0 : Int32) H58) fun v61 H62 =>
    rf (H62.P p0 0) fun a64 =>
    ck (H62.sh[a64]? = some (1, 0)) <|
    bT (F_Lexer_take N a64 (15 : Int32) H62) fun v68 H69 =>
    rf (H69.P p0 1) fun a71 =>
    ck (H69.sh[a71]? = some (4, 0)) <|
    bC (F_Program_add N a71 (25 : Int32) H69) fun v75 H76 =>
    rf (H76.P p0 1) fun a77 =>
    ck (H76.sh[a77]? = some (4, 0)) <|
    bC (F_Program_add N a77 l1 H76) fun v81 H82 =>
    some (.inl (), H82)
set_option maxRecDepth 20000 in
set_option maxHeartbeats 2000000 in
theorem mB_Body_readEmit_180 {N : Nat} {p0 : Nat} {l1 : Int32} {H : Hp} {r : (Ot Unit) × Hp} (hF : B_Body_readEmit_180 N p0 l1 H = some r) : Mo H r.2 := by
  unfold B_Body_readEmit_180 at hF
  have hm := Mo.rf H
  obtain ⟨q83, hG⟩ := ck_s hF; clear hF
  refine bT_c hG (fun x87 H86 z84 er => ?_) (fun v85 H86 z84 hF => ?_)
  · subst er; exact hm.tr (m_Body_closeParens z84)
  clear hG
  replace hm : Mo H H86 := hm.tr (m_Body_closeParens z84)
  obtain ⟨a88, e89, hG⟩ := rf_s hF; clear hF
  obtain ⟨q90, hF⟩ := ck_s hG; clear hG
  refine bT_c hF (fun x94 H93 z91 er => ?_) (fun v92 H93 z91 hG => ?_)
  · subst er; exact hm.tr (m_Lexer_take z91)
  clear hF
  replace hm : Mo H H93 := hm.tr (m_Lexer_take z91)
  refine bT_c hG (fun x98 H97 z95 er => ?_) (fun v96 H97 z95 hF => ?_)
  · subst er; exact hm.tr (m_Body_inParens (moX_BodyE 140) z95)
  clear hG
  replace hm : Mo H H97 := hm.tr (m_Body_inParens (moX_BodyE 140) z95)
  obtain ⟨a99, e100, hG⟩ := rf_s hF; clear hF
  obtain ⟨q101, hF⟩ := ck_s hG; clear hG
  refine bT_c hF (fun x105 H104 z102 er => ?_) (fun v103 H104 z102 hG => ?_)
  · subst er; exact hm.tr (m_Lexer_take z102)
  clear hF
  replace hm : Mo H H104 := hm.tr (m_Lexer_take z102)
  refine bT_c hG (fun x109 H108 z106 er => ?_) (fun v107 H108 z106 hF => ?_)
  · subst er; exact hm.tr (m_Body_inParens (moX_BodyE 140) z106)
  clear hG
  replace hm : Mo H H108 := hm.tr (m_Body_inParens (moX_BodyE 140) z106)
  obtain ⟨a110, e111, hG⟩ := rf_s hF; clear hF
  obtain ⟨q112, hF⟩ := ck_s hG; clear hG
  refine bT_c hF (fun x116 H115 z113 er => ?_) (fun v114 H115 z113 hG => ?_)
  · subst er; exact hm.tr (m_Lexer_take z113)
  clear hF
  replace hm : Mo H H115 := hm.tr (m_Lexer_take z113)
  obtain ⟨a117, e118, hF⟩ := rf_s hG; clear hG
  obtain ⟨q119, hG⟩ := ck_s hF; clear hF
  obtain ⟨v121, H122, z120, hF⟩ := bC_s hG; clear hG
  replace hm : Mo H H122 := hm.tr ((m_Program_add z120)).mo
  obtain ⟨a123, e124, hG⟩ := rf_s hF; clear hF
  obtain ⟨q125, hF⟩ := ck_s hG; clear hG
  obtain ⟨v127, H128, z126, hG⟩ := bC_s hF; clear hF
  replace hm : Mo H H128 := hm.tr ((m_Program_add z126)).mo
  have hr := Option.some.inj hG; subst hr
  exact hm
set_option maxRecDepth 20000 in
set_option maxHeartbeats 2000000 in
theorem kB_Body_readEmit_180 {N : Nat} {p0 : Nat} {c0 s0 C Sl : Nat} {l1 : Int32} {H : Hp} {r : (Ot Unit) × Hp} (hF : B_Body_readEmit_180 N p0 l1 H = some r) (hc0 : c0 ≤ H.sh.length) (hs0 : s0 ≤ H.sl) (hcc : H.sh.length ≤ c0 + C) (hss : H.sl ≤ s0 + Sl) (hC : r.2.sh.length ≤ c0 + C) (hS : r.2.sl ≤ s0 + Sl) : ab_V y_Body_readEmit { frames := 571, cells := C, slots := Sl, locals := 13524 } (po (oV r.1) r.2) C Sl (H.sh.length - c0) (H.sl - s0) 180 [some (.ref p0), some (.int l1), none, none, none, none] [] (hpw H) := by
  unfold B_Body_readEmit_180 at hF
  refine ab_aload_n d_Body_readEmit_180 rfl rfl rfl ?_
  obtain ⟨q37, hG⟩ := ck_s hF; clear hF
  refine bT_c hG (fun x41 H40 z38 er => ?_) (fun v39 H40 z38 hF => ?_)
  · subst er
    have mz : Mo H H40 := (m_Body_closeParens z38)
    have ml := mz.len
    have m2 := mz.2
    have hC9 : H40.sh.length ≤ c0 + C := hC
    have hS9 : H40.sl ≤ s0 + Sl := hS
    refine hp_callV_t (x := x41) (H1 := H40) (As := []) (rest := []) d_Body_readEmit_181 (k_Body_closeParens z38 (C := H40.sh.length - H.sh.length) (Sl := H40.sl - H.sl) (by show H40.sh.length ≤ _; omega) (by show H40.sl ≤ _; omega)) (ab_mkC s_Body_closeParens (Nat.le_of_ble_eq_true rfl) (Nat.le_of_ble_eq_true rfl) (show (H.sh.length - c0) + (H40.sh.length - H.sh.length) ≤ C from by omega) (show (H.sl - s0) + (H40.sl - H.sl) ≤ Sl from by omega)) (k5 165 rfl rfl) i_Body_closeParens v_Body_closeParens q37 (by decide) rfl rfl (Nat.le_of_ble_eq_true rfl) ?_
    exact ab_U_out rfl (by show _ + (H40.sh.length - H.sh.length) ≤ C; omega) (by show _ + (H40.sl - H.sl) ≤ Sl; omega) ⟨rfl, rfl⟩
  clear hG
  have mz_11 : Mo H H40 := (m_Body_closeParens z38)
  have b_12l := (mz_11).len
  have b_12s := (mz_11).2
  have b_12c : c0 ≤ H40.sh.length := by omega
  have b_12d : s0 ≤ H40.sl := by omega
  have q_13 := (mz_11).get q37
  obtain ⟨a42, e43, hG⟩ := rf_s hF; clear hF
  have fH40 : Mo H40 r.2 := by
    have hm := Mo.rf H40
    obtain ⟨q44, hF⟩ := ck_s hG; clear hG
    refine bT_c hF (fun x48 H47 z45 er => ?_) (fun v46 H47 z45 hG => ?_)
    · subst er; exact hm.tr (m_Lexer_take z45)
    clear hF
    replace hm : Mo H40 H47 := hm.tr (m_Lexer_take z45)
    refine bT_c hG (fun x52 H51 z49 er => ?_) (fun v50 H51 z49 hF => ?_)
    · subst er; exact hm.tr (m_Body_inParens (moX_BodyE 140) z49)
    clear hG
    replace hm : Mo H40 H51 := hm.tr (m_Body_inParens (moX_BodyE 140) z49)
    obtain ⟨a53, e54, hG⟩ := rf_s hF; clear hF
    obtain ⟨q55, hF⟩ := ck_s hG; clear hG
    refine bT_c hF (fun x59 H58 z56 er => ?_) (fun v57 H58 z56 hG => ?_)
    · subst er; exact hm.tr (m_Lexer_take z56)
    clear hF
    replace hm : Mo H40 H58 := hm.tr (m_Lexer_take z56)
    refine bT_c hG (fun x63 H62 z60 er => ?_) (fun v61 H62 z60 hF => ?_)
    · subst er; exact hm.tr (m_Body_inParens (moX_BodyE 140) z60)
    clear hG
    replace hm : Mo H40 H62 := hm.tr (m_Body_inParens (moX_BodyE 140) z60)
    obtain ⟨a64, e65, hG⟩ := rf_s hF; clear hF
    obtain ⟨q66, hF⟩ := ck_s hG; clear hG
    refine bT_c hF (fun x70 H69 z67 er => ?_) (fun v68 H69 z67 hG => ?_)
    · subst er; exact hm.tr (m_Lexer_take z67)
    clear hF
    replace hm : Mo H40 H69 := hm.tr (m_Lexer_take z67)
    obtain ⟨a71, e72, hF⟩ := rf_s hG; clear hG
    obtain ⟨q73, hG⟩ := ck_s hF; clear hF
    obtain ⟨v75, H76, z74, hF⟩ := bC_s hG; clear hG
    replace hm : Mo H40 H76 := hm.tr ((m_Program_add z74)).mo
    obtain ⟨a77, e78, hG⟩ := rf_s hF; clear hF
    obtain ⟨q79, hF⟩ := ck_s hG; clear hG
    obtain ⟨v81, H82, z80, hG⟩ := bC_s hF; clear hF
    replace hm : Mo H40 H82 := hm.tr ((m_Program_add z80)).mo
    have hr := Option.some.inj hG; subst hr
    exact hm
  have b_12m := (fH40).len
  have b_12n := (fH40).2
  have b_12p : H40.sh.length ≤ c0 + C := by omega
  have b_12q : H40.sl ≤ s0 + Sl := by omega
  refine hp_callV_v (H1 := H40) (As := []) (rest := []) d_Body_readEmit_181 (k_Body_closeParens z38 (C := H40.sh.length - H.sh.length) (Sl := H40.sl - H.sl) (by show H40.sh.length ≤ _; omega) (by show H40.sl ≤ _; omega)) (ab_mkC s_Body_closeParens (Nat.le_of_ble_eq_true rfl) (Nat.le_of_ble_eq_true rfl) (show (H.sh.length - c0) + (H40.sh.length - H.sh.length) ≤ C from by omega) (show (H.sl - s0) + (H40.sl - H.sl) ≤ Sl from by omega)) (k5 165 rfl rfl) i_Body_closeParens v_Body_closeParens q37 (by decide) rfl rfl (Nat.le_of_ble_eq_true rfl) ?_
  refine ab_widen (cells' := H40.sh.length - c0) (slots' := H40.sl - s0) (by show _ + (H40.sh.length - H.sh.length) ≤ _; omega) (by show _ + (H40.sl - H.sl) ≤ _; omega) ?_
  clear b_12l b_12s b_12m b_12n
  refine ab_aload_n d_Body_readEmit_184 rfl rfl rfl ?_
  refine hp_getR (f := 0) d_Body_readEmit_185 q_13 (by decide) rfl (by decide) (k1 157 rfl rfl) rfl e43 ?_
  refine ab_bipush (v := 68) d_Body_readEmit_188 (by decide) ?_
  obtain ⟨q44, hF⟩ := ck_s hG; clear hG
  refine bT_c hF (fun x48 H47 z45 er => ?_) (fun v46 H47 z45 hG => ?_)
  · subst er
    have mz : Mo H40 H47 := (m_Lexer_take z45)
    have ml := mz.len
    have m2 := mz.2
    have hC9 : H47.sh.length ≤ c0 + C := hC
    have hS9 : H47.sl ≤ s0 + Sl := hS
    refine hp_callV_t (x := x48) (H1 := H47) (As := [.int 68]) (rest := []) d_Body_readEmit_190 (k_Lexer_take z45 (C := H47.sh.length - H40.sh.length) (Sl := H47.sl - H40.sl) (by show H47.sh.length ≤ _; omega) (by show H47.sl ≤ _; omega)) (ab_mkC s_Lexer_take (Nat.le_of_ble_eq_true rfl) (Nat.le_of_ble_eq_true rfl) (show (H40.sh.length - c0) + (H47.sh.length - H40.sh.length) ≤ C from by omega) (show (H40.sl - s0) + (H47.sl - H40.sl) ≤ Sl from by omega)) (k5 116 rfl rfl) i_Lexer_take v_Lexer_take q44 (by decide) rfl rfl (Nat.le_of_ble_eq_true rfl) ?_
    exact ab_U_out rfl (by show _ + (H47.sh.length - H40.sh.length) ≤ C; omega) (by show _ + (H47.sl - H40.sl) ≤ Sl; omega) ⟨rfl, rfl⟩
  clear hF
  have mz_33 : Mo H40 H47 := (m_Lexer_take z45)
  have b_34l := (mz_33).len
  have b_34s := (mz_33).2
  have b_34c : c0 ≤ H47.sh.length := by omega
  have b_34d : s0 ≤ H47.sl := by omega
  have q_35 := (mz_33).get q_13
  have q_36 := (mz_33).get q44
  have fH47 : Mo H47 r.2 := by
    have hm := Mo.rf H47
    refine bT_c hG (fun x52 H51 z49 er => ?_) (fun v50 H51 z49 hF => ?_)
    · subst er; exact hm.tr (m_Body_inParens (moX_BodyE 140) z49)
    clear hG
    replace hm : Mo H47 H51 := hm.tr (m_Body_inParens (moX_BodyE 140) z49)
    obtain ⟨a53, e54, hG⟩ := rf_s hF; clear hF
    obtain ⟨q55, hF⟩ := ck_s hG; clear hG
    refine bT_c hF (fun x59 H58 z56 er => ?_) (fun v57 H58 z56 hG => ?_)
    · subst er; exact hm.tr (m_Lexer_take z56)
    clear hF
    replace hm : Mo H47 H58 := hm.tr (m_Lexer_take z56)
    refine bT_c hG (fun x63 H62 z60 er => ?_) (fun v61 H62 z60 hF => ?_)
    · subst er; exact hm.tr (m_Body_inParens (moX_BodyE 140) z60)
    clear hG
    replace hm : Mo H47 H62 := hm.tr (m_Body_inParens (moX_BodyE 140) z60)
    obtain ⟨a64, e65, hG⟩ := rf_s hF; clear hF
    obtain ⟨q66, hF⟩ := ck_s hG; clear hG
    refine bT_c hF (fun x70 H69 z67 er => ?_) (fun v68 H69 z67 hG => ?_)
    · subst er; exact hm.tr (m_Lexer_take z67)
    clear hF
    replace hm : Mo H47 H69 := hm.tr (m_Lexer_take z67)
    obtain ⟨a71, e72, hF⟩ := rf_s hG; clear hG
    obtain ⟨q73, hG⟩ := ck_s hF; clear hF
    obtain ⟨v75, H76, z74, hF⟩ := bC_s hG; clear hG
    replace hm : Mo H47 H76 := hm.tr ((m_Program_add z74)).mo
    obtain ⟨a77, e78, hG⟩ := rf_s hF; clear hF
    obtain ⟨q79, hF⟩ := ck_s hG; clear hG
    obtain ⟨v81, H82, z80, hG⟩ := bC_s hF; clear hF
    replace hm : Mo H47 H82 := hm.tr ((m_Program_add z80)).mo
    have hr := Option.some.inj hG; subst hr
    exact hm
  have b_34m := (fH47).len
  have b_34n := (fH47).2
  have b_34p : H47.sh.length ≤ c0 + C := by omega
  have b_34q : H47.sl ≤ s0 + Sl := by omega
  refine hp_callV_v (H1 := H47) (As := [.int 68]) (rest := []) d_Body_readEmit_190 (k_Lexer_take z45 (C := H47.sh.length - H40.sh.length) (Sl := H47.sl - H40.sl) (by show H47.sh.length ≤ _; omega) (by show H47.sl ≤ _; omega)) (ab_mkC s_Lexer_take (Nat.le_of_ble_eq_true rfl) (Nat.le_of_ble_eq_true rfl) (show (H40.sh.length - c0) + (H47.sh.length - H40.sh.length) ≤ C from by omega) (show (H40.sl - s0) + (H47.sl - H40.sl) ≤ Sl from by omega)) (k5 116 rfl rfl) i_Lexer_take v_Lexer_take q44 (by decide) rfl rfl (Nat.le_of_ble_eq_true rfl) ?_
  refine ab_widen (cells' := H47.sh.length - c0) (slots' := H47.sl - s0) (by show _ + (H47.sh.length - H40.sh.length) ≤ _; omega) (by show _ + (H47.sl - H40.sl) ≤ _; omega) ?_
  clear b_34l b_34s b_34m b_34n b_12c b_12d b_12p b_12q
  refine ab_aload_n d_Body_readEmit_193 rfl rfl rfl ?_
  refine ab_iconst (v := 4) d_Body_readEmit_194 (by decide) ?_
  refine bT_c hG (fun x52 H51 z49 er => ?_) (fun v50 H51 z49 hF => ?_)
  · subst er
    have mz : Mo H47 H51 := (m_Body_inParens (moX_BodyE 140) z49)
    have ml := mz.len
    have m2 := mz.2
    have hC9 : H51.sh.length ≤ c0 + C := hC
    have hS9 : H51.sl ≤ s0 + Sl := hS
    refine hp_callV_t (x := x52) (H1 := H51) (As := [.int 4]) (rest := []) d_Body_readEmit_195 (k_Body_inParens (okX_BodyE 140) (moX_BodyE 140) z49 (C := H51.sh.length - H47.sh.length) (Sl := H51.sl - H47.sl) (by show H51.sh.length ≤ _; omega) (by show H51.sl ≤ _; omega)) (ab_mkC s_Body_inParens (Nat.le_of_ble_eq_true rfl) (Nat.le_of_ble_eq_true rfl) (show (H47.sh.length - c0) + (H51.sh.length - H47.sh.length) ≤ C from by omega) (show (H47.sl - s0) + (H51.sl - H47.sl) ≤ Sl from by omega)) (k5 157 rfl rfl) i_Body_inParens v_Body_inParens q_35 (by decide) rfl rfl (Nat.le_of_ble_eq_true rfl) ?_
    exact ab_U_out rfl (by show _ + (H51.sh.length - H47.sh.length) ≤ C; omega) (by show _ + (H51.sl - H47.sl) ≤ Sl; omega) ⟨rfl, rfl⟩
  clear hG
  have mz_53 : Mo H47 H51 := (m_Body_inParens (moX_BodyE 140) z49)
  have b_54l := (mz_53).len
  have b_54s := (mz_53).2
  have b_54c : c0 ≤ H51.sh.length := by omega
  have b_54d : s0 ≤ H51.sl := by omega
  have q_55 := (mz_53).get q_35
  have q_56 := (mz_53).get q_36
  obtain ⟨a53, e54, hG⟩ := rf_s hF; clear hF
  have fH51 : Mo H51 r.2 := by
    have hm := Mo.rf H51
    obtain ⟨q55, hF⟩ := ck_s hG; clear hG
    refine bT_c hF (fun x59 H58 z56 er => ?_) (fun v57 H58 z56 hG => ?_)
    · subst er; exact hm.tr (m_Lexer_take z56)
    clear hF
    replace hm : Mo H51 H58 := hm.tr (m_Lexer_take z56)
    refine bT_c hG (fun x63 H62 z60 er => ?_) (fun v61 H62 z60 hF => ?_)
    · subst er; exact hm.tr (m_Body_inParens (moX_BodyE 140) z60)
    clear hG
    replace hm : Mo H51 H62 := hm.tr (m_Body_inParens (moX_BodyE 140) z60)
    obtain ⟨a64, e65, hG⟩ := rf_s hF; clear hF
    obtain ⟨q66, hF⟩ := ck_s hG; clear hG
    refine bT_c hF (fun x70 H69 z67 er => ?_) (fun v68 H69 z67 hG => ?_)
    · subst er; exact hm.tr (m_Lexer_take z67)
    clear hF
    replace hm : Mo H51 H69 := hm.tr (m_Lexer_take z67)
    obtain ⟨a71, e72, hF⟩ := rf_s hG; clear hG
    obtain ⟨q73, hG⟩ := ck_s hF; clear hF
    obtain ⟨v75, H76, z74, hF⟩ := bC_s hG; clear hG
    replace hm : Mo H51 H76 := hm.tr ((m_Program_add z74)).mo
    obtain ⟨a77, e78, hG⟩ := rf_s hF; clear hF
    obtain ⟨q79, hF⟩ := ck_s hG; clear hG
    obtain ⟨v81, H82, z80, hG⟩ := bC_s hF; clear hF
    replace hm : Mo H51 H82 := hm.tr ((m_Program_add z80)).mo
    have hr := Option.some.inj hG; subst hr
    exact hm
  have b_54m := (fH51).len
  have b_54n := (fH51).2
  have b_54p : H51.sh.length ≤ c0 + C := by omega
  have b_54q : H51.sl ≤ s0 + Sl := by omega
  refine hp_callV_a (v := .int v50) (H1 := H51) (As := [.int 4]) (rest := []) d_Body_readEmit_195 (k_Body_inParens (okX_BodyE 140) (moX_BodyE 140) z49 (C := H51.sh.length - H47.sh.length) (Sl := H51.sl - H47.sl) (by show H51.sh.length ≤ _; omega) (by show H51.sl ≤ _; omega)) (ab_mkC s_Body_inParens (Nat.le_of_ble_eq_true rfl) (Nat.le_of_ble_eq_true rfl) (show (H47.sh.length - c0) + (H51.sh.length - H47.sh.length) ≤ C from by omega) (show (H47.sl - s0) + (H51.sl - H47.sl) ≤ Sl from by omega)) (k5 157 rfl rfl) i_Body_inParens v_Body_inParens q_35 (by decide) rfl rfl (Nat.le_of_ble_eq_true rfl) ?_
  refine ab_widen (cells' := H51.sh.length - c0) (slots' := H51.sl - s0) (by show _ + (H51.sh.length - H47.sh.length) ≤ _; omega) (by show _ + (H51.sl - H47.sl) ≤ _; omega) ?_
  clear b_54l b_54s b_54m b_54n b_34c b_34d b_34p b_34q
  refine ab_pop d_Body_readEmit_198 rfl ?_
  refine ab_aload_n d_Body_readEmit_199 rfl rfl rfl ?_
  refine hp_getR (f := 0) d_Body_readEmit_200 q_55 (by decide) rfl (by decide) (k1 157 rfl rfl) rfl e54 ?_
  refine ab_bipush (v := 59) d_Body_readEmit_203 (by decide) ?_
  obtain ⟨q55, hF⟩ := ck_s hG; clear hG
  refine bT_c hF (fun x59 H58 z56 er => ?_) (fun v57 H58 z56 hG => ?_)
  · subst er
    have mz : Mo H51 H58 := (m_Lexer_take z56)
    have ml := mz.len
    have m2 := mz.2
    have hC9 : H58.sh.length ≤ c0 + C := hC
    have hS9 : H58.sl ≤ s0 + Sl := hS
    refine hp_callV_t (x := x59) (H1 := H58) (As := [.int 59]) (rest := []) d_Body_readEmit_205 (k_Lexer_take z56 (C := H58.sh.length - H51.sh.length) (Sl := H58.sl - H51.sl) (by show H58.sh.length ≤ _; omega) (by show H58.sl ≤ _; omega)) (ab_mkC s_Lexer_take (Nat.le_of_ble_eq_true rfl) (Nat.le_of_ble_eq_true rfl) (show (H51.sh.length - c0) + (H58.sh.length - H51.sh.length) ≤ C from by omega) (show (H51.sl - s0) + (H58.sl - H51.sl) ≤ Sl from by omega)) (k5 116 rfl rfl) i_Lexer_take v_Lexer_take q55 (by decide) rfl rfl (Nat.le_of_ble_eq_true rfl) ?_
    exact ab_U_out rfl (by show _ + (H58.sh.length - H51.sh.length) ≤ C; omega) (by show _ + (H58.sl - H51.sl) ≤ Sl; omega) ⟨rfl, rfl⟩
  clear hF
  have mz_70 : Mo H51 H58 := (m_Lexer_take z56)
  have b_71l := (mz_70).len
  have b_71s := (mz_70).2
  have b_71c : c0 ≤ H58.sh.length := by omega
  have b_71d : s0 ≤ H58.sl := by omega
  have q_72 := (mz_70).get q_55
  have q_73 := (mz_70).get q_56
  have q_74 := (mz_70).get q55
  have fH58 : Mo H58 r.2 := by
    have hm := Mo.rf H58
    refine bT_c hG (fun x63 H62 z60 er => ?_) (fun v61 H62 z60 hF => ?_)
    · subst er; exact hm.tr (m_Body_inParens (moX_BodyE 140) z60)
    clear hG
    replace hm : Mo H58 H62 := hm.tr (m_Body_inParens (moX_BodyE 140) z60)
    obtain ⟨a64, e65, hG⟩ := rf_s hF; clear hF
    obtain ⟨q66, hF⟩ := ck_s hG; clear hG
    refine bT_c hF (fun x70 H69 z67 er => ?_) (fun v68 H69 z67 hG => ?_)
    · subst er; exact hm.tr (m_Lexer_take z67)
    clear hF
    replace hm : Mo H58 H69 := hm.tr (m_Lexer_take z67)
    obtain ⟨a71, e72, hF⟩ := rf_s hG; clear hG
    obtain ⟨q73, hG⟩ := ck_s hF; clear hF
    obtain ⟨v75, H76, z74, hF⟩ := bC_s hG; clear hG
    replace hm : Mo H58 H76 := hm.tr ((m_Program_add z74)).mo
    obtain ⟨a77, e78, hG⟩ := rf_s hF; clear hF
    obtain ⟨q79, hF⟩ := ck_s hG; clear hG
    obtain ⟨v81, H82, z80, hG⟩ := bC_s hF; clear hF
    replace hm : Mo H58 H82 := hm.tr ((m_Program_add z80)).mo
    have hr := Option.some.inj hG; subst hr
    exact hm
  have b_71m := (fH58).len
  have b_71n := (fH58).2
  have b_71p : H58.sh.length ≤ c0 + C := by omega
  have b_71q : H58.sl ≤ s0 + Sl := by omega
  refine hp_callV_v (H1 := H58) (As := [.int 59]) (rest := []) d_Body_readEmit_205 (k_Lexer_take z56 (C := H58.sh.length - H51.sh.length) (Sl := H58.sl - H51.sl) (by show H58.sh.length ≤ _; omega) (by show H58.sl ≤ _; omega)) (ab_mkC s_Lexer_take (Nat.le_of_ble_eq_true rfl) (Nat.le_of_ble_eq_true rfl) (show (H51.sh.length - c0) + (H58.sh.length - H51.sh.length) ≤ C from by omega) (show (H51.sl - s0) + (H58.sl - H51.sl) ≤ Sl from by omega)) (k5 116 rfl rfl) i_Lexer_take v_Lexer_take q55 (by decide) rfl rfl (Nat.le_of_ble_eq_true rfl) ?_
  refine ab_widen (cells' := H58.sh.length - c0) (slots' := H58.sl - s0) (by show _ + (H58.sh.length - H51.sh.length) ≤ _; omega) (by show _ + (H58.sl - H51.sl) ≤ _; omega) ?_
  clear b_71l b_71s b_71m b_71n b_54c b_54d b_54p b_54q
  refine ab_aload_n d_Body_readEmit_208 rfl rfl rfl ?_
  refine ab_iconst (v := 0) d_Body_readEmit_209 (by decide) ?_
  refine bT_c hG (fun x63 H62 z60 er => ?_) (fun v61 H62 z60 hF => ?_)
  · subst er
    have mz : Mo H58 H62 := (m_Body_inParens (moX_BodyE 140) z60)
    have ml := mz.len
    have m2 := mz.2
    have hC9 : H62.sh.length ≤ c0 + C := hC
    have hS9 : H62.sl ≤ s0 + Sl := hS
    refine hp_callV_t (x := x63) (H1 := H62) (As := [.int 0]) (rest := []) d_Body_readEmit_210 (k_Body_inParens (okX_BodyE 140) (moX_BodyE 140) z60 (C := H62.sh.length - H58.sh.length) (Sl := H62.sl - H58.sl) (by show H62.sh.length ≤ _; omega) (by show H62.sl ≤ _; omega)) (ab_mkC s_Body_inParens (Nat.le_of_ble_eq_true rfl) (Nat.le_of_ble_eq_true rfl) (show (H58.sh.length - c0) + (H62.sh.length - H58.sh.length) ≤ C from by omega) (show (H58.sl - s0) + (H62.sl - H58.sl) ≤ Sl from by omega)) (k5 157 rfl rfl) i_Body_inParens v_Body_inParens q_72 (by decide) rfl rfl (Nat.le_of_ble_eq_true rfl) ?_
    exact ab_U_out rfl (by show _ + (H62.sh.length - H58.sh.length) ≤ C; omega) (by show _ + (H62.sl - H58.sl) ≤ Sl; omega) ⟨rfl, rfl⟩
  clear hG
  have mz_84 : Mo H58 H62 := (m_Body_inParens (moX_BodyE 140) z60)
  have b_85l := (mz_84).len
  have b_85s := (mz_84).2
  have b_85c : c0 ≤ H62.sh.length := by omega
  have b_85d : s0 ≤ H62.sl := by omega
  have q_86 := (mz_84).get q_72
  have q_87 := (mz_84).get q_73
  have q_88 := (mz_84).get q_74
  obtain ⟨a64, e65, hG⟩ := rf_s hF; clear hF
  have fH62 : Mo H62 r.2 := by
    have hm := Mo.rf H62
    obtain ⟨q66, hF⟩ := ck_s hG; clear hG
    refine bT_c hF (fun x70 H69 z67 er => ?_) (fun v68 H69 z67 hG => ?_)
    · subst er; exact hm.tr (m_Lexer_take z67)
    clear hF
    replace hm : Mo H62 H69 := hm.tr (m_Lexer_take z67)
    obtain ⟨a71, e72, hF⟩ := rf_s hG; clear hG
    obtain ⟨q73, hG⟩ := ck_s hF; clear hF
    obtain ⟨v75, H76, z74, hF⟩ := bC_s hG; clear hG
    replace hm : Mo H62 H76 := hm.tr ((m_Program_add z74)).mo
    obtain ⟨a77, e78, hG⟩ := rf_s hF; clear hF
    obtain ⟨q79, hF⟩ := ck_s hG; clear hG
    obtain ⟨v81, H82, z80, hG⟩ := bC_s hF; clear hF
    replace hm : Mo H62 H82 := hm.tr ((m_Program_add z80)).mo
    have hr := Option.some.inj hG; subst hr
    exact hm
  have b_85m := (fH62).len
  have b_85n := (fH62).2
  have b_85p : H62.sh.length ≤ c0 + C := by omega
  have b_85q : H62.sl ≤ s0 + Sl := by omega
  refine hp_callV_a (v := .int v61) (H1 := H62) (As := [.int 0]) (rest := []) d_Body_readEmit_210 (k_Body_inParens (okX_BodyE 140) (moX_BodyE 140) z60 (C := H62.sh.length - H58.sh.length) (Sl := H62.sl - H58.sl) (by show H62.sh.length ≤ _; omega) (by show H62.sl ≤ _; omega)) (ab_mkC s_Body_inParens (Nat.le_of_ble_eq_true rfl) (Nat.le_of_ble_eq_true rfl) (show (H58.sh.length - c0) + (H62.sh.length - H58.sh.length) ≤ C from by omega) (show (H58.sl - s0) + (H62.sl - H58.sl) ≤ Sl from by omega)) (k5 157 rfl rfl) i_Body_inParens v_Body_inParens q_72 (by decide) rfl rfl (Nat.le_of_ble_eq_true rfl) ?_
  refine ab_widen (cells' := H62.sh.length - c0) (slots' := H62.sl - s0) (by show _ + (H62.sh.length - H58.sh.length) ≤ _; omega) (by show _ + (H62.sl - H58.sl) ≤ _; omega) ?_
  clear b_85l b_85s b_85m b_85n b_71c b_71d b_71p b_71q
  refine ab_pop d_Body_readEmit_213 rfl ?_
  refine ab_aload_n d_Body_readEmit_214 rfl rfl rfl ?_
  refine hp_getR (f := 0) d_Body_readEmit_215 q_86 (by decide) rfl (by decide) (k1 157 rfl rfl) rfl e65 ?_
  refine ab_bipush (v := 15) d_Body_readEmit_218 (by decide) ?_
  obtain ⟨q66, hF⟩ := ck_s hG; clear hG
  refine bT_c hF (fun x70 H69 z67 er => ?_) (fun v68 H69 z67 hG => ?_)
  · subst er
    have mz : Mo H62 H69 := (m_Lexer_take z67)
    have ml := mz.len
    have m2 := mz.2
    have hC9 : H69.sh.length ≤ c0 + C := hC
    have hS9 : H69.sl ≤ s0 + Sl := hS
    refine hp_callV_t (x := x70) (H1 := H69) (As := [.int 15]) (rest := []) d_Body_readEmit_220 (k_Lexer_take z67 (C := H69.sh.length - H62.sh.length) (Sl := H69.sl - H62.sl) (by show H69.sh.length ≤ _; omega) (by show H69.sl ≤ _; omega)) (ab_mkC s_Lexer_take (Nat.le_of_ble_eq_true rfl) (Nat.le_of_ble_eq_true rfl) (show (H62.sh.length - c0) + (H69.sh.length - H62.sh.length) ≤ C from by omega) (show (H62.sl - s0) + (H69.sl - H62.sl) ≤ Sl from by omega)) (k5 116 rfl rfl) i_Lexer_take v_Lexer_take q66 (by decide) rfl rfl (Nat.le_of_ble_eq_true rfl) ?_
    exact ab_U_out rfl (by show _ + (H69.sh.length - H62.sh.length) ≤ C; omega) (by show _ + (H69.sl - H62.sl) ≤ Sl; omega) ⟨rfl, rfl⟩
  clear hF
  have mz_94 : Mo H62 H69 := (m_Lexer_take z67)
  have b_95l := (mz_94).len
  have b_95s := (mz_94).2
  have b_95c : c0 ≤ H69.sh.length := by omega
  have b_95d : s0 ≤ H69.sl := by omega
  have q_96 := (mz_94).get q_86
  have q_97 := (mz_94).get q_87
  have q_98 := (mz_94).get q_88
  have q_99 := (mz_94).get q66
  obtain ⟨a71, e72, hF⟩ := rf_s hG; clear hG
  obtain ⟨q73, hG⟩ := ck_s hF; clear hF
  obtain ⟨v75, H76, z74, hF⟩ := bC_s hG; clear hG
  have jH76 : Mo H69 H76 := ((m_Program_add z74)).mo
  obtain ⟨a77, e78, hG⟩ := rf_s hF; clear hF
  obtain ⟨q79, hF⟩ := ck_s hG; clear hG
  obtain ⟨v81, H82, z80, hG⟩ := bC_s hF; clear hF
  have jH82 : Mo H76 H82 := ((m_Program_add z80)).mo
  have fH82 : Mo H82 r.2 := by
    have hm := Mo.rf H82
    have hr := Option.some.inj hG; subst hr
    exact hm
  have fH76 : Mo H76 r.2 := jH82.tr fH82
  have fH69 : Mo H69 r.2 := jH76.tr fH76
  have b_95m := (fH69).len
  have b_95n := (fH69).2
  have b_95p : H69.sh.length ≤ c0 + C := by omega
  have b_95q : H69.sl ≤ s0 + Sl := by omega
  refine hp_callV_v (H1 := H69) (As := [.int 15]) (rest := []) d_Body_readEmit_220 (k_Lexer_take z67 (C := H69.sh.length - H62.sh.length) (Sl := H69.sl - H62.sl) (by show H69.sh.length ≤ _; omega) (by show H69.sl ≤ _; omega)) (ab_mkC s_Lexer_take (Nat.le_of_ble_eq_true rfl) (Nat.le_of_ble_eq_true rfl) (show (H62.sh.length - c0) + (H69.sh.length - H62.sh.length) ≤ C from by omega) (show (H62.sl - s0) + (H69.sl - H62.sl) ≤ Sl from by omega)) (k5 116 rfl rfl) i_Lexer_take v_Lexer_take q66 (by decide) rfl rfl (Nat.le_of_ble_eq_true rfl) ?_
  refine ab_widen (cells' := H69.sh.length - c0) (slots' := H69.sl - s0) (by show _ + (H69.sh.length - H62.sh.length) ≤ _; omega) (by show _ + (H69.sl - H62.sl) ≤ _; omega) ?_
  clear b_95l b_95s b_95m b_95n b_85c b_85d b_85p b_85q
  refine ab_aload_n d_Body_readEmit_223 rfl rfl rfl ?_
  refine hp_getR (f := 1) d_Body_readEmit_224 q_96 (by decide) rfl (by decide) (k1 158 rfl rfl) rfl e72 ?_
  refine ab_bipush (v := 25) d_Body_readEmit_227 (by decide) ?_
  refine hp_callV_a (v := .int v75) (H1 := H76) (As := [.int 25]) (rest := []) d_Body_readEmit_229 (k_Program_add z74) (ab_mkC s_Program_add (Nat.le_of_ble_eq_true rfl) (Nat.le_of_ble_eq_true rfl) (show (H69.sh.length - c0) + 0 ≤ C from by omega) (show (H69.sl - s0) + 0 ≤ Sl from by omega)) (k5 117 rfl rfl) i_Program_add v_Program_add q73 (by decide) rfl rfl (Nat.le_of_ble_eq_true rfl) ?_
  have s_103 : Sa H69 H76 := (m_Program_add z74)
  refine ab_widen (cells' := H69.sh.length - c0) (slots' := H69.sl - s0) (by show (H69.sh.length - c0) + 0 ≤ _; omega) (by show (H69.sl - s0) + 0 ≤ _; omega) ?_
  refine ab_pop d_Body_readEmit_232 rfl ?_
  refine ab_aload_n d_Body_readEmit_233 rfl rfl rfl ?_
  refine hp_getR (f := 1) d_Body_readEmit_234 (by rw [(s_103).1]; exact q_96) (by decide) rfl (by decide) (k1 158 rfl rfl) rfl e78 ?_
  refine ab_iload_n d_Body_readEmit_237 rfl rfl ?_
  rw [(s_103).1] at q79
  refine ab_widen (cells' := H76.sh.length - c0) (slots' := H76.sl - s0) (by rw [(s_103).1]; exact Nat.le_refl _) (by rw [(s_103).2]; exact Nat.le_refl _) ?_
  have b_104e := congrArg List.length (s_103).1
  have b_104f := (s_103).2
  refine hp_callV_a (v := .int v81) (H1 := H82) (As := [.int l1]) (rest := []) d_Body_readEmit_238 (k_Program_add z80) (ab_mkC s_Program_add (Nat.le_of_ble_eq_true rfl) (Nat.le_of_ble_eq_true rfl) (show (H76.sh.length - c0) + 0 ≤ C from by omega) (show (H76.sl - s0) + 0 ≤ Sl from by omega)) (k5 117 rfl rfl) i_Program_add v_Program_add (by rw [(s_103).1]; exact q79) (by decide) rfl rfl (Nat.le_of_ble_eq_true rfl) ?_
  have s_105 : Sa H69 H82 := (s_103).tr (m_Program_add z80)
  refine ab_widen (cells' := H69.sh.length - c0) (slots' := H69.sl - s0) (by show (H76.sh.length - c0) + 0 ≤ _; omega) (by show (H76.sl - s0) + 0 ≤ _; omega) ?_
  clear b_104e b_104f
  refine ab_pop d_Body_readEmit_241 rfl ?_
  exact ab_vret d_Body_readEmit_242 rfl (by show _ ≤ C; omega) (by show _ ≤ Sl; omega) (by have hr := Option.some.inj hG; subst hr; exact ⟨rfl, rfl⟩)
def B_Body_readEmit_148 (N : Nat) (p0 : Nat) (l1 : Int32) (l2 : Int32) (l3 : Int32) (H : Hp) : Option ((Ot Unit) × Hp) :=
    ck (H.sh[p0]? = some (6, 0)) <|
    rf (H.P p0 0) fun a32 =>
    ck (H.sh[a32]? = some (1, 0)) <|
    bnd ((H.D a32 2)) fun x35 =>
    if x35 = (13 : Int32) then
    if l3 = l2 then
    B_Body_readEmit_180 N p0 l1 H
    else
    rf (H.P p0 0) fun a130 =>
    rf (H.P p0 0) fun a132 =>
    ck (H.sh[a132]? = some (1, 0)) <|
    bnd ((H.D a132 3)) fun x135 =>
    ck (H.sh[a130]? = some (1, 0)) <|
    bT (F_Lexer_refuse N a130 (5 : Int32) x135 H) fun v138 H139 =>
    B_Body_readEmit_180 N p0 l1 H139
    else
    B_Body_readEmit_180 N p0 l1 H
set_option maxRecDepth 20000 in
set_option maxHeartbeats 2000000 in
theorem mB_Body_readEmit_148 {N : Nat} {p0 : Nat} {l1 : Int32} {l2 : Int32} {l3 : Int32} {H : Hp} {r : (Ot Unit) × Hp} (hF : B_Body_readEmit_148 N p0 l1 l2 l3 H = some r) : Mo H r.2 := by
  unfold B_Body_readEmit_148 at hF
  have hm := Mo.rf H
  obtain ⟨q141, hG⟩ := ck_s hF; clear hF
  obtain ⟨a142, e143, hF⟩ := rf_s hG; clear hG
  obtain ⟨q144, hG⟩ := ck_s hF; clear hF
  obtain ⟨x145, -, hF⟩ := bnd_g hG; clear hG
  rcases ite_s hF with ⟨q_133, hG⟩ | ⟨q_133, hG⟩
  · clear hF
    rcases ite_s hG with ⟨q_134, hF⟩ | ⟨q_134, hF⟩
    · clear hG
      exact hm.tr (mB_Body_readEmit_180 hF)
    · clear hG
      obtain ⟨a148, e149, hG⟩ := rf_s hF; clear hF
      obtain ⟨a150, e151, hF⟩ := rf_s hG; clear hG
      obtain ⟨q152, hG⟩ := ck_s hF; clear hF
      obtain ⟨x153, -, hF⟩ := bnd_g hG; clear hG
      obtain ⟨q154, hG⟩ := ck_s hF; clear hF
      refine bT_c hG (fun x158 H157 z155 er => ?_) (fun v156 H157 z155 hF => ?_)
      · subst er; exact hm.tr (m_Lexer_refuse z155)
      clear hG
      replace hm : Mo H H157 := hm.tr (m_Lexer_refuse z155)
      exact hm.tr (mB_Body_readEmit_180 hF)
  · clear hF
    exact hm.tr (mB_Body_readEmit_180 hG)
set_option maxRecDepth 20000 in
set_option maxHeartbeats 2000000 in
theorem kB_Body_readEmit_148 {N : Nat} {p0 : Nat} {c0 s0 C Sl : Nat} {l1 : Int32} {l2 : Int32} {l3 : Int32} {H : Hp} {r : (Ot Unit) × Hp} (hF : B_Body_readEmit_148 N p0 l1 l2 l3 H = some r) (hc0 : c0 ≤ H.sh.length) (hs0 : s0 ≤ H.sl) (hcc : H.sh.length ≤ c0 + C) (hss : H.sl ≤ s0 + Sl) (hC : r.2.sh.length ≤ c0 + C) (hS : r.2.sl ≤ s0 + Sl) : ab_V y_Body_readEmit { frames := 571, cells := C, slots := Sl, locals := 13524 } (po (oV r.1) r.2) C Sl (H.sh.length - c0) (H.sl - s0) 148 [some (.ref p0), some (.int l1), some (.int l2), some (.int l3), none, none] [] (hpw H) := by
  unfold B_Body_readEmit_148 at hF
  refine ab_aload_n d_Body_readEmit_148 rfl rfl rfl ?_
  obtain ⟨q31, hG⟩ := ck_s hF; clear hF
  obtain ⟨a32, e33, hF⟩ := rf_s hG; clear hG
  refine hp_getR (f := 0) d_Body_readEmit_149 q31 (by decide) rfl (by decide) (k1 157 rfl rfl) rfl e33 ?_
  obtain ⟨q34, hG⟩ := ck_s hF; clear hF
  refine hp_getI (f := 2) d_Body_readEmit_152 q34 (by decide) rfl (by decide) (k1 99 rfl rfl) rfl ?_
  refine ab_topi (fun x35 ex35 => ?_)
  replace hG := bnd_s ex35 hG
  refine ab_bipush (v := 13) d_Body_readEmit_155 (by decide) ?_
  refine ab_icmp_ne (tgt := 180) d_Body_readEmit_157 (by decide) (fun q36 => ?_) (fun q36 => ?_)
  · rw [if_neg q36] at hG
    refine ab_le (lv' := [some (.ref p0), some (.int l1), none, none, none, none]) ⟨rfl, ⟨rfl, trivial⟩⟩ ?_
    exact kB_Body_readEmit_180 hG hc0 hs0 hcc hss hC hS
  · rw [if_pos q36] at hG
    refine ab_iload_n d_Body_readEmit_160 rfl rfl ?_
    refine ab_iload_n d_Body_readEmit_161 rfl rfl ?_
    refine ab_icmp_eq (tgt := 180) d_Body_readEmit_162 (by decide) (fun q129 => ?_) (fun q129 => ?_)
    · rw [if_pos q129] at hG
      refine ab_le (lv' := [some (.ref p0), some (.int l1), none, none, none, none]) ⟨rfl, ⟨rfl, trivial⟩⟩ ?_
      exact kB_Body_readEmit_180 hG hc0 hs0 hcc hss hC hS
    · rw [if_neg q129] at hG
      refine ab_aload_n d_Body_readEmit_165 rfl rfl rfl ?_
      obtain ⟨a130, e131, hF⟩ := rf_s hG; clear hG
      refine hp_getR (f := 0) d_Body_readEmit_166 q31 (by decide) rfl (by decide) (k1 157 rfl rfl) rfl e131 ?_
      refine ab_iconst (v := 5) d_Body_readEmit_169 (by decide) ?_
      refine ab_aload_n d_Body_readEmit_170 rfl rfl rfl ?_
      obtain ⟨a132, e133, hG⟩ := rf_s hF; clear hF
      refine hp_getR (f := 0) d_Body_readEmit_171 q31 (by decide) rfl (by decide) (k1 157 rfl rfl) rfl e133 ?_
      obtain ⟨q134, hF⟩ := ck_s hG; clear hG
      refine hp_getI (f := 3) d_Body_readEmit_174 q134 (by decide) rfl (by decide) (k1 103 rfl rfl) rfl ?_
      refine ab_topi (fun x135 ex135 => ?_)
      replace hF := bnd_s ex135 hF
      obtain ⟨q136, hG⟩ := ck_s hF; clear hF
      refine bT_c hG (fun x140 H139 z137 er => ?_) (fun v138 H139 z137 hF => ?_)
      · subst er
        have mz : Mo H H139 := (m_Lexer_refuse z137)
        have ml := mz.len
        have m2 := mz.2
        have hC9 : H139.sh.length ≤ c0 + C := hC
        have hS9 : H139.sl ≤ s0 + Sl := hS
        refine hp_callV_t (x := x140) (H1 := H139) (As := [.int 5, .int x135]) (rest := []) d_Body_readEmit_177 (k_Lexer_refuse z137 (C := H139.sh.length - H.sh.length) (Sl := H139.sl - H.sl) (by show H139.sh.length ≤ _; omega) (by show H139.sl ≤ _; omega)) (ab_mkC s_Lexer_refuse (Nat.le_of_ble_eq_true rfl) (Nat.le_of_ble_eq_true rfl) (show (H.sh.length - c0) + (H139.sh.length - H.sh.length) ≤ C from by omega) (show (H.sl - s0) + (H139.sl - H.sl) ≤ Sl from by omega)) (k5 135 rfl rfl) i_Lexer_refuse v_Lexer_refuse q136 (by decide) rfl rfl (Nat.le_of_ble_eq_true rfl) ?_
        exact ab_U_out rfl (by show _ + (H139.sh.length - H.sh.length) ≤ C; omega) (by show _ + (H139.sl - H.sl) ≤ Sl; omega) ⟨rfl, rfl⟩
      clear hG
      have mz_127 : Mo H H139 := (m_Lexer_refuse z137)
      have b_128l := (mz_127).len
      have b_128s := (mz_127).2
      have b_128c : c0 ≤ H139.sh.length := by omega
      have b_128d : s0 ≤ H139.sl := by omega
      have q_129 := (mz_127).get q31
      have q_130 := (mz_127).get q34
      have q_131 := (mz_127).get q134
      have q_132 := (mz_127).get q136
      have fH139 : Mo H139 r.2 := by
        have hm := Mo.rf H139
        exact hm.tr (mB_Body_readEmit_180 hF)
      have b_128m := (fH139).len
      have b_128n := (fH139).2
      have b_128p : H139.sh.length ≤ c0 + C := by omega
      have b_128q : H139.sl ≤ s0 + Sl := by omega
      refine hp_callV_v (H1 := H139) (As := [.int 5, .int x135]) (rest := []) d_Body_readEmit_177 (k_Lexer_refuse z137 (C := H139.sh.length - H.sh.length) (Sl := H139.sl - H.sl) (by show H139.sh.length ≤ _; omega) (by show H139.sl ≤ _; omega)) (ab_mkC s_Lexer_refuse (Nat.le_of_ble_eq_true rfl) (Nat.le_of_ble_eq_true rfl) (show (H.sh.length - c0) + (H139.sh.length - H.sh.length) ≤ C from by omega) (show (H.sl - s0) + (H139.sl - H.sl) ≤ Sl from by omega)) (k5 135 rfl rfl) i_Lexer_refuse v_Lexer_refuse q136 (by decide) rfl rfl (Nat.le_of_ble_eq_true rfl) ?_
      refine ab_widen (cells' := H139.sh.length - c0) (slots' := H139.sl - s0) (by show _ + (H139.sh.length - H.sh.length) ≤ _; omega) (by show _ + (H139.sl - H.sl) ≤ _; omega) ?_
      clear b_128l b_128s b_128m b_128n
      refine ab_le (lv' := [some (.ref p0), some (.int l1), none, none, none, none]) ⟨rfl, ⟨rfl, trivial⟩⟩ ?_
      exact kB_Body_readEmit_180 hF b_128c b_128d b_128p b_128q hC hS
def B_Body_readEmit_142 (N : Nat) (p0 : Nat) (kq53 : Int32 → Int32 → Int32 → Int32 → Int32 → Hp → Option ((Ot Unit) × Hp)) (l1 : Int32) (l2 : Int32) (l3 : Int32) (l4 : Int32) (l5 : Int32) (H : Hp) : Option ((Ot Unit) × Hp) :=
    kq53 l1 l2 l3 l4 (l5 + 1) H
set_option maxRecDepth 20000 in
set_option maxHeartbeats 2000000 in
theorem mB_Body_readEmit_142 {N : Nat} {p0 : Nat} {kq53 : Int32 → Int32 → Int32 → Int32 → Int32 → Hp → Option ((Ot Unit) × Hp)} (hm53 : ∀ (l1 : Int32) (l2 : Int32) (l3 : Int32) (l4 : Int32) (l5 : Int32) (H : Hp) (r : (Ot Unit) × Hp), kq53 l1 l2 l3 l4 l5 H = some r → Mo H r.2) {l1 : Int32} {l2 : Int32} {l3 : Int32} {l4 : Int32} {l5 : Int32} {H : Hp} {r : (Ot Unit) × Hp} (hF : B_Body_readEmit_142 N p0 kq53 l1 l2 l3 l4 l5 H = some r) : Mo H r.2 := by
  unfold B_Body_readEmit_142 at hF
  have hm := Mo.rf H
  exact hm.tr (hm53 l1 l2 l3 l4 (l5 + 1) H r hF)
set_option maxRecDepth 20000 in
set_option maxHeartbeats 2000000 in
theorem kB_Body_readEmit_142 {N : Nat} {p0 : Nat} {kq53 : Int32 → Int32 → Int32 → Int32 → Int32 → Hp → Option ((Ot Unit) × Hp)} {c0 s0 C Sl : Nat} (hm53 : ∀ (l1 : Int32) (l2 : Int32) (l3 : Int32) (l4 : Int32) (l5 : Int32) (H : Hp) (r : (Ot Unit) × Hp), kq53 l1 l2 l3 l4 l5 H = some r → Mo H r.2) (hk53 : ∀ (l1 : Int32) (l2 : Int32) (l3 : Int32) (l4 : Int32) (l5 : Int32) (H : Hp) (r : (Ot Unit) × Hp), kq53 l1 l2 l3 l4 l5 H = some r → c0 ≤ H.sh.length → s0 ≤ H.sl → H.sh.length ≤ c0 + C → H.sl ≤ s0 + Sl → r.2.sh.length ≤ c0 + C → r.2.sl ≤ s0 + Sl → ab_V y_Body_readEmit { frames := 571, cells := C, slots := Sl, locals := 13524 } (po (oV r.1) r.2) C Sl (H.sh.length - c0) (H.sl - s0) 53 [some (.ref p0), some (.int l1), some (.int l2), some (.int l3), some (.int l4), some (.int l5)] [] (hpw H)) {l1 : Int32} {l2 : Int32} {l3 : Int32} {l4 : Int32} {l5 : Int32} {H : Hp} {r : (Ot Unit) × Hp} (hF : B_Body_readEmit_142 N p0 kq53 l1 l2 l3 l4 l5 H = some r) (hc0 : c0 ≤ H.sh.length) (hs0 : s0 ≤ H.sl) (hcc : H.sh.length ≤ c0 + C) (hss : H.sl ≤ s0 + Sl) (hC : r.2.sh.length ≤ c0 + C) (hS : r.2.sl ≤ s0 + Sl) : ab_V y_Body_readEmit { frames := 571, cells := C, slots := Sl, locals := 13524 } (po (oV r.1) r.2) C Sl (H.sh.length - c0) (H.sl - s0) 142 [some (.ref p0), some (.int l1), some (.int l2), some (.int l3), some (.int l4), some (.int l5)] [] (hpw H) := by
  unfold B_Body_readEmit_142 at hF
  refine ab_iinc (v := l5 + 1) (lv' := [some (.ref p0), some (.int l1), some (.int l2), some (.int l3), some (.int l4), some (.int (l5 + 1))]) d_Body_readEmit_142 rfl rfl (by decide) rfl ?_
  refine ab_goto (tgt := 53) d_Body_readEmit_145 (by decide) ?_
  exact hk53 l1 l2 l3 l4 (l5 + 1) H r hF hc0 hs0 hcc hss hC hS
def B_Body_readEmit_128 (N : Nat) (p0 : Nat) (kq53 : Int32 → Int32 → Int32 → Int32 → Int32 → Hp → Option ((Ot Unit) × Hp)) (l1 : Int32) (l2 : Int32) (l3 : Int32) (l5 : Int32) (w0 : Int32) (H : Hp) : Option ((Ot Unit) × Hp) :=
    if w0 = (0 : Int32) then
    B_Body_readEmit_142 N p0 kq53 l1 l2 l3 w0 l5 H
    else
    ck (H.sh[p0]? = some (6, 0)) <|
    rf (H.P p0 0) fun a174 =>
    ck (H.sh[a174]? = some (1, 0)) <|
    bC (F_Lexer_advance N a174 H) fun v178 H179 =>
    B_Body_readEmit_142 N p0 kq53 l1 l2 l3 w0 l5 H179
set_option maxRecDepth 20000 in
set_option maxHeartbeats 2000000 in
theorem mB_Body_readEmit_128 {N : Nat} {p0 : Nat} {kq53 : Int32 → Int32 → Int32 → Int32 → Int32 → Hp → Option ((Ot Unit) × Hp)} (hm53 : ∀ (l1 : Int32) (l2 : Int32) (l3 : Int32) (l4 : Int32) (l5 : Int32) (H : Hp) (r : (Ot Unit) × Hp), kq53 l1 l2 l3 l4 l5 H = some r → Mo H r.2) {l1 : Int32} {l2 : Int32} {l3 : Int32} {l5 : Int32} {w0 : Int32} {H : Hp} {r : (Ot Unit) × Hp} (hF : B_Body_readEmit_128 N p0 kq53 l1 l2 l3 l5 w0 H = some r) : Mo H r.2 := by
  unfold B_Body_readEmit_128 at hF
  have hm := Mo.rf H
  rcases ite_s hF with ⟨q_146, hG⟩ | ⟨q_146, hG⟩
  · clear hF
    exact hm.tr (mB_Body_readEmit_142 hm53 hG)
  · clear hF
    obtain ⟨q181, hF⟩ := ck_s hG; clear hG
    obtain ⟨a182, e183, hG⟩ := rf_s hF; clear hF
    obtain ⟨q184, hF⟩ := ck_s hG; clear hG
    obtain ⟨v186, H187, z185, hG⟩ := bC_s hF; clear hF
    replace hm : Mo H H187 := hm.tr ((m_Lexer_advance z185)).mo
    exact hm.tr (mB_Body_readEmit_142 hm53 hG)
set_option maxRecDepth 20000 in
set_option maxHeartbeats 2000000 in
theorem kB_Body_readEmit_128 {N : Nat} {p0 : Nat} {kq53 : Int32 → Int32 → Int32 → Int32 → Int32 → Hp → Option ((Ot Unit) × Hp)} {c0 s0 C Sl : Nat} (hm53 : ∀ (l1 : Int32) (l2 : Int32) (l3 : Int32) (l4 : Int32) (l5 : Int32) (H : Hp) (r : (Ot Unit) × Hp), kq53 l1 l2 l3 l4 l5 H = some r → Mo H r.2) (hk53 : ∀ (l1 : Int32) (l2 : Int32) (l3 : Int32) (l4 : Int32) (l5 : Int32) (H : Hp) (r : (Ot Unit) × Hp), kq53 l1 l2 l3 l4 l5 H = some r → c0 ≤ H.sh.length → s0 ≤ H.sl → H.sh.length ≤ c0 + C → H.sl ≤ s0 + Sl → r.2.sh.length ≤ c0 + C → r.2.sl ≤ s0 + Sl → ab_V y_Body_readEmit { frames := 571, cells := C, slots := Sl, locals := 13524 } (po (oV r.1) r.2) C Sl (H.sh.length - c0) (H.sl - s0) 53 [some (.ref p0), some (.int l1), some (.int l2), some (.int l3), some (.int l4), some (.int l5)] [] (hpw H)) {l1 : Int32} {l2 : Int32} {l3 : Int32} {l5 : Int32} {w0 : Int32} {H : Hp} {r : (Ot Unit) × Hp} (hF : B_Body_readEmit_128 N p0 kq53 l1 l2 l3 l5 w0 H = some r) (hc0 : c0 ≤ H.sh.length) (hs0 : s0 ≤ H.sl) (hcc : H.sh.length ≤ c0 + C) (hss : H.sl ≤ s0 + Sl) (hC : r.2.sh.length ≤ c0 + C) (hS : r.2.sl ≤ s0 + Sl) : ab_V y_Body_readEmit { frames := 571, cells := C, slots := Sl, locals := 13524 } (po (oV r.1) r.2) C Sl (H.sh.length - c0) (H.sl - s0) 128 [some (.ref p0), some (.int l1), some (.int l2), some (.int l3), none, some (.int l5)] [.int w0] (hpw H) := by
  unfold B_Body_readEmit_128 at hF
  refine ab_istore (lv' := [some (.ref p0), some (.int l1), some (.int l2), some (.int l3), some (.int w0), some (.int l5)]) d_Body_readEmit_128 (by decide) rfl ?_
  refine ab_iload d_Body_readEmit_130 rfl ?_
  refine ab_if_eq (tgt := 142) d_Body_readEmit_132 (by decide) (fun q172 => ?_) (fun q172 => ?_)
  · rw [if_pos q172] at hF
    exact kB_Body_readEmit_142 hm53 hk53 hF hc0 hs0 hcc hss hC hS
  · rw [if_neg q172] at hF
    refine ab_aload_n d_Body_readEmit_135 rfl rfl rfl ?_
    obtain ⟨q173, hG⟩ := ck_s hF; clear hF
    obtain ⟨a174, e175, hF⟩ := rf_s hG; clear hG
    refine hp_getR (f := 0) d_Body_readEmit_136 q173 (by decide) rfl (by decide) (k1 157 rfl rfl) rfl e175 ?_
    obtain ⟨q176, hG⟩ := ck_s hF; clear hF
    obtain ⟨v178, H179, z177, hF⟩ := bC_s hG; clear hG
    refine hp_callV_v (H1 := H179) (As := []) (rest := []) d_Body_readEmit_139 (k_Lexer_advance z177) (ab_mkC s_Lexer_advance (Nat.le_of_ble_eq_true rfl) (Nat.le_of_ble_eq_true rfl) (show (H.sh.length - c0) + 0 ≤ C from by omega) (show (H.sl - s0) + 0 ≤ Sl from by omega)) (k5 129 rfl rfl) i_Lexer_advance v_Lexer_advance q176 (by decide) rfl rfl (Nat.le_of_ble_eq_true rfl) ?_
    have s_145 : Sa H H179 := (m_Lexer_advance z177)
    refine ab_widen (cells' := H.sh.length - c0) (slots' := H.sl - s0) (by show (H.sh.length - c0) + 0 ≤ _; omega) (by show (H.sl - s0) + 0 ≤ _; omega) ?_
    refine ab_widen (cells' := H179.sh.length - c0) (slots' := H179.sl - s0) (by rw [(s_145).1]; exact Nat.le_refl _) (by rw [(s_145).2]; exact Nat.le_refl _) ?_
    exact kB_Body_readEmit_142 hm53 hk53 hF (by rw [(s_145).1]; exact hc0) (by rw [(s_145).2]; exact hs0) (by rw [(s_145).1]; exact hcc) (by rw [(s_145).2]; exact hss) hC hS
def B_Body_readEmit_104 (N : Nat) (p0 : Nat) (kq53 : Int32 → Int32 → Int32 → Int32 → Int32 → Hp → Option ((Ot Unit) × Hp)) (l1 : Int32) (l2 : Int32) (l3 : Int32) (l5 : Int32) (w0 : Nat) (w1 : Int32) (H : Hp) : Option ((Ot Unit) × Hp) :=
    ck (H.sh[w0]? = some (6, 0)) <|
    bT (F_Body_want N (X_BodyE N 140) w0 w1 H) fun v163 H164 =>
    ck (H164.sh[p0]? = some (6, 0)) <|
    rf (H164.P p0 0) fun a167 =>
    ck (H164.sh[a167]? = some (1, 0)) <|
    bnd ((H164.D a167 2)) fun x170 =>
    if x170 = (14 : Int32) then
    B_Body_readEmit_128 N p0 kq53 l1 l2 (l3 + 1) l5 1 H164
    else
    B_Body_readEmit_128 N p0 kq53 l1 l2 (l3 + 1) l5 0 H164
set_option maxRecDepth 20000 in
set_option maxHeartbeats 2000000 in
theorem mB_Body_readEmit_104 {N : Nat} {p0 : Nat} {kq53 : Int32 → Int32 → Int32 → Int32 → Int32 → Hp → Option ((Ot Unit) × Hp)} (hm53 : ∀ (l1 : Int32) (l2 : Int32) (l3 : Int32) (l4 : Int32) (l5 : Int32) (H : Hp) (r : (Ot Unit) × Hp), kq53 l1 l2 l3 l4 l5 H = some r → Mo H r.2) {l1 : Int32} {l2 : Int32} {l3 : Int32} {l5 : Int32} {w0 : Nat} {w1 : Int32} {H : Hp} {r : (Ot Unit) × Hp} (hF : B_Body_readEmit_104 N p0 kq53 l1 l2 l3 l5 w0 w1 H = some r) : Mo H r.2 := by
  unfold B_Body_readEmit_104 at hF
  have hm := Mo.rf H
  obtain ⟨q172, hG⟩ := ck_s hF; clear hF
  refine bT_c hG (fun x176 H175 z173 er => ?_) (fun v174 H175 z173 hF => ?_)
  · subst er; exact hm.tr (m_Body_want (moX_BodyE 140) z173)
  clear hG
  replace hm : Mo H H175 := hm.tr (m_Body_want (moX_BodyE 140) z173)
  obtain ⟨q177, hG⟩ := ck_s hF; clear hF
  obtain ⟨a178, e179, hF⟩ := rf_s hG; clear hG
  obtain ⟨q180, hG⟩ := ck_s hF; clear hF
  obtain ⟨x181, -, hF⟩ := bnd_g hG; clear hG
  rcases ite_s hF with ⟨q_149, hG⟩ | ⟨q_149, hG⟩
  · clear hF
    exact hm.tr (mB_Body_readEmit_128 hm53 hG)
  · clear hF
    exact hm.tr (mB_Body_readEmit_128 hm53 hG)
set_option maxRecDepth 20000 in
set_option maxHeartbeats 2000000 in
theorem kB_Body_readEmit_104 {N : Nat} {p0 : Nat} {kq53 : Int32 → Int32 → Int32 → Int32 → Int32 → Hp → Option ((Ot Unit) × Hp)} {c0 s0 C Sl : Nat} (hm53 : ∀ (l1 : Int32) (l2 : Int32) (l3 : Int32) (l4 : Int32) (l5 : Int32) (H : Hp) (r : (Ot Unit) × Hp), kq53 l1 l2 l3 l4 l5 H = some r → Mo H r.2) (hk53 : ∀ (l1 : Int32) (l2 : Int32) (l3 : Int32) (l4 : Int32) (l5 : Int32) (H : Hp) (r : (Ot Unit) × Hp), kq53 l1 l2 l3 l4 l5 H = some r → c0 ≤ H.sh.length → s0 ≤ H.sl → H.sh.length ≤ c0 + C → H.sl ≤ s0 + Sl → r.2.sh.length ≤ c0 + C → r.2.sl ≤ s0 + Sl → ab_V y_Body_readEmit { frames := 571, cells := C, slots := Sl, locals := 13524 } (po (oV r.1) r.2) C Sl (H.sh.length - c0) (H.sl - s0) 53 [some (.ref p0), some (.int l1), some (.int l2), some (.int l3), some (.int l4), some (.int l5)] [] (hpw H)) {l1 : Int32} {l2 : Int32} {l3 : Int32} {l5 : Int32} {w0 : Nat} {w1 : Int32} {H : Hp} {r : (Ot Unit) × Hp} (hF : B_Body_readEmit_104 N p0 kq53 l1 l2 l3 l5 w0 w1 H = some r) (hc0 : c0 ≤ H.sh.length) (hs0 : s0 ≤ H.sl) (hcc : H.sh.length ≤ c0 + C) (hss : H.sl ≤ s0 + Sl) (hC : r.2.sh.length ≤ c0 + C) (hS : r.2.sl ≤ s0 + Sl) : ab_V y_Body_readEmit { frames := 571, cells := C, slots := Sl, locals := 13524 } (po (oV r.1) r.2) C Sl (H.sh.length - c0) (H.sl - s0) 104 [some (.ref p0), some (.int l1), some (.int l2), some (.int l3), none, some (.int l5)] [.int w1, .ref w0] (hpw H) := by
  unfold B_Body_readEmit_104 at hF
  obtain ⟨q161, hG⟩ := ck_s hF; clear hF
  refine bT_c hG (fun x165 H164 z162 er => ?_) (fun v163 H164 z162 hF => ?_)
  · subst er
    have mz : Mo H H164 := (m_Body_want (moX_BodyE 140) z162)
    have ml := mz.len
    have m2 := mz.2
    have hC9 : H164.sh.length ≤ c0 + C := hC
    have hS9 : H164.sl ≤ s0 + Sl := hS
    refine hp_callV_t (x := x165) (H1 := H164) (As := [.int w1]) (rest := []) d_Body_readEmit_104 (k_Body_want (okX_BodyE 140) (moX_BodyE 140) z162 (C := H164.sh.length - H.sh.length) (Sl := H164.sl - H.sl) (by show H164.sh.length ≤ _; omega) (by show H164.sl ≤ _; omega)) (ab_mkC s_Body_want (Nat.le_of_ble_eq_true rfl) (Nat.le_of_ble_eq_true rfl) (show (H.sh.length - c0) + (H164.sh.length - H.sh.length) ≤ C from by omega) (show (H.sl - s0) + (H164.sl - H.sl) ≤ Sl from by omega)) (k5 137 rfl rfl) i_Body_want v_Body_want q161 (by decide) rfl rfl (Nat.le_of_ble_eq_true rfl) ?_
    exact ab_U_out rfl (by show _ + (H164.sh.length - H.sh.length) ≤ C; omega) (by show _ + (H164.sl - H.sl) ≤ Sl; omega) ⟨rfl, rfl⟩
  clear hG
  have mz_140 : Mo H H164 := (m_Body_want (moX_BodyE 140) z162)
  have b_141l := (mz_140).len
  have b_141s := (mz_140).2
  have b_141c : c0 ≤ H164.sh.length := by omega
  have b_141d : s0 ≤ H164.sl := by omega
  have q_142 := (mz_140).get q161
  obtain ⟨q166, hG⟩ := ck_s hF; clear hF
  obtain ⟨a167, e168, hF⟩ := rf_s hG; clear hG
  obtain ⟨q169, hG⟩ := ck_s hF; clear hF
  obtain ⟨x170, ex170, hF⟩ := bnd_g hG; clear hG
  have fH164 : Mo H164 r.2 := by
    have hm := Mo.rf H164
    rcases ite_s hF with ⟨q_143, hG⟩ | ⟨q_143, hG⟩
    · clear hF
      exact hm.tr (mB_Body_readEmit_128 hm53 hG)
    · clear hF
      exact hm.tr (mB_Body_readEmit_128 hm53 hG)
  have b_141m := (fH164).len
  have b_141n := (fH164).2
  have b_141p : H164.sh.length ≤ c0 + C := by omega
  have b_141q : H164.sl ≤ s0 + Sl := by omega
  refine hp_callV_a (v := .int v163) (H1 := H164) (As := [.int w1]) (rest := []) d_Body_readEmit_104 (k_Body_want (okX_BodyE 140) (moX_BodyE 140) z162 (C := H164.sh.length - H.sh.length) (Sl := H164.sl - H.sl) (by show H164.sh.length ≤ _; omega) (by show H164.sl ≤ _; omega)) (ab_mkC s_Body_want (Nat.le_of_ble_eq_true rfl) (Nat.le_of_ble_eq_true rfl) (show (H.sh.length - c0) + (H164.sh.length - H.sh.length) ≤ C from by omega) (show (H.sl - s0) + (H164.sl - H.sl) ≤ Sl from by omega)) (k5 137 rfl rfl) i_Body_want v_Body_want q161 (by decide) rfl rfl (Nat.le_of_ble_eq_true rfl) ?_
  refine ab_widen (cells' := H164.sh.length - c0) (slots' := H164.sl - s0) (by show _ + (H164.sh.length - H.sh.length) ≤ _; omega) (by show _ + (H164.sl - H.sl) ≤ _; omega) ?_
  clear b_141l b_141s b_141m b_141n
  refine ab_pop d_Body_readEmit_107 rfl ?_
  refine ab_iinc (v := l3 + 1) (lv' := [some (.ref p0), some (.int l1), some (.int l2), some (.int (l3 + 1)), none, some (.int l5)]) d_Body_readEmit_108 rfl rfl (by decide) rfl ?_
  refine ab_aload_n d_Body_readEmit_111 rfl rfl rfl ?_
  refine hp_getR (f := 0) d_Body_readEmit_112 q166 (by decide) rfl (by decide) (k1 157 rfl rfl) rfl e168 ?_
  refine hp_getI (f := 2) d_Body_readEmit_115 q169 (by decide) rfl (by decide) (k1 99 rfl rfl) rfl ?_
  refine ab_topxi ex170 ?_
  refine ab_bipush (v := 14) d_Body_readEmit_118 (by decide) ?_
  refine ab_icmp_ne (tgt := 127) d_Body_readEmit_120 (by decide) (fun q171 => ?_) (fun q171 => ?_)
  · rw [if_neg q171] at hF
    refine ab_iconst (v := 0) d_Body_readEmit_127 (by decide) ?_
    exact kB_Body_readEmit_128 hm53 hk53 hF b_141c b_141d b_141p b_141q hC hS
  · rw [if_pos q171] at hF
    refine ab_iconst (v := 1) d_Body_readEmit_123 (by decide) ?_
    refine ab_goto (tgt := 128) d_Body_readEmit_124 (by decide) ?_
    exact kB_Body_readEmit_128 hm53 hk53 hF b_141c b_141d b_141p b_141q hC hS
def B_Body_readEmit_53 (N : Nat) (p0 : Nat) : Nat → Int32 → Int32 → Int32 → Int32 → Int32 → Hp → Option ((Ot Unit) × Hp)
  | 0, _, _, _, _, _, _ => none
  | n + 1, l1, l2, l3, l4, l5, H =>
    if (6000 : Int32) < l5 then
    B_Body_readEmit_148 N p0 l1 l2 l3 H
    else
    if l4 = (0 : Int32) then
    B_Body_readEmit_148 N p0 l1 l2 l3 H
    else
    if l2 ≤ l3 then
    B_Body_readEmit_104 N p0 (fun l1 l2 l3 l4 l5 H => B_Body_readEmit_53 N p0 n l1 l2 l3 l4 l5 H) l1 l2 l3 l5 p0 (-1) H
    else
    ck (H.sh[p0]? = some (6, 0)) <|
    rf (H.P p0 1) fun a184 =>
    ck (H.sh[a184]? = some (4, 0)) <|
    rf (H.P a184 3) fun a187 =>
    ck (H.sh[a187]? = some (3, 0)) <|
    rf (H.P a187 1) fun a190 =>
    rf (H.P p0 1) fun a192 =>
    ck (H.sh[a192]? = some (4, 0)) <|
    rf (H.P a192 3) fun a195 =>
    ck (H.sh[a195]? = some (3, 0)) <|
    rf (H.P a195 2) fun a198 =>
    ar H 100 a198 fun n200 =>
    ck (inb l1 n200) <|
    bnd ((H.D a198 (l1).toNatClampNeg)) fun x203 =>
    ar H 106 a190 fun n204 =>
    ck (inb (x203 + l3) n204) <|
    rf (H.P a190 ((x203 + l3)).toNatClampNeg) fun a207 =>
    ck (H.sh[a207]? = some (2, 0)) <|
    bnd ((H.D a207 3)) fun x210 =>
    B_Body_readEmit_104 N p0 (fun l1 l2 l3 l4 l5 H => B_Body_readEmit_53 N p0 n l1 l2 l3 l4 l5 H) l1 l2 l3 l5 p0 x210 H
termination_by structural n => n
set_option maxRecDepth 20000 in
set_option maxHeartbeats 2000000 in
theorem mB_Body_readEmit_53 {N : Nat} {p0 : Nat} : ∀ (n : Nat) (l1 : Int32) (l2 : Int32) (l3 : Int32) (l4 : Int32) (l5 : Int32) (H : Hp) (r : (Ot Unit) × Hp), B_Body_readEmit_53 N p0 n l1 l2 l3 l4 l5 H = some r → Mo H r.2 := by
  intro n
  induction n with
  | zero => intro l1 l2 l3 l4 l5 H r hF; rw [B_Body_readEmit_53] at hF; cases hF
  | succ n ih =>
    intro l1 l2 l3 l4 l5 H r hF
    rw [B_Body_readEmit_53] at hF
    have hm := Mo.rf H
    rcases ite_s hF with ⟨q_150, hG⟩ | ⟨q_150, hG⟩
    · clear hF
      exact hm.tr (mB_Body_readEmit_148 hG)
    · clear hF
      rcases ite_s hG with ⟨q_151, hF⟩ | ⟨q_151, hF⟩
      · clear hG
        exact hm.tr (mB_Body_readEmit_148 hF)
      · clear hG
        rcases ite_s hF with ⟨q_152, hG⟩ | ⟨q_152, hG⟩
        · clear hF
          exact hm.tr (mB_Body_readEmit_104 ih hG)
        · clear hF
          obtain ⟨q214, hF⟩ := ck_s hG; clear hG
          obtain ⟨a215, e216, hG⟩ := rf_s hF; clear hF
          obtain ⟨q217, hF⟩ := ck_s hG; clear hG
          obtain ⟨a218, e219, hG⟩ := rf_s hF; clear hF
          obtain ⟨q220, hF⟩ := ck_s hG; clear hG
          obtain ⟨a221, e222, hG⟩ := rf_s hF; clear hF
          obtain ⟨a223, e224, hF⟩ := rf_s hG; clear hG
          obtain ⟨q225, hG⟩ := ck_s hF; clear hF
          obtain ⟨a226, e227, hF⟩ := rf_s hG; clear hG
          obtain ⟨q228, hG⟩ := ck_s hF; clear hF
          obtain ⟨a229, e230, hF⟩ := rf_s hG; clear hG
          obtain ⟨n231, q232, hG⟩ := ar_s hF; clear hF
          obtain ⟨q233, hF⟩ := ck_s hG; clear hG
          obtain ⟨x234, -, hG⟩ := bnd_g hF; clear hF
          obtain ⟨n235, q236, hF⟩ := ar_s hG; clear hG
          obtain ⟨q237, hG⟩ := ck_s hF; clear hF
          obtain ⟨a238, e239, hF⟩ := rf_s hG; clear hG
          obtain ⟨q240, hG⟩ := ck_s hF; clear hF
          obtain ⟨x241, -, hF⟩ := bnd_g hG; clear hG
          exact hm.tr (mB_Body_readEmit_104 ih hF)
set_option maxRecDepth 20000 in
set_option maxHeartbeats 2000000 in
theorem kB_Body_readEmit_53 {N : Nat} {p0 : Nat} {c0 s0 C Sl : Nat} : ∀ (n : Nat) (l1 : Int32) (l2 : Int32) (l3 : Int32) (l4 : Int32) (l5 : Int32) (H : Hp) (r : (Ot Unit) × Hp), B_Body_readEmit_53 N p0 n l1 l2 l3 l4 l5 H = some r → c0 ≤ H.sh.length → s0 ≤ H.sl → H.sh.length ≤ c0 + C → H.sl ≤ s0 + Sl → r.2.sh.length ≤ c0 + C → r.2.sl ≤ s0 + Sl → ab_V y_Body_readEmit { frames := 571, cells := C, slots := Sl, locals := 13524 } (po (oV r.1) r.2) C Sl (H.sh.length - c0) (H.sl - s0) 53 [some (.ref p0), some (.int l1), some (.int l2), some (.int l3), some (.int l4), some (.int l5)] [] (hpw H) := by
  intro n
  induction n with
  | zero => intro l1 l2 l3 l4 l5 H r hF; rw [B_Body_readEmit_53] at hF; cases hF
  | succ n ih =>
    intro l1 l2 l3 l4 l5 H r hF hc0 hs0 hcc hss hC hS
    rw [B_Body_readEmit_53] at hF
    refine ab_iload d_Body_readEmit_53 rfl ?_
    refine ab_sipush (v := 6000) d_Body_readEmit_55 (by decide) ?_
    refine ab_icmp_gt (tgt := 148) d_Body_readEmit_58 (by decide) (fun q30 => ?_) (fun q30 => ?_)
    · rw [if_pos q30] at hF
      refine ab_le (lv' := [some (.ref p0), some (.int l1), some (.int l2), some (.int l3), none, none]) ⟨rfl, ⟨rfl, ⟨rfl, ⟨rfl, trivial⟩⟩⟩⟩ ?_
      exact kB_Body_readEmit_148 hF hc0 hs0 hcc hss hC hS
    · rw [if_neg q30] at hF
      refine ab_iload d_Body_readEmit_61 rfl ?_
      refine ab_if_eq (tgt := 148) d_Body_readEmit_63 (by decide) (fun q159 => ?_) (fun q159 => ?_)
      · rw [if_pos q159] at hF
        refine ab_le (lv' := [some (.ref p0), some (.int l1), some (.int l2), some (.int l3), none, none]) ⟨rfl, ⟨rfl, ⟨rfl, ⟨rfl, trivial⟩⟩⟩⟩ ?_
        exact kB_Body_readEmit_148 hF hc0 hs0 hcc hss hC hS
      · rw [if_neg q159] at hF
        refine ab_aload_n d_Body_readEmit_66 rfl rfl rfl ?_
        refine ab_iload_n d_Body_readEmit_67 rfl rfl ?_
        refine ab_iload_n d_Body_readEmit_68 rfl rfl ?_
        refine ab_icmp_ge (tgt := 103) d_Body_readEmit_69 (by decide) (fun q160 => ?_) (fun q160 => ?_)
        · rw [if_pos q160] at hF
          refine ab_iconst (v := (-1)) d_Body_readEmit_103 (by decide) ?_
          refine ab_le (lv' := [some (.ref p0), some (.int l1), some (.int l2), some (.int l3), none, some (.int l5)]) ⟨rfl, ⟨rfl, ⟨rfl, ⟨rfl, ⟨rfl, trivial⟩⟩⟩⟩⟩ ?_
          exact kB_Body_readEmit_104 (mB_Body_readEmit_53 n) ih hF hc0 hs0 hcc hss hC hS
        · rw [if_neg q160] at hF
          refine ab_aload_n d_Body_readEmit_72 rfl rfl rfl ?_
          obtain ⟨q183, hG⟩ := ck_s hF; clear hF
          obtain ⟨a184, e185, hF⟩ := rf_s hG; clear hG
          refine hp_getR (f := 1) d_Body_readEmit_73 q183 (by decide) rfl (by decide) (k1 158 rfl rfl) rfl e185 ?_
          obtain ⟨q186, hG⟩ := ck_s hF; clear hF
          obtain ⟨a187, e188, hF⟩ := rf_s hG; clear hG
          refine hp_getR (f := 3) d_Body_readEmit_76 q186 (by decide) rfl (by decide) (k3 68 rfl rfl) rfl e188 ?_
          obtain ⟨q189, hG⟩ := ck_s hF; clear hF
          obtain ⟨a190, e191, hF⟩ := rf_s hG; clear hG
          refine hp_getR (f := 1) d_Body_readEmit_79 q189 (by decide) rfl (by decide) (k3 29 rfl rfl) rfl e191 ?_
          refine ab_aload_n d_Body_readEmit_82 rfl rfl rfl ?_
          obtain ⟨a192, e193, hG⟩ := rf_s hF; clear hF
          refine hp_getR (f := 1) d_Body_readEmit_83 q183 (by decide) rfl (by decide) (k1 158 rfl rfl) rfl e193 ?_
          obtain ⟨q194, hF⟩ := ck_s hG; clear hG
          obtain ⟨a195, e196, hG⟩ := rf_s hF; clear hF
          refine hp_getR (f := 3) d_Body_readEmit_86 q194 (by decide) rfl (by decide) (k3 68 rfl rfl) rfl e196 ?_
          obtain ⟨q197, hF⟩ := ck_s hG; clear hG
          obtain ⟨a198, e199, hG⟩ := rf_s hF; clear hF
          refine hp_getR (f := 2) d_Body_readEmit_89 q197 (by decide) rfl (by decide) (k3 36 rfl rfl) rfl e199 ?_
          refine ab_iload_n d_Body_readEmit_92 rfl rfl ?_
          obtain ⟨n200, q201, hF⟩ := ar_s hG; clear hG
          obtain ⟨q202, hG⟩ := ck_s hF; clear hF
          refine hp_iald d_Body_readEmit_93 tI q201 q202 ?_
          refine ab_topi (fun x203 ex203 => ?_)
          replace hG := bnd_s ex203 hG
          refine ab_iload_n d_Body_readEmit_94 rfl rfl ?_
          refine ab_iadd d_Body_readEmit_95 ?_
          obtain ⟨n204, q205, hF⟩ := ar_s hG; clear hG
          obtain ⟨q206, hG⟩ := ck_s hF; clear hF
          obtain ⟨a207, e208, hF⟩ := rf_s hG; clear hG
          refine hp_aald (q := 106) d_Body_readEmit_96 (by decide) tN q205 q206 e208 ?_
          obtain ⟨q209, hG⟩ := ck_s hF; clear hF
          refine hp_getI (f := 3) d_Body_readEmit_97 q209 (by decide) rfl (by decide) (k3 3 rfl rfl) rfl ?_
          refine ab_topi (fun x210 ex210 => ?_)
          replace hG := bnd_s ex210 hG
          refine ab_goto (tgt := 104) d_Body_readEmit_100 (by decide) ?_
          refine ab_le (lv' := [some (.ref p0), some (.int l1), some (.int l2), some (.int l3), none, some (.int l5)]) ⟨rfl, ⟨rfl, ⟨rfl, ⟨rfl, ⟨rfl, trivial⟩⟩⟩⟩⟩ ?_
          exact kB_Body_readEmit_104 (mB_Body_readEmit_53 n) ih hG hc0 hs0 hcc hss hC hS
def B_Body_readEmit_48 (N : Nat) (p0 : Nat) (l1 : Int32) (l2 : Int32) (l3 : Int32) (w0 : Int32) (H : Hp) : Option ((Ot Unit) × Hp) :=
    B_Body_readEmit_53 N p0 N l1 l2 l3 w0 0 H
set_option maxRecDepth 20000 in
set_option maxHeartbeats 2000000 in
theorem mB_Body_readEmit_48 {N : Nat} {p0 : Nat} {l1 : Int32} {l2 : Int32} {l3 : Int32} {w0 : Int32} {H : Hp} {r : (Ot Unit) × Hp} (hF : B_Body_readEmit_48 N p0 l1 l2 l3 w0 H = some r) : Mo H r.2 := by
  unfold B_Body_readEmit_48 at hF
  have hm := Mo.rf H
  exact hm.tr (mB_Body_readEmit_53 N l1 l2 l3 w0 0 H r hF)
set_option maxRecDepth 20000 in
set_option maxHeartbeats 2000000 in
theorem kB_Body_readEmit_48 {N : Nat} {p0 : Nat} {c0 s0 C Sl : Nat} {l1 : Int32} {l2 : Int32} {l3 : Int32} {w0 : Int32} {H : Hp} {r : (Ot Unit) × Hp} (hF : B_Body_readEmit_48 N p0 l1 l2 l3 w0 H = some r) (hc0 : c0 ≤ H.sh.length) (hs0 : s0 ≤ H.sl) (hcc : H.sh.length ≤ c0 + C) (hss : H.sl ≤ s0 + Sl) (hC : r.2.sh.length ≤ c0 + C) (hS : r.2.sl ≤ s0 + Sl) : ab_V y_Body_readEmit { frames := 571, cells := C, slots := Sl, locals := 13524 } (po (oV r.1) r.2) C Sl (H.sh.length - c0) (H.sl - s0) 48 [some (.ref p0), some (.int l1), some (.int l2), some (.int l3), none, none] [.int w0] (hpw H) := by
  unfold B_Body_readEmit_48 at hF
  refine ab_istore (lv' := [some (.ref p0), some (.int l1), some (.int l2), some (.int l3), some (.int w0), none]) d_Body_readEmit_48 (by decide) rfl ?_
  refine ab_iconst (v := 0) d_Body_readEmit_50 (by decide) ?_
  refine ab_istore (lv' := [some (.ref p0), some (.int l1), some (.int l2), some (.int l3), some (.int w0), some (.int 0)]) d_Body_readEmit_51 (by decide) rfl ?_
  exact kB_Body_readEmit_53 N l1 l2 l3 w0 0 H r hF hc0 hs0 hcc hss hC hS
def F_Body_readEmit (N : Nat) (p0 : Nat) (H : Hp) : Option ((Ot Unit) × Hp) :=
    ck (H.sh[p0]? = some (6, 0)) <|
    rf (H.P p0 0) fun a2 =>
    ck (H.sh[a2]? = some (1, 0)) <|
    bC (F_Lexer_advance N a2 H) fun v6 H7 =>
    bT (F_Body_numberHere N p0 (1 : Int32) H7) fun v9 H10 =>
    bT (F_Body_openParens N p0 H10) fun v13 H14 =>
    rf (H14.P p0 1) fun a16 =>
    ck (H14.sh[a16]? = some (4, 0)) <|
    rf (H14.P a16 3) fun a19 =>
    ck (H14.sh[a19]? = some (3, 0)) <|
    bC (F_Shapes_sizeOf N a19 v9 H14) fun v23 H24 =>
    rf (H24.P p0 0) fun a25 =>
    ck (H24.sh[a25]? = some (1, 0)) <|
    bnd ((H24.D a25 2)) fun x28 =>
    if x28 = (13 : Int32) then
    B_Body_readEmit_48 N p0 v9 v23 0 0 H24
    else
    B_Body_readEmit_48 N p0 v9 v23 0 1 H24
set_option maxRecDepth 20000 in
set_option maxHeartbeats 2000000 in
theorem m_Body_readEmit {N : Nat} {p0 : Nat} {H : Hp} {r : (Ot Unit) × Hp} (hF : F_Body_readEmit N p0 H = some r) : Mo H r.2 := by
  unfold F_Body_readEmit at hF
  have hm := Mo.rf H
  obtain ⟨q30, hG⟩ := ck_s hF; clear hF
  obtain ⟨a31, e32, hF⟩ := rf_s hG; clear hG
  obtain ⟨q33, hG⟩ := ck_s hF; clear hF
  obtain ⟨v35, H36, z34, hF⟩ := bC_s hG; clear hG
  replace hm : Mo H H36 := hm.tr ((m_Lexer_advance z34)).mo
  refine bT_c hF (fun x40 H39 z37 er => ?_) (fun v38 H39 z37 hG => ?_)
  · subst er; exact hm.tr (m_Body_numberHere z37)
  clear hF
  replace hm : Mo H H39 := hm.tr (m_Body_numberHere z37)
  refine bT_c hG (fun x44 H43 z41 er => ?_) (fun v42 H43 z41 hF => ?_)
  · subst er; exact hm.tr (m_Body_openParens z41)
  clear hG
  replace hm : Mo H H43 := hm.tr (m_Body_openParens z41)
  obtain ⟨a45, e46, hG⟩ := rf_s hF; clear hF
  obtain ⟨q47, hF⟩ := ck_s hG; clear hG
  obtain ⟨a48, e49, hG⟩ := rf_s hF; clear hF
  obtain ⟨q50, hF⟩ := ck_s hG; clear hG
  obtain ⟨v52, H53, z51, hG⟩ := bC_s hF; clear hF
  replace hm : Mo H H53 := hm.tr ((m_Shapes_sizeOf z51)).mo
  obtain ⟨a54, e55, hF⟩ := rf_s hG; clear hG
  obtain ⟨q56, hG⟩ := ck_s hF; clear hF
  obtain ⟨x57, -, hF⟩ := bnd_g hG; clear hG
  rcases ite_s hF with ⟨q_167, hG⟩ | ⟨q_167, hG⟩
  · clear hF
    exact hm.tr (mB_Body_readEmit_48 hG)
  · clear hF
    exact hm.tr (mB_Body_readEmit_48 hG)
set_option maxRecDepth 20000 in
set_option maxHeartbeats 2000000 in
theorem k_Body_readEmit {N : Nat} {p0 : Nat} {H : Hp} {r : (Ot Unit) × Hp} {C Sl : Nat} (hF : F_Body_readEmit N p0 H = some r) (hC : r.2.sh.length ≤ H.sh.length + C) (hS : r.2.sl ≤ H.sl + Sl) : ab_M y_Body_readEmit { frames := 571, cells := C, slots := Sl, locals := 13524 } [.ref p0] (hpw H) (po (oV r.1) r.2) := by
  unfold F_Body_readEmit at hF
  obtain ⟨c0, e0⟩ : ∃ q, q = H.sh.length := ⟨_, rfl⟩
  obtain ⟨s0, e1⟩ : ∃ q, q = H.sl := ⟨_, rfl⟩
  rw [← e0] at hC
  rw [← e1] at hS
  have hc0 : c0 ≤ H.sh.length := Nat.le_of_eq e0
  have hs0 : s0 ≤ H.sl := Nat.le_of_eq e1
  have hcc : H.sh.length ≤ c0 + C := by omega
  have hss : H.sl ≤ s0 + Sl := by omega
  refine ab_of2 (lv := [some (.ref p0), none, none, none, none, none]) 5 rfl rfl (Nat.le_of_ble_eq_true rfl) ?_
  refine ab_widen (cells' := H.sh.length - c0) (slots' := H.sl - s0) (Nat.zero_le _) (Nat.zero_le _) ?_
  refine ab_aload_n d_Body_readEmit_0 rfl rfl rfl ?_
  obtain ⟨q1, hG⟩ := ck_s hF; clear hF
  obtain ⟨a2, e3, hF⟩ := rf_s hG; clear hG
  refine hp_getR (f := 0) d_Body_readEmit_1 q1 (by decide) rfl (by decide) (k1 157 rfl rfl) rfl e3 ?_
  obtain ⟨q4, hG⟩ := ck_s hF; clear hF
  obtain ⟨v6, H7, z5, hF⟩ := bC_s hG; clear hG
  refine hp_callV_v (H1 := H7) (As := []) (rest := []) d_Body_readEmit_4 (k_Lexer_advance z5) (ab_mkC s_Lexer_advance (Nat.le_of_ble_eq_true rfl) (Nat.le_of_ble_eq_true rfl) (show (H.sh.length - c0) + 0 ≤ C from by omega) (show (H.sl - s0) + 0 ≤ Sl from by omega)) (k5 129 rfl rfl) i_Lexer_advance v_Lexer_advance q4 (by decide) rfl rfl (Nat.le_of_ble_eq_true rfl) ?_
  have s_2 : Sa H H7 := (m_Lexer_advance z5)
  refine ab_widen (cells' := H.sh.length - c0) (slots' := H.sl - s0) (by show (H.sh.length - c0) + 0 ≤ _; omega) (by show (H.sl - s0) + 0 ≤ _; omega) ?_
  refine ab_aload_n d_Body_readEmit_7 rfl rfl rfl ?_
  refine ab_iconst (v := 1) d_Body_readEmit_8 (by decide) ?_
  refine bT_c hF (fun x11 H10 z8 er => ?_) (fun v9 H10 z8 hG => ?_)
  · subst er
    refine ab_widen (cells' := H7.sh.length - c0) (slots' := H7.sl - s0) (by rw [(s_2).1]; exact Nat.le_refl _) (by rw [(s_2).2]; exact Nat.le_refl _) ?_
    have mz : Mo H7 H10 := (m_Body_numberHere z8)
    have ml := mz.len
    have m2 := mz.2
    have be := congrArg List.length (s_2).1
    have bfx := (s_2).2
    have hC9 : H10.sh.length ≤ c0 + C := hC
    have hS9 : H10.sl ≤ s0 + Sl := hS
    refine hp_callV_t (x := x11) (H1 := H10) (As := [.int 1]) (rest := []) d_Body_readEmit_9 (k_Body_numberHere z8 (C := H10.sh.length - H7.sh.length) (Sl := H10.sl - H7.sl) (by show H10.sh.length ≤ _; omega) (by show H10.sl ≤ _; omega)) (ab_mkC s_Body_numberHere (Nat.le_of_ble_eq_true rfl) (Nat.le_of_ble_eq_true rfl) (show (H7.sh.length - c0) + (H10.sh.length - H7.sh.length) ≤ C from by omega) (show (H7.sl - s0) + (H10.sl - H7.sl) ≤ Sl from by omega)) (k5 177 rfl rfl) i_Body_numberHere v_Body_numberHere (by rw [(s_2).1]; exact q1) (by decide) rfl rfl (Nat.le_of_ble_eq_true rfl) ?_
    exact ab_U_out rfl (by show _ + (H10.sh.length - H7.sh.length) ≤ C; omega) (by show _ + (H10.sl - H7.sl) ≤ Sl; omega) ⟨rfl, rfl⟩
  clear hF
  refine ab_widen (cells' := H7.sh.length - c0) (slots' := H7.sl - s0) (by rw [(s_2).1]; exact Nat.le_refl _) (by rw [(s_2).2]; exact Nat.le_refl _) ?_
  have mz_3 : Mo H7 H10 := (m_Body_numberHere z8)
  have b_4l := (mz_3).len
  have b_4s := (mz_3).2
  have b_4e := congrArg List.length (s_2).1
  have b_4f := (s_2).2
  have b_4c : c0 ≤ H10.sh.length := by omega
  have b_4d : s0 ≤ H10.sl := by omega
  have q_5 := (mz_3).get (by rw [(s_2).1]; exact q1)
  have q_6 := (mz_3).get (by rw [(s_2).1]; exact q4)
  have fH10 : Mo H10 r.2 := by
    have hm := Mo.rf H10
    refine bT_c hG (fun x15 H14 z12 er => ?_) (fun v13 H14 z12 hF => ?_)
    · subst er; exact hm.tr (m_Body_openParens z12)
    clear hG
    replace hm : Mo H10 H14 := hm.tr (m_Body_openParens z12)
    obtain ⟨a16, e17, hG⟩ := rf_s hF; clear hF
    obtain ⟨q18, hF⟩ := ck_s hG; clear hG
    obtain ⟨a19, e20, hG⟩ := rf_s hF; clear hF
    obtain ⟨q21, hF⟩ := ck_s hG; clear hG
    obtain ⟨v23, H24, z22, hG⟩ := bC_s hF; clear hF
    replace hm : Mo H10 H24 := hm.tr ((m_Shapes_sizeOf z22)).mo
    obtain ⟨a25, e26, hF⟩ := rf_s hG; clear hG
    obtain ⟨q27, hG⟩ := ck_s hF; clear hF
    obtain ⟨x28, -, hF⟩ := bnd_g hG; clear hG
    rcases ite_s hF with ⟨q_10, hG⟩ | ⟨q_10, hG⟩
    · clear hF
      exact hm.tr (mB_Body_readEmit_48 hG)
    · clear hF
      exact hm.tr (mB_Body_readEmit_48 hG)
  have b_4m := (fH10).len
  have b_4n := (fH10).2
  have b_4p : H10.sh.length ≤ c0 + C := by omega
  have b_4q : H10.sl ≤ s0 + Sl := by omega
  refine hp_callV_a (v := .int v9) (H1 := H10) (As := [.int 1]) (rest := []) d_Body_readEmit_9 (k_Body_numberHere z8 (C := H10.sh.length - H7.sh.length) (Sl := H10.sl - H7.sl) (by show H10.sh.length ≤ _; omega) (by show H10.sl ≤ _; omega)) (ab_mkC s_Body_numberHere (Nat.le_of_ble_eq_true rfl) (Nat.le_of_ble_eq_true rfl) (show (H7.sh.length - c0) + (H10.sh.length - H7.sh.length) ≤ C from by omega) (show (H7.sl - s0) + (H10.sl - H7.sl) ≤ Sl from by omega)) (k5 177 rfl rfl) i_Body_numberHere v_Body_numberHere (by rw [(s_2).1]; exact q1) (by decide) rfl rfl (Nat.le_of_ble_eq_true rfl) ?_
  refine ab_widen (cells' := H10.sh.length - c0) (slots' := H10.sl - s0) (by show _ + (H10.sh.length - H7.sh.length) ≤ _; omega) (by show _ + (H10.sl - H7.sl) ≤ _; omega) ?_
  clear b_4l b_4s b_4m b_4n b_4e b_4f
  refine ab_istore_n (lv' := [some (.ref p0), some (.int v9), none, none, none, none]) d_Body_readEmit_12 rfl (by decide) rfl ?_
  refine ab_aload_n d_Body_readEmit_13 rfl rfl rfl ?_
  refine bT_c hG (fun x15 H14 z12 er => ?_) (fun v13 H14 z12 hF => ?_)
  · subst er
    have mz : Mo H10 H14 := (m_Body_openParens z12)
    have ml := mz.len
    have m2 := mz.2
    have hC9 : H14.sh.length ≤ c0 + C := hC
    have hS9 : H14.sl ≤ s0 + Sl := hS
    refine hp_callV_t (x := x15) (H1 := H14) (As := []) (rest := []) d_Body_readEmit_14 (k_Body_openParens z12 (C := H14.sh.length - H10.sh.length) (Sl := H14.sl - H10.sl) (by show H14.sh.length ≤ _; omega) (by show H14.sl ≤ _; omega)) (ab_mkC s_Body_openParens (Nat.le_of_ble_eq_true rfl) (Nat.le_of_ble_eq_true rfl) (show (H10.sh.length - c0) + (H14.sh.length - H10.sh.length) ≤ C from by omega) (show (H10.sl - s0) + (H14.sl - H10.sl) ≤ Sl from by omega)) (k5 161 rfl rfl) i_Body_openParens v_Body_openParens q_5 (by decide) rfl rfl (Nat.le_of_ble_eq_true rfl) ?_
    exact ab_U_out rfl (by show _ + (H14.sh.length - H10.sh.length) ≤ C; omega) (by show _ + (H14.sl - H10.sl) ≤ Sl; omega) ⟨rfl, rfl⟩
  clear hG
  have mz_153 : Mo H10 H14 := (m_Body_openParens z12)
  have b_154l := (mz_153).len
  have b_154s := (mz_153).2
  have b_154c : c0 ≤ H14.sh.length := by omega
  have b_154d : s0 ≤ H14.sl := by omega
  have q_155 := (mz_153).get q_5
  have q_156 := (mz_153).get q_6
  obtain ⟨a16, e17, hG⟩ := rf_s hF; clear hF
  obtain ⟨q18, hF⟩ := ck_s hG; clear hG
  obtain ⟨a19, e20, hG⟩ := rf_s hF; clear hF
  obtain ⟨q21, hF⟩ := ck_s hG; clear hG
  obtain ⟨v23, H24, z22, hG⟩ := bC_s hF; clear hF
  have jH24 : Mo H14 H24 := ((m_Shapes_sizeOf z22)).mo
  obtain ⟨a25, e26, hF⟩ := rf_s hG; clear hG
  obtain ⟨q27, hG⟩ := ck_s hF; clear hF
  obtain ⟨x28, ex28, hF⟩ := bnd_g hG; clear hG
  have fH24 : Mo H24 r.2 := by
    have hm := Mo.rf H24
    rcases ite_s hF with ⟨q_158, hG⟩ | ⟨q_158, hG⟩
    · clear hF
      exact hm.tr (mB_Body_readEmit_48 hG)
    · clear hF
      exact hm.tr (mB_Body_readEmit_48 hG)
  have fH14 : Mo H14 r.2 := jH24.tr fH24
  have b_154m := (fH14).len
  have b_154n := (fH14).2
  have b_154p : H14.sh.length ≤ c0 + C := by omega
  have b_154q : H14.sl ≤ s0 + Sl := by omega
  refine hp_callV_v (H1 := H14) (As := []) (rest := []) d_Body_readEmit_14 (k_Body_openParens z12 (C := H14.sh.length - H10.sh.length) (Sl := H14.sl - H10.sl) (by show H14.sh.length ≤ _; omega) (by show H14.sl ≤ _; omega)) (ab_mkC s_Body_openParens (Nat.le_of_ble_eq_true rfl) (Nat.le_of_ble_eq_true rfl) (show (H10.sh.length - c0) + (H14.sh.length - H10.sh.length) ≤ C from by omega) (show (H10.sl - s0) + (H14.sl - H10.sl) ≤ Sl from by omega)) (k5 161 rfl rfl) i_Body_openParens v_Body_openParens q_5 (by decide) rfl rfl (Nat.le_of_ble_eq_true rfl) ?_
  refine ab_widen (cells' := H14.sh.length - c0) (slots' := H14.sl - s0) (by show _ + (H14.sh.length - H10.sh.length) ≤ _; omega) (by show _ + (H14.sl - H10.sl) ≤ _; omega) ?_
  clear b_154l b_154s b_154m b_154n b_4c b_4d b_4p b_4q
  refine ab_aload_n d_Body_readEmit_17 rfl rfl rfl ?_
  refine hp_getR (f := 1) d_Body_readEmit_18 q_155 (by decide) rfl (by decide) (k1 158 rfl rfl) rfl e17 ?_
  refine hp_getR (f := 3) d_Body_readEmit_21 q18 (by decide) rfl (by decide) (k3 68 rfl rfl) rfl e20 ?_
  refine ab_iload_n d_Body_readEmit_24 rfl rfl ?_
  refine hp_callV_a (v := .int v23) (H1 := H24) (As := [.int v9]) (rest := []) d_Body_readEmit_25 (k_Shapes_sizeOf z22) (ab_mkC s_Shapes_sizeOf (Nat.le_of_ble_eq_true rfl) (Nat.le_of_ble_eq_true rfl) (show (H14.sh.length - c0) + 0 ≤ C from by omega) (show (H14.sl - s0) + 0 ≤ Sl from by omega)) (k6 34 rfl rfl) i_Shapes_sizeOf v_Shapes_sizeOf q21 (by decide) rfl rfl (Nat.le_of_ble_eq_true rfl) ?_
  have s_160 : Sa H14 H24 := (m_Shapes_sizeOf z22)
  refine ab_widen (cells' := H14.sh.length - c0) (slots' := H14.sl - s0) (by show (H14.sh.length - c0) + 0 ≤ _; omega) (by show (H14.sl - s0) + 0 ≤ _; omega) ?_
  refine ab_istore_n (lv' := [some (.ref p0), some (.int v9), some (.int v23), none, none, none]) d_Body_readEmit_28 rfl (by decide) rfl ?_
  refine ab_iconst (v := 0) d_Body_readEmit_29 (by decide) ?_
  refine ab_istore_n (lv' := [some (.ref p0), some (.int v9), some (.int v23), some (.int 0), none, none]) d_Body_readEmit_30 rfl (by decide) rfl ?_
  refine ab_aload_n d_Body_readEmit_31 rfl rfl rfl ?_
  refine hp_getR (f := 0) d_Body_readEmit_32 (by rw [(s_160).1]; exact q_155) (by decide) rfl (by decide) (k1 157 rfl rfl) rfl e26 ?_
  rw [(s_160).1] at q27
  refine hp_getI (f := 2) d_Body_readEmit_35 (by rw [(s_160).1]; exact q27) (by decide) rfl (by decide) (k1 99 rfl rfl) rfl ?_
  refine ab_topxi ex28 ?_
  refine ab_bipush (v := 13) d_Body_readEmit_38 (by decide) ?_
  refine ab_icmp_eq (tgt := 47) d_Body_readEmit_40 (by decide) (fun q29 => ?_) (fun q29 => ?_)
  · rw [if_pos q29] at hF
    refine ab_iconst (v := 0) d_Body_readEmit_47 (by decide) ?_
    refine ab_widen (cells' := H24.sh.length - c0) (slots' := H24.sl - s0) (by rw [(s_160).1]; exact Nat.le_refl _) (by rw [(s_160).2]; exact Nat.le_refl _) ?_
    exact kB_Body_readEmit_48 hF (by rw [(s_160).1]; exact b_154c) (by rw [(s_160).2]; exact b_154d) (by rw [(s_160).1]; exact b_154p) (by rw [(s_160).2]; exact b_154q) hC hS
  · rw [if_neg q29] at hF
    refine ab_iconst (v := 1) d_Body_readEmit_43 (by decide) ?_
    refine ab_goto (tgt := 48) d_Body_readEmit_44 (by decide) ?_
    refine ab_widen (cells' := H24.sh.length - c0) (slots' := H24.sl - s0) (by rw [(s_160).1]; exact Nat.le_refl _) (by rw [(s_160).2]; exact Nat.le_refl _) ?_
    exact kB_Body_readEmit_48 hF (by rw [(s_160).1]; exact b_154c) (by rw [(s_160).2]; exact b_154d) (by rw [(s_160).1]; exact b_154p) (by rw [(s_160).2]; exact b_154q) hC hS
def y_Body_readShow : ab_Y := (⟨"WorldEngine$Body", "readShow", "()V"⟩, prog_2_method_27_code, 1, none, [])
theorem d_Body_readShow_0 : decode y_Body_readShow.2.1 0 = .ok (.aload_n 0, 1) := by decide +kernel
theorem d_Body_readShow_1 : decode y_Body_readShow.2.1 1 = .ok (.getfield 7, 3) := by decide +kernel
theorem d_Body_readShow_4 : decode y_Body_readShow.2.1 4 = .ok (.invokevirtual 93, 3) := by decide +kernel
theorem d_Body_readShow_7 : decode y_Body_readShow.2.1 7 = .ok (.aload_n 0, 1) := by decide +kernel
theorem d_Body_readShow_8 : decode y_Body_readShow.2.1 8 = .ok (.iconst (-1), 1) := by decide +kernel
theorem d_Body_readShow_9 : decode y_Body_readShow.2.1 9 = .ok (.invokevirtual 141, 3) := by decide +kernel
theorem d_Body_readShow_12 : decode y_Body_readShow.2.1 12 = .ok (.pop, 1) := by decide +kernel
theorem d_Body_readShow_13 : decode y_Body_readShow.2.1 13 = .ok (.aload_n 0, 1) := by decide +kernel
theorem d_Body_readShow_14 : decode y_Body_readShow.2.1 14 = .ok (.getfield 7, 3) := by decide +kernel
theorem d_Body_readShow_17 : decode y_Body_readShow.2.1 17 = .ok (.bipush 15, 2) := by decide +kernel
theorem d_Body_readShow_19 : decode y_Body_readShow.2.1 19 = .ok (.invokevirtual 41, 3) := by decide +kernel
theorem d_Body_readShow_22 : decode y_Body_readShow.2.1 22 = .ok (.aload_n 0, 1) := by decide +kernel
theorem d_Body_readShow_23 : decode y_Body_readShow.2.1 23 = .ok (.getfield 17, 3) := by decide +kernel
theorem d_Body_readShow_26 : decode y_Body_readShow.2.1 26 = .ok (.bipush 26, 2) := by decide +kernel
theorem d_Body_readShow_28 : decode y_Body_readShow.2.1 28 = .ok (.invokevirtual 50, 3) := by decide +kernel
theorem d_Body_readShow_31 : decode y_Body_readShow.2.1 31 = .ok (.pop, 1) := by decide +kernel
theorem d_Body_readShow_32 : decode y_Body_readShow.2.1 32 = .ok (.return_, 1) := by decide +kernel
theorem s_Body_readShow : ab_Stat y_Body_readShow 0 := ⟨(k6 67 rfl rfl), (k1 8 rfl rfl), ⟨by decide, by decide⟩, by decide +kernel⟩
theorem i_Body_readShow : Cond.instanceMethod y_Body_readShow.1 ∈ ab_T := (k6 66 rfl rfl)
theorem v_Body_readShow : Cond.selects "WorldEngine$Body" y_Body_readShow.1 y_Body_readShow.1 ∈ ab_T := ab_s (List.mem_of_getElem? (i := 60) rfl) rfl
def F_Body_readShow (N : Nat) (p0 : Nat) (H : Hp) : Option ((Ot Unit) × Hp) :=
    ck (H.sh[p0]? = some (6, 0)) <|
    rf (H.P p0 0) fun a2 =>
    ck (H.sh[a2]? = some (1, 0)) <|
    bC (F_Lexer_advance N a2 H) fun v6 H7 =>
    bT (F_Body_inParens N (X_BodyE N 140) p0 ((-1) : Int32) H7) fun v9 H10 =>
    rf (H10.P p0 0) fun a12 =>
    ck (H10.sh[a12]? = some (1, 0)) <|
    bT (F_Lexer_take N a12 (15 : Int32) H10) fun v16 H17 =>
    rf (H17.P p0 1) fun a19 =>
    ck (H17.sh[a19]? = some (4, 0)) <|
    bC (F_Program_add N a19 (26 : Int32) H17) fun v23 H24 =>
    some (.inl (), H24)
set_option maxRecDepth 20000 in
set_option maxHeartbeats 2000000 in
theorem m_Body_readShow {N : Nat} {p0 : Nat} {H : Hp} {r : (Ot Unit) × Hp} (hF : F_Body_readShow N p0 H = some r) : Mo H r.2 := by
  unfold F_Body_readShow at hF
  have hm := Mo.rf H
  obtain ⟨q25, hG⟩ := ck_s hF; clear hF
  obtain ⟨a26, e27, hF⟩ := rf_s hG; clear hG
  obtain ⟨q28, hG⟩ := ck_s hF; clear hF
  obtain ⟨v30, H31, z29, hF⟩ := bC_s hG; clear hG
  replace hm : Mo H H31 := hm.tr ((m_Lexer_advance z29)).mo
  refine bT_c hF (fun x35 H34 z32 er => ?_) (fun v33 H34 z32 hG => ?_)
  · subst er; exact hm.tr (m_Body_inParens (moX_BodyE 140) z32)
  clear hF
  replace hm : Mo H H34 := hm.tr (m_Body_inParens (moX_BodyE 140) z32)
  obtain ⟨a36, e37, hF⟩ := rf_s hG; clear hG
  obtain ⟨q38, hG⟩ := ck_s hF; clear hF
  refine bT_c hG (fun x42 H41 z39 er => ?_) (fun v40 H41 z39 hF => ?_)
  · subst er; exact hm.tr (m_Lexer_take z39)
  clear hG
  replace hm : Mo H H41 := hm.tr (m_Lexer_take z39)
  obtain ⟨a43, e44, hG⟩ := rf_s hF; clear hF
  obtain ⟨q45, hF⟩ := ck_s hG; clear hG
  obtain ⟨v47, H48, z46, hG⟩ := bC_s hF; clear hF
  replace hm : Mo H H48 := hm.tr ((m_Program_add z46)).mo
  have hr := Option.some.inj hG; subst hr
  exact hm
set_option maxRecDepth 20000 in
set_option maxHeartbeats 2000000 in
theorem k_Body_readShow {N : Nat} {p0 : Nat} {H : Hp} {r : (Ot Unit) × Hp} {C Sl : Nat} (hF : F_Body_readShow N p0 H = some r) (hC : r.2.sh.length ≤ H.sh.length + C) (hS : r.2.sl ≤ H.sl + Sl) : ab_M y_Body_readShow { frames := 571, cells := C, slots := Sl, locals := 13524 } [.ref p0] (hpw H) (po (oV r.1) r.2) := by
  unfold F_Body_readShow at hF
  obtain ⟨c0, e0⟩ : ∃ q, q = H.sh.length := ⟨_, rfl⟩
  obtain ⟨s0, e1⟩ : ∃ q, q = H.sl := ⟨_, rfl⟩
  rw [← e0] at hC
  rw [← e1] at hS
  have hc0 : c0 ≤ H.sh.length := Nat.le_of_eq e0
  have hs0 : s0 ≤ H.sl := Nat.le_of_eq e1
  have hcc : H.sh.length ≤ c0 + C := by omega
  have hss : H.sl ≤ s0 + Sl := by omega
  refine ab_of2 (lv := [some (.ref p0)]) 0 rfl rfl (Nat.le_of_ble_eq_true rfl) ?_
  refine ab_widen (cells' := H.sh.length - c0) (slots' := H.sl - s0) (Nat.zero_le _) (Nat.zero_le _) ?_
  refine ab_aload_n d_Body_readShow_0 rfl rfl rfl ?_
  obtain ⟨q1, hG⟩ := ck_s hF; clear hF
  obtain ⟨a2, e3, hF⟩ := rf_s hG; clear hG
  refine hp_getR (f := 0) d_Body_readShow_1 q1 (by decide) rfl (by decide) (k1 157 rfl rfl) rfl e3 ?_
  obtain ⟨q4, hG⟩ := ck_s hF; clear hF
  obtain ⟨v6, H7, z5, hF⟩ := bC_s hG; clear hG
  refine hp_callV_v (H1 := H7) (As := []) (rest := []) d_Body_readShow_4 (k_Lexer_advance z5) (ab_mkC s_Lexer_advance (Nat.le_of_ble_eq_true rfl) (Nat.le_of_ble_eq_true rfl) (show (H.sh.length - c0) + 0 ≤ C from by omega) (show (H.sl - s0) + 0 ≤ Sl from by omega)) (k5 129 rfl rfl) i_Lexer_advance v_Lexer_advance q4 (by decide) rfl rfl (Nat.le_of_ble_eq_true rfl) ?_
  have s_2 : Sa H H7 := (m_Lexer_advance z5)
  refine ab_widen (cells' := H.sh.length - c0) (slots' := H.sl - s0) (by show (H.sh.length - c0) + 0 ≤ _; omega) (by show (H.sl - s0) + 0 ≤ _; omega) ?_
  refine ab_aload_n d_Body_readShow_7 rfl rfl rfl ?_
  refine ab_iconst (v := (-1)) d_Body_readShow_8 (by decide) ?_
  refine bT_c hF (fun x11 H10 z8 er => ?_) (fun v9 H10 z8 hG => ?_)
  · subst er
    refine ab_widen (cells' := H7.sh.length - c0) (slots' := H7.sl - s0) (by rw [(s_2).1]; exact Nat.le_refl _) (by rw [(s_2).2]; exact Nat.le_refl _) ?_
    have mz : Mo H7 H10 := (m_Body_inParens (moX_BodyE 140) z8)
    have ml := mz.len
    have m2 := mz.2
    have be := congrArg List.length (s_2).1
    have bfx := (s_2).2
    have hC9 : H10.sh.length ≤ c0 + C := hC
    have hS9 : H10.sl ≤ s0 + Sl := hS
    refine hp_callV_t (x := x11) (H1 := H10) (As := [.int (-1)]) (rest := []) d_Body_readShow_9 (k_Body_inParens (okX_BodyE 140) (moX_BodyE 140) z8 (C := H10.sh.length - H7.sh.length) (Sl := H10.sl - H7.sl) (by show H10.sh.length ≤ _; omega) (by show H10.sl ≤ _; omega)) (ab_mkC s_Body_inParens (Nat.le_of_ble_eq_true rfl) (Nat.le_of_ble_eq_true rfl) (show (H7.sh.length - c0) + (H10.sh.length - H7.sh.length) ≤ C from by omega) (show (H7.sl - s0) + (H10.sl - H7.sl) ≤ Sl from by omega)) (k5 157 rfl rfl) i_Body_inParens v_Body_inParens (by rw [(s_2).1]; exact q1) (by decide) rfl rfl (Nat.le_of_ble_eq_true rfl) ?_
    exact ab_U_out rfl (by show _ + (H10.sh.length - H7.sh.length) ≤ C; omega) (by show _ + (H10.sl - H7.sl) ≤ Sl; omega) ⟨rfl, rfl⟩
  clear hF
  refine ab_widen (cells' := H7.sh.length - c0) (slots' := H7.sl - s0) (by rw [(s_2).1]; exact Nat.le_refl _) (by rw [(s_2).2]; exact Nat.le_refl _) ?_
  have mz_3 : Mo H7 H10 := (m_Body_inParens (moX_BodyE 140) z8)
  have b_4l := (mz_3).len
  have b_4s := (mz_3).2
  have b_4e := congrArg List.length (s_2).1
  have b_4f := (s_2).2
  have b_4c : c0 ≤ H10.sh.length := by omega
  have b_4d : s0 ≤ H10.sl := by omega
  have q_5 := (mz_3).get (by rw [(s_2).1]; exact q1)
  have q_6 := (mz_3).get (by rw [(s_2).1]; exact q4)
  obtain ⟨a12, e13, hF⟩ := rf_s hG; clear hG
  have fH10 : Mo H10 r.2 := by
    have hm := Mo.rf H10
    obtain ⟨q14, hG⟩ := ck_s hF; clear hF
    refine bT_c hG (fun x18 H17 z15 er => ?_) (fun v16 H17 z15 hF => ?_)
    · subst er; exact hm.tr (m_Lexer_take z15)
    clear hG
    replace hm : Mo H10 H17 := hm.tr (m_Lexer_take z15)
    obtain ⟨a19, e20, hG⟩ := rf_s hF; clear hF
    obtain ⟨q21, hF⟩ := ck_s hG; clear hG
    obtain ⟨v23, H24, z22, hG⟩ := bC_s hF; clear hF
    replace hm : Mo H10 H24 := hm.tr ((m_Program_add z22)).mo
    have hr := Option.some.inj hG; subst hr
    exact hm
  have b_4m := (fH10).len
  have b_4n := (fH10).2
  have b_4p : H10.sh.length ≤ c0 + C := by omega
  have b_4q : H10.sl ≤ s0 + Sl := by omega
  refine hp_callV_a (v := .int v9) (H1 := H10) (As := [.int (-1)]) (rest := []) d_Body_readShow_9 (k_Body_inParens (okX_BodyE 140) (moX_BodyE 140) z8 (C := H10.sh.length - H7.sh.length) (Sl := H10.sl - H7.sl) (by show H10.sh.length ≤ _; omega) (by show H10.sl ≤ _; omega)) (ab_mkC s_Body_inParens (Nat.le_of_ble_eq_true rfl) (Nat.le_of_ble_eq_true rfl) (show (H7.sh.length - c0) + (H10.sh.length - H7.sh.length) ≤ C from by omega) (show (H7.sl - s0) + (H10.sl - H7.sl) ≤ Sl from by omega)) (k5 157 rfl rfl) i_Body_inParens v_Body_inParens (by rw [(s_2).1]; exact q1) (by decide) rfl rfl (Nat.le_of_ble_eq_true rfl) ?_
  refine ab_widen (cells' := H10.sh.length - c0) (slots' := H10.sl - s0) (by show _ + (H10.sh.length - H7.sh.length) ≤ _; omega) (by show _ + (H10.sl - H7.sl) ≤ _; omega) ?_
  clear b_4l b_4s b_4m b_4n b_4e b_4f
  refine ab_pop d_Body_readShow_12 rfl ?_
  refine ab_aload_n d_Body_readShow_13 rfl rfl rfl ?_
  refine hp_getR (f := 0) d_Body_readShow_14 q_5 (by decide) rfl (by decide) (k1 157 rfl rfl) rfl e13 ?_
  refine ab_bipush (v := 15) d_Body_readShow_17 (by decide) ?_
  obtain ⟨q14, hG⟩ := ck_s hF; clear hF
  refine bT_c hG (fun x18 H17 z15 er => ?_) (fun v16 H17 z15 hF => ?_)
  · subst er
    have mz : Mo H10 H17 := (m_Lexer_take z15)
    have ml := mz.len
    have m2 := mz.2
    have hC9 : H17.sh.length ≤ c0 + C := hC
    have hS9 : H17.sl ≤ s0 + Sl := hS
    refine hp_callV_t (x := x18) (H1 := H17) (As := [.int 15]) (rest := []) d_Body_readShow_19 (k_Lexer_take z15 (C := H17.sh.length - H10.sh.length) (Sl := H17.sl - H10.sl) (by show H17.sh.length ≤ _; omega) (by show H17.sl ≤ _; omega)) (ab_mkC s_Lexer_take (Nat.le_of_ble_eq_true rfl) (Nat.le_of_ble_eq_true rfl) (show (H10.sh.length - c0) + (H17.sh.length - H10.sh.length) ≤ C from by omega) (show (H10.sl - s0) + (H17.sl - H10.sl) ≤ Sl from by omega)) (k5 116 rfl rfl) i_Lexer_take v_Lexer_take q14 (by decide) rfl rfl (Nat.le_of_ble_eq_true rfl) ?_
    exact ab_U_out rfl (by show _ + (H17.sh.length - H10.sh.length) ≤ C; omega) (by show _ + (H17.sl - H10.sl) ≤ Sl; omega) ⟨rfl, rfl⟩
  clear hG
  have mz_11 : Mo H10 H17 := (m_Lexer_take z15)
  have b_12l := (mz_11).len
  have b_12s := (mz_11).2
  have b_12c : c0 ≤ H17.sh.length := by omega
  have b_12d : s0 ≤ H17.sl := by omega
  have q_13 := (mz_11).get q_5
  have q_14 := (mz_11).get q_6
  have q_15 := (mz_11).get q14
  obtain ⟨a19, e20, hG⟩ := rf_s hF; clear hF
  obtain ⟨q21, hF⟩ := ck_s hG; clear hG
  obtain ⟨v23, H24, z22, hG⟩ := bC_s hF; clear hF
  have jH24 : Mo H17 H24 := ((m_Program_add z22)).mo
  have fH24 : Mo H24 r.2 := by
    have hm := Mo.rf H24
    have hr := Option.some.inj hG; subst hr
    exact hm
  have fH17 : Mo H17 r.2 := jH24.tr fH24
  have b_12m := (fH17).len
  have b_12n := (fH17).2
  have b_12p : H17.sh.length ≤ c0 + C := by omega
  have b_12q : H17.sl ≤ s0 + Sl := by omega
  refine hp_callV_v (H1 := H17) (As := [.int 15]) (rest := []) d_Body_readShow_19 (k_Lexer_take z15 (C := H17.sh.length - H10.sh.length) (Sl := H17.sl - H10.sl) (by show H17.sh.length ≤ _; omega) (by show H17.sl ≤ _; omega)) (ab_mkC s_Lexer_take (Nat.le_of_ble_eq_true rfl) (Nat.le_of_ble_eq_true rfl) (show (H10.sh.length - c0) + (H17.sh.length - H10.sh.length) ≤ C from by omega) (show (H10.sl - s0) + (H17.sl - H10.sl) ≤ Sl from by omega)) (k5 116 rfl rfl) i_Lexer_take v_Lexer_take q14 (by decide) rfl rfl (Nat.le_of_ble_eq_true rfl) ?_
  refine ab_widen (cells' := H17.sh.length - c0) (slots' := H17.sl - s0) (by show _ + (H17.sh.length - H10.sh.length) ≤ _; omega) (by show _ + (H17.sl - H10.sl) ≤ _; omega) ?_
  clear b_12l b_12s b_12m b_12n b_4c b_4d b_4p b_4q
  refine ab_aload_n d_Body_readShow_22 rfl rfl rfl ?_
  refine hp_getR (f := 1) d_Body_readShow_23 q_13 (by decide) rfl (by decide) (k1 158 rfl rfl) rfl e20 ?_
  refine ab_bipush (v := 26) d_Body_readShow_26 (by decide) ?_
  refine hp_callV_a (v := .int v23) (H1 := H24) (As := [.int 26]) (rest := []) d_Body_readShow_28 (k_Program_add z22) (ab_mkC s_Program_add (Nat.le_of_ble_eq_true rfl) (Nat.le_of_ble_eq_true rfl) (show (H17.sh.length - c0) + 0 ≤ C from by omega) (show (H17.sl - s0) + 0 ≤ Sl from by omega)) (k5 117 rfl rfl) i_Program_add v_Program_add q21 (by decide) rfl rfl (Nat.le_of_ble_eq_true rfl) ?_
  have s_18 : Sa H17 H24 := (m_Program_add z22)
  refine ab_widen (cells' := H17.sh.length - c0) (slots' := H17.sl - s0) (by show (H17.sh.length - c0) + 0 ≤ _; omega) (by show (H17.sl - s0) + 0 ≤ _; omega) ?_
  refine ab_pop d_Body_readShow_31 rfl ?_
  exact ab_vret d_Body_readShow_32 rfl (by show _ ≤ C; omega) (by show _ ≤ Sl; omega) (by have hr := Option.some.inj hG; subst hr; exact ⟨rfl, rfl⟩)
def y_Body_block : ab_Y := (⟨"WorldEngine$Body", "block", "()V"⟩, prog_2_method_3_code, 3, none, [])
theorem d_Body_block_0 : decode y_Body_block.2.1 0 = .ok (.aload_n 0, 1) := by decide +kernel
theorem d_Body_block_1 : decode y_Body_block.2.1 1 = .ok (.getfield 30, 3) := by decide +kernel
theorem d_Body_block_4 : decode y_Body_block.2.1 4 = .ok (.istore_n 1, 1) := by decide +kernel
theorem d_Body_block_5 : decode y_Body_block.2.1 5 = .ok (.aload_n 0, 1) := by decide +kernel
theorem d_Body_block_6 : decode y_Body_block.2.1 6 = .ok (.getfield 7, 3) := by decide +kernel
theorem d_Body_block_9 : decode y_Body_block.2.1 9 = .ok (.bipush 10, 2) := by decide +kernel
theorem d_Body_block_11 : decode y_Body_block.2.1 11 = .ok (.invokevirtual 41, 3) := by decide +kernel
theorem d_Body_block_14 : decode y_Body_block.2.1 14 = .ok (.iconst 0, 1) := by decide +kernel
theorem d_Body_block_15 : decode y_Body_block.2.1 15 = .ok (.istore_n 2, 1) := by decide +kernel
theorem d_Body_block_16 : decode y_Body_block.2.1 16 = .ok (.iload_n 2, 1) := by decide +kernel
theorem d_Body_block_17 : decode y_Body_block.2.1 17 = .ok (.sipush 6000, 3) := by decide +kernel
theorem d_Body_block_20 : decode y_Body_block.2.1 20 = .ok (.if_icmp .gt 34, 3) := by decide +kernel
theorem d_Body_block_23 : decode y_Body_block.2.1 23 = .ok (.aload_n 0, 1) := by decide +kernel
theorem d_Body_block_24 : decode y_Body_block.2.1 24 = .ok (.getfield 7, 3) := by decide +kernel
theorem d_Body_block_27 : decode y_Body_block.2.1 27 = .ok (.getfield 45, 3) := by decide +kernel
theorem d_Body_block_30 : decode y_Body_block.2.1 30 = .ok (.bipush 11, 2) := by decide +kernel
theorem d_Body_block_32 : decode y_Body_block.2.1 32 = .ok (.if_icmp .eq 22, 3) := by decide +kernel
theorem d_Body_block_35 : decode y_Body_block.2.1 35 = .ok (.aload_n 0, 1) := by decide +kernel
theorem d_Body_block_36 : decode y_Body_block.2.1 36 = .ok (.getfield 17, 3) := by decide +kernel
theorem d_Body_block_39 : decode y_Body_block.2.1 39 = .ok (.iconst 1, 1) := by decide +kernel
theorem d_Body_block_40 : decode y_Body_block.2.1 40 = .ok (.invokevirtual 50, 3) := by decide +kernel
theorem d_Body_block_43 : decode y_Body_block.2.1 43 = .ok (.pop, 1) := by decide +kernel
theorem d_Body_block_44 : decode y_Body_block.2.1 44 = .ok (.aload_n 0, 1) := by decide +kernel
theorem d_Body_block_45 : decode y_Body_block.2.1 45 = .ok (.invokevirtual 54, 3) := by decide +kernel
theorem d_Body_block_48 : decode y_Body_block.2.1 48 = .ok (.iinc 2 1, 3) := by decide +kernel
theorem d_Body_block_51 : decode y_Body_block.2.1 51 = .ok (.goto (-35), 3) := by decide +kernel
theorem d_Body_block_54 : decode y_Body_block.2.1 54 = .ok (.aload_n 0, 1) := by decide +kernel
theorem d_Body_block_55 : decode y_Body_block.2.1 55 = .ok (.getfield 7, 3) := by decide +kernel
theorem d_Body_block_58 : decode y_Body_block.2.1 58 = .ok (.bipush 11, 2) := by decide +kernel
theorem d_Body_block_60 : decode y_Body_block.2.1 60 = .ok (.invokevirtual 41, 3) := by decide +kernel
theorem d_Body_block_63 : decode y_Body_block.2.1 63 = .ok (.aload_n 0, 1) := by decide +kernel
theorem d_Body_block_64 : decode y_Body_block.2.1 64 = .ok (.getfield 17, 3) := by decide +kernel
theorem d_Body_block_67 : decode y_Body_block.2.1 67 = .ok (.aload_n 0, 1) := by decide +kernel
theorem d_Body_block_68 : decode y_Body_block.2.1 68 = .ok (.getfield 30, 3) := by decide +kernel
theorem d_Body_block_71 : decode y_Body_block.2.1 71 = .ok (.iload_n 1, 1) := by decide +kernel
theorem d_Body_block_72 : decode y_Body_block.2.1 72 = .ok (.isub, 1) := by decide +kernel
theorem d_Body_block_73 : decode y_Body_block.2.1 73 = .ok (.invokevirtual 57, 3) := by decide +kernel
theorem d_Body_block_76 : decode y_Body_block.2.1 76 = .ok (.aload_n 0, 1) := by decide +kernel
theorem d_Body_block_77 : decode y_Body_block.2.1 77 = .ok (.iload_n 1, 1) := by decide +kernel
theorem d_Body_block_78 : decode y_Body_block.2.1 78 = .ok (.putfield 30, 3) := by decide +kernel
theorem d_Body_block_81 : decode y_Body_block.2.1 81 = .ok (.return_, 1) := by decide +kernel
theorem s_Body_block : ab_Stat y_Body_block 0 := ⟨(k5 115 rfl rfl), (k1 8 rfl rfl), ⟨by decide, by decide⟩, by decide +kernel⟩
theorem i_Body_block : Cond.instanceMethod y_Body_block.1 ∈ ab_T := (k5 113 rfl rfl)
theorem v_Body_block : Cond.selects "WorldEngine$Body" y_Body_block.1 y_Body_block.1 ∈ ab_T := (k5 114 rfl rfl)
def y_Body_innerBlock : ab_Y := (⟨"WorldEngine$Body", "innerBlock", "()V"⟩, prog_2_method_5_code, 1, none, [])
theorem d_Body_innerBlock_0 : decode y_Body_innerBlock.2.1 0 = .ok (.aload_n 0, 1) := by decide +kernel
theorem d_Body_innerBlock_1 : decode y_Body_innerBlock.2.1 1 = .ok (.getfield 7, 3) := by decide +kernel
theorem d_Body_innerBlock_4 : decode y_Body_innerBlock.2.1 4 = .ok (.getfield 45, 3) := by decide +kernel
theorem d_Body_innerBlock_7 : decode y_Body_innerBlock.2.1 7 = .ok (.bipush 10, 2) := by decide +kernel
theorem d_Body_innerBlock_9 : decode y_Body_innerBlock.2.1 9 = .ok (.if_icmp .eq 18, 3) := by decide +kernel
theorem d_Body_innerBlock_12 : decode y_Body_innerBlock.2.1 12 = .ok (.aload_n 0, 1) := by decide +kernel
theorem d_Body_innerBlock_13 : decode y_Body_innerBlock.2.1 13 = .ok (.getfield 7, 3) := by decide +kernel
theorem d_Body_innerBlock_16 : decode y_Body_innerBlock.2.1 16 = .ok (.iconst 1, 1) := by decide +kernel
theorem d_Body_innerBlock_17 : decode y_Body_innerBlock.2.1 17 = .ok (.aload_n 0, 1) := by decide +kernel
theorem d_Body_innerBlock_18 : decode y_Body_innerBlock.2.1 18 = .ok (.getfield 7, 3) := by decide +kernel
theorem d_Body_innerBlock_21 : decode y_Body_innerBlock.2.1 21 = .ok (.getfield 96, 3) := by decide +kernel
theorem d_Body_innerBlock_24 : decode y_Body_innerBlock.2.1 24 = .ok (.invokevirtual 99, 3) := by decide +kernel
theorem d_Body_innerBlock_27 : decode y_Body_innerBlock.2.1 27 = .ok (.aload_n 0, 1) := by decide +kernel
theorem d_Body_innerBlock_28 : decode y_Body_innerBlock.2.1 28 = .ok (.invokevirtual 103, 3) := by decide +kernel
theorem d_Body_innerBlock_31 : decode y_Body_innerBlock.2.1 31 = .ok (.aload_n 0, 1) := by decide +kernel
theorem d_Body_innerBlock_32 : decode y_Body_innerBlock.2.1 32 = .ok (.invokevirtual 106, 3) := by decide +kernel
theorem d_Body_innerBlock_35 : decode y_Body_innerBlock.2.1 35 = .ok (.aload_n 0, 1) := by decide +kernel
theorem d_Body_innerBlock_36 : decode y_Body_innerBlock.2.1 36 = .ok (.dup, 1) := by decide +kernel
theorem d_Body_innerBlock_37 : decode y_Body_innerBlock.2.1 37 = .ok (.getfield 36, 3) := by decide +kernel
theorem d_Body_innerBlock_40 : decode y_Body_innerBlock.2.1 40 = .ok (.iconst 1, 1) := by decide +kernel
theorem d_Body_innerBlock_41 : decode y_Body_innerBlock.2.1 41 = .ok (.isub, 1) := by decide +kernel
theorem d_Body_innerBlock_42 : decode y_Body_innerBlock.2.1 42 = .ok (.putfield 36, 3) := by decide +kernel
theorem d_Body_innerBlock_45 : decode y_Body_innerBlock.2.1 45 = .ok (.return_, 1) := by decide +kernel
theorem s_Body_innerBlock : ab_Stat y_Body_innerBlock 0 := ⟨(k6 16 rfl rfl), (k1 8 rfl rfl), ⟨by decide, by decide⟩, by decide +kernel⟩
theorem i_Body_innerBlock : Cond.instanceMethod y_Body_innerBlock.1 ∈ ab_T := (k6 15 rfl rfl)
theorem v_Body_innerBlock : Cond.selects "WorldEngine$Body" y_Body_innerBlock.1 y_Body_innerBlock.1 ∈ ab_T := ab_s (List.mem_of_getElem? (i := 49) rfl) rfl
abbrev Orc_BodyS : Type := (Nat → Hp → Option ((Ot Unit) × Hp))
def ok_BodyS (o : Orc_BodyS) (fr lo : Nat) : Prop :=
  571 ≤ fr ∧ 13524 ≤ lo ∧
  (∀ (a0 : Nat) (H : Hp) (r : (Ot Unit) × Hp), o a0 H = some r → ∀ (C Sl : Nat), r.2.sh.length ≤ H.sh.length + C → r.2.sl ≤ H.sl + Sl → ab_M y_Body_block { frames := fr, cells := C, slots := Sl, locals := lo } [.ref a0] (hpw H) (po (oV r.1) r.2))
def mo_BodyS (o : Orc_BodyS) : Prop :=
  (∀ (a0 : Nat) (H : Hp) (r : (Ot Unit) × Hp), o a0 H = some r → Mo H r.2)
def B_Body_innerBlock_27 (N : Nat) (o : Orc_BodyS) (p0 : Nat)  (H : Hp) : Option ((Ot Unit) × Hp) :=
    ck (H.sh[p0]? = some (6, 0)) <|
    bT (F_Body_deepen N p0 H) fun v9 H10 =>
    bT (o p0 H10) fun v13 H14 =>
    bnd ((H14.D p0 6)) fun x16 =>
    bnd (H14.sD p0 6 (x16 - (1 : Int32))) fun H17 =>
    some (.inl (), H17)
set_option maxRecDepth 20000 in
set_option maxHeartbeats 2000000 in
theorem mB_Body_innerBlock_27 {N : Nat} {o : Orc_BodyS} (hmo : mo_BodyS o) {p0 : Nat}  {H : Hp} {r : (Ot Unit) × Hp} (hF : B_Body_innerBlock_27 N o p0  H = some r) : Mo H r.2 := by
  unfold B_Body_innerBlock_27 at hF
  have hm := Mo.rf H
  obtain ⟨q18, hG⟩ := ck_s hF; clear hF
  refine bT_c hG (fun x22 H21 z19 er => ?_) (fun v20 H21 z19 hF => ?_)
  · subst er; exact hm.tr (m_Body_deepen z19)
  clear hG
  replace hm : Mo H H21 := hm.tr (m_Body_deepen z19)
  refine bT_c hF (fun x26 H25 z23 er => ?_) (fun v24 H25 z23 hG => ?_)
  · subst er; exact hm.tr (hmo _ _ _ z23)
  clear hF
  replace hm : Mo H H25 := hm.tr (hmo _ _ _ z23)
  obtain ⟨x27, -, hF⟩ := bnd_g hG; clear hG
  obtain ⟨H28, eH28, hG⟩ := bnd_g hF; clear hF
  replace hm : Mo H H28 := by rw [eH28]; exact hm
  have hr := Option.some.inj hG; subst hr
  exact hm
set_option maxRecDepth 20000 in
set_option maxHeartbeats 2000000 in
theorem kB_Body_innerBlock_27 {N : Nat} {o : Orc_BodyS} {fr lo : Nat} (ho : ok_BodyS o fr lo) (hmo : mo_BodyS o) {p0 : Nat} {c0 s0 C Sl : Nat}  {H : Hp} {r : (Ot Unit) × Hp} (hF : B_Body_innerBlock_27 N o p0  H = some r) (hc0 : c0 ≤ H.sh.length) (hs0 : s0 ≤ H.sl) (hcc : H.sh.length ≤ c0 + C) (hss : H.sl ≤ s0 + Sl) (hC : r.2.sh.length ≤ c0 + C) (hS : r.2.sl ≤ s0 + Sl) : ab_V y_Body_innerBlock { frames := fr + 1, cells := C, slots := Sl, locals := lo + 22 } (po (oV r.1) r.2) C Sl (H.sh.length - c0) (H.sl - s0) 27 [some (.ref p0)] [] (hpw H) := by
  unfold B_Body_innerBlock_27 at hF
  refine ab_aload_n d_Body_innerBlock_27 rfl rfl rfl ?_
  obtain ⟨q7, hG⟩ := ck_s hF; clear hF
  refine bT_c hG (fun x11 H10 z8 er => ?_) (fun v9 H10 z8 hF => ?_)
  · subst er
    have mz : Mo H H10 := (m_Body_deepen z8)
    have ml := mz.len
    have m2 := mz.2
    have hC9 : H10.sh.length ≤ c0 + C := hC
    have hS9 : H10.sl ≤ s0 + Sl := hS
    refine hp_callV_t (x := x11) (H1 := H10) (As := []) (rest := []) d_Body_innerBlock_28 (k_Body_deepen z8 (C := H10.sh.length - H.sh.length) (Sl := H10.sl - H.sl) (by show H10.sh.length ≤ _; omega) (by show H10.sl ≤ _; omega)) (ab_mkC s_Body_deepen (show 7 + 1 ≤ fr + 1 from by have := ho.1; omega) (show 8 + (1 + 11) + 122 ≤ lo + 22 from by have := ho.2.1; omega) (show (H.sh.length - c0) + (H10.sh.length - H.sh.length) ≤ C from by omega) (show (H.sl - s0) + (H10.sl - H.sl) ≤ Sl from by omega)) (k5 153 rfl rfl) i_Body_deepen v_Body_deepen q7 (by decide) rfl rfl (Nat.le_of_ble_eq_true rfl) ?_
    exact ab_U_out rfl (by show _ + (H10.sh.length - H.sh.length) ≤ C; omega) (by show _ + (H10.sl - H.sl) ≤ Sl; omega) ⟨rfl, rfl⟩
  clear hG
  have mz_1 : Mo H H10 := (m_Body_deepen z8)
  have b_2l := (mz_1).len
  have b_2s := (mz_1).2
  have b_2c : c0 ≤ H10.sh.length := by omega
  have b_2d : s0 ≤ H10.sl := by omega
  have q_3 := (mz_1).get q7
  have fH10 : Mo H10 r.2 := by
    have hm := Mo.rf H10
    refine bT_c hF (fun x15 H14 z12 er => ?_) (fun v13 H14 z12 hG => ?_)
    · subst er; exact hm.tr (hmo _ _ _ z12)
    clear hF
    replace hm : Mo H10 H14 := hm.tr (hmo _ _ _ z12)
    obtain ⟨x16, -, hF⟩ := bnd_g hG; clear hG
    obtain ⟨H17, eH17, hG⟩ := bnd_g hF; clear hF
    replace hm : Mo H10 H17 := by rw [eH17]; exact hm
    have hr := Option.some.inj hG; subst hr
    exact hm
  have b_2m := (fH10).len
  have b_2n := (fH10).2
  have b_2p : H10.sh.length ≤ c0 + C := by omega
  have b_2q : H10.sl ≤ s0 + Sl := by omega
  refine hp_callV_v (H1 := H10) (As := []) (rest := []) d_Body_innerBlock_28 (k_Body_deepen z8 (C := H10.sh.length - H.sh.length) (Sl := H10.sl - H.sl) (by show H10.sh.length ≤ _; omega) (by show H10.sl ≤ _; omega)) (ab_mkC s_Body_deepen (show 7 + 1 ≤ fr + 1 from by have := ho.1; omega) (show 8 + (1 + 11) + 122 ≤ lo + 22 from by have := ho.2.1; omega) (show (H.sh.length - c0) + (H10.sh.length - H.sh.length) ≤ C from by omega) (show (H.sl - s0) + (H10.sl - H.sl) ≤ Sl from by omega)) (k5 153 rfl rfl) i_Body_deepen v_Body_deepen q7 (by decide) rfl rfl (Nat.le_of_ble_eq_true rfl) ?_
  refine ab_widen (cells' := H10.sh.length - c0) (slots' := H10.sl - s0) (by show _ + (H10.sh.length - H.sh.length) ≤ _; omega) (by show _ + (H10.sl - H.sl) ≤ _; omega) ?_
  clear b_2l b_2s b_2m b_2n
  refine ab_aload_n d_Body_innerBlock_31 rfl rfl rfl ?_
  refine bT_c hF (fun x15 H14 z12 er => ?_) (fun v13 H14 z12 hG => ?_)
  · subst er
    have mz : Mo H10 H14 := (hmo _ _ _ z12)
    have ml := mz.len
    have m2 := mz.2
    have hC9 : H14.sh.length ≤ c0 + C := hC
    have hS9 : H14.sl ≤ s0 + Sl := hS
    refine hp_callV_t (x := x15) (H1 := H14) (As := []) (rest := []) d_Body_innerBlock_32 (ho.2.2 _ _ _ z12 (H14.sh.length - H10.sh.length) (H14.sl - H10.sl) (by show H14.sh.length ≤ _; omega) (by show H14.sl ≤ _; omega)) (ab_mkC s_Body_block (show fr + 1 ≤ fr + 1 from by have := ho.1; omega) (show 8 + (3 + 11) + lo ≤ lo + 22 from by have := ho.2.1; omega) (show (H10.sh.length - c0) + (H14.sh.length - H10.sh.length) ≤ C from by omega) (show (H10.sl - s0) + (H14.sl - H10.sl) ≤ Sl from by omega)) (k6 17 rfl rfl) i_Body_block v_Body_block q_3 (by decide) rfl rfl (Nat.le_of_ble_eq_true rfl) ?_
    exact ab_U_out rfl (by show _ + (H14.sh.length - H10.sh.length) ≤ C; omega) (by show _ + (H14.sl - H10.sl) ≤ Sl; omega) ⟨rfl, rfl⟩
  clear hF
  have mz_7 : Mo H10 H14 := (hmo _ _ _ z12)
  have b_8l := (mz_7).len
  have b_8s := (mz_7).2
  have b_8c : c0 ≤ H14.sh.length := by omega
  have b_8d : s0 ≤ H14.sl := by omega
  have q_9 := (mz_7).get q_3
  obtain ⟨x16, ex16, hF⟩ := bnd_g hG; clear hG
  obtain ⟨H17, eH17, hG⟩ := bnd_g hF; clear hF
  have jH17 : Mo H14 H17 := by rw [eH17]; exact Mo.rf _
  have fH17 : Mo H17 r.2 := by
    have hm := Mo.rf H17
    have hr := Option.some.inj hG; subst hr
    exact hm
  have fH14 : Mo H14 r.2 := jH17.tr fH17
  have b_8m := (fH14).len
  have b_8n := (fH14).2
  have b_8p : H14.sh.length ≤ c0 + C := by omega
  have b_8q : H14.sl ≤ s0 + Sl := by omega
  refine hp_callV_v (H1 := H14) (As := []) (rest := []) d_Body_innerBlock_32 (ho.2.2 _ _ _ z12 (H14.sh.length - H10.sh.length) (H14.sl - H10.sl) (by show H14.sh.length ≤ _; omega) (by show H14.sl ≤ _; omega)) (ab_mkC s_Body_block (show fr + 1 ≤ fr + 1 from by have := ho.1; omega) (show 8 + (3 + 11) + lo ≤ lo + 22 from by have := ho.2.1; omega) (show (H10.sh.length - c0) + (H14.sh.length - H10.sh.length) ≤ C from by omega) (show (H10.sl - s0) + (H14.sl - H10.sl) ≤ Sl from by omega)) (k6 17 rfl rfl) i_Body_block v_Body_block q_3 (by decide) rfl rfl (Nat.le_of_ble_eq_true rfl) ?_
  refine ab_widen (cells' := H14.sh.length - c0) (slots' := H14.sl - s0) (by show _ + (H14.sh.length - H10.sh.length) ≤ _; omega) (by show _ + (H14.sl - H10.sl) ≤ _; omega) ?_
  clear b_8l b_8s b_8m b_8n b_2c b_2d b_2p b_2q
  refine ab_aload_n d_Body_innerBlock_35 rfl rfl rfl ?_
  refine ab_dup d_Body_innerBlock_36 rfl ?_
  refine hp_getI (f := 6) d_Body_innerBlock_37 q_9 (by decide) rfl (by decide) (k1 163 rfl rfl) rfl ?_
  refine ab_topxi ex16 ?_
  refine ab_iconst (v := 1) d_Body_innerBlock_40 (by decide) ?_
  refine ab_isub d_Body_innerBlock_41 ?_
  refine hp_putI (v := x16 - (1 : Int32)) (f := 6) d_Body_innerBlock_42 q_9 (by decide) rfl (by decide) (k1 163 rfl rfl) rfl rfl (fun _ => rfl) (fun _ => rfl) rfl ?_
  refine hp_genx eH17 ?_
  have s_11 : Sa H14 H17 := by rw [eH17]; exact Sa.rf _
  exact ab_vret d_Body_innerBlock_45 rfl (by show _ ≤ C; omega) (by show _ ≤ Sl; omega) (by have hr := Option.some.inj hG; subst hr; exact ⟨rfl, rfl⟩)
def F_Body_innerBlock (N : Nat) (o : Orc_BodyS) (p0 : Nat) (H : Hp) : Option ((Ot Unit) × Hp) :=
    ck (H.sh[p0]? = some (6, 0)) <|
    rf (H.P p0 0) fun a2 =>
    ck (H.sh[a2]? = some (1, 0)) <|
    bnd ((H.D a2 2)) fun x5 =>
    if x5 = (10 : Int32) then
    B_Body_innerBlock_27 N o p0  H
    else
    rf (H.P p0 0) fun a29 =>
    rf (H.P p0 0) fun a31 =>
    ck (H.sh[a31]? = some (1, 0)) <|
    bnd ((H.D a31 3)) fun x34 =>
    ck (H.sh[a29]? = some (1, 0)) <|
    bT (F_Lexer_refuse N a29 (1 : Int32) x34 H) fun v37 H38 =>
    B_Body_innerBlock_27 N o p0  H38
set_option maxRecDepth 20000 in
set_option maxHeartbeats 2000000 in
theorem m_Body_innerBlock {N : Nat} {o : Orc_BodyS} (hmo : mo_BodyS o) {p0 : Nat} {H : Hp} {r : (Ot Unit) × Hp} (hF : F_Body_innerBlock N o p0 H = some r) : Mo H r.2 := by
  unfold F_Body_innerBlock at hF
  have hm := Mo.rf H
  obtain ⟨q40, hG⟩ := ck_s hF; clear hF
  obtain ⟨a41, e42, hF⟩ := rf_s hG; clear hG
  obtain ⟨q43, hG⟩ := ck_s hF; clear hF
  obtain ⟨x44, -, hF⟩ := bnd_g hG; clear hG
  rcases ite_s hF with ⟨q_23, hG⟩ | ⟨q_23, hG⟩
  · clear hF
    exact hm.tr (mB_Body_innerBlock_27 hmo hG)
  · clear hF
    obtain ⟨a46, e47, hF⟩ := rf_s hG; clear hG
    obtain ⟨a48, e49, hG⟩ := rf_s hF; clear hF
    obtain ⟨q50, hF⟩ := ck_s hG; clear hG
    obtain ⟨x51, -, hG⟩ := bnd_g hF; clear hF
    obtain ⟨q52, hF⟩ := ck_s hG; clear hG
    refine bT_c hF (fun x56 H55 z53 er => ?_) (fun v54 H55 z53 hG => ?_)
    · subst er; exact hm.tr (m_Lexer_refuse z53)
    clear hF
    replace hm : Mo H H55 := hm.tr (m_Lexer_refuse z53)
    exact hm.tr (mB_Body_innerBlock_27 hmo hG)
set_option maxRecDepth 20000 in
set_option maxHeartbeats 2000000 in
theorem k_Body_innerBlock {N : Nat} {o : Orc_BodyS} {fr lo : Nat} (ho : ok_BodyS o fr lo) (hmo : mo_BodyS o) {p0 : Nat} {H : Hp} {r : (Ot Unit) × Hp} {C Sl : Nat} (hF : F_Body_innerBlock N o p0 H = some r) (hC : r.2.sh.length ≤ H.sh.length + C) (hS : r.2.sl ≤ H.sl + Sl) : ab_M y_Body_innerBlock { frames := fr + 1, cells := C, slots := Sl, locals := lo + 22 } [.ref p0] (hpw H) (po (oV r.1) r.2) := by
  unfold F_Body_innerBlock at hF
  obtain ⟨c0, e0⟩ : ∃ q, q = H.sh.length := ⟨_, rfl⟩
  obtain ⟨s0, e1⟩ : ∃ q, q = H.sl := ⟨_, rfl⟩
  rw [← e0] at hC
  rw [← e1] at hS
  have hc0 : c0 ≤ H.sh.length := Nat.le_of_eq e0
  have hs0 : s0 ≤ H.sl := Nat.le_of_eq e1
  have hcc : H.sh.length ≤ c0 + C := by omega
  have hss : H.sl ≤ s0 + Sl := by omega
  refine ab_of2 (lv := [some (.ref p0)]) 0 rfl rfl (Nat.le_of_ble_eq_true rfl) ?_
  refine ab_widen (cells' := H.sh.length - c0) (slots' := H.sl - s0) (Nat.zero_le _) (Nat.zero_le _) ?_
  refine ab_aload_n d_Body_innerBlock_0 rfl rfl rfl ?_
  obtain ⟨q1, hG⟩ := ck_s hF; clear hF
  obtain ⟨a2, e3, hF⟩ := rf_s hG; clear hG
  refine hp_getR (f := 0) d_Body_innerBlock_1 q1 (by decide) rfl (by decide) (k1 157 rfl rfl) rfl e3 ?_
  obtain ⟨q4, hG⟩ := ck_s hF; clear hF
  refine hp_getI (f := 2) d_Body_innerBlock_4 q4 (by decide) rfl (by decide) (k1 99 rfl rfl) rfl ?_
  refine ab_topi (fun x5 ex5 => ?_)
  replace hG := bnd_s ex5 hG
  refine ab_bipush (v := 10) d_Body_innerBlock_7 (by decide) ?_
  refine ab_icmp_eq (tgt := 27) d_Body_innerBlock_9 (by decide) (fun q6 => ?_) (fun q6 => ?_)
  · rw [if_pos q6] at hG
    exact kB_Body_innerBlock_27 ho hmo hG hc0 hs0 hcc hss hC hS
  · rw [if_neg q6] at hG
    refine ab_aload_n d_Body_innerBlock_12 rfl rfl rfl ?_
    obtain ⟨a29, e30, hF⟩ := rf_s hG; clear hG
    refine hp_getR (f := 0) d_Body_innerBlock_13 q1 (by decide) rfl (by decide) (k1 157 rfl rfl) rfl e30 ?_
    refine ab_iconst (v := 1) d_Body_innerBlock_16 (by decide) ?_
    refine ab_aload_n d_Body_innerBlock_17 rfl rfl rfl ?_
    obtain ⟨a31, e32, hG⟩ := rf_s hF; clear hF
    refine hp_getR (f := 0) d_Body_innerBlock_18 q1 (by decide) rfl (by decide) (k1 157 rfl rfl) rfl e32 ?_
    obtain ⟨q33, hF⟩ := ck_s hG; clear hG
    refine hp_getI (f := 3) d_Body_innerBlock_21 q33 (by decide) rfl (by decide) (k1 103 rfl rfl) rfl ?_
    refine ab_topi (fun x34 ex34 => ?_)
    replace hF := bnd_s ex34 hF
    obtain ⟨q35, hG⟩ := ck_s hF; clear hF
    refine bT_c hG (fun x39 H38 z36 er => ?_) (fun v37 H38 z36 hF => ?_)
    · subst er
      have mz : Mo H H38 := (m_Lexer_refuse z36)
      have ml := mz.len
      have m2 := mz.2
      have hC9 : H38.sh.length ≤ c0 + C := hC
      have hS9 : H38.sl ≤ s0 + Sl := hS
      refine hp_callV_t (x := x39) (H1 := H38) (As := [.int 1, .int x34]) (rest := []) d_Body_innerBlock_24 (k_Lexer_refuse z36 (C := H38.sh.length - H.sh.length) (Sl := H38.sl - H.sl) (by show H38.sh.length ≤ _; omega) (by show H38.sl ≤ _; omega)) (ab_mkC s_Lexer_refuse (show 6 + 1 ≤ fr + 1 from by have := ho.1; omega) (show 8 + (3 + 11) + 100 ≤ lo + 22 from by have := ho.2.1; omega) (show (H.sh.length - c0) + (H38.sh.length - H.sh.length) ≤ C from by omega) (show (H.sl - s0) + (H38.sl - H.sl) ≤ Sl from by omega)) (k5 135 rfl rfl) i_Lexer_refuse v_Lexer_refuse q35 (by decide) rfl rfl (Nat.le_of_ble_eq_true rfl) ?_
      exact ab_U_out rfl (by show _ + (H38.sh.length - H.sh.length) ≤ C; omega) (by show _ + (H38.sl - H.sl) ≤ Sl; omega) ⟨rfl, rfl⟩
    clear hG
    have mz_17 : Mo H H38 := (m_Lexer_refuse z36)
    have b_18l := (mz_17).len
    have b_18s := (mz_17).2
    have b_18c : c0 ≤ H38.sh.length := by omega
    have b_18d : s0 ≤ H38.sl := by omega
    have q_19 := (mz_17).get q1
    have q_20 := (mz_17).get q4
    have q_21 := (mz_17).get q33
    have q_22 := (mz_17).get q35
    have fH38 : Mo H38 r.2 := by
      have hm := Mo.rf H38
      exact hm.tr (mB_Body_innerBlock_27 hmo hF)
    have b_18m := (fH38).len
    have b_18n := (fH38).2
    have b_18p : H38.sh.length ≤ c0 + C := by omega
    have b_18q : H38.sl ≤ s0 + Sl := by omega
    refine hp_callV_v (H1 := H38) (As := [.int 1, .int x34]) (rest := []) d_Body_innerBlock_24 (k_Lexer_refuse z36 (C := H38.sh.length - H.sh.length) (Sl := H38.sl - H.sl) (by show H38.sh.length ≤ _; omega) (by show H38.sl ≤ _; omega)) (ab_mkC s_Lexer_refuse (show 6 + 1 ≤ fr + 1 from by have := ho.1; omega) (show 8 + (3 + 11) + 100 ≤ lo + 22 from by have := ho.2.1; omega) (show (H.sh.length - c0) + (H38.sh.length - H.sh.length) ≤ C from by omega) (show (H.sl - s0) + (H38.sl - H.sl) ≤ Sl from by omega)) (k5 135 rfl rfl) i_Lexer_refuse v_Lexer_refuse q35 (by decide) rfl rfl (Nat.le_of_ble_eq_true rfl) ?_
    refine ab_widen (cells' := H38.sh.length - c0) (slots' := H38.sl - s0) (by show _ + (H38.sh.length - H.sh.length) ≤ _; omega) (by show _ + (H38.sl - H.sl) ≤ _; omega) ?_
    clear b_18l b_18s b_18m b_18n
    exact kB_Body_innerBlock_27 ho hmo hF b_18c b_18d b_18p b_18q hC hS
