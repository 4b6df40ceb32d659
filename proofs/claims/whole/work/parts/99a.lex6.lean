def lx_n1 (s : Nat → Int32) (a : Nat → Nat → Int32) (T f : Nat) : Nat × Int64 := sp_n1 s a (T - f) f 0
def lx_n2 (s : Nat → Int32) (a : Nat → Nat → Int32) (T j : Nat) : Nat × Int64 × Int64 × Int32 := sp_n2 s a (T - j) j 0 1 0
theorem max2_ne (z : Int64) : ¬ sp_Math_max2 1 z = 0 := by
  unfold sp_Math_max2
  split
  · rename_i h
    intro e
    rw [e] at h
    exact absurd h (by decide)
  · decide
theorem digit_lt {s : Nat → Int32} {a : Nat → Nat → Int32} {T i : Nat} (hT : s 1 = nI T) (hi : i < 2 ^ 31) (hT2 : T ≤ 6000) (h : ¬ sp_digit (lx_byte s a (nI i)) = 0) : i < T := by
  refine Nat.lt_of_not_le (fun z => h ?_)
  unfold lx_byte
  rw [if_neg (fun q => q (by rw [hT]; exact nI_le z hi))]
  decide
def lx_num (s : Nat → Int32) (a : Nat → Nat → Int32) (T f : Nat) : Nat × Int32 × Int32 × Int32 := if ¬ (lx_byte s a (nI (lx_n1 s a T f).1)) = (46 : Int32) then if (lg_cmp ((lx_n1 s a T f).2) 2147483647) ≤ (0 : Int32) then if (0 : Int32) = (0 : Int32) then ((lx_n1 s a T f).1, 3, (((lx_n1 s a T f).2) : Int64).toInt32, 0) else ((lx_n1 s a T f).1, 3, 0, 0) else if (1 : Int32) = (0 : Int32) then ((lx_n1 s a T f).1, 3, (((lx_n1 s a T f).2) : Int64).toInt32, 1) else ((lx_n1 s a T f).1, 3, 0, 1) else if ¬ (sp_digit (lx_byte s a (nI ((lx_n1 s a T f).1 + 1)))) = (0 : Int32) then if (0 : Int32) < (lg_cmp ((lx_n1 s a T f).2) 32767) then if (1 : Int32) = (0 : Int32) then ((lx_n2 s a T ((lx_n1 s a T f).1 + 1)).1, 4, (((((lx_n1 s a T f).2) <<< ((16 : Int32).toInt64 &&& 63)) + (((((lx_n2 s a T ((lx_n1 s a T f).1 + 1)).2.1) * 65536) + (((lx_n2 s a T ((lx_n1 s a T f).1 + 1)).2.2.1) / 2)) / (sp_Math_max2 1 ((lx_n2 s a T ((lx_n1 s a T f).1 + 1)).2.2.1)))) : Int64).toInt32, 1) else ((lx_n2 s a T ((lx_n1 s a T f).1 + 1)).1, 4, 0, 1) else if ((lx_n2 s a T ((lx_n1 s a T f).1 + 1)).2.2.2) ≤ (4 : Int32) then if (0 : Int32) = (0 : Int32) then ((lx_n2 s a T ((lx_n1 s a T f).1 + 1)).1, 4, (((((lx_n1 s a T f).2) <<< ((16 : Int32).toInt64 &&& 63)) + (((((lx_n2 s a T ((lx_n1 s a T f).1 + 1)).2.1) * 65536) + (((lx_n2 s a T ((lx_n1 s a T f).1 + 1)).2.2.1) / 2)) / (sp_Math_max2 1 ((lx_n2 s a T ((lx_n1 s a T f).1 + 1)).2.2.1)))) : Int64).toInt32, 0) else ((lx_n2 s a T ((lx_n1 s a T f).1 + 1)).1, 4, 0, 0) else if (1 : Int32) = (0 : Int32) then ((lx_n2 s a T ((lx_n1 s a T f).1 + 1)).1, 4, (((((lx_n1 s a T f).2) <<< ((16 : Int32).toInt64 &&& 63)) + (((((lx_n2 s a T ((lx_n1 s a T f).1 + 1)).2.1) * 65536) + (((lx_n2 s a T ((lx_n1 s a T f).1 + 1)).2.2.1) / 2)) / (sp_Math_max2 1 ((lx_n2 s a T ((lx_n1 s a T f).1 + 1)).2.2.1)))) : Int64).toInt32, 1) else ((lx_n2 s a T ((lx_n1 s a T f).1 + 1)).1, 4, 0, 1) else if (lg_cmp ((lx_n1 s a T f).2) 2147483647) ≤ (0 : Int32) then if (0 : Int32) = (0 : Int32) then ((lx_n1 s a T f).1, 3, (((lx_n1 s a T f).2) : Int64).toInt32, 0) else ((lx_n1 s a T f).1, 3, 0, 0) else if (1 : Int32) = (0 : Int32) then ((lx_n1 s a T f).1, 3, (((lx_n1 s a T f).2) : Int64).toInt32, 1) else ((lx_n1 s a T f).1, 3, 0, 1)
set_option maxRecDepth 20000 in
set_option maxHeartbeats 2000000 in
theorem c_Lexer_behindNumber {h : List ab_E} {b : Nat} {s : Nat → Int32} {a : Nat → Nat → Int32} {T f : Nat} (hl : at_Lexer h b s a) (hT : s 1 = nI T) (hT2 : T ≤ 6000) (hf : f < T) (hc : ¬ s 10 < 0) : ab_M y_Lexer_behindNumber { frames := 5, cells := 0, slots := 0, locals := 200 } [.ref b, .int (nI f)] h (ab_A (some (.int (nI (lx_num s a T f).1))) (fun h1 => at_Lexer h1 b (sp_note_s s) (sp_note_a s a ((lx_num s a T f).2.1) (nI f) ((lx_num s a T f).2.2.1) ((lx_num s a T f).2.2.2)) ∧ ab_fr (in_Lexer b) h h1)) := by
  have hl0 := hl; obtain ⟨go, g0, g6, g7, g8, g9, g12⟩ := hl
  refine ab_of2 (lv := [some (.ref b), some (.int (nI f)), none, none, none, none, none, none, none, none, none, none, none]) 11 rfl rfl (Nat.le_of_ble_eq_true rfl) ?_
  refine ab_lconst (v := 0) d_Lexer_behindNumber_0 (by decide) ?_
  refine ab_lstore_n (lv' := [some (.ref b), some (.int (nI f)), some (.long 0), none, none, none, none, none, none, none, none, none, none]) d_Lexer_behindNumber_1 rfl (by decide) rfl ?_
  refine ab_iload_n d_Lexer_behindNumber_2 rfl rfl ?_
  refine ab_istore (lv' := [some (.ref b), some (.int (nI f)), some (.long 0), none, some (.int (nI f)), none, none, none, none, none, none, none, none]) d_Lexer_behindNumber_3 (by decide) rfl ?_
  refine l_n1 hl0 hT hT2 (by first | decide | exact Nat.le_refl _) (by first | decide | exact Nat.le_refl _) (T - f) f 0 (by omega) (by omega) (fun g1 g2 => ?_)
  replace g1 : f ≤ (lx_n1 s a T f).1 := g1
  replace g2 : (lx_n1 s a T f).1 ≤ T := g2
  show ab_V _ _ _ _ _ _ _ _ [some (.ref b), some (.int (nI f)), some (.long ((lx_n1 s a T f).2)), none, some (.int (nI (lx_n1 s a T f).1)), none, none, none, none, none, none, none, none] _ _
  refine ab_aload_n d_Lexer_behindNumber_56 rfl rfl rfl ?_
  refine ab_iload d_Lexer_behindNumber_57 rfl ?_
  refine ab_callV_a (As := [.int (nI (lx_n1 s a T f).1)]) (rest := []) d_Lexer_behindNumber_59 (c_lx_byte hl0 (nI_pos (by omega)) hT hT2) (ab_mkC s_Lexer_byteAt (Nat.le_of_ble_eq_true rfl) (Nat.le_of_ble_eq_true rfl) (by decide) (by decide)) (k3 226 rfl rfl) i_Lexer_byteAt v_Lexer_byteAt go rfl rfl (Nat.le_of_ble_eq_true rfl) (fun h4 q3 => ?_)
  subst q3
  refine ab_bipush (v := 46) d_Lexer_behindNumber_62 (by decide) ?_
  refine ab_icmp_ne (tgt := 81) d_Lexer_behindNumber_64 (by decide) (fun q5 => ?_) (fun q5 => ?_)
  · refine ab_lload_n d_Lexer_behindNumber_81 rfl rfl ?_
    refine ab_ldc2 d_Lexer_behindNumber_82 (k4 22 rfl rfl) ?_
    refine ab_lcmp d_Lexer_behindNumber_85 ?_
    refine ab_if_le (tgt := 93) d_Lexer_behindNumber_86 (by decide) (fun q6 => ?_) (fun q6 => ?_)
    · refine ab_iconst (v := 0) d_Lexer_behindNumber_93 (by decide) ?_
      refine ab_istore (lv' := [some (.ref b), some (.int (nI f)), some (.long ((lx_n1 s a T f).2)), none, some (.int (nI (lx_n1 s a T f).1)), some (.int 0), none, none, none, none, none, none, none]) d_Lexer_behindNumber_94 (by decide) rfl ?_
      refine ab_aload_n d_Lexer_behindNumber_96 rfl rfl rfl ?_
      refine ab_iconst (v := 3) d_Lexer_behindNumber_97 (by decide) ?_
      refine ab_iload_n d_Lexer_behindNumber_98 rfl rfl ?_
      refine ab_iload d_Lexer_behindNumber_99 rfl ?_
      refine ab_if_eq (tgt := 108) d_Lexer_behindNumber_101 (by decide) (fun q7 => ?_) (fun q7 => ?_)
      · refine ab_lload_n d_Lexer_behindNumber_108 rfl rfl ?_
        refine ab_l2i d_Lexer_behindNumber_109 ?_
        refine ab_iload d_Lexer_behindNumber_110 rfl ?_
        refine ab_callV_v (As := [.int 3, .int (nI f), .int ((((lx_n1 s a T f).2) : Int64).toInt32), .int 0]) (rest := []) d_Lexer_behindNumber_112 (c_Lexer_note hl0 hc) (ab_mkC s_Lexer_note (Nat.le_of_ble_eq_true rfl) (Nat.le_of_ble_eq_true rfl) (by decide) (by decide)) (k4 8 rfl rfl) i_Lexer_note v_Lexer_note go rfl rfl (Nat.le_of_ble_eq_true rfl) (fun h8 qn9 => ?_)
        refine ab_iload d_Lexer_behindNumber_115 rfl ?_
        exact ab_iret d_Lexer_behindNumber_117 rfl (Nat.le_refl _) (Nat.le_refl _) (by have hsp : lx_num s a T f = ((lx_n1 s a T f).1, 3, (((lx_n1 s a T f).2) : Int64).toInt32, 0) := (by unfold lx_num; rw [if_pos q5]; rw [if_pos q6]; rw [if_pos q7]; try rfl); rw [hsp]; exact ⟨rfl, qn9⟩)
      · refine ab_iconst (v := 0) d_Lexer_behindNumber_104 (by decide) ?_
        refine ab_goto (tgt := 110) d_Lexer_behindNumber_105 (by decide) ?_
        refine ab_iload d_Lexer_behindNumber_110 rfl ?_
        refine ab_callV_v (As := [.int 3, .int (nI f), .int 0, .int 0]) (rest := []) d_Lexer_behindNumber_112 (c_Lexer_note hl0 hc) (ab_mkC s_Lexer_note (Nat.le_of_ble_eq_true rfl) (Nat.le_of_ble_eq_true rfl) (by decide) (by decide)) (k4 8 rfl rfl) i_Lexer_note v_Lexer_note go rfl rfl (Nat.le_of_ble_eq_true rfl) (fun h10 qn11 => ?_)
        refine ab_iload d_Lexer_behindNumber_115 rfl ?_
        exact ab_iret d_Lexer_behindNumber_117 rfl (Nat.le_refl _) (Nat.le_refl _) (by have hsp : lx_num s a T f = ((lx_n1 s a T f).1, 3, 0, 0) := (by unfold lx_num; rw [if_pos q5]; rw [if_pos q6]; rw [if_neg q7]; try rfl); rw [hsp]; exact ⟨rfl, qn11⟩)
    · refine ab_iconst (v := 1) d_Lexer_behindNumber_89 (by decide) ?_
      refine ab_goto (tgt := 94) d_Lexer_behindNumber_90 (by decide) ?_
      refine ab_istore (lv' := [some (.ref b), some (.int (nI f)), some (.long ((lx_n1 s a T f).2)), none, some (.int (nI (lx_n1 s a T f).1)), some (.int 1), none, none, none, none, none, none, none]) d_Lexer_behindNumber_94 (by decide) rfl ?_
      refine ab_aload_n d_Lexer_behindNumber_96 rfl rfl rfl ?_
      refine ab_iconst (v := 3) d_Lexer_behindNumber_97 (by decide) ?_
      refine ab_iload_n d_Lexer_behindNumber_98 rfl rfl ?_
      refine ab_iload d_Lexer_behindNumber_99 rfl ?_
      refine ab_if_eq (tgt := 108) d_Lexer_behindNumber_101 (by decide) (fun q12 => ?_) (fun q12 => ?_)
      · refine ab_lload_n d_Lexer_behindNumber_108 rfl rfl ?_
        refine ab_l2i d_Lexer_behindNumber_109 ?_
        refine ab_iload d_Lexer_behindNumber_110 rfl ?_
        refine ab_callV_v (As := [.int 3, .int (nI f), .int ((((lx_n1 s a T f).2) : Int64).toInt32), .int 1]) (rest := []) d_Lexer_behindNumber_112 (c_Lexer_note hl0 hc) (ab_mkC s_Lexer_note (Nat.le_of_ble_eq_true rfl) (Nat.le_of_ble_eq_true rfl) (by decide) (by decide)) (k4 8 rfl rfl) i_Lexer_note v_Lexer_note go rfl rfl (Nat.le_of_ble_eq_true rfl) (fun h13 qn14 => ?_)
        refine ab_iload d_Lexer_behindNumber_115 rfl ?_
        exact ab_iret d_Lexer_behindNumber_117 rfl (Nat.le_refl _) (Nat.le_refl _) (by have hsp : lx_num s a T f = ((lx_n1 s a T f).1, 3, (((lx_n1 s a T f).2) : Int64).toInt32, 1) := (by unfold lx_num; rw [if_pos q5]; rw [if_neg q6]; rw [if_pos q12]; try rfl); rw [hsp]; exact ⟨rfl, qn14⟩)
      · refine ab_iconst (v := 0) d_Lexer_behindNumber_104 (by decide) ?_
        refine ab_goto (tgt := 110) d_Lexer_behindNumber_105 (by decide) ?_
        refine ab_iload d_Lexer_behindNumber_110 rfl ?_
        refine ab_callV_v (As := [.int 3, .int (nI f), .int 0, .int 1]) (rest := []) d_Lexer_behindNumber_112 (c_Lexer_note hl0 hc) (ab_mkC s_Lexer_note (Nat.le_of_ble_eq_true rfl) (Nat.le_of_ble_eq_true rfl) (by decide) (by decide)) (k4 8 rfl rfl) i_Lexer_note v_Lexer_note go rfl rfl (Nat.le_of_ble_eq_true rfl) (fun h15 qn16 => ?_)
        refine ab_iload d_Lexer_behindNumber_115 rfl ?_
        exact ab_iret d_Lexer_behindNumber_117 rfl (Nat.le_refl _) (Nat.le_refl _) (by have hsp : lx_num s a T f = ((lx_n1 s a T f).1, 3, 0, 1) := (by unfold lx_num; rw [if_pos q5]; rw [if_neg q6]; rw [if_neg q12]; try rfl); rw [hsp]; exact ⟨rfl, qn16⟩)
  · refine ab_aload_n d_Lexer_behindNumber_67 rfl rfl rfl ?_
    refine ab_iload d_Lexer_behindNumber_68 rfl ?_
    refine ab_iconst (v := 1) d_Lexer_behindNumber_70 (by decide) ?_
    refine ab_iadd d_Lexer_behindNumber_71 ?_
    refine ab_topi (fun x17 ex17 => ?_)
    obtain rfl : x17 = nI ((lx_n1 s a T f).1 + 1) := ex17.trans (nI_1 _)
    clear ex17
    refine ab_callV_a (As := [.int (nI ((lx_n1 s a T f).1 + 1))]) (rest := []) d_Lexer_behindNumber_72 (c_lx_byte hl0 (nI_pos (by omega)) hT hT2) (ab_mkC s_Lexer_byteAt (Nat.le_of_ble_eq_true rfl) (Nat.le_of_ble_eq_true rfl) (by decide) (by decide)) (k3 226 rfl rfl) i_Lexer_byteAt v_Lexer_byteAt go rfl rfl (Nat.le_of_ble_eq_true rfl) (fun h19 q18 => ?_)
    subst q18
    refine ab_callS_a (As := [.int (lx_byte s a (nI ((lx_n1 s a T f).1 + 1)))]) (rest := []) d_Lexer_behindNumber_75 (c_Lexer_isDigit) (ab_mkC s_Lexer_isDigit (Nat.le_of_ble_eq_true rfl) (Nat.le_of_ble_eq_true rfl) (by decide) (by decide)) (k4 1 rfl rfl) t_Lexer_isDigit rfl (Nat.le_of_ble_eq_true rfl) (fun h21 q20 => ?_)
    subst q20
    refine ab_if_ne (tgt := 118) d_Lexer_behindNumber_78 (by decide) (fun q22 => ?_) (fun q22 => ?_)
    · refine ab_lconst (v := 0) d_Lexer_behindNumber_118 (by decide) ?_
      refine ab_lstore (lv' := [some (.ref b), some (.int (nI f)), some (.long ((lx_n1 s a T f).2)), none, some (.int (nI (lx_n1 s a T f).1)), some (.long 0), none, none, none, none, none, none, none]) d_Lexer_behindNumber_119 (by decide) rfl ?_
      refine ab_lconst (v := 1) d_Lexer_behindNumber_121 (by decide) ?_
      refine ab_lstore (lv' := [some (.ref b), some (.int (nI f)), some (.long ((lx_n1 s a T f).2)), none, some (.int (nI (lx_n1 s a T f).1)), some (.long 0), none, some (.long 1), none, none, none, none, none]) d_Lexer_behindNumber_122 (by decide) rfl ?_
      refine ab_iconst (v := 0) d_Lexer_behindNumber_124 (by decide) ?_
      refine ab_istore (lv' := [some (.ref b), some (.int (nI f)), some (.long ((lx_n1 s a T f).2)), none, some (.int (nI (lx_n1 s a T f).1)), some (.long 0), none, some (.long 1), none, some (.int 0), none, none, none]) d_Lexer_behindNumber_125 (by decide) rfl ?_
      obtain ⟨x23, ex23⟩ : ∃ q : Int32, q = nI (lx_n1 s a T f).1 + 1 := ⟨_, rfl⟩
      refine ab_iinc (v := x23) (lv' := [some (.ref b), some (.int (nI f)), some (.long ((lx_n1 s a T f).2)), none, some (.int x23), some (.long 0), none, some (.long 1), none, some (.int 0), none, none, none]) d_Lexer_behindNumber_127 rfl (by rw [ex23]; rfl) (by decide) rfl ?_
      obtain rfl : x23 = nI ((lx_n1 s a T f).1 + 1) := ex23.trans (nI_1 _)
      have hj := digit_lt hT (by omega) hT2 q22
      refine l_n2 hl0 hT hT2 (by first | decide | exact Nat.le_refl _) (by first | decide | exact Nat.le_refl _) (T - ((lx_n1 s a T f).1 + 1)) ((lx_n1 s a T f).1 + 1) 0 1 0 (by omega) (by omega) (fun g24 g25 => ?_)
      replace g25 : (lx_n2 s a T ((lx_n1 s a T f).1 + 1)).1 ≤ T := g25
      show ab_V _ _ _ _ _ _ _ _ [some (.ref b), some (.int (nI f)), some (.long ((lx_n1 s a T f).2)), none, some (.int (nI (lx_n2 s a T ((lx_n1 s a T f).1 + 1)).1)), some (.long ((lx_n2 s a T ((lx_n1 s a T f).1 + 1)).2.1)), none, some (.long ((lx_n2 s a T ((lx_n1 s a T f).1 + 1)).2.2.1)), none, some (.int ((lx_n2 s a T ((lx_n1 s a T f).1 + 1)).2.2.2)), none, none, none] _ _
      refine ab_lload_n d_Lexer_behindNumber_194 rfl rfl ?_
      refine ab_ldc2 d_Lexer_behindNumber_195 (k4 23 rfl rfl) ?_
      refine ab_lcmp d_Lexer_behindNumber_198 ?_
      refine ab_if_gt (tgt := 208) d_Lexer_behindNumber_199 (by decide) (fun q26 => ?_) (fun q26 => ?_)
      · refine ab_iconst (v := 1) d_Lexer_behindNumber_208 (by decide) ?_
        refine ab_goto (tgt := 213) d_Lexer_behindNumber_209 (by decide) ?_
        refine ab_istore (lv' := [some (.ref b), some (.int (nI f)), some (.long ((lx_n1 s a T f).2)), none, some (.int (nI (lx_n2 s a T ((lx_n1 s a T f).1 + 1)).1)), some (.long ((lx_n2 s a T ((lx_n1 s a T f).1 + 1)).2.1)), none, some (.long ((lx_n2 s a T ((lx_n1 s a T f).1 + 1)).2.2.1)), none, some (.int ((lx_n2 s a T ((lx_n1 s a T f).1 + 1)).2.2.2)), some (.int 1), none, none]) d_Lexer_behindNumber_213 (by decide) rfl ?_
        refine ab_lload_n d_Lexer_behindNumber_215 rfl rfl ?_
        refine ab_bipush (v := 16) d_Lexer_behindNumber_216 (by decide) ?_
        refine ab_lshl d_Lexer_behindNumber_218 ?_
        refine ab_lload d_Lexer_behindNumber_219 rfl ?_
        refine ab_ldc2 d_Lexer_behindNumber_221 (k4 24 rfl rfl) ?_
        refine ab_lmul d_Lexer_behindNumber_224 ?_
        refine ab_lload d_Lexer_behindNumber_225 rfl ?_
        refine ab_ldc2 d_Lexer_behindNumber_227 (k4 25 rfl rfl) ?_
        refine ab_ldiv d_Lexer_behindNumber_230 (by decide) ?_
        refine ab_ladd d_Lexer_behindNumber_231 ?_
        refine ab_lconst (v := 1) d_Lexer_behindNumber_232 (by decide) ?_
        refine ab_lload d_Lexer_behindNumber_233 rfl ?_
        refine ab_callS_a (As := [.long 1, .long ((lx_n2 s a T ((lx_n1 s a T f).1 + 1)).2.2.1)]) (rest := [.long ((((lx_n2 s a T ((lx_n1 s a T f).1 + 1)).2.1) * 65536) + (((lx_n2 s a T ((lx_n1 s a T f).1 + 1)).2.2.1) / 2)), .long (((lx_n1 s a T f).2) <<< ((16 : Int32).toInt64 &&& 63))]) d_Lexer_behindNumber_235 (c_Math_max2) (ab_mkC s_Math_max2 (Nat.le_of_ble_eq_true rfl) (Nat.le_of_ble_eq_true rfl) (by decide) (by decide)) (k4 26 rfl rfl) t_Math_max2 rfl (Nat.le_of_ble_eq_true rfl) (fun h28 q27 => ?_)
        subst q27
        refine ab_ldiv d_Lexer_behindNumber_238 (max2_ne _) ?_
        refine ab_ladd d_Lexer_behindNumber_239 ?_
        refine ab_topl (fun x29 ex29 => ?_)
        refine ab_lstore (lv' := [some (.ref b), some (.int (nI f)), some (.long ((lx_n1 s a T f).2)), none, some (.int (nI (lx_n2 s a T ((lx_n1 s a T f).1 + 1)).1)), some (.long ((lx_n2 s a T ((lx_n1 s a T f).1 + 1)).2.1)), none, some (.long ((lx_n2 s a T ((lx_n1 s a T f).1 + 1)).2.2.1)), none, some (.int ((lx_n2 s a T ((lx_n1 s a T f).1 + 1)).2.2.2)), some (.int 1), some (.long x29), none]) d_Lexer_behindNumber_240 (by decide) rfl ?_
        refine ab_aload_n d_Lexer_behindNumber_242 rfl rfl rfl ?_
        refine ab_iconst (v := 4) d_Lexer_behindNumber_243 (by decide) ?_
        refine ab_iload_n d_Lexer_behindNumber_244 rfl rfl ?_
        refine ab_iload d_Lexer_behindNumber_245 rfl ?_
        refine ab_if_eq (tgt := 254) d_Lexer_behindNumber_247 (by decide) (fun q30 => ?_) (fun q30 => ?_)
        · refine ab_lload d_Lexer_behindNumber_254 rfl ?_
          refine ab_l2i d_Lexer_behindNumber_256 ?_
          refine ab_iload d_Lexer_behindNumber_257 rfl ?_
          refine ab_callV_v (As := [.int 4, .int (nI f), .int ((x29 : Int64).toInt32), .int 1]) (rest := []) d_Lexer_behindNumber_259 (c_Lexer_note hl0 hc) (ab_mkC s_Lexer_note (Nat.le_of_ble_eq_true rfl) (Nat.le_of_ble_eq_true rfl) (by decide) (by decide)) (k4 8 rfl rfl) i_Lexer_note v_Lexer_note go rfl rfl (Nat.le_of_ble_eq_true rfl) (fun h31 qn32 => ?_)
          refine ab_iload d_Lexer_behindNumber_262 rfl ?_
          exact ab_iret d_Lexer_behindNumber_264 rfl (Nat.le_refl _) (Nat.le_refl _) (by subst ex29; have hsp : lx_num s a T f = ((lx_n2 s a T ((lx_n1 s a T f).1 + 1)).1, 4, (((((lx_n1 s a T f).2) <<< ((16 : Int32).toInt64 &&& 63)) + (((((lx_n2 s a T ((lx_n1 s a T f).1 + 1)).2.1) * 65536) + (((lx_n2 s a T ((lx_n1 s a T f).1 + 1)).2.2.1) / 2)) / (sp_Math_max2 1 ((lx_n2 s a T ((lx_n1 s a T f).1 + 1)).2.2.1)))) : Int64).toInt32, 1) := (by unfold lx_num; rw [if_neg (fun z => z q5)]; rw [if_pos q22]; rw [if_pos q26]; rw [if_pos q30]; try rfl); rw [hsp]; exact ⟨rfl, qn32⟩)
        · refine ab_iconst (v := 0) d_Lexer_behindNumber_250 (by decide) ?_
          refine ab_goto (tgt := 257) d_Lexer_behindNumber_251 (by decide) ?_
          refine ab_iload d_Lexer_behindNumber_257 rfl ?_
          refine ab_callV_v (As := [.int 4, .int (nI f), .int 0, .int 1]) (rest := []) d_Lexer_behindNumber_259 (c_Lexer_note hl0 hc) (ab_mkC s_Lexer_note (Nat.le_of_ble_eq_true rfl) (Nat.le_of_ble_eq_true rfl) (by decide) (by decide)) (k4 8 rfl rfl) i_Lexer_note v_Lexer_note go rfl rfl (Nat.le_of_ble_eq_true rfl) (fun h33 qn34 => ?_)
          refine ab_iload d_Lexer_behindNumber_262 rfl ?_
          exact ab_iret d_Lexer_behindNumber_264 rfl (Nat.le_refl _) (Nat.le_refl _) (by subst ex29; have hsp : lx_num s a T f = ((lx_n2 s a T ((lx_n1 s a T f).1 + 1)).1, 4, 0, 1) := (by unfold lx_num; rw [if_neg (fun z => z q5)]; rw [if_pos q22]; rw [if_pos q26]; rw [if_neg q30]; try rfl); rw [hsp]; exact ⟨rfl, qn34⟩)
      · refine ab_iload d_Lexer_behindNumber_202 rfl ?_
        refine ab_iconst (v := 4) d_Lexer_behindNumber_204 (by decide) ?_
        refine ab_icmp_le (tgt := 212) d_Lexer_behindNumber_205 (by decide) (fun q35 => ?_) (fun q35 => ?_)
        · refine ab_iconst (v := 0) d_Lexer_behindNumber_212 (by decide) ?_
          refine ab_istore (lv' := [some (.ref b), some (.int (nI f)), some (.long ((lx_n1 s a T f).2)), none, some (.int (nI (lx_n2 s a T ((lx_n1 s a T f).1 + 1)).1)), some (.long ((lx_n2 s a T ((lx_n1 s a T f).1 + 1)).2.1)), none, some (.long ((lx_n2 s a T ((lx_n1 s a T f).1 + 1)).2.2.1)), none, some (.int ((lx_n2 s a T ((lx_n1 s a T f).1 + 1)).2.2.2)), some (.int 0), none, none]) d_Lexer_behindNumber_213 (by decide) rfl ?_
          refine ab_lload_n d_Lexer_behindNumber_215 rfl rfl ?_
          refine ab_bipush (v := 16) d_Lexer_behindNumber_216 (by decide) ?_
          refine ab_lshl d_Lexer_behindNumber_218 ?_
          refine ab_lload d_Lexer_behindNumber_219 rfl ?_
          refine ab_ldc2 d_Lexer_behindNumber_221 (k4 24 rfl rfl) ?_
          refine ab_lmul d_Lexer_behindNumber_224 ?_
          refine ab_lload d_Lexer_behindNumber_225 rfl ?_
          refine ab_ldc2 d_Lexer_behindNumber_227 (k4 25 rfl rfl) ?_
          refine ab_ldiv d_Lexer_behindNumber_230 (by decide) ?_
          refine ab_ladd d_Lexer_behindNumber_231 ?_
          refine ab_lconst (v := 1) d_Lexer_behindNumber_232 (by decide) ?_
          refine ab_lload d_Lexer_behindNumber_233 rfl ?_
          refine ab_callS_a (As := [.long 1, .long ((lx_n2 s a T ((lx_n1 s a T f).1 + 1)).2.2.1)]) (rest := [.long ((((lx_n2 s a T ((lx_n1 s a T f).1 + 1)).2.1) * 65536) + (((lx_n2 s a T ((lx_n1 s a T f).1 + 1)).2.2.1) / 2)), .long (((lx_n1 s a T f).2) <<< ((16 : Int32).toInt64 &&& 63))]) d_Lexer_behindNumber_235 (c_Math_max2) (ab_mkC s_Math_max2 (Nat.le_of_ble_eq_true rfl) (Nat.le_of_ble_eq_true rfl) (by decide) (by decide)) (k4 26 rfl rfl) t_Math_max2 rfl (Nat.le_of_ble_eq_true rfl) (fun h37 q36 => ?_)
          subst q36
          refine ab_ldiv d_Lexer_behindNumber_238 (max2_ne _) ?_
          refine ab_ladd d_Lexer_behindNumber_239 ?_
          refine ab_topl (fun x38 ex38 => ?_)
          refine ab_lstore (lv' := [some (.ref b), some (.int (nI f)), some (.long ((lx_n1 s a T f).2)), none, some (.int (nI (lx_n2 s a T ((lx_n1 s a T f).1 + 1)).1)), some (.long ((lx_n2 s a T ((lx_n1 s a T f).1 + 1)).2.1)), none, some (.long ((lx_n2 s a T ((lx_n1 s a T f).1 + 1)).2.2.1)), none, some (.int ((lx_n2 s a T ((lx_n1 s a T f).1 + 1)).2.2.2)), some (.int 0), some (.long x38), none]) d_Lexer_behindNumber_240 (by decide) rfl ?_
          refine ab_aload_n d_Lexer_behindNumber_242 rfl rfl rfl ?_
          refine ab_iconst (v := 4) d_Lexer_behindNumber_243 (by decide) ?_
          refine ab_iload_n d_Lexer_behindNumber_244 rfl rfl ?_
          refine ab_iload d_Lexer_behindNumber_245 rfl ?_
          refine ab_if_eq (tgt := 254) d_Lexer_behindNumber_247 (by decide) (fun q39 => ?_) (fun q39 => ?_)
          · refine ab_lload d_Lexer_behindNumber_254 rfl ?_
            refine ab_l2i d_Lexer_behindNumber_256 ?_
            refine ab_iload d_Lexer_behindNumber_257 rfl ?_
            refine ab_callV_v (As := [.int 4, .int (nI f), .int ((x38 : Int64).toInt32), .int 0]) (rest := []) d_Lexer_behindNumber_259 (c_Lexer_note hl0 hc) (ab_mkC s_Lexer_note (Nat.le_of_ble_eq_true rfl) (Nat.le_of_ble_eq_true rfl) (by decide) (by decide)) (k4 8 rfl rfl) i_Lexer_note v_Lexer_note go rfl rfl (Nat.le_of_ble_eq_true rfl) (fun h40 qn41 => ?_)
            refine ab_iload d_Lexer_behindNumber_262 rfl ?_
            exact ab_iret d_Lexer_behindNumber_264 rfl (Nat.le_refl _) (Nat.le_refl _) (by subst ex38; have hsp : lx_num s a T f = ((lx_n2 s a T ((lx_n1 s a T f).1 + 1)).1, 4, (((((lx_n1 s a T f).2) <<< ((16 : Int32).toInt64 &&& 63)) + (((((lx_n2 s a T ((lx_n1 s a T f).1 + 1)).2.1) * 65536) + (((lx_n2 s a T ((lx_n1 s a T f).1 + 1)).2.2.1) / 2)) / (sp_Math_max2 1 ((lx_n2 s a T ((lx_n1 s a T f).1 + 1)).2.2.1)))) : Int64).toInt32, 0) := (by unfold lx_num; rw [if_neg (fun z => z q5)]; rw [if_pos q22]; rw [if_neg q26]; rw [if_pos q35]; rw [if_pos q39]; try rfl); rw [hsp]; exact ⟨rfl, qn41⟩)
          · refine ab_iconst (v := 0) d_Lexer_behindNumber_250 (by decide) ?_
            refine ab_goto (tgt := 257) d_Lexer_behindNumber_251 (by decide) ?_
            refine ab_iload d_Lexer_behindNumber_257 rfl ?_
            refine ab_callV_v (As := [.int 4, .int (nI f), .int 0, .int 0]) (rest := []) d_Lexer_behindNumber_259 (c_Lexer_note hl0 hc) (ab_mkC s_Lexer_note (Nat.le_of_ble_eq_true rfl) (Nat.le_of_ble_eq_true rfl) (by decide) (by decide)) (k4 8 rfl rfl) i_Lexer_note v_Lexer_note go rfl rfl (Nat.le_of_ble_eq_true rfl) (fun h42 qn43 => ?_)
            refine ab_iload d_Lexer_behindNumber_262 rfl ?_
            exact ab_iret d_Lexer_behindNumber_264 rfl (Nat.le_refl _) (Nat.le_refl _) (by subst ex38; have hsp : lx_num s a T f = ((lx_n2 s a T ((lx_n1 s a T f).1 + 1)).1, 4, 0, 0) := (by unfold lx_num; rw [if_neg (fun z => z q5)]; rw [if_pos q22]; rw [if_neg q26]; rw [if_pos q35]; rw [if_neg q39]; try rfl); rw [hsp]; exact ⟨rfl, qn43⟩)
        · refine ab_iconst (v := 1) d_Lexer_behindNumber_208 (by decide) ?_
          refine ab_goto (tgt := 213) d_Lexer_behindNumber_209 (by decide) ?_
          refine ab_istore (lv' := [some (.ref b), some (.int (nI f)), some (.long ((lx_n1 s a T f).2)), none, some (.int (nI (lx_n2 s a T ((lx_n1 s a T f).1 + 1)).1)), some (.long ((lx_n2 s a T ((lx_n1 s a T f).1 + 1)).2.1)), none, some (.long ((lx_n2 s a T ((lx_n1 s a T f).1 + 1)).2.2.1)), none, some (.int ((lx_n2 s a T ((lx_n1 s a T f).1 + 1)).2.2.2)), some (.int 1), none, none]) d_Lexer_behindNumber_213 (by decide) rfl ?_
          refine ab_lload_n d_Lexer_behindNumber_215 rfl rfl ?_
          refine ab_bipush (v := 16) d_Lexer_behindNumber_216 (by decide) ?_
          refine ab_lshl d_Lexer_behindNumber_218 ?_
          refine ab_lload d_Lexer_behindNumber_219 rfl ?_
          refine ab_ldc2 d_Lexer_behindNumber_221 (k4 24 rfl rfl) ?_
          refine ab_lmul d_Lexer_behindNumber_224 ?_
          refine ab_lload d_Lexer_behindNumber_225 rfl ?_
          refine ab_ldc2 d_Lexer_behindNumber_227 (k4 25 rfl rfl) ?_
          refine ab_ldiv d_Lexer_behindNumber_230 (by decide) ?_
          refine ab_ladd d_Lexer_behindNumber_231 ?_
          refine ab_lconst (v := 1) d_Lexer_behindNumber_232 (by decide) ?_
          refine ab_lload d_Lexer_behindNumber_233 rfl ?_
          refine ab_callS_a (As := [.long 1, .long ((lx_n2 s a T ((lx_n1 s a T f).1 + 1)).2.2.1)]) (rest := [.long ((((lx_n2 s a T ((lx_n1 s a T f).1 + 1)).2.1) * 65536) + (((lx_n2 s a T ((lx_n1 s a T f).1 + 1)).2.2.1) / 2)), .long (((lx_n1 s a T f).2) <<< ((16 : Int32).toInt64 &&& 63))]) d_Lexer_behindNumber_235 (c_Math_max2) (ab_mkC s_Math_max2 (Nat.le_of_ble_eq_true rfl) (Nat.le_of_ble_eq_true rfl) (by decide) (by decide)) (k4 26 rfl rfl) t_Math_max2 rfl (Nat.le_of_ble_eq_true rfl) (fun h45 q44 => ?_)
          subst q44
          refine ab_ldiv d_Lexer_behindNumber_238 (max2_ne _) ?_
          refine ab_ladd d_Lexer_behindNumber_239 ?_
          refine ab_topl (fun x46 ex46 => ?_)
          refine ab_lstore (lv' := [some (.ref b), some (.int (nI f)), some (.long ((lx_n1 s a T f).2)), none, some (.int (nI (lx_n2 s a T ((lx_n1 s a T f).1 + 1)).1)), some (.long ((lx_n2 s a T ((lx_n1 s a T f).1 + 1)).2.1)), none, some (.long ((lx_n2 s a T ((lx_n1 s a T f).1 + 1)).2.2.1)), none, some (.int ((lx_n2 s a T ((lx_n1 s a T f).1 + 1)).2.2.2)), some (.int 1), some (.long x46), none]) d_Lexer_behindNumber_240 (by decide) rfl ?_
          refine ab_aload_n d_Lexer_behindNumber_242 rfl rfl rfl ?_
          refine ab_iconst (v := 4) d_Lexer_behindNumber_243 (by decide) ?_
          refine ab_iload_n d_Lexer_behindNumber_244 rfl rfl ?_
          refine ab_iload d_Lexer_behindNumber_245 rfl ?_
          refine ab_if_eq (tgt := 254) d_Lexer_behindNumber_247 (by decide) (fun q47 => ?_) (fun q47 => ?_)
          · refine ab_lload d_Lexer_behindNumber_254 rfl ?_
            refine ab_l2i d_Lexer_behindNumber_256 ?_
            refine ab_iload d_Lexer_behindNumber_257 rfl ?_
            refine ab_callV_v (As := [.int 4, .int (nI f), .int ((x46 : Int64).toInt32), .int 1]) (rest := []) d_Lexer_behindNumber_259 (c_Lexer_note hl0 hc) (ab_mkC s_Lexer_note (Nat.le_of_ble_eq_true rfl) (Nat.le_of_ble_eq_true rfl) (by decide) (by decide)) (k4 8 rfl rfl) i_Lexer_note v_Lexer_note go rfl rfl (Nat.le_of_ble_eq_true rfl) (fun h48 qn49 => ?_)
            refine ab_iload d_Lexer_behindNumber_262 rfl ?_
            exact ab_iret d_Lexer_behindNumber_264 rfl (Nat.le_refl _) (Nat.le_refl _) (by subst ex46; have hsp : lx_num s a T f = ((lx_n2 s a T ((lx_n1 s a T f).1 + 1)).1, 4, (((((lx_n1 s a T f).2) <<< ((16 : Int32).toInt64 &&& 63)) + (((((lx_n2 s a T ((lx_n1 s a T f).1 + 1)).2.1) * 65536) + (((lx_n2 s a T ((lx_n1 s a T f).1 + 1)).2.2.1) / 2)) / (sp_Math_max2 1 ((lx_n2 s a T ((lx_n1 s a T f).1 + 1)).2.2.1)))) : Int64).toInt32, 1) := (by unfold lx_num; rw [if_neg (fun z => z q5)]; rw [if_pos q22]; rw [if_neg q26]; rw [if_neg q35]; rw [if_pos q47]; try rfl); rw [hsp]; exact ⟨rfl, qn49⟩)
          · refine ab_iconst (v := 0) d_Lexer_behindNumber_250 (by decide) ?_
            refine ab_goto (tgt := 257) d_Lexer_behindNumber_251 (by decide) ?_
            refine ab_iload d_Lexer_behindNumber_257 rfl ?_
            refine ab_callV_v (As := [.int 4, .int (nI f), .int 0, .int 1]) (rest := []) d_Lexer_behindNumber_259 (c_Lexer_note hl0 hc) (ab_mkC s_Lexer_note (Nat.le_of_ble_eq_true rfl) (Nat.le_of_ble_eq_true rfl) (by decide) (by decide)) (k4 8 rfl rfl) i_Lexer_note v_Lexer_note go rfl rfl (Nat.le_of_ble_eq_true rfl) (fun h50 qn51 => ?_)
            refine ab_iload d_Lexer_behindNumber_262 rfl ?_
            exact ab_iret d_Lexer_behindNumber_264 rfl (Nat.le_refl _) (Nat.le_refl _) (by subst ex46; have hsp : lx_num s a T f = ((lx_n2 s a T ((lx_n1 s a T f).1 + 1)).1, 4, 0, 1) := (by unfold lx_num; rw [if_neg (fun z => z q5)]; rw [if_pos q22]; rw [if_neg q26]; rw [if_neg q35]; rw [if_neg q47]; try rfl); rw [hsp]; exact ⟨rfl, qn51⟩)
    · refine ab_lload_n d_Lexer_behindNumber_81 rfl rfl ?_
      refine ab_ldc2 d_Lexer_behindNumber_82 (k4 22 rfl rfl) ?_
      refine ab_lcmp d_Lexer_behindNumber_85 ?_
      refine ab_if_le (tgt := 93) d_Lexer_behindNumber_86 (by decide) (fun q52 => ?_) (fun q52 => ?_)
      · refine ab_iconst (v := 0) d_Lexer_behindNumber_93 (by decide) ?_
        refine ab_istore (lv' := [some (.ref b), some (.int (nI f)), some (.long ((lx_n1 s a T f).2)), none, some (.int (nI (lx_n1 s a T f).1)), some (.int 0), none, none, none, none, none, none, none]) d_Lexer_behindNumber_94 (by decide) rfl ?_
        refine ab_aload_n d_Lexer_behindNumber_96 rfl rfl rfl ?_
        refine ab_iconst (v := 3) d_Lexer_behindNumber_97 (by decide) ?_
        refine ab_iload_n d_Lexer_behindNumber_98 rfl rfl ?_
        refine ab_iload d_Lexer_behindNumber_99 rfl ?_
        refine ab_if_eq (tgt := 108) d_Lexer_behindNumber_101 (by decide) (fun q53 => ?_) (fun q53 => ?_)
        · refine ab_lload_n d_Lexer_behindNumber_108 rfl rfl ?_
          refine ab_l2i d_Lexer_behindNumber_109 ?_
          refine ab_iload d_Lexer_behindNumber_110 rfl ?_
          refine ab_callV_v (As := [.int 3, .int (nI f), .int ((((lx_n1 s a T f).2) : Int64).toInt32), .int 0]) (rest := []) d_Lexer_behindNumber_112 (c_Lexer_note hl0 hc) (ab_mkC s_Lexer_note (Nat.le_of_ble_eq_true rfl) (Nat.le_of_ble_eq_true rfl) (by decide) (by decide)) (k4 8 rfl rfl) i_Lexer_note v_Lexer_note go rfl rfl (Nat.le_of_ble_eq_true rfl) (fun h54 qn55 => ?_)
          refine ab_iload d_Lexer_behindNumber_115 rfl ?_
          exact ab_iret d_Lexer_behindNumber_117 rfl (Nat.le_refl _) (Nat.le_refl _) (by have hsp : lx_num s a T f = ((lx_n1 s a T f).1, 3, (((lx_n1 s a T f).2) : Int64).toInt32, 0) := (by unfold lx_num; rw [if_neg (fun z => z q5)]; rw [if_neg (fun z => z q22)]; rw [if_pos q52]; rw [if_pos q53]; try rfl); rw [hsp]; exact ⟨rfl, qn55⟩)
        · refine ab_iconst (v := 0) d_Lexer_behindNumber_104 (by decide) ?_
          refine ab_goto (tgt := 110) d_Lexer_behindNumber_105 (by decide) ?_
          refine ab_iload d_Lexer_behindNumber_110 rfl ?_
          refine ab_callV_v (As := [.int 3, .int (nI f), .int 0, .int 0]) (rest := []) d_Lexer_behindNumber_112 (c_Lexer_note hl0 hc) (ab_mkC s_Lexer_note (Nat.le_of_ble_eq_true rfl) (Nat.le_of_ble_eq_true rfl) (by decide) (by decide)) (k4 8 rfl rfl) i_Lexer_note v_Lexer_note go rfl rfl (Nat.le_of_ble_eq_true rfl) (fun h56 qn57 => ?_)
          refine ab_iload d_Lexer_behindNumber_115 rfl ?_
          exact ab_iret d_Lexer_behindNumber_117 rfl (Nat.le_refl _) (Nat.le_refl _) (by have hsp : lx_num s a T f = ((lx_n1 s a T f).1, 3, 0, 0) := (by unfold lx_num; rw [if_neg (fun z => z q5)]; rw [if_neg (fun z => z q22)]; rw [if_pos q52]; rw [if_neg q53]; try rfl); rw [hsp]; exact ⟨rfl, qn57⟩)
      · refine ab_iconst (v := 1) d_Lexer_behindNumber_89 (by decide) ?_
        refine ab_goto (tgt := 94) d_Lexer_behindNumber_90 (by decide) ?_
        refine ab_istore (lv' := [some (.ref b), some (.int (nI f)), some (.long ((lx_n1 s a T f).2)), none, some (.int (nI (lx_n1 s a T f).1)), some (.int 1), none, none, none, none, none, none, none]) d_Lexer_behindNumber_94 (by decide) rfl ?_
        refine ab_aload_n d_Lexer_behindNumber_96 rfl rfl rfl ?_
        refine ab_iconst (v := 3) d_Lexer_behindNumber_97 (by decide) ?_
        refine ab_iload_n d_Lexer_behindNumber_98 rfl rfl ?_
        refine ab_iload d_Lexer_behindNumber_99 rfl ?_
        refine ab_if_eq (tgt := 108) d_Lexer_behindNumber_101 (by decide) (fun q58 => ?_) (fun q58 => ?_)
        · refine ab_lload_n d_Lexer_behindNumber_108 rfl rfl ?_
          refine ab_l2i d_Lexer_behindNumber_109 ?_
          refine ab_iload d_Lexer_behindNumber_110 rfl ?_
          refine ab_callV_v (As := [.int 3, .int (nI f), .int ((((lx_n1 s a T f).2) : Int64).toInt32), .int 1]) (rest := []) d_Lexer_behindNumber_112 (c_Lexer_note hl0 hc) (ab_mkC s_Lexer_note (Nat.le_of_ble_eq_true rfl) (Nat.le_of_ble_eq_true rfl) (by decide) (by decide)) (k4 8 rfl rfl) i_Lexer_note v_Lexer_note go rfl rfl (Nat.le_of_ble_eq_true rfl) (fun h59 qn60 => ?_)
          refine ab_iload d_Lexer_behindNumber_115 rfl ?_
          exact ab_iret d_Lexer_behindNumber_117 rfl (Nat.le_refl _) (Nat.le_refl _) (by have hsp : lx_num s a T f = ((lx_n1 s a T f).1, 3, (((lx_n1 s a T f).2) : Int64).toInt32, 1) := (by unfold lx_num; rw [if_neg (fun z => z q5)]; rw [if_neg (fun z => z q22)]; rw [if_neg q52]; rw [if_pos q58]; try rfl); rw [hsp]; exact ⟨rfl, qn60⟩)
        · refine ab_iconst (v := 0) d_Lexer_behindNumber_104 (by decide) ?_
          refine ab_goto (tgt := 110) d_Lexer_behindNumber_105 (by decide) ?_
          refine ab_iload d_Lexer_behindNumber_110 rfl ?_
          refine ab_callV_v (As := [.int 3, .int (nI f), .int 0, .int 1]) (rest := []) d_Lexer_behindNumber_112 (c_Lexer_note hl0 hc) (ab_mkC s_Lexer_note (Nat.le_of_ble_eq_true rfl) (Nat.le_of_ble_eq_true rfl) (by decide) (by decide)) (k4 8 rfl rfl) i_Lexer_note v_Lexer_note go rfl rfl (Nat.le_of_ble_eq_true rfl) (fun h61 qn62 => ?_)
          refine ab_iload d_Lexer_behindNumber_115 rfl ?_
          exact ab_iret d_Lexer_behindNumber_117 rfl (Nat.le_refl _) (Nat.le_refl _) (by have hsp : lx_num s a T f = ((lx_n1 s a T f).1, 3, 0, 1) := (by unfold lx_num; rw [if_neg (fun z => z q5)]; rw [if_neg (fun z => z q22)]; rw [if_neg q52]; rw [if_neg q58]; try rfl); rw [hsp]; exact ⟨rfl, qn62⟩)
