def lx_ixc (c : Int32) : Int32 := if sp_SL_canEncode c = 0 then -1 else lx_ix c
theorem c_lx_ixc {h : List ab_E} {c : Int32} : ab_M y_Str_indexOf { frames := 3, cells := 0, slots := 0, locals := 120 } [.float 2, .int c] h (ab_A (some (.int (lx_ixc c))) (fun h1 => h = h1)) := c_Str_indexOf_2
def lx_sign (bf : Int32 → Int32) (T f : Nat) : Nat × Int32 := if (nI T) ≤ (nI (f + 1)) then if ¬ (0 : Int32) = (61 : Int32) then if ¬ (0 : Int32) = (bf (nI f)) then if (lx_ixc ((((bf (nI f)) : Int32).toUInt32 % 65536).toInt32)) < (0 : Int32) then ((f + 2), 1) else ((f + 1), 10 + (lx_ixc ((((bf (nI f)) : Int32).toUInt32 % 65536).toInt32))) else if (bf (nI f)) = (38 : Int32) then if ¬ (bf (nI f)) = (38 : Int32) then ((f + 2), 31) else ((f + 2), 30) else if ¬ (bf (nI f)) = (124 : Int32) then if (lx_ixc ((((bf (nI f)) : Int32).toUInt32 % 65536).toInt32)) < (0 : Int32) then ((f + 2), 1) else ((f + 1), 10 + (lx_ixc ((((bf (nI f)) : Int32).toUInt32 % 65536).toInt32))) else if ¬ (bf (nI f)) = (38 : Int32) then ((f + 2), 31) else ((f + 2), 30) else if (bf (nI f)) = (60 : Int32) then if ¬ (bf (nI f)) = (60 : Int32) then if ¬ (bf (nI f)) = (62 : Int32) then if ¬ (bf (nI f)) = (61 : Int32) then ((f + 2), 29) else ((f + 2), 28) else ((f + 2), 27) else ((f + 2), 26) else if (bf (nI f)) = (62 : Int32) then if ¬ (bf (nI f)) = (60 : Int32) then if ¬ (bf (nI f)) = (62 : Int32) then if ¬ (bf (nI f)) = (61 : Int32) then ((f + 2), 29) else ((f + 2), 28) else ((f + 2), 27) else ((f + 2), 26) else if (bf (nI f)) = (61 : Int32) then if ¬ (bf (nI f)) = (60 : Int32) then if ¬ (bf (nI f)) = (62 : Int32) then if ¬ (bf (nI f)) = (61 : Int32) then ((f + 2), 29) else ((f + 2), 28) else ((f + 2), 27) else ((f + 2), 26) else if ¬ (bf (nI f)) = (33 : Int32) then if ¬ (0 : Int32) = (bf (nI f)) then if (lx_ixc ((((bf (nI f)) : Int32).toUInt32 % 65536).toInt32)) < (0 : Int32) then ((f + 2), 1) else ((f + 1), 10 + (lx_ixc ((((bf (nI f)) : Int32).toUInt32 % 65536).toInt32))) else if (bf (nI f)) = (38 : Int32) then if ¬ (bf (nI f)) = (38 : Int32) then ((f + 2), 31) else ((f + 2), 30) else if ¬ (bf (nI f)) = (124 : Int32) then if (lx_ixc ((((bf (nI f)) : Int32).toUInt32 % 65536).toInt32)) < (0 : Int32) then ((f + 2), 1) else ((f + 1), 10 + (lx_ixc ((((bf (nI f)) : Int32).toUInt32 % 65536).toInt32))) else if ¬ (bf (nI f)) = (38 : Int32) then ((f + 2), 31) else ((f + 2), 30) else if ¬ (bf (nI f)) = (60 : Int32) then if ¬ (bf (nI f)) = (62 : Int32) then if ¬ (bf (nI f)) = (61 : Int32) then ((f + 2), 29) else ((f + 2), 28) else ((f + 2), 27) else ((f + 2), 26) else if ¬ (bf (nI (f + 1))) = (61 : Int32) then if ¬ (bf (nI (f + 1))) = (bf (nI f)) then if (lx_ixc ((((bf (nI f)) : Int32).toUInt32 % 65536).toInt32)) < (0 : Int32) then ((f + 2), 1) else ((f + 1), 10 + (lx_ixc ((((bf (nI f)) : Int32).toUInt32 % 65536).toInt32))) else if (bf (nI f)) = (38 : Int32) then if ¬ (bf (nI f)) = (38 : Int32) then ((f + 2), 31) else ((f + 2), 30) else if ¬ (bf (nI f)) = (124 : Int32) then if (lx_ixc ((((bf (nI f)) : Int32).toUInt32 % 65536).toInt32)) < (0 : Int32) then ((f + 2), 1) else ((f + 1), 10 + (lx_ixc ((((bf (nI f)) : Int32).toUInt32 % 65536).toInt32))) else if ¬ (bf (nI f)) = (38 : Int32) then ((f + 2), 31) else ((f + 2), 30) else if (bf (nI f)) = (60 : Int32) then if ¬ (bf (nI f)) = (60 : Int32) then if ¬ (bf (nI f)) = (62 : Int32) then if ¬ (bf (nI f)) = (61 : Int32) then ((f + 2), 29) else ((f + 2), 28) else ((f + 2), 27) else ((f + 2), 26) else if (bf (nI f)) = (62 : Int32) then if ¬ (bf (nI f)) = (60 : Int32) then if ¬ (bf (nI f)) = (62 : Int32) then if ¬ (bf (nI f)) = (61 : Int32) then ((f + 2), 29) else ((f + 2), 28) else ((f + 2), 27) else ((f + 2), 26) else if (bf (nI f)) = (61 : Int32) then if ¬ (bf (nI f)) = (60 : Int32) then if ¬ (bf (nI f)) = (62 : Int32) then if ¬ (bf (nI f)) = (61 : Int32) then ((f + 2), 29) else ((f + 2), 28) else ((f + 2), 27) else ((f + 2), 26) else if ¬ (bf (nI f)) = (33 : Int32) then if ¬ (bf (nI (f + 1))) = (bf (nI f)) then if (lx_ixc ((((bf (nI f)) : Int32).toUInt32 % 65536).toInt32)) < (0 : Int32) then ((f + 2), 1) else ((f + 1), 10 + (lx_ixc ((((bf (nI f)) : Int32).toUInt32 % 65536).toInt32))) else if (bf (nI f)) = (38 : Int32) then if ¬ (bf (nI f)) = (38 : Int32) then ((f + 2), 31) else ((f + 2), 30) else if ¬ (bf (nI f)) = (124 : Int32) then if (lx_ixc ((((bf (nI f)) : Int32).toUInt32 % 65536).toInt32)) < (0 : Int32) then ((f + 2), 1) else ((f + 1), 10 + (lx_ixc ((((bf (nI f)) : Int32).toUInt32 % 65536).toInt32))) else if ¬ (bf (nI f)) = (38 : Int32) then ((f + 2), 31) else ((f + 2), 30) else if ¬ (bf (nI f)) = (60 : Int32) then if ¬ (bf (nI f)) = (62 : Int32) then if ¬ (bf (nI f)) = (61 : Int32) then ((f + 2), 29) else ((f + 2), 28) else ((f + 2), 27) else ((f + 2), 26)
set_option maxRecDepth 20000 in
set_option maxHeartbeats 2000000 in
theorem c_Lexer_behindSign {h : List ab_E} {b : Nat} {s : Nat → Int32} {a : Nat → Nat → Int32} {bf : Int32 → Int32} {T f : Nat} (hl : at_Lexer h b s a) (hT : s 1 = nI T) (hT2 : T ≤ 6000) (hb : ∀ i, lx_byte s a i = bf i) (hf : f < T) (hc : ¬ s 10 < 0) : ab_M y_Lexer_behindSign { frames := 5, cells := 0, slots := 0, locals := 200 } [.ref b, .int (nI f)] h (ab_A (some (.int (nI (lx_sign bf T f).1))) (fun h1 => at_Lexer h1 b (sp_note_s s) (sp_note_a s a ((lx_sign bf T f).2) (nI f) (0) (0)) ∧ ab_fr (in_Lexer b) h h1)) := by
  have hl0 := hl; obtain ⟨go, g0, g6, g7, g8, g9, g12⟩ := hl
  replace go : h[b]? = some (.inr (1, [.ref (b + 1), .int (nI T), .int (s 2), .int (s 3), .int (s 4), .int (s 5), .ref (b + 2), .ref (b + 3), .ref (b + 4), .ref (b + 5), .int (s 10), .int (s 11), .ref (b + 6)])) := (by rw [← hT]; exact go)
  refine ab_of2 (lv := [some (.ref b), some (.int (nI f)), none, none, none]) 3 rfl rfl (Nat.le_of_ble_eq_true rfl) ?_
  refine ab_aload_n d_Lexer_behindSign_0 rfl rfl rfl ?_
  refine ab_iload_n d_Lexer_behindSign_1 rfl rfl ?_
  refine ab_callV_a (As := [.int (nI f)]) (rest := []) d_Lexer_behindSign_2 (c_bf hl0 (nI_pos (by omega)) hT hT2 hb) (ab_mkC s_Lexer_byteAt (Nat.le_of_ble_eq_true rfl) (Nat.le_of_ble_eq_true rfl) (by decide) (by decide)) (k3 226 rfl rfl) i_Lexer_byteAt v_Lexer_byteAt go rfl rfl (Nat.le_of_ble_eq_true rfl) (fun h2 q1 => ?_)
  subst q1
  refine ab_istore_n (lv' := [some (.ref b), some (.int (nI f)), some (.int (bf (nI f))), none, none]) d_Lexer_behindSign_5 rfl (by decide) rfl ?_
  refine ab_iload_n d_Lexer_behindSign_6 rfl rfl ?_
  refine ab_iconst (v := 1) d_Lexer_behindSign_7 (by decide) ?_
  refine ab_iadd d_Lexer_behindSign_8 ?_
  refine ab_topi (fun x3 ex3 => ?_)
  obtain rfl : x3 = nI (f + 1) := ex3.trans (nI_add f 1)
  clear ex3
  refine ab_aload_n d_Lexer_behindSign_9 rfl rfl rfl ?_
  refine ab_get (f := 1) d_Lexer_behindSign_10 go rfl (by decide) (k1 95 rfl rfl) rfl ?_
  refine ab_icmp_ge (tgt := 26) d_Lexer_behindSign_13 (by decide) (fun q4 => ?_) (fun q4 => ?_)
  · refine ab_iconst (v := 0) d_Lexer_behindSign_26 (by decide) ?_
    refine ab_istore_n (lv' := [some (.ref b), some (.int (nI f)), some (.int (bf (nI f))), some (.int 0), none]) d_Lexer_behindSign_27 rfl (by decide) rfl ?_
    refine ab_iconst (v := 1) d_Lexer_behindSign_28 (by decide) ?_
    refine ab_istore (lv' := [some (.ref b), some (.int (nI f)), some (.int (bf (nI f))), some (.int 0), some (.int 1)]) d_Lexer_behindSign_29 (by decide) rfl ?_
    refine ab_iload_n d_Lexer_behindSign_31 rfl rfl ?_
    refine ab_bipush (v := 61) d_Lexer_behindSign_32 (by decide) ?_
    refine ab_icmp_ne (tgt := 101) d_Lexer_behindSign_34 (by decide) (fun q5 => ?_) (fun q5 => ?_)
    · refine ab_iload_n d_Lexer_behindSign_101 rfl rfl ?_
      refine ab_iload_n d_Lexer_behindSign_102 rfl rfl ?_
      refine ab_icmp_ne (tgt := 136) d_Lexer_behindSign_103 (by decide) (fun q6 => ?_) (fun q6 => ?_)
      · refine ab_ldcS (k0 := 2) d_Lexer_behindSign_136 (List.mem_of_getElem? (i := 2) rfl) rfl rfl rfl ?_
        refine ab_iload_n d_Lexer_behindSign_138 rfl rfl ?_
        refine ab_i2c d_Lexer_behindSign_139 ?_
        refine ab_callVK_a (k0 := 2) (As := [.int ((((bf (nI f)) : Int32).toUInt32 % 65536).toInt32)]) (rest := []) d_Lexer_behindSign_140 (by decide) (c_lx_ixc) (ab_mkC s_Str_indexOf (Nat.le_of_ble_eq_true rfl) (Nat.le_of_ble_eq_true rfl) (by decide) (by decide)) (k4 34 rfl rfl) i_Str_indexOf v_Str_indexOf rfl (Nat.le_of_ble_eq_true rfl) (fun h8 q7 => ?_)
        subst q7
        refine ab_if_lt (tgt := 167) d_Lexer_behindSign_143 (by decide) (fun q9 => ?_) (fun q9 => ?_)
        · refine ab_aload_n d_Lexer_behindSign_167 rfl rfl rfl ?_
          refine ab_iload d_Lexer_behindSign_168 rfl ?_
          refine ab_iload_n d_Lexer_behindSign_170 rfl rfl ?_
          refine ab_iconst (v := 0) d_Lexer_behindSign_171 (by decide) ?_
          refine ab_iconst (v := 0) d_Lexer_behindSign_172 (by decide) ?_
          refine ab_callV_v (As := [.int 1, .int (nI f), .int 0, .int 0]) (rest := []) d_Lexer_behindSign_173 (c_Lexer_note hl0 hc) (ab_mkC s_Lexer_note (Nat.le_of_ble_eq_true rfl) (Nat.le_of_ble_eq_true rfl) (by decide) (by decide)) (k4 8 rfl rfl) i_Lexer_note v_Lexer_note go rfl rfl (Nat.le_of_ble_eq_true rfl) (fun h10 qn11 => ?_)
          refine ab_iload_n d_Lexer_behindSign_176 rfl rfl ?_
          refine ab_iconst (v := 2) d_Lexer_behindSign_177 (by decide) ?_
          refine ab_iadd d_Lexer_behindSign_178 ?_
          refine ab_topi (fun x12 ex12 => ?_)
          obtain rfl : x12 = nI (f + 2) := ex12.trans (nI_add f 2)
          clear ex12
          exact ab_iret d_Lexer_behindSign_179 rfl (Nat.le_refl _) (Nat.le_refl _) (by have hsp : lx_sign bf T f = ((f + 2), 1) := (by unfold lx_sign; rw [if_pos q4]; rw [if_pos q5]; rw [if_pos q6]; rw [if_pos q9]; try rfl); rw [hsp]; exact ⟨rfl, qn11⟩)
        · refine ab_aload_n d_Lexer_behindSign_146 rfl rfl rfl ?_
          refine ab_bipush (v := 10) d_Lexer_behindSign_147 (by decide) ?_
          refine ab_ldcS (k0 := 2) d_Lexer_behindSign_149 (List.mem_of_getElem? (i := 2) rfl) rfl rfl rfl ?_
          refine ab_iload_n d_Lexer_behindSign_151 rfl rfl ?_
          refine ab_i2c d_Lexer_behindSign_152 ?_
          refine ab_callVK_a (k0 := 2) (As := [.int ((((bf (nI f)) : Int32).toUInt32 % 65536).toInt32)]) (rest := [.int 10, .ref b]) d_Lexer_behindSign_153 (by decide) (c_lx_ixc) (ab_mkC s_Str_indexOf (Nat.le_of_ble_eq_true rfl) (Nat.le_of_ble_eq_true rfl) (by decide) (by decide)) (k4 34 rfl rfl) i_Str_indexOf v_Str_indexOf rfl (Nat.le_of_ble_eq_true rfl) (fun h14 q13 => ?_)
          subst q13
          refine ab_iadd d_Lexer_behindSign_156 ?_
          refine ab_iload_n d_Lexer_behindSign_157 rfl rfl ?_
          refine ab_iconst (v := 0) d_Lexer_behindSign_158 (by decide) ?_
          refine ab_iconst (v := 0) d_Lexer_behindSign_159 (by decide) ?_
          refine ab_callV_v (As := [.int (10 + (lx_ixc ((((bf (nI f)) : Int32).toUInt32 % 65536).toInt32))), .int (nI f), .int 0, .int 0]) (rest := []) d_Lexer_behindSign_160 (c_Lexer_note hl0 hc) (ab_mkC s_Lexer_note (Nat.le_of_ble_eq_true rfl) (Nat.le_of_ble_eq_true rfl) (by decide) (by decide)) (k4 8 rfl rfl) i_Lexer_note v_Lexer_note go rfl rfl (Nat.le_of_ble_eq_true rfl) (fun h15 qn16 => ?_)
          refine ab_iload_n d_Lexer_behindSign_163 rfl rfl ?_
          refine ab_iconst (v := 1) d_Lexer_behindSign_164 (by decide) ?_
          refine ab_iadd d_Lexer_behindSign_165 ?_
          refine ab_topi (fun x17 ex17 => ?_)
          obtain rfl : x17 = nI (f + 1) := ex17.trans (nI_add f 1)
          clear ex17
          exact ab_iret d_Lexer_behindSign_166 rfl (Nat.le_refl _) (Nat.le_refl _) (by have hsp : lx_sign bf T f = ((f + 1), 10 + (lx_ixc ((((bf (nI f)) : Int32).toUInt32 % 65536).toInt32))) := (by unfold lx_sign; rw [if_pos q4]; rw [if_pos q5]; rw [if_pos q6]; rw [if_neg q9]; try rfl); rw [hsp]; exact ⟨rfl, qn16⟩)
      · refine ab_iload_n d_Lexer_behindSign_106 rfl rfl ?_
        refine ab_bipush (v := 38) d_Lexer_behindSign_107 (by decide) ?_
        refine ab_icmp_eq (tgt := 118) d_Lexer_behindSign_109 (by decide) (fun q18 => ?_) (fun q18 => ?_)
        · refine ab_iload_n d_Lexer_behindSign_118 rfl rfl ?_
          refine ab_bipush (v := 38) d_Lexer_behindSign_119 (by decide) ?_
          refine ab_icmp_ne (tgt := 129) d_Lexer_behindSign_121 (by decide) (fun q19 => ?_) (fun q19 => ?_)
          · refine ab_bipush (v := 31) d_Lexer_behindSign_129 (by decide) ?_
            refine ab_istore (lv' := [some (.ref b), some (.int (nI f)), some (.int (bf (nI f))), some (.int 0), some (.int 31)]) d_Lexer_behindSign_131 (by decide) rfl ?_
            refine ab_goto (tgt := 167) d_Lexer_behindSign_133 (by decide) ?_
            refine ab_aload_n d_Lexer_behindSign_167 rfl rfl rfl ?_
            refine ab_iload d_Lexer_behindSign_168 rfl ?_
            refine ab_iload_n d_Lexer_behindSign_170 rfl rfl ?_
            refine ab_iconst (v := 0) d_Lexer_behindSign_171 (by decide) ?_
            refine ab_iconst (v := 0) d_Lexer_behindSign_172 (by decide) ?_
            refine ab_callV_v (As := [.int 31, .int (nI f), .int 0, .int 0]) (rest := []) d_Lexer_behindSign_173 (c_Lexer_note hl0 hc) (ab_mkC s_Lexer_note (Nat.le_of_ble_eq_true rfl) (Nat.le_of_ble_eq_true rfl) (by decide) (by decide)) (k4 8 rfl rfl) i_Lexer_note v_Lexer_note go rfl rfl (Nat.le_of_ble_eq_true rfl) (fun h20 qn21 => ?_)
            refine ab_iload_n d_Lexer_behindSign_176 rfl rfl ?_
            refine ab_iconst (v := 2) d_Lexer_behindSign_177 (by decide) ?_
            refine ab_iadd d_Lexer_behindSign_178 ?_
            refine ab_topi (fun x22 ex22 => ?_)
            obtain rfl : x22 = nI (f + 2) := ex22.trans (nI_add f 2)
            clear ex22
            exact ab_iret d_Lexer_behindSign_179 rfl (Nat.le_refl _) (Nat.le_refl _) (by have hsp : lx_sign bf T f = ((f + 2), 31) := (by unfold lx_sign; rw [if_pos q4]; rw [if_pos q5]; rw [if_neg (fun z => z q6)]; rw [if_pos q18]; rw [if_pos q19]; try rfl); rw [hsp]; exact ⟨rfl, qn21⟩)
          · refine ab_bipush (v := 30) d_Lexer_behindSign_124 (by decide) ?_
            refine ab_goto (tgt := 131) d_Lexer_behindSign_126 (by decide) ?_
            refine ab_istore (lv' := [some (.ref b), some (.int (nI f)), some (.int (bf (nI f))), some (.int 0), some (.int 30)]) d_Lexer_behindSign_131 (by decide) rfl ?_
            refine ab_goto (tgt := 167) d_Lexer_behindSign_133 (by decide) ?_
            refine ab_aload_n d_Lexer_behindSign_167 rfl rfl rfl ?_
            refine ab_iload d_Lexer_behindSign_168 rfl ?_
            refine ab_iload_n d_Lexer_behindSign_170 rfl rfl ?_
            refine ab_iconst (v := 0) d_Lexer_behindSign_171 (by decide) ?_
            refine ab_iconst (v := 0) d_Lexer_behindSign_172 (by decide) ?_
            refine ab_callV_v (As := [.int 30, .int (nI f), .int 0, .int 0]) (rest := []) d_Lexer_behindSign_173 (c_Lexer_note hl0 hc) (ab_mkC s_Lexer_note (Nat.le_of_ble_eq_true rfl) (Nat.le_of_ble_eq_true rfl) (by decide) (by decide)) (k4 8 rfl rfl) i_Lexer_note v_Lexer_note go rfl rfl (Nat.le_of_ble_eq_true rfl) (fun h23 qn24 => ?_)
            refine ab_iload_n d_Lexer_behindSign_176 rfl rfl ?_
            refine ab_iconst (v := 2) d_Lexer_behindSign_177 (by decide) ?_
            refine ab_iadd d_Lexer_behindSign_178 ?_
            refine ab_topi (fun x25 ex25 => ?_)
            obtain rfl : x25 = nI (f + 2) := ex25.trans (nI_add f 2)
            clear ex25
            exact ab_iret d_Lexer_behindSign_179 rfl (Nat.le_refl _) (Nat.le_refl _) (by have hsp : lx_sign bf T f = ((f + 2), 30) := (by unfold lx_sign; rw [if_pos q4]; rw [if_pos q5]; rw [if_neg (fun z => z q6)]; rw [if_pos q18]; rw [if_neg (fun z => z q19)]; try rfl); rw [hsp]; exact ⟨rfl, qn24⟩)
        · refine ab_iload_n d_Lexer_behindSign_112 rfl rfl ?_
          refine ab_bipush (v := 124) d_Lexer_behindSign_113 (by decide) ?_
          refine ab_icmp_ne (tgt := 136) d_Lexer_behindSign_115 (by decide) (fun q26 => ?_) (fun q26 => ?_)
          · refine ab_ldcS (k0 := 2) d_Lexer_behindSign_136 (List.mem_of_getElem? (i := 2) rfl) rfl rfl rfl ?_
            refine ab_iload_n d_Lexer_behindSign_138 rfl rfl ?_
            refine ab_i2c d_Lexer_behindSign_139 ?_
            refine ab_callVK_a (k0 := 2) (As := [.int ((((bf (nI f)) : Int32).toUInt32 % 65536).toInt32)]) (rest := []) d_Lexer_behindSign_140 (by decide) (c_lx_ixc) (ab_mkC s_Str_indexOf (Nat.le_of_ble_eq_true rfl) (Nat.le_of_ble_eq_true rfl) (by decide) (by decide)) (k4 34 rfl rfl) i_Str_indexOf v_Str_indexOf rfl (Nat.le_of_ble_eq_true rfl) (fun h28 q27 => ?_)
            subst q27
            refine ab_if_lt (tgt := 167) d_Lexer_behindSign_143 (by decide) (fun q29 => ?_) (fun q29 => ?_)
            · refine ab_aload_n d_Lexer_behindSign_167 rfl rfl rfl ?_
              refine ab_iload d_Lexer_behindSign_168 rfl ?_
              refine ab_iload_n d_Lexer_behindSign_170 rfl rfl ?_
              refine ab_iconst (v := 0) d_Lexer_behindSign_171 (by decide) ?_
              refine ab_iconst (v := 0) d_Lexer_behindSign_172 (by decide) ?_
              refine ab_callV_v (As := [.int 1, .int (nI f), .int 0, .int 0]) (rest := []) d_Lexer_behindSign_173 (c_Lexer_note hl0 hc) (ab_mkC s_Lexer_note (Nat.le_of_ble_eq_true rfl) (Nat.le_of_ble_eq_true rfl) (by decide) (by decide)) (k4 8 rfl rfl) i_Lexer_note v_Lexer_note go rfl rfl (Nat.le_of_ble_eq_true rfl) (fun h30 qn31 => ?_)
              refine ab_iload_n d_Lexer_behindSign_176 rfl rfl ?_
              refine ab_iconst (v := 2) d_Lexer_behindSign_177 (by decide) ?_
              refine ab_iadd d_Lexer_behindSign_178 ?_
              refine ab_topi (fun x32 ex32 => ?_)
              obtain rfl : x32 = nI (f + 2) := ex32.trans (nI_add f 2)
              clear ex32
              exact ab_iret d_Lexer_behindSign_179 rfl (Nat.le_refl _) (Nat.le_refl _) (by have hsp : lx_sign bf T f = ((f + 2), 1) := (by unfold lx_sign; rw [if_pos q4]; rw [if_pos q5]; rw [if_neg (fun z => z q6)]; rw [if_neg q18]; rw [if_pos q26]; rw [if_pos q29]; try rfl); rw [hsp]; exact ⟨rfl, qn31⟩)
            · refine ab_aload_n d_Lexer_behindSign_146 rfl rfl rfl ?_
              refine ab_bipush (v := 10) d_Lexer_behindSign_147 (by decide) ?_
              refine ab_ldcS (k0 := 2) d_Lexer_behindSign_149 (List.mem_of_getElem? (i := 2) rfl) rfl rfl rfl ?_
              refine ab_iload_n d_Lexer_behindSign_151 rfl rfl ?_
              refine ab_i2c d_Lexer_behindSign_152 ?_
              refine ab_callVK_a (k0 := 2) (As := [.int ((((bf (nI f)) : Int32).toUInt32 % 65536).toInt32)]) (rest := [.int 10, .ref b]) d_Lexer_behindSign_153 (by decide) (c_lx_ixc) (ab_mkC s_Str_indexOf (Nat.le_of_ble_eq_true rfl) (Nat.le_of_ble_eq_true rfl) (by decide) (by decide)) (k4 34 rfl rfl) i_Str_indexOf v_Str_indexOf rfl (Nat.le_of_ble_eq_true rfl) (fun h34 q33 => ?_)
              subst q33
              refine ab_iadd d_Lexer_behindSign_156 ?_
              refine ab_iload_n d_Lexer_behindSign_157 rfl rfl ?_
              refine ab_iconst (v := 0) d_Lexer_behindSign_158 (by decide) ?_
              refine ab_iconst (v := 0) d_Lexer_behindSign_159 (by decide) ?_
              refine ab_callV_v (As := [.int (10 + (lx_ixc ((((bf (nI f)) : Int32).toUInt32 % 65536).toInt32))), .int (nI f), .int 0, .int 0]) (rest := []) d_Lexer_behindSign_160 (c_Lexer_note hl0 hc) (ab_mkC s_Lexer_note (Nat.le_of_ble_eq_true rfl) (Nat.le_of_ble_eq_true rfl) (by decide) (by decide)) (k4 8 rfl rfl) i_Lexer_note v_Lexer_note go rfl rfl (Nat.le_of_ble_eq_true rfl) (fun h35 qn36 => ?_)
              refine ab_iload_n d_Lexer_behindSign_163 rfl rfl ?_
              refine ab_iconst (v := 1) d_Lexer_behindSign_164 (by decide) ?_
              refine ab_iadd d_Lexer_behindSign_165 ?_
              refine ab_topi (fun x37 ex37 => ?_)
              obtain rfl : x37 = nI (f + 1) := ex37.trans (nI_add f 1)
              clear ex37
              exact ab_iret d_Lexer_behindSign_166 rfl (Nat.le_refl _) (Nat.le_refl _) (by have hsp : lx_sign bf T f = ((f + 1), 10 + (lx_ixc ((((bf (nI f)) : Int32).toUInt32 % 65536).toInt32))) := (by unfold lx_sign; rw [if_pos q4]; rw [if_pos q5]; rw [if_neg (fun z => z q6)]; rw [if_neg q18]; rw [if_pos q26]; rw [if_neg q29]; try rfl); rw [hsp]; exact ⟨rfl, qn36⟩)
          · refine ab_iload_n d_Lexer_behindSign_118 rfl rfl ?_
            refine ab_bipush (v := 38) d_Lexer_behindSign_119 (by decide) ?_
            refine ab_icmp_ne (tgt := 129) d_Lexer_behindSign_121 (by decide) (fun q38 => ?_) (fun q38 => ?_)
            · refine ab_bipush (v := 31) d_Lexer_behindSign_129 (by decide) ?_
              refine ab_istore (lv' := [some (.ref b), some (.int (nI f)), some (.int (bf (nI f))), some (.int 0), some (.int 31)]) d_Lexer_behindSign_131 (by decide) rfl ?_
              refine ab_goto (tgt := 167) d_Lexer_behindSign_133 (by decide) ?_
              refine ab_aload_n d_Lexer_behindSign_167 rfl rfl rfl ?_
              refine ab_iload d_Lexer_behindSign_168 rfl ?_
              refine ab_iload_n d_Lexer_behindSign_170 rfl rfl ?_
              refine ab_iconst (v := 0) d_Lexer_behindSign_171 (by decide) ?_
              refine ab_iconst (v := 0) d_Lexer_behindSign_172 (by decide) ?_
              refine ab_callV_v (As := [.int 31, .int (nI f), .int 0, .int 0]) (rest := []) d_Lexer_behindSign_173 (c_Lexer_note hl0 hc) (ab_mkC s_Lexer_note (Nat.le_of_ble_eq_true rfl) (Nat.le_of_ble_eq_true rfl) (by decide) (by decide)) (k4 8 rfl rfl) i_Lexer_note v_Lexer_note go rfl rfl (Nat.le_of_ble_eq_true rfl) (fun h39 qn40 => ?_)
              refine ab_iload_n d_Lexer_behindSign_176 rfl rfl ?_
              refine ab_iconst (v := 2) d_Lexer_behindSign_177 (by decide) ?_
              refine ab_iadd d_Lexer_behindSign_178 ?_
              refine ab_topi (fun x41 ex41 => ?_)
              obtain rfl : x41 = nI (f + 2) := ex41.trans (nI_add f 2)
              clear ex41
              exact ab_iret d_Lexer_behindSign_179 rfl (Nat.le_refl _) (Nat.le_refl _) (by have hsp : lx_sign bf T f = ((f + 2), 31) := (by unfold lx_sign; rw [if_pos q4]; rw [if_pos q5]; rw [if_neg (fun z => z q6)]; rw [if_neg q18]; rw [if_neg (fun z => z q26)]; rw [if_pos q38]; try rfl); rw [hsp]; exact ⟨rfl, qn40⟩)
            · refine ab_bipush (v := 30) d_Lexer_behindSign_124 (by decide) ?_
              refine ab_goto (tgt := 131) d_Lexer_behindSign_126 (by decide) ?_
              refine ab_istore (lv' := [some (.ref b), some (.int (nI f)), some (.int (bf (nI f))), some (.int 0), some (.int 30)]) d_Lexer_behindSign_131 (by decide) rfl ?_
              refine ab_goto (tgt := 167) d_Lexer_behindSign_133 (by decide) ?_
              refine ab_aload_n d_Lexer_behindSign_167 rfl rfl rfl ?_
              refine ab_iload d_Lexer_behindSign_168 rfl ?_
              refine ab_iload_n d_Lexer_behindSign_170 rfl rfl ?_
              refine ab_iconst (v := 0) d_Lexer_behindSign_171 (by decide) ?_
              refine ab_iconst (v := 0) d_Lexer_behindSign_172 (by decide) ?_
              refine ab_callV_v (As := [.int 30, .int (nI f), .int 0, .int 0]) (rest := []) d_Lexer_behindSign_173 (c_Lexer_note hl0 hc) (ab_mkC s_Lexer_note (Nat.le_of_ble_eq_true rfl) (Nat.le_of_ble_eq_true rfl) (by decide) (by decide)) (k4 8 rfl rfl) i_Lexer_note v_Lexer_note go rfl rfl (Nat.le_of_ble_eq_true rfl) (fun h42 qn43 => ?_)
              refine ab_iload_n d_Lexer_behindSign_176 rfl rfl ?_
              refine ab_iconst (v := 2) d_Lexer_behindSign_177 (by decide) ?_
              refine ab_iadd d_Lexer_behindSign_178 ?_
              refine ab_topi (fun x44 ex44 => ?_)
              obtain rfl : x44 = nI (f + 2) := ex44.trans (nI_add f 2)
              clear ex44
              exact ab_iret d_Lexer_behindSign_179 rfl (Nat.le_refl _) (Nat.le_refl _) (by have hsp : lx_sign bf T f = ((f + 2), 30) := (by unfold lx_sign; rw [if_pos q4]; rw [if_pos q5]; rw [if_neg (fun z => z q6)]; rw [if_neg q18]; rw [if_neg (fun z => z q26)]; rw [if_neg (fun z => z q38)]; try rfl); rw [hsp]; exact ⟨rfl, qn43⟩)
    · refine ab_iload_n d_Lexer_behindSign_37 rfl rfl ?_
      refine ab_bipush (v := 60) d_Lexer_behindSign_38 (by decide) ?_
      refine ab_icmp_eq (tgt := 61) d_Lexer_behindSign_40 (by decide) (fun q45 => ?_) (fun q45 => ?_)
      · refine ab_iload_n d_Lexer_behindSign_61 rfl rfl ?_
        refine ab_bipush (v := 60) d_Lexer_behindSign_62 (by decide) ?_
        refine ab_icmp_ne (tgt := 72) d_Lexer_behindSign_64 (by decide) (fun q46 => ?_) (fun q46 => ?_)
        · refine ab_iload_n d_Lexer_behindSign_72 rfl rfl ?_
          refine ab_bipush (v := 62) d_Lexer_behindSign_73 (by decide) ?_
          refine ab_icmp_ne (tgt := 83) d_Lexer_behindSign_75 (by decide) (fun q47 => ?_) (fun q47 => ?_)
          · refine ab_iload_n d_Lexer_behindSign_83 rfl rfl ?_
            refine ab_bipush (v := 61) d_Lexer_behindSign_84 (by decide) ?_
            refine ab_icmp_ne (tgt := 94) d_Lexer_behindSign_86 (by decide) (fun q48 => ?_) (fun q48 => ?_)
            · refine ab_bipush (v := 29) d_Lexer_behindSign_94 (by decide) ?_
              refine ab_istore (lv' := [some (.ref b), some (.int (nI f)), some (.int (bf (nI f))), some (.int 0), some (.int 29)]) d_Lexer_behindSign_96 (by decide) rfl ?_
              refine ab_goto (tgt := 167) d_Lexer_behindSign_98 (by decide) ?_
              refine ab_aload_n d_Lexer_behindSign_167 rfl rfl rfl ?_
              refine ab_iload d_Lexer_behindSign_168 rfl ?_
              refine ab_iload_n d_Lexer_behindSign_170 rfl rfl ?_
              refine ab_iconst (v := 0) d_Lexer_behindSign_171 (by decide) ?_
              refine ab_iconst (v := 0) d_Lexer_behindSign_172 (by decide) ?_
              refine ab_callV_v (As := [.int 29, .int (nI f), .int 0, .int 0]) (rest := []) d_Lexer_behindSign_173 (c_Lexer_note hl0 hc) (ab_mkC s_Lexer_note (Nat.le_of_ble_eq_true rfl) (Nat.le_of_ble_eq_true rfl) (by decide) (by decide)) (k4 8 rfl rfl) i_Lexer_note v_Lexer_note go rfl rfl (Nat.le_of_ble_eq_true rfl) (fun h49 qn50 => ?_)
              refine ab_iload_n d_Lexer_behindSign_176 rfl rfl ?_
              refine ab_iconst (v := 2) d_Lexer_behindSign_177 (by decide) ?_
              refine ab_iadd d_Lexer_behindSign_178 ?_
              refine ab_topi (fun x51 ex51 => ?_)
              obtain rfl : x51 = nI (f + 2) := ex51.trans (nI_add f 2)
              clear ex51
              exact ab_iret d_Lexer_behindSign_179 rfl (Nat.le_refl _) (Nat.le_refl _) (by have hsp : lx_sign bf T f = ((f + 2), 29) := (by unfold lx_sign; rw [if_pos q4]; rw [if_neg (fun z => z q5)]; rw [if_pos q45]; rw [if_pos q46]; rw [if_pos q47]; rw [if_pos q48]; try rfl); rw [hsp]; exact ⟨rfl, qn50⟩)
            · refine ab_bipush (v := 28) d_Lexer_behindSign_89 (by decide) ?_
              refine ab_goto (tgt := 96) d_Lexer_behindSign_91 (by decide) ?_
              refine ab_istore (lv' := [some (.ref b), some (.int (nI f)), some (.int (bf (nI f))), some (.int 0), some (.int 28)]) d_Lexer_behindSign_96 (by decide) rfl ?_
              refine ab_goto (tgt := 167) d_Lexer_behindSign_98 (by decide) ?_
              refine ab_aload_n d_Lexer_behindSign_167 rfl rfl rfl ?_
              refine ab_iload d_Lexer_behindSign_168 rfl ?_
              refine ab_iload_n d_Lexer_behindSign_170 rfl rfl ?_
              refine ab_iconst (v := 0) d_Lexer_behindSign_171 (by decide) ?_
              refine ab_iconst (v := 0) d_Lexer_behindSign_172 (by decide) ?_
              refine ab_callV_v (As := [.int 28, .int (nI f), .int 0, .int 0]) (rest := []) d_Lexer_behindSign_173 (c_Lexer_note hl0 hc) (ab_mkC s_Lexer_note (Nat.le_of_ble_eq_true rfl) (Nat.le_of_ble_eq_true rfl) (by decide) (by decide)) (k4 8 rfl rfl) i_Lexer_note v_Lexer_note go rfl rfl (Nat.le_of_ble_eq_true rfl) (fun h52 qn53 => ?_)
              refine ab_iload_n d_Lexer_behindSign_176 rfl rfl ?_
              refine ab_iconst (v := 2) d_Lexer_behindSign_177 (by decide) ?_
              refine ab_iadd d_Lexer_behindSign_178 ?_
              refine ab_topi (fun x54 ex54 => ?_)
              obtain rfl : x54 = nI (f + 2) := ex54.trans (nI_add f 2)
              clear ex54
              exact ab_iret d_Lexer_behindSign_179 rfl (Nat.le_refl _) (Nat.le_refl _) (by have hsp : lx_sign bf T f = ((f + 2), 28) := (by unfold lx_sign; rw [if_pos q4]; rw [if_neg (fun z => z q5)]; rw [if_pos q45]; rw [if_pos q46]; rw [if_pos q47]; rw [if_neg (fun z => z q48)]; try rfl); rw [hsp]; exact ⟨rfl, qn53⟩)
          · refine ab_bipush (v := 27) d_Lexer_behindSign_78 (by decide) ?_
            refine ab_goto (tgt := 96) d_Lexer_behindSign_80 (by decide) ?_
            refine ab_istore (lv' := [some (.ref b), some (.int (nI f)), some (.int (bf (nI f))), some (.int 0), some (.int 27)]) d_Lexer_behindSign_96 (by decide) rfl ?_
            refine ab_goto (tgt := 167) d_Lexer_behindSign_98 (by decide) ?_
            refine ab_aload_n d_Lexer_behindSign_167 rfl rfl rfl ?_
            refine ab_iload d_Lexer_behindSign_168 rfl ?_
            refine ab_iload_n d_Lexer_behindSign_170 rfl rfl ?_
            refine ab_iconst (v := 0) d_Lexer_behindSign_171 (by decide) ?_
            refine ab_iconst (v := 0) d_Lexer_behindSign_172 (by decide) ?_
            refine ab_callV_v (As := [.int 27, .int (nI f), .int 0, .int 0]) (rest := []) d_Lexer_behindSign_173 (c_Lexer_note hl0 hc) (ab_mkC s_Lexer_note (Nat.le_of_ble_eq_true rfl) (Nat.le_of_ble_eq_true rfl) (by decide) (by decide)) (k4 8 rfl rfl) i_Lexer_note v_Lexer_note go rfl rfl (Nat.le_of_ble_eq_true rfl) (fun h55 qn56 => ?_)
            refine ab_iload_n d_Lexer_behindSign_176 rfl rfl ?_
            refine ab_iconst (v := 2) d_Lexer_behindSign_177 (by decide) ?_
            refine ab_iadd d_Lexer_behindSign_178 ?_
            refine ab_topi (fun x57 ex57 => ?_)
            obtain rfl : x57 = nI (f + 2) := ex57.trans (nI_add f 2)
            clear ex57
            exact ab_iret d_Lexer_behindSign_179 rfl (Nat.le_refl _) (Nat.le_refl _) (by have hsp : lx_sign bf T f = ((f + 2), 27) := (by unfold lx_sign; rw [if_pos q4]; rw [if_neg (fun z => z q5)]; rw [if_pos q45]; rw [if_pos q46]; rw [if_neg (fun z => z q47)]; try rfl); rw [hsp]; exact ⟨rfl, qn56⟩)
        · refine ab_bipush (v := 26) d_Lexer_behindSign_67 (by decide) ?_
          refine ab_goto (tgt := 96) d_Lexer_behindSign_69 (by decide) ?_
          refine ab_istore (lv' := [some (.ref b), some (.int (nI f)), some (.int (bf (nI f))), some (.int 0), some (.int 26)]) d_Lexer_behindSign_96 (by decide) rfl ?_
          refine ab_goto (tgt := 167) d_Lexer_behindSign_98 (by decide) ?_
          refine ab_aload_n d_Lexer_behindSign_167 rfl rfl rfl ?_
          refine ab_iload d_Lexer_behindSign_168 rfl ?_
          refine ab_iload_n d_Lexer_behindSign_170 rfl rfl ?_
          refine ab_iconst (v := 0) d_Lexer_behindSign_171 (by decide) ?_
          refine ab_iconst (v := 0) d_Lexer_behindSign_172 (by decide) ?_
          refine ab_callV_v (As := [.int 26, .int (nI f), .int 0, .int 0]) (rest := []) d_Lexer_behindSign_173 (c_Lexer_note hl0 hc) (ab_mkC s_Lexer_note (Nat.le_of_ble_eq_true rfl) (Nat.le_of_ble_eq_true rfl) (by decide) (by decide)) (k4 8 rfl rfl) i_Lexer_note v_Lexer_note go rfl rfl (Nat.le_of_ble_eq_true rfl) (fun h58 qn59 => ?_)
          refine ab_iload_n d_Lexer_behindSign_176 rfl rfl ?_
          refine ab_iconst (v := 2) d_Lexer_behindSign_177 (by decide) ?_
          refine ab_iadd d_Lexer_behindSign_178 ?_
          refine ab_topi (fun x60 ex60 => ?_)
          obtain rfl : x60 = nI (f + 2) := ex60.trans (nI_add f 2)
          clear ex60
          exact ab_iret d_Lexer_behindSign_179 rfl (Nat.le_refl _) (Nat.le_refl _) (by have hsp : lx_sign bf T f = ((f + 2), 26) := (by unfold lx_sign; rw [if_pos q4]; rw [if_neg (fun z => z q5)]; rw [if_pos q45]; rw [if_neg (fun z => z q46)]; try rfl); rw [hsp]; exact ⟨rfl, qn59⟩)
      · refine ab_iload_n d_Lexer_behindSign_43 rfl rfl ?_
        refine ab_bipush (v := 62) d_Lexer_behindSign_44 (by decide) ?_
        refine ab_icmp_eq (tgt := 61) d_Lexer_behindSign_46 (by decide) (fun q61 => ?_) (fun q61 => ?_)
        · refine ab_iload_n d_Lexer_behindSign_61 rfl rfl ?_
          refine ab_bipush (v := 60) d_Lexer_behindSign_62 (by decide) ?_
          refine ab_icmp_ne (tgt := 72) d_Lexer_behindSign_64 (by decide) (fun q62 => ?_) (fun q62 => ?_)
          · refine ab_iload_n d_Lexer_behindSign_72 rfl rfl ?_
            refine ab_bipush (v := 62) d_Lexer_behindSign_73 (by decide) ?_
            refine ab_icmp_ne (tgt := 83) d_Lexer_behindSign_75 (by decide) (fun q63 => ?_) (fun q63 => ?_)
            · refine ab_iload_n d_Lexer_behindSign_83 rfl rfl ?_
              refine ab_bipush (v := 61) d_Lexer_behindSign_84 (by decide) ?_
              refine ab_icmp_ne (tgt := 94) d_Lexer_behindSign_86 (by decide) (fun q64 => ?_) (fun q64 => ?_)
              · refine ab_bipush (v := 29) d_Lexer_behindSign_94 (by decide) ?_
                refine ab_istore (lv' := [some (.ref b), some (.int (nI f)), some (.int (bf (nI f))), some (.int 0), some (.int 29)]) d_Lexer_behindSign_96 (by decide) rfl ?_
                refine ab_goto (tgt := 167) d_Lexer_behindSign_98 (by decide) ?_
                refine ab_aload_n d_Lexer_behindSign_167 rfl rfl rfl ?_
                refine ab_iload d_Lexer_behindSign_168 rfl ?_
                refine ab_iload_n d_Lexer_behindSign_170 rfl rfl ?_
                refine ab_iconst (v := 0) d_Lexer_behindSign_171 (by decide) ?_
                refine ab_iconst (v := 0) d_Lexer_behindSign_172 (by decide) ?_
                refine ab_callV_v (As := [.int 29, .int (nI f), .int 0, .int 0]) (rest := []) d_Lexer_behindSign_173 (c_Lexer_note hl0 hc) (ab_mkC s_Lexer_note (Nat.le_of_ble_eq_true rfl) (Nat.le_of_ble_eq_true rfl) (by decide) (by decide)) (k4 8 rfl rfl) i_Lexer_note v_Lexer_note go rfl rfl (Nat.le_of_ble_eq_true rfl) (fun h65 qn66 => ?_)
                refine ab_iload_n d_Lexer_behindSign_176 rfl rfl ?_
                refine ab_iconst (v := 2) d_Lexer_behindSign_177 (by decide) ?_
                refine ab_iadd d_Lexer_behindSign_178 ?_
                refine ab_topi (fun x67 ex67 => ?_)
                obtain rfl : x67 = nI (f + 2) := ex67.trans (nI_add f 2)
                clear ex67
                exact ab_iret d_Lexer_behindSign_179 rfl (Nat.le_refl _) (Nat.le_refl _) (by have hsp : lx_sign bf T f = ((f + 2), 29) := (by unfold lx_sign; rw [if_pos q4]; rw [if_neg (fun z => z q5)]; rw [if_neg q45]; rw [if_pos q61]; rw [if_pos q62]; rw [if_pos q63]; rw [if_pos q64]; try rfl); rw [hsp]; exact ⟨rfl, qn66⟩)
              · refine ab_bipush (v := 28) d_Lexer_behindSign_89 (by decide) ?_
                refine ab_goto (tgt := 96) d_Lexer_behindSign_91 (by decide) ?_
                refine ab_istore (lv' := [some (.ref b), some (.int (nI f)), some (.int (bf (nI f))), some (.int 0), some (.int 28)]) d_Lexer_behindSign_96 (by decide) rfl ?_
                refine ab_goto (tgt := 167) d_Lexer_behindSign_98 (by decide) ?_
                refine ab_aload_n d_Lexer_behindSign_167 rfl rfl rfl ?_
                refine ab_iload d_Lexer_behindSign_168 rfl ?_
                refine ab_iload_n d_Lexer_behindSign_170 rfl rfl ?_
                refine ab_iconst (v := 0) d_Lexer_behindSign_171 (by decide) ?_
                refine ab_iconst (v := 0) d_Lexer_behindSign_172 (by decide) ?_
                refine ab_callV_v (As := [.int 28, .int (nI f), .int 0, .int 0]) (rest := []) d_Lexer_behindSign_173 (c_Lexer_note hl0 hc) (ab_mkC s_Lexer_note (Nat.le_of_ble_eq_true rfl) (Nat.le_of_ble_eq_true rfl) (by decide) (by decide)) (k4 8 rfl rfl) i_Lexer_note v_Lexer_note go rfl rfl (Nat.le_of_ble_eq_true rfl) (fun h68 qn69 => ?_)
                refine ab_iload_n d_Lexer_behindSign_176 rfl rfl ?_
                refine ab_iconst (v := 2) d_Lexer_behindSign_177 (by decide) ?_
                refine ab_iadd d_Lexer_behindSign_178 ?_
                refine ab_topi (fun x70 ex70 => ?_)
                obtain rfl : x70 = nI (f + 2) := ex70.trans (nI_add f 2)
                clear ex70
                exact ab_iret d_Lexer_behindSign_179 rfl (Nat.le_refl _) (Nat.le_refl _) (by have hsp : lx_sign bf T f = ((f + 2), 28) := (by unfold lx_sign; rw [if_pos q4]; rw [if_neg (fun z => z q5)]; rw [if_neg q45]; rw [if_pos q61]; rw [if_pos q62]; rw [if_pos q63]; rw [if_neg (fun z => z q64)]; try rfl); rw [hsp]; exact ⟨rfl, qn69⟩)
            · refine ab_bipush (v := 27) d_Lexer_behindSign_78 (by decide) ?_
              refine ab_goto (tgt := 96) d_Lexer_behindSign_80 (by decide) ?_
              refine ab_istore (lv' := [some (.ref b), some (.int (nI f)), some (.int (bf (nI f))), some (.int 0), some (.int 27)]) d_Lexer_behindSign_96 (by decide) rfl ?_
              refine ab_goto (tgt := 167) d_Lexer_behindSign_98 (by decide) ?_
              refine ab_aload_n d_Lexer_behindSign_167 rfl rfl rfl ?_
              refine ab_iload d_Lexer_behindSign_168 rfl ?_
              refine ab_iload_n d_Lexer_behindSign_170 rfl rfl ?_
              refine ab_iconst (v := 0) d_Lexer_behindSign_171 (by decide) ?_
              refine ab_iconst (v := 0) d_Lexer_behindSign_172 (by decide) ?_
              refine ab_callV_v (As := [.int 27, .int (nI f), .int 0, .int 0]) (rest := []) d_Lexer_behindSign_173 (c_Lexer_note hl0 hc) (ab_mkC s_Lexer_note (Nat.le_of_ble_eq_true rfl) (Nat.le_of_ble_eq_true rfl) (by decide) (by decide)) (k4 8 rfl rfl) i_Lexer_note v_Lexer_note go rfl rfl (Nat.le_of_ble_eq_true rfl) (fun h71 qn72 => ?_)
              refine ab_iload_n d_Lexer_behindSign_176 rfl rfl ?_
              refine ab_iconst (v := 2) d_Lexer_behindSign_177 (by decide) ?_
              refine ab_iadd d_Lexer_behindSign_178 ?_
              refine ab_topi (fun x73 ex73 => ?_)
              obtain rfl : x73 = nI (f + 2) := ex73.trans (nI_add f 2)
              clear ex73
              exact ab_iret d_Lexer_behindSign_179 rfl (Nat.le_refl _) (Nat.le_refl _) (by have hsp : lx_sign bf T f = ((f + 2), 27) := (by unfold lx_sign; rw [if_pos q4]; rw [if_neg (fun z => z q5)]; rw [if_neg q45]; rw [if_pos q61]; rw [if_pos q62]; rw [if_neg (fun z => z q63)]; try rfl); rw [hsp]; exact ⟨rfl, qn72⟩)
          · refine ab_bipush (v := 26) d_Lexer_behindSign_67 (by decide) ?_
            refine ab_goto (tgt := 96) d_Lexer_behindSign_69 (by decide) ?_
            refine ab_istore (lv' := [some (.ref b), some (.int (nI f)), some (.int (bf (nI f))), some (.int 0), some (.int 26)]) d_Lexer_behindSign_96 (by decide) rfl ?_
            refine ab_goto (tgt := 167) d_Lexer_behindSign_98 (by decide) ?_
            refine ab_aload_n d_Lexer_behindSign_167 rfl rfl rfl ?_
            refine ab_iload d_Lexer_behindSign_168 rfl ?_
            refine ab_iload_n d_Lexer_behindSign_170 rfl rfl ?_
            refine ab_iconst (v := 0) d_Lexer_behindSign_171 (by decide) ?_
            refine ab_iconst (v := 0) d_Lexer_behindSign_172 (by decide) ?_
            refine ab_callV_v (As := [.int 26, .int (nI f), .int 0, .int 0]) (rest := []) d_Lexer_behindSign_173 (c_Lexer_note hl0 hc) (ab_mkC s_Lexer_note (Nat.le_of_ble_eq_true rfl) (Nat.le_of_ble_eq_true rfl) (by decide) (by decide)) (k4 8 rfl rfl) i_Lexer_note v_Lexer_note go rfl rfl (Nat.le_of_ble_eq_true rfl) (fun h74 qn75 => ?_)
            refine ab_iload_n d_Lexer_behindSign_176 rfl rfl ?_
            refine ab_iconst (v := 2) d_Lexer_behindSign_177 (by decide) ?_
            refine ab_iadd d_Lexer_behindSign_178 ?_
            refine ab_topi (fun x76 ex76 => ?_)
            obtain rfl : x76 = nI (f + 2) := ex76.trans (nI_add f 2)
            clear ex76
            exact ab_iret d_Lexer_behindSign_179 rfl (Nat.le_refl _) (Nat.le_refl _) (by have hsp : lx_sign bf T f = ((f + 2), 26) := (by unfold lx_sign; rw [if_pos q4]; rw [if_neg (fun z => z q5)]; rw [if_neg q45]; rw [if_pos q61]; rw [if_neg (fun z => z q62)]; try rfl); rw [hsp]; exact ⟨rfl, qn75⟩)
        · refine ab_iload_n d_Lexer_behindSign_49 rfl rfl ?_
          refine ab_bipush (v := 61) d_Lexer_behindSign_50 (by decide) ?_
          refine ab_icmp_eq (tgt := 61) d_Lexer_behindSign_52 (by decide) (fun q77 => ?_) (fun q77 => ?_)
          · refine ab_iload_n d_Lexer_behindSign_61 rfl rfl ?_
            refine ab_bipush (v := 60) d_Lexer_behindSign_62 (by decide) ?_
            refine ab_icmp_ne (tgt := 72) d_Lexer_behindSign_64 (by decide) (fun q78 => ?_) (fun q78 => ?_)
            · refine ab_iload_n d_Lexer_behindSign_72 rfl rfl ?_
              refine ab_bipush (v := 62) d_Lexer_behindSign_73 (by decide) ?_
              refine ab_icmp_ne (tgt := 83) d_Lexer_behindSign_75 (by decide) (fun q79 => ?_) (fun q79 => ?_)
              · refine ab_iload_n d_Lexer_behindSign_83 rfl rfl ?_
                refine ab_bipush (v := 61) d_Lexer_behindSign_84 (by decide) ?_
                refine ab_icmp_ne (tgt := 94) d_Lexer_behindSign_86 (by decide) (fun q80 => ?_) (fun q80 => ?_)
                · refine ab_bipush (v := 29) d_Lexer_behindSign_94 (by decide) ?_
                  refine ab_istore (lv' := [some (.ref b), some (.int (nI f)), some (.int (bf (nI f))), some (.int 0), some (.int 29)]) d_Lexer_behindSign_96 (by decide) rfl ?_
                  refine ab_goto (tgt := 167) d_Lexer_behindSign_98 (by decide) ?_
                  refine ab_aload_n d_Lexer_behindSign_167 rfl rfl rfl ?_
                  refine ab_iload d_Lexer_behindSign_168 rfl ?_
                  refine ab_iload_n d_Lexer_behindSign_170 rfl rfl ?_
                  refine ab_iconst (v := 0) d_Lexer_behindSign_171 (by decide) ?_
                  refine ab_iconst (v := 0) d_Lexer_behindSign_172 (by decide) ?_
                  refine ab_callV_v (As := [.int 29, .int (nI f), .int 0, .int 0]) (rest := []) d_Lexer_behindSign_173 (c_Lexer_note hl0 hc) (ab_mkC s_Lexer_note (Nat.le_of_ble_eq_true rfl) (Nat.le_of_ble_eq_true rfl) (by decide) (by decide)) (k4 8 rfl rfl) i_Lexer_note v_Lexer_note go rfl rfl (Nat.le_of_ble_eq_true rfl) (fun h81 qn82 => ?_)
                  refine ab_iload_n d_Lexer_behindSign_176 rfl rfl ?_
                  refine ab_iconst (v := 2) d_Lexer_behindSign_177 (by decide) ?_
                  refine ab_iadd d_Lexer_behindSign_178 ?_
                  refine ab_topi (fun x83 ex83 => ?_)
                  obtain rfl : x83 = nI (f + 2) := ex83.trans (nI_add f 2)
                  clear ex83
                  exact ab_iret d_Lexer_behindSign_179 rfl (Nat.le_refl _) (Nat.le_refl _) (by have hsp : lx_sign bf T f = ((f + 2), 29) := (by unfold lx_sign; rw [if_pos q4]; rw [if_neg (fun z => z q5)]; rw [if_neg q45]; rw [if_neg q61]; rw [if_pos q77]; rw [if_pos q78]; rw [if_pos q79]; rw [if_pos q80]; try rfl); rw [hsp]; exact ⟨rfl, qn82⟩)
                · refine ab_bipush (v := 28) d_Lexer_behindSign_89 (by decide) ?_
                  refine ab_goto (tgt := 96) d_Lexer_behindSign_91 (by decide) ?_
                  refine ab_istore (lv' := [some (.ref b), some (.int (nI f)), some (.int (bf (nI f))), some (.int 0), some (.int 28)]) d_Lexer_behindSign_96 (by decide) rfl ?_
                  refine ab_goto (tgt := 167) d_Lexer_behindSign_98 (by decide) ?_
                  refine ab_aload_n d_Lexer_behindSign_167 rfl rfl rfl ?_
                  refine ab_iload d_Lexer_behindSign_168 rfl ?_
                  refine ab_iload_n d_Lexer_behindSign_170 rfl rfl ?_
                  refine ab_iconst (v := 0) d_Lexer_behindSign_171 (by decide) ?_
                  refine ab_iconst (v := 0) d_Lexer_behindSign_172 (by decide) ?_
                  refine ab_callV_v (As := [.int 28, .int (nI f), .int 0, .int 0]) (rest := []) d_Lexer_behindSign_173 (c_Lexer_note hl0 hc) (ab_mkC s_Lexer_note (Nat.le_of_ble_eq_true rfl) (Nat.le_of_ble_eq_true rfl) (by decide) (by decide)) (k4 8 rfl rfl) i_Lexer_note v_Lexer_note go rfl rfl (Nat.le_of_ble_eq_true rfl) (fun h84 qn85 => ?_)
                  refine ab_iload_n d_Lexer_behindSign_176 rfl rfl ?_
                  refine ab_iconst (v := 2) d_Lexer_behindSign_177 (by decide) ?_
                  refine ab_iadd d_Lexer_behindSign_178 ?_
                  refine ab_topi (fun x86 ex86 => ?_)
                  obtain rfl : x86 = nI (f + 2) := ex86.trans (nI_add f 2)
                  clear ex86
                  exact ab_iret d_Lexer_behindSign_179 rfl (Nat.le_refl _) (Nat.le_refl _) (by have hsp : lx_sign bf T f = ((f + 2), 28) := (by unfold lx_sign; rw [if_pos q4]; rw [if_neg (fun z => z q5)]; rw [if_neg q45]; rw [if_neg q61]; rw [if_pos q77]; rw [if_pos q78]; rw [if_pos q79]; rw [if_neg (fun z => z q80)]; try rfl); rw [hsp]; exact ⟨rfl, qn85⟩)
              · refine ab_bipush (v := 27) d_Lexer_behindSign_78 (by decide) ?_
                refine ab_goto (tgt := 96) d_Lexer_behindSign_80 (by decide) ?_
                refine ab_istore (lv' := [some (.ref b), some (.int (nI f)), some (.int (bf (nI f))), some (.int 0), some (.int 27)]) d_Lexer_behindSign_96 (by decide) rfl ?_
                refine ab_goto (tgt := 167) d_Lexer_behindSign_98 (by decide) ?_
                refine ab_aload_n d_Lexer_behindSign_167 rfl rfl rfl ?_
                refine ab_iload d_Lexer_behindSign_168 rfl ?_
                refine ab_iload_n d_Lexer_behindSign_170 rfl rfl ?_
                refine ab_iconst (v := 0) d_Lexer_behindSign_171 (by decide) ?_
                refine ab_iconst (v := 0) d_Lexer_behindSign_172 (by decide) ?_
                refine ab_callV_v (As := [.int 27, .int (nI f), .int 0, .int 0]) (rest := []) d_Lexer_behindSign_173 (c_Lexer_note hl0 hc) (ab_mkC s_Lexer_note (Nat.le_of_ble_eq_true rfl) (Nat.le_of_ble_eq_true rfl) (by decide) (by decide)) (k4 8 rfl rfl) i_Lexer_note v_Lexer_note go rfl rfl (Nat.le_of_ble_eq_true rfl) (fun h87 qn88 => ?_)
                refine ab_iload_n d_Lexer_behindSign_176 rfl rfl ?_
                refine ab_iconst (v := 2) d_Lexer_behindSign_177 (by decide) ?_
                refine ab_iadd d_Lexer_behindSign_178 ?_
                refine ab_topi (fun x89 ex89 => ?_)
                obtain rfl : x89 = nI (f + 2) := ex89.trans (nI_add f 2)
                clear ex89
                exact ab_iret d_Lexer_behindSign_179 rfl (Nat.le_refl _) (Nat.le_refl _) (by have hsp : lx_sign bf T f = ((f + 2), 27) := (by unfold lx_sign; rw [if_pos q4]; rw [if_neg (fun z => z q5)]; rw [if_neg q45]; rw [if_neg q61]; rw [if_pos q77]; rw [if_pos q78]; rw [if_neg (fun z => z q79)]; try rfl); rw [hsp]; exact ⟨rfl, qn88⟩)
            · refine ab_bipush (v := 26) d_Lexer_behindSign_67 (by decide) ?_
              refine ab_goto (tgt := 96) d_Lexer_behindSign_69 (by decide) ?_
              refine ab_istore (lv' := [some (.ref b), some (.int (nI f)), some (.int (bf (nI f))), some (.int 0), some (.int 26)]) d_Lexer_behindSign_96 (by decide) rfl ?_
              refine ab_goto (tgt := 167) d_Lexer_behindSign_98 (by decide) ?_
              refine ab_aload_n d_Lexer_behindSign_167 rfl rfl rfl ?_
              refine ab_iload d_Lexer_behindSign_168 rfl ?_
              refine ab_iload_n d_Lexer_behindSign_170 rfl rfl ?_
              refine ab_iconst (v := 0) d_Lexer_behindSign_171 (by decide) ?_
              refine ab_iconst (v := 0) d_Lexer_behindSign_172 (by decide) ?_
              refine ab_callV_v (As := [.int 26, .int (nI f), .int 0, .int 0]) (rest := []) d_Lexer_behindSign_173 (c_Lexer_note hl0 hc) (ab_mkC s_Lexer_note (Nat.le_of_ble_eq_true rfl) (Nat.le_of_ble_eq_true rfl) (by decide) (by decide)) (k4 8 rfl rfl) i_Lexer_note v_Lexer_note go rfl rfl (Nat.le_of_ble_eq_true rfl) (fun h90 qn91 => ?_)
              refine ab_iload_n d_Lexer_behindSign_176 rfl rfl ?_
              refine ab_iconst (v := 2) d_Lexer_behindSign_177 (by decide) ?_
              refine ab_iadd d_Lexer_behindSign_178 ?_
              refine ab_topi (fun x92 ex92 => ?_)
              obtain rfl : x92 = nI (f + 2) := ex92.trans (nI_add f 2)
              clear ex92
              exact ab_iret d_Lexer_behindSign_179 rfl (Nat.le_refl _) (Nat.le_refl _) (by have hsp : lx_sign bf T f = ((f + 2), 26) := (by unfold lx_sign; rw [if_pos q4]; rw [if_neg (fun z => z q5)]; rw [if_neg q45]; rw [if_neg q61]; rw [if_pos q77]; rw [if_neg (fun z => z q78)]; try rfl); rw [hsp]; exact ⟨rfl, qn91⟩)
          · refine ab_iload_n d_Lexer_behindSign_55 rfl rfl ?_
            refine ab_bipush (v := 33) d_Lexer_behindSign_56 (by decide) ?_
            refine ab_icmp_ne (tgt := 101) d_Lexer_behindSign_58 (by decide) (fun q93 => ?_) (fun q93 => ?_)
            · refine ab_iload_n d_Lexer_behindSign_101 rfl rfl ?_
              refine ab_iload_n d_Lexer_behindSign_102 rfl rfl ?_
              refine ab_icmp_ne (tgt := 136) d_Lexer_behindSign_103 (by decide) (fun q94 => ?_) (fun q94 => ?_)
              · refine ab_ldcS (k0 := 2) d_Lexer_behindSign_136 (List.mem_of_getElem? (i := 2) rfl) rfl rfl rfl ?_
                refine ab_iload_n d_Lexer_behindSign_138 rfl rfl ?_
                refine ab_i2c d_Lexer_behindSign_139 ?_
                refine ab_callVK_a (k0 := 2) (As := [.int ((((bf (nI f)) : Int32).toUInt32 % 65536).toInt32)]) (rest := []) d_Lexer_behindSign_140 (by decide) (c_lx_ixc) (ab_mkC s_Str_indexOf (Nat.le_of_ble_eq_true rfl) (Nat.le_of_ble_eq_true rfl) (by decide) (by decide)) (k4 34 rfl rfl) i_Str_indexOf v_Str_indexOf rfl (Nat.le_of_ble_eq_true rfl) (fun h96 q95 => ?_)
                subst q95
                refine ab_if_lt (tgt := 167) d_Lexer_behindSign_143 (by decide) (fun q97 => ?_) (fun q97 => ?_)
                · refine ab_aload_n d_Lexer_behindSign_167 rfl rfl rfl ?_
                  refine ab_iload d_Lexer_behindSign_168 rfl ?_
                  refine ab_iload_n d_Lexer_behindSign_170 rfl rfl ?_
                  refine ab_iconst (v := 0) d_Lexer_behindSign_171 (by decide) ?_
                  refine ab_iconst (v := 0) d_Lexer_behindSign_172 (by decide) ?_
                  refine ab_callV_v (As := [.int 1, .int (nI f), .int 0, .int 0]) (rest := []) d_Lexer_behindSign_173 (c_Lexer_note hl0 hc) (ab_mkC s_Lexer_note (Nat.le_of_ble_eq_true rfl) (Nat.le_of_ble_eq_true rfl) (by decide) (by decide)) (k4 8 rfl rfl) i_Lexer_note v_Lexer_note go rfl rfl (Nat.le_of_ble_eq_true rfl) (fun h98 qn99 => ?_)
                  refine ab_iload_n d_Lexer_behindSign_176 rfl rfl ?_
                  refine ab_iconst (v := 2) d_Lexer_behindSign_177 (by decide) ?_
                  refine ab_iadd d_Lexer_behindSign_178 ?_
                  refine ab_topi (fun x100 ex100 => ?_)
                  obtain rfl : x100 = nI (f + 2) := ex100.trans (nI_add f 2)
                  clear ex100
                  exact ab_iret d_Lexer_behindSign_179 rfl (Nat.le_refl _) (Nat.le_refl _) (by have hsp : lx_sign bf T f = ((f + 2), 1) := (by unfold lx_sign; rw [if_pos q4]; rw [if_neg (fun z => z q5)]; rw [if_neg q45]; rw [if_neg q61]; rw [if_neg q77]; rw [if_pos q93]; rw [if_pos q94]; rw [if_pos q97]; try rfl); rw [hsp]; exact ⟨rfl, qn99⟩)
                · refine ab_aload_n d_Lexer_behindSign_146 rfl rfl rfl ?_
                  refine ab_bipush (v := 10) d_Lexer_behindSign_147 (by decide) ?_
                  refine ab_ldcS (k0 := 2) d_Lexer_behindSign_149 (List.mem_of_getElem? (i := 2) rfl) rfl rfl rfl ?_
                  refine ab_iload_n d_Lexer_behindSign_151 rfl rfl ?_
                  refine ab_i2c d_Lexer_behindSign_152 ?_
                  refine ab_callVK_a (k0 := 2) (As := [.int ((((bf (nI f)) : Int32).toUInt32 % 65536).toInt32)]) (rest := [.int 10, .ref b]) d_Lexer_behindSign_153 (by decide) (c_lx_ixc) (ab_mkC s_Str_indexOf (Nat.le_of_ble_eq_true rfl) (Nat.le_of_ble_eq_true rfl) (by decide) (by decide)) (k4 34 rfl rfl) i_Str_indexOf v_Str_indexOf rfl (Nat.le_of_ble_eq_true rfl) (fun h102 q101 => ?_)
                  subst q101
                  refine ab_iadd d_Lexer_behindSign_156 ?_
                  refine ab_iload_n d_Lexer_behindSign_157 rfl rfl ?_
                  refine ab_iconst (v := 0) d_Lexer_behindSign_158 (by decide) ?_
                  refine ab_iconst (v := 0) d_Lexer_behindSign_159 (by decide) ?_
                  refine ab_callV_v (As := [.int (10 + (lx_ixc ((((bf (nI f)) : Int32).toUInt32 % 65536).toInt32))), .int (nI f), .int 0, .int 0]) (rest := []) d_Lexer_behindSign_160 (c_Lexer_note hl0 hc) (ab_mkC s_Lexer_note (Nat.le_of_ble_eq_true rfl) (Nat.le_of_ble_eq_true rfl) (by decide) (by decide)) (k4 8 rfl rfl) i_Lexer_note v_Lexer_note go rfl rfl (Nat.le_of_ble_eq_true rfl) (fun h103 qn104 => ?_)
                  refine ab_iload_n d_Lexer_behindSign_163 rfl rfl ?_
                  refine ab_iconst (v := 1) d_Lexer_behindSign_164 (by decide) ?_
                  refine ab_iadd d_Lexer_behindSign_165 ?_
                  refine ab_topi (fun x105 ex105 => ?_)
                  obtain rfl : x105 = nI (f + 1) := ex105.trans (nI_add f 1)
                  clear ex105
                  exact ab_iret d_Lexer_behindSign_166 rfl (Nat.le_refl _) (Nat.le_refl _) (by have hsp : lx_sign bf T f = ((f + 1), 10 + (lx_ixc ((((bf (nI f)) : Int32).toUInt32 % 65536).toInt32))) := (by unfold lx_sign; rw [if_pos q4]; rw [if_neg (fun z => z q5)]; rw [if_neg q45]; rw [if_neg q61]; rw [if_neg q77]; rw [if_pos q93]; rw [if_pos q94]; rw [if_neg q97]; try rfl); rw [hsp]; exact ⟨rfl, qn104⟩)
              · refine ab_iload_n d_Lexer_behindSign_106 rfl rfl ?_
                refine ab_bipush (v := 38) d_Lexer_behindSign_107 (by decide) ?_
                refine ab_icmp_eq (tgt := 118) d_Lexer_behindSign_109 (by decide) (fun q106 => ?_) (fun q106 => ?_)
                · refine ab_iload_n d_Lexer_behindSign_118 rfl rfl ?_
                  refine ab_bipush (v := 38) d_Lexer_behindSign_119 (by decide) ?_
                  refine ab_icmp_ne (tgt := 129) d_Lexer_behindSign_121 (by decide) (fun q107 => ?_) (fun q107 => ?_)
                  · refine ab_bipush (v := 31) d_Lexer_behindSign_129 (by decide) ?_
                    refine ab_istore (lv' := [some (.ref b), some (.int (nI f)), some (.int (bf (nI f))), some (.int 0), some (.int 31)]) d_Lexer_behindSign_131 (by decide) rfl ?_
                    refine ab_goto (tgt := 167) d_Lexer_behindSign_133 (by decide) ?_
                    refine ab_aload_n d_Lexer_behindSign_167 rfl rfl rfl ?_
                    refine ab_iload d_Lexer_behindSign_168 rfl ?_
                    refine ab_iload_n d_Lexer_behindSign_170 rfl rfl ?_
                    refine ab_iconst (v := 0) d_Lexer_behindSign_171 (by decide) ?_
                    refine ab_iconst (v := 0) d_Lexer_behindSign_172 (by decide) ?_
                    refine ab_callV_v (As := [.int 31, .int (nI f), .int 0, .int 0]) (rest := []) d_Lexer_behindSign_173 (c_Lexer_note hl0 hc) (ab_mkC s_Lexer_note (Nat.le_of_ble_eq_true rfl) (Nat.le_of_ble_eq_true rfl) (by decide) (by decide)) (k4 8 rfl rfl) i_Lexer_note v_Lexer_note go rfl rfl (Nat.le_of_ble_eq_true rfl) (fun h108 qn109 => ?_)
                    refine ab_iload_n d_Lexer_behindSign_176 rfl rfl ?_
                    refine ab_iconst (v := 2) d_Lexer_behindSign_177 (by decide) ?_
                    refine ab_iadd d_Lexer_behindSign_178 ?_
                    refine ab_topi (fun x110 ex110 => ?_)
                    obtain rfl : x110 = nI (f + 2) := ex110.trans (nI_add f 2)
                    clear ex110
                    exact ab_iret d_Lexer_behindSign_179 rfl (Nat.le_refl _) (Nat.le_refl _) (by have hsp : lx_sign bf T f = ((f + 2), 31) := (by unfold lx_sign; rw [if_pos q4]; rw [if_neg (fun z => z q5)]; rw [if_neg q45]; rw [if_neg q61]; rw [if_neg q77]; rw [if_pos q93]; rw [if_neg (fun z => z q94)]; rw [if_pos q106]; rw [if_pos q107]; try rfl); rw [hsp]; exact ⟨rfl, qn109⟩)
                  · refine ab_bipush (v := 30) d_Lexer_behindSign_124 (by decide) ?_
                    refine ab_goto (tgt := 131) d_Lexer_behindSign_126 (by decide) ?_
                    refine ab_istore (lv' := [some (.ref b), some (.int (nI f)), some (.int (bf (nI f))), some (.int 0), some (.int 30)]) d_Lexer_behindSign_131 (by decide) rfl ?_
                    refine ab_goto (tgt := 167) d_Lexer_behindSign_133 (by decide) ?_
                    refine ab_aload_n d_Lexer_behindSign_167 rfl rfl rfl ?_
                    refine ab_iload d_Lexer_behindSign_168 rfl ?_
                    refine ab_iload_n d_Lexer_behindSign_170 rfl rfl ?_
                    refine ab_iconst (v := 0) d_Lexer_behindSign_171 (by decide) ?_
                    refine ab_iconst (v := 0) d_Lexer_behindSign_172 (by decide) ?_
                    refine ab_callV_v (As := [.int 30, .int (nI f), .int 0, .int 0]) (rest := []) d_Lexer_behindSign_173 (c_Lexer_note hl0 hc) (ab_mkC s_Lexer_note (Nat.le_of_ble_eq_true rfl) (Nat.le_of_ble_eq_true rfl) (by decide) (by decide)) (k4 8 rfl rfl) i_Lexer_note v_Lexer_note go rfl rfl (Nat.le_of_ble_eq_true rfl) (fun h111 qn112 => ?_)
                    refine ab_iload_n d_Lexer_behindSign_176 rfl rfl ?_
                    refine ab_iconst (v := 2) d_Lexer_behindSign_177 (by decide) ?_
                    refine ab_iadd d_Lexer_behindSign_178 ?_
                    refine ab_topi (fun x113 ex113 => ?_)
                    obtain rfl : x113 = nI (f + 2) := ex113.trans (nI_add f 2)
                    clear ex113
                    exact ab_iret d_Lexer_behindSign_179 rfl (Nat.le_refl _) (Nat.le_refl _) (by have hsp : lx_sign bf T f = ((f + 2), 30) := (by unfold lx_sign; rw [if_pos q4]; rw [if_neg (fun z => z q5)]; rw [if_neg q45]; rw [if_neg q61]; rw [if_neg q77]; rw [if_pos q93]; rw [if_neg (fun z => z q94)]; rw [if_pos q106]; rw [if_neg (fun z => z q107)]; try rfl); rw [hsp]; exact ⟨rfl, qn112⟩)
                · refine ab_iload_n d_Lexer_behindSign_112 rfl rfl ?_
                  refine ab_bipush (v := 124) d_Lexer_behindSign_113 (by decide) ?_
                  refine ab_icmp_ne (tgt := 136) d_Lexer_behindSign_115 (by decide) (fun q114 => ?_) (fun q114 => ?_)
                  · refine ab_ldcS (k0 := 2) d_Lexer_behindSign_136 (List.mem_of_getElem? (i := 2) rfl) rfl rfl rfl ?_
                    refine ab_iload_n d_Lexer_behindSign_138 rfl rfl ?_
                    refine ab_i2c d_Lexer_behindSign_139 ?_
                    refine ab_callVK_a (k0 := 2) (As := [.int ((((bf (nI f)) : Int32).toUInt32 % 65536).toInt32)]) (rest := []) d_Lexer_behindSign_140 (by decide) (c_lx_ixc) (ab_mkC s_Str_indexOf (Nat.le_of_ble_eq_true rfl) (Nat.le_of_ble_eq_true rfl) (by decide) (by decide)) (k4 34 rfl rfl) i_Str_indexOf v_Str_indexOf rfl (Nat.le_of_ble_eq_true rfl) (fun h116 q115 => ?_)
                    subst q115
                    refine ab_if_lt (tgt := 167) d_Lexer_behindSign_143 (by decide) (fun q117 => ?_) (fun q117 => ?_)
                    · refine ab_aload_n d_Lexer_behindSign_167 rfl rfl rfl ?_
                      refine ab_iload d_Lexer_behindSign_168 rfl ?_
                      refine ab_iload_n d_Lexer_behindSign_170 rfl rfl ?_
                      refine ab_iconst (v := 0) d_Lexer_behindSign_171 (by decide) ?_
                      refine ab_iconst (v := 0) d_Lexer_behindSign_172 (by decide) ?_
                      refine ab_callV_v (As := [.int 1, .int (nI f), .int 0, .int 0]) (rest := []) d_Lexer_behindSign_173 (c_Lexer_note hl0 hc) (ab_mkC s_Lexer_note (Nat.le_of_ble_eq_true rfl) (Nat.le_of_ble_eq_true rfl) (by decide) (by decide)) (k4 8 rfl rfl) i_Lexer_note v_Lexer_note go rfl rfl (Nat.le_of_ble_eq_true rfl) (fun h118 qn119 => ?_)
                      refine ab_iload_n d_Lexer_behindSign_176 rfl rfl ?_
                      refine ab_iconst (v := 2) d_Lexer_behindSign_177 (by decide) ?_
                      refine ab_iadd d_Lexer_behindSign_178 ?_
                      refine ab_topi (fun x120 ex120 => ?_)
                      obtain rfl : x120 = nI (f + 2) := ex120.trans (nI_add f 2)
                      clear ex120
                      exact ab_iret d_Lexer_behindSign_179 rfl (Nat.le_refl _) (Nat.le_refl _) (by have hsp : lx_sign bf T f = ((f + 2), 1) := (by unfold lx_sign; rw [if_pos q4]; rw [if_neg (fun z => z q5)]; rw [if_neg q45]; rw [if_neg q61]; rw [if_neg q77]; rw [if_pos q93]; rw [if_neg (fun z => z q94)]; rw [if_neg q106]; rw [if_pos q114]; rw [if_pos q117]; try rfl); rw [hsp]; exact ⟨rfl, qn119⟩)
                    · refine ab_aload_n d_Lexer_behindSign_146 rfl rfl rfl ?_
                      refine ab_bipush (v := 10) d_Lexer_behindSign_147 (by decide) ?_
                      refine ab_ldcS (k0 := 2) d_Lexer_behindSign_149 (List.mem_of_getElem? (i := 2) rfl) rfl rfl rfl ?_
                      refine ab_iload_n d_Lexer_behindSign_151 rfl rfl ?_
                      refine ab_i2c d_Lexer_behindSign_152 ?_
                      refine ab_callVK_a (k0 := 2) (As := [.int ((((bf (nI f)) : Int32).toUInt32 % 65536).toInt32)]) (rest := [.int 10, .ref b]) d_Lexer_behindSign_153 (by decide) (c_lx_ixc) (ab_mkC s_Str_indexOf (Nat.le_of_ble_eq_true rfl) (Nat.le_of_ble_eq_true rfl) (by decide) (by decide)) (k4 34 rfl rfl) i_Str_indexOf v_Str_indexOf rfl (Nat.le_of_ble_eq_true rfl) (fun h122 q121 => ?_)
                      subst q121
                      refine ab_iadd d_Lexer_behindSign_156 ?_
                      refine ab_iload_n d_Lexer_behindSign_157 rfl rfl ?_
                      refine ab_iconst (v := 0) d_Lexer_behindSign_158 (by decide) ?_
                      refine ab_iconst (v := 0) d_Lexer_behindSign_159 (by decide) ?_
                      refine ab_callV_v (As := [.int (10 + (lx_ixc ((((bf (nI f)) : Int32).toUInt32 % 65536).toInt32))), .int (nI f), .int 0, .int 0]) (rest := []) d_Lexer_behindSign_160 (c_Lexer_note hl0 hc) (ab_mkC s_Lexer_note (Nat.le_of_ble_eq_true rfl) (Nat.le_of_ble_eq_true rfl) (by decide) (by decide)) (k4 8 rfl rfl) i_Lexer_note v_Lexer_note go rfl rfl (Nat.le_of_ble_eq_true rfl) (fun h123 qn124 => ?_)
                      refine ab_iload_n d_Lexer_behindSign_163 rfl rfl ?_
                      refine ab_iconst (v := 1) d_Lexer_behindSign_164 (by decide) ?_
                      refine ab_iadd d_Lexer_behindSign_165 ?_
                      refine ab_topi (fun x125 ex125 => ?_)
                      obtain rfl : x125 = nI (f + 1) := ex125.trans (nI_add f 1)
                      clear ex125
                      exact ab_iret d_Lexer_behindSign_166 rfl (Nat.le_refl _) (Nat.le_refl _) (by have hsp : lx_sign bf T f = ((f + 1), 10 + (lx_ixc ((((bf (nI f)) : Int32).toUInt32 % 65536).toInt32))) := (by unfold lx_sign; rw [if_pos q4]; rw [if_neg (fun z => z q5)]; rw [if_neg q45]; rw [if_neg q61]; rw [if_neg q77]; rw [if_pos q93]; rw [if_neg (fun z => z q94)]; rw [if_neg q106]; rw [if_pos q114]; rw [if_neg q117]; try rfl); rw [hsp]; exact ⟨rfl, qn124⟩)
                  · refine ab_iload_n d_Lexer_behindSign_118 rfl rfl ?_
                    refine ab_bipush (v := 38) d_Lexer_behindSign_119 (by decide) ?_
                    refine ab_icmp_ne (tgt := 129) d_Lexer_behindSign_121 (by decide) (fun q126 => ?_) (fun q126 => ?_)
                    · refine ab_bipush (v := 31) d_Lexer_behindSign_129 (by decide) ?_
                      refine ab_istore (lv' := [some (.ref b), some (.int (nI f)), some (.int (bf (nI f))), some (.int 0), some (.int 31)]) d_Lexer_behindSign_131 (by decide) rfl ?_
                      refine ab_goto (tgt := 167) d_Lexer_behindSign_133 (by decide) ?_
                      refine ab_aload_n d_Lexer_behindSign_167 rfl rfl rfl ?_
                      refine ab_iload d_Lexer_behindSign_168 rfl ?_
                      refine ab_iload_n d_Lexer_behindSign_170 rfl rfl ?_
                      refine ab_iconst (v := 0) d_Lexer_behindSign_171 (by decide) ?_
                      refine ab_iconst (v := 0) d_Lexer_behindSign_172 (by decide) ?_
                      refine ab_callV_v (As := [.int 31, .int (nI f), .int 0, .int 0]) (rest := []) d_Lexer_behindSign_173 (c_Lexer_note hl0 hc) (ab_mkC s_Lexer_note (Nat.le_of_ble_eq_true rfl) (Nat.le_of_ble_eq_true rfl) (by decide) (by decide)) (k4 8 rfl rfl) i_Lexer_note v_Lexer_note go rfl rfl (Nat.le_of_ble_eq_true rfl) (fun h127 qn128 => ?_)
                      refine ab_iload_n d_Lexer_behindSign_176 rfl rfl ?_
                      refine ab_iconst (v := 2) d_Lexer_behindSign_177 (by decide) ?_
                      refine ab_iadd d_Lexer_behindSign_178 ?_
                      refine ab_topi (fun x129 ex129 => ?_)
                      obtain rfl : x129 = nI (f + 2) := ex129.trans (nI_add f 2)
                      clear ex129
                      exact ab_iret d_Lexer_behindSign_179 rfl (Nat.le_refl _) (Nat.le_refl _) (by have hsp : lx_sign bf T f = ((f + 2), 31) := (by unfold lx_sign; rw [if_pos q4]; rw [if_neg (fun z => z q5)]; rw [if_neg q45]; rw [if_neg q61]; rw [if_neg q77]; rw [if_pos q93]; rw [if_neg (fun z => z q94)]; rw [if_neg q106]; rw [if_neg (fun z => z q114)]; rw [if_pos q126]; try rfl); rw [hsp]; exact ⟨rfl, qn128⟩)
                    · refine ab_bipush (v := 30) d_Lexer_behindSign_124 (by decide) ?_
                      refine ab_goto (tgt := 131) d_Lexer_behindSign_126 (by decide) ?_
                      refine ab_istore (lv' := [some (.ref b), some (.int (nI f)), some (.int (bf (nI f))), some (.int 0), some (.int 30)]) d_Lexer_behindSign_131 (by decide) rfl ?_
                      refine ab_goto (tgt := 167) d_Lexer_behindSign_133 (by decide) ?_
                      refine ab_aload_n d_Lexer_behindSign_167 rfl rfl rfl ?_
                      refine ab_iload d_Lexer_behindSign_168 rfl ?_
                      refine ab_iload_n d_Lexer_behindSign_170 rfl rfl ?_
                      refine ab_iconst (v := 0) d_Lexer_behindSign_171 (by decide) ?_
                      refine ab_iconst (v := 0) d_Lexer_behindSign_172 (by decide) ?_
                      refine ab_callV_v (As := [.int 30, .int (nI f), .int 0, .int 0]) (rest := []) d_Lexer_behindSign_173 (c_Lexer_note hl0 hc) (ab_mkC s_Lexer_note (Nat.le_of_ble_eq_true rfl) (Nat.le_of_ble_eq_true rfl) (by decide) (by decide)) (k4 8 rfl rfl) i_Lexer_note v_Lexer_note go rfl rfl (Nat.le_of_ble_eq_true rfl) (fun h130 qn131 => ?_)
                      refine ab_iload_n d_Lexer_behindSign_176 rfl rfl ?_
                      refine ab_iconst (v := 2) d_Lexer_behindSign_177 (by decide) ?_
                      refine ab_iadd d_Lexer_behindSign_178 ?_
                      refine ab_topi (fun x132 ex132 => ?_)
                      obtain rfl : x132 = nI (f + 2) := ex132.trans (nI_add f 2)
                      clear ex132
                      exact ab_iret d_Lexer_behindSign_179 rfl (Nat.le_refl _) (Nat.le_refl _) (by have hsp : lx_sign bf T f = ((f + 2), 30) := (by unfold lx_sign; rw [if_pos q4]; rw [if_neg (fun z => z q5)]; rw [if_neg q45]; rw [if_neg q61]; rw [if_neg q77]; rw [if_pos q93]; rw [if_neg (fun z => z q94)]; rw [if_neg q106]; rw [if_neg (fun z => z q114)]; rw [if_neg (fun z => z q126)]; try rfl); rw [hsp]; exact ⟨rfl, qn131⟩)
            · refine ab_iload_n d_Lexer_behindSign_61 rfl rfl ?_
              refine ab_bipush (v := 60) d_Lexer_behindSign_62 (by decide) ?_
              refine ab_icmp_ne (tgt := 72) d_Lexer_behindSign_64 (by decide) (fun q133 => ?_) (fun q133 => ?_)
              · refine ab_iload_n d_Lexer_behindSign_72 rfl rfl ?_
                refine ab_bipush (v := 62) d_Lexer_behindSign_73 (by decide) ?_
                refine ab_icmp_ne (tgt := 83) d_Lexer_behindSign_75 (by decide) (fun q134 => ?_) (fun q134 => ?_)
                · refine ab_iload_n d_Lexer_behindSign_83 rfl rfl ?_
                  refine ab_bipush (v := 61) d_Lexer_behindSign_84 (by decide) ?_
                  refine ab_icmp_ne (tgt := 94) d_Lexer_behindSign_86 (by decide) (fun q135 => ?_) (fun q135 => ?_)
                  · refine ab_bipush (v := 29) d_Lexer_behindSign_94 (by decide) ?_
                    refine ab_istore (lv' := [some (.ref b), some (.int (nI f)), some (.int (bf (nI f))), some (.int 0), some (.int 29)]) d_Lexer_behindSign_96 (by decide) rfl ?_
                    refine ab_goto (tgt := 167) d_Lexer_behindSign_98 (by decide) ?_
                    refine ab_aload_n d_Lexer_behindSign_167 rfl rfl rfl ?_
                    refine ab_iload d_Lexer_behindSign_168 rfl ?_
                    refine ab_iload_n d_Lexer_behindSign_170 rfl rfl ?_
                    refine ab_iconst (v := 0) d_Lexer_behindSign_171 (by decide) ?_
                    refine ab_iconst (v := 0) d_Lexer_behindSign_172 (by decide) ?_
                    refine ab_callV_v (As := [.int 29, .int (nI f), .int 0, .int 0]) (rest := []) d_Lexer_behindSign_173 (c_Lexer_note hl0 hc) (ab_mkC s_Lexer_note (Nat.le_of_ble_eq_true rfl) (Nat.le_of_ble_eq_true rfl) (by decide) (by decide)) (k4 8 rfl rfl) i_Lexer_note v_Lexer_note go rfl rfl (Nat.le_of_ble_eq_true rfl) (fun h136 qn137 => ?_)
                    refine ab_iload_n d_Lexer_behindSign_176 rfl rfl ?_
                    refine ab_iconst (v := 2) d_Lexer_behindSign_177 (by decide) ?_
                    refine ab_iadd d_Lexer_behindSign_178 ?_
                    refine ab_topi (fun x138 ex138 => ?_)
                    obtain rfl : x138 = nI (f + 2) := ex138.trans (nI_add f 2)
                    clear ex138
                    exact ab_iret d_Lexer_behindSign_179 rfl (Nat.le_refl _) (Nat.le_refl _) (by have hsp : lx_sign bf T f = ((f + 2), 29) := (by unfold lx_sign; rw [if_pos q4]; rw [if_neg (fun z => z q5)]; rw [if_neg q45]; rw [if_neg q61]; rw [if_neg q77]; rw [if_neg (fun z => z q93)]; rw [if_pos q133]; rw [if_pos q134]; rw [if_pos q135]; try rfl); rw [hsp]; exact ⟨rfl, qn137⟩)
                  · refine ab_bipush (v := 28) d_Lexer_behindSign_89 (by decide) ?_
                    refine ab_goto (tgt := 96) d_Lexer_behindSign_91 (by decide) ?_
                    refine ab_istore (lv' := [some (.ref b), some (.int (nI f)), some (.int (bf (nI f))), some (.int 0), some (.int 28)]) d_Lexer_behindSign_96 (by decide) rfl ?_
                    refine ab_goto (tgt := 167) d_Lexer_behindSign_98 (by decide) ?_
                    refine ab_aload_n d_Lexer_behindSign_167 rfl rfl rfl ?_
                    refine ab_iload d_Lexer_behindSign_168 rfl ?_
                    refine ab_iload_n d_Lexer_behindSign_170 rfl rfl ?_
                    refine ab_iconst (v := 0) d_Lexer_behindSign_171 (by decide) ?_
                    refine ab_iconst (v := 0) d_Lexer_behindSign_172 (by decide) ?_
                    refine ab_callV_v (As := [.int 28, .int (nI f), .int 0, .int 0]) (rest := []) d_Lexer_behindSign_173 (c_Lexer_note hl0 hc) (ab_mkC s_Lexer_note (Nat.le_of_ble_eq_true rfl) (Nat.le_of_ble_eq_true rfl) (by decide) (by decide)) (k4 8 rfl rfl) i_Lexer_note v_Lexer_note go rfl rfl (Nat.le_of_ble_eq_true rfl) (fun h139 qn140 => ?_)
                    refine ab_iload_n d_Lexer_behindSign_176 rfl rfl ?_
                    refine ab_iconst (v := 2) d_Lexer_behindSign_177 (by decide) ?_
                    refine ab_iadd d_Lexer_behindSign_178 ?_
                    refine ab_topi (fun x141 ex141 => ?_)
                    obtain rfl : x141 = nI (f + 2) := ex141.trans (nI_add f 2)
                    clear ex141
                    exact ab_iret d_Lexer_behindSign_179 rfl (Nat.le_refl _) (Nat.le_refl _) (by have hsp : lx_sign bf T f = ((f + 2), 28) := (by unfold lx_sign; rw [if_pos q4]; rw [if_neg (fun z => z q5)]; rw [if_neg q45]; rw [if_neg q61]; rw [if_neg q77]; rw [if_neg (fun z => z q93)]; rw [if_pos q133]; rw [if_pos q134]; rw [if_neg (fun z => z q135)]; try rfl); rw [hsp]; exact ⟨rfl, qn140⟩)
                · refine ab_bipush (v := 27) d_Lexer_behindSign_78 (by decide) ?_
                  refine ab_goto (tgt := 96) d_Lexer_behindSign_80 (by decide) ?_
                  refine ab_istore (lv' := [some (.ref b), some (.int (nI f)), some (.int (bf (nI f))), some (.int 0), some (.int 27)]) d_Lexer_behindSign_96 (by decide) rfl ?_
                  refine ab_goto (tgt := 167) d_Lexer_behindSign_98 (by decide) ?_
                  refine ab_aload_n d_Lexer_behindSign_167 rfl rfl rfl ?_
                  refine ab_iload d_Lexer_behindSign_168 rfl ?_
                  refine ab_iload_n d_Lexer_behindSign_170 rfl rfl ?_
                  refine ab_iconst (v := 0) d_Lexer_behindSign_171 (by decide) ?_
                  refine ab_iconst (v := 0) d_Lexer_behindSign_172 (by decide) ?_
                  refine ab_callV_v (As := [.int 27, .int (nI f), .int 0, .int 0]) (rest := []) d_Lexer_behindSign_173 (c_Lexer_note hl0 hc) (ab_mkC s_Lexer_note (Nat.le_of_ble_eq_true rfl) (Nat.le_of_ble_eq_true rfl) (by decide) (by decide)) (k4 8 rfl rfl) i_Lexer_note v_Lexer_note go rfl rfl (Nat.le_of_ble_eq_true rfl) (fun h142 qn143 => ?_)
                  refine ab_iload_n d_Lexer_behindSign_176 rfl rfl ?_
                  refine ab_iconst (v := 2) d_Lexer_behindSign_177 (by decide) ?_
                  refine ab_iadd d_Lexer_behindSign_178 ?_
                  refine ab_topi (fun x144 ex144 => ?_)
                  obtain rfl : x144 = nI (f + 2) := ex144.trans (nI_add f 2)
                  clear ex144
                  exact ab_iret d_Lexer_behindSign_179 rfl (Nat.le_refl _) (Nat.le_refl _) (by have hsp : lx_sign bf T f = ((f + 2), 27) := (by unfold lx_sign; rw [if_pos q4]; rw [if_neg (fun z => z q5)]; rw [if_neg q45]; rw [if_neg q61]; rw [if_neg q77]; rw [if_neg (fun z => z q93)]; rw [if_pos q133]; rw [if_neg (fun z => z q134)]; try rfl); rw [hsp]; exact ⟨rfl, qn143⟩)
              · refine ab_bipush (v := 26) d_Lexer_behindSign_67 (by decide) ?_
                refine ab_goto (tgt := 96) d_Lexer_behindSign_69 (by decide) ?_
                refine ab_istore (lv' := [some (.ref b), some (.int (nI f)), some (.int (bf (nI f))), some (.int 0), some (.int 26)]) d_Lexer_behindSign_96 (by decide) rfl ?_
                refine ab_goto (tgt := 167) d_Lexer_behindSign_98 (by decide) ?_
                refine ab_aload_n d_Lexer_behindSign_167 rfl rfl rfl ?_
                refine ab_iload d_Lexer_behindSign_168 rfl ?_
                refine ab_iload_n d_Lexer_behindSign_170 rfl rfl ?_
                refine ab_iconst (v := 0) d_Lexer_behindSign_171 (by decide) ?_
                refine ab_iconst (v := 0) d_Lexer_behindSign_172 (by decide) ?_
                refine ab_callV_v (As := [.int 26, .int (nI f), .int 0, .int 0]) (rest := []) d_Lexer_behindSign_173 (c_Lexer_note hl0 hc) (ab_mkC s_Lexer_note (Nat.le_of_ble_eq_true rfl) (Nat.le_of_ble_eq_true rfl) (by decide) (by decide)) (k4 8 rfl rfl) i_Lexer_note v_Lexer_note go rfl rfl (Nat.le_of_ble_eq_true rfl) (fun h145 qn146 => ?_)
                refine ab_iload_n d_Lexer_behindSign_176 rfl rfl ?_
                refine ab_iconst (v := 2) d_Lexer_behindSign_177 (by decide) ?_
                refine ab_iadd d_Lexer_behindSign_178 ?_
                refine ab_topi (fun x147 ex147 => ?_)
                obtain rfl : x147 = nI (f + 2) := ex147.trans (nI_add f 2)
                clear ex147
                exact ab_iret d_Lexer_behindSign_179 rfl (Nat.le_refl _) (Nat.le_refl _) (by have hsp : lx_sign bf T f = ((f + 2), 26) := (by unfold lx_sign; rw [if_pos q4]; rw [if_neg (fun z => z q5)]; rw [if_neg q45]; rw [if_neg q61]; rw [if_neg q77]; rw [if_neg (fun z => z q93)]; rw [if_neg (fun z => z q133)]; try rfl); rw [hsp]; exact ⟨rfl, qn146⟩)
  · refine ab_aload_n d_Lexer_behindSign_16 rfl rfl rfl ?_
    refine ab_iload_n d_Lexer_behindSign_17 rfl rfl ?_
    refine ab_iconst (v := 1) d_Lexer_behindSign_18 (by decide) ?_
    refine ab_iadd d_Lexer_behindSign_19 ?_
    refine ab_topi (fun x148 ex148 => ?_)
    obtain rfl : x148 = nI (f + 1) := ex148.trans (nI_add f 1)
    clear ex148
    refine ab_callV_a (As := [.int (nI (f + 1))]) (rest := []) d_Lexer_behindSign_20 (c_bf hl0 (nI_pos (by omega)) hT hT2 hb) (ab_mkC s_Lexer_byteAt (Nat.le_of_ble_eq_true rfl) (Nat.le_of_ble_eq_true rfl) (by decide) (by decide)) (k3 226 rfl rfl) i_Lexer_byteAt v_Lexer_byteAt go rfl rfl (Nat.le_of_ble_eq_true rfl) (fun h150 q149 => ?_)
    subst q149
    refine ab_goto (tgt := 27) d_Lexer_behindSign_23 (by decide) ?_
    refine ab_topi (fun x151 ex151 => ?_)
    refine ab_istore_n (lv' := [some (.ref b), some (.int (nI f)), some (.int (bf (nI f))), some (.int x151), none]) d_Lexer_behindSign_27 rfl (by decide) rfl ?_
    refine ab_iconst (v := 1) d_Lexer_behindSign_28 (by decide) ?_
    refine ab_istore (lv' := [some (.ref b), some (.int (nI f)), some (.int (bf (nI f))), some (.int x151), some (.int 1)]) d_Lexer_behindSign_29 (by decide) rfl ?_
    refine ab_iload_n d_Lexer_behindSign_31 rfl rfl ?_
    refine ab_bipush (v := 61) d_Lexer_behindSign_32 (by decide) ?_
    refine ab_icmp_ne (tgt := 101) d_Lexer_behindSign_34 (by decide) (fun q152 => ?_) (fun q152 => ?_)
    · refine ab_iload_n d_Lexer_behindSign_101 rfl rfl ?_
      refine ab_iload_n d_Lexer_behindSign_102 rfl rfl ?_
      refine ab_icmp_ne (tgt := 136) d_Lexer_behindSign_103 (by decide) (fun q153 => ?_) (fun q153 => ?_)
      · refine ab_ldcS (k0 := 2) d_Lexer_behindSign_136 (List.mem_of_getElem? (i := 2) rfl) rfl rfl rfl ?_
        refine ab_iload_n d_Lexer_behindSign_138 rfl rfl ?_
        refine ab_i2c d_Lexer_behindSign_139 ?_
        refine ab_callVK_a (k0 := 2) (As := [.int ((((bf (nI f)) : Int32).toUInt32 % 65536).toInt32)]) (rest := []) d_Lexer_behindSign_140 (by decide) (c_lx_ixc) (ab_mkC s_Str_indexOf (Nat.le_of_ble_eq_true rfl) (Nat.le_of_ble_eq_true rfl) (by decide) (by decide)) (k4 34 rfl rfl) i_Str_indexOf v_Str_indexOf rfl (Nat.le_of_ble_eq_true rfl) (fun h155 q154 => ?_)
        subst q154
        refine ab_if_lt (tgt := 167) d_Lexer_behindSign_143 (by decide) (fun q156 => ?_) (fun q156 => ?_)
        · refine ab_aload_n d_Lexer_behindSign_167 rfl rfl rfl ?_
          refine ab_iload d_Lexer_behindSign_168 rfl ?_
          refine ab_iload_n d_Lexer_behindSign_170 rfl rfl ?_
          refine ab_iconst (v := 0) d_Lexer_behindSign_171 (by decide) ?_
          refine ab_iconst (v := 0) d_Lexer_behindSign_172 (by decide) ?_
          refine ab_callV_v (As := [.int 1, .int (nI f), .int 0, .int 0]) (rest := []) d_Lexer_behindSign_173 (c_Lexer_note hl0 hc) (ab_mkC s_Lexer_note (Nat.le_of_ble_eq_true rfl) (Nat.le_of_ble_eq_true rfl) (by decide) (by decide)) (k4 8 rfl rfl) i_Lexer_note v_Lexer_note go rfl rfl (Nat.le_of_ble_eq_true rfl) (fun h157 qn158 => ?_)
          refine ab_iload_n d_Lexer_behindSign_176 rfl rfl ?_
          refine ab_iconst (v := 2) d_Lexer_behindSign_177 (by decide) ?_
          refine ab_iadd d_Lexer_behindSign_178 ?_
          refine ab_topi (fun x159 ex159 => ?_)
          obtain rfl : x159 = nI (f + 2) := ex159.trans (nI_add f 2)
          clear ex159
          exact ab_iret d_Lexer_behindSign_179 rfl (Nat.le_refl _) (Nat.le_refl _) (by subst ex151; have hsp : lx_sign bf T f = ((f + 2), 1) := (by unfold lx_sign; rw [if_neg q4]; rw [if_pos q152]; rw [if_pos q153]; rw [if_pos q156]; try rfl); rw [hsp]; exact ⟨rfl, qn158⟩)
        · refine ab_aload_n d_Lexer_behindSign_146 rfl rfl rfl ?_
          refine ab_bipush (v := 10) d_Lexer_behindSign_147 (by decide) ?_
          refine ab_ldcS (k0 := 2) d_Lexer_behindSign_149 (List.mem_of_getElem? (i := 2) rfl) rfl rfl rfl ?_
          refine ab_iload_n d_Lexer_behindSign_151 rfl rfl ?_
          refine ab_i2c d_Lexer_behindSign_152 ?_
          refine ab_callVK_a (k0 := 2) (As := [.int ((((bf (nI f)) : Int32).toUInt32 % 65536).toInt32)]) (rest := [.int 10, .ref b]) d_Lexer_behindSign_153 (by decide) (c_lx_ixc) (ab_mkC s_Str_indexOf (Nat.le_of_ble_eq_true rfl) (Nat.le_of_ble_eq_true rfl) (by decide) (by decide)) (k4 34 rfl rfl) i_Str_indexOf v_Str_indexOf rfl (Nat.le_of_ble_eq_true rfl) (fun h161 q160 => ?_)
          subst q160
          refine ab_iadd d_Lexer_behindSign_156 ?_
          refine ab_iload_n d_Lexer_behindSign_157 rfl rfl ?_
          refine ab_iconst (v := 0) d_Lexer_behindSign_158 (by decide) ?_
          refine ab_iconst (v := 0) d_Lexer_behindSign_159 (by decide) ?_
          refine ab_callV_v (As := [.int (10 + (lx_ixc ((((bf (nI f)) : Int32).toUInt32 % 65536).toInt32))), .int (nI f), .int 0, .int 0]) (rest := []) d_Lexer_behindSign_160 (c_Lexer_note hl0 hc) (ab_mkC s_Lexer_note (Nat.le_of_ble_eq_true rfl) (Nat.le_of_ble_eq_true rfl) (by decide) (by decide)) (k4 8 rfl rfl) i_Lexer_note v_Lexer_note go rfl rfl (Nat.le_of_ble_eq_true rfl) (fun h162 qn163 => ?_)
          refine ab_iload_n d_Lexer_behindSign_163 rfl rfl ?_
          refine ab_iconst (v := 1) d_Lexer_behindSign_164 (by decide) ?_
          refine ab_iadd d_Lexer_behindSign_165 ?_
          refine ab_topi (fun x164 ex164 => ?_)
          obtain rfl : x164 = nI (f + 1) := ex164.trans (nI_add f 1)
          clear ex164
          exact ab_iret d_Lexer_behindSign_166 rfl (Nat.le_refl _) (Nat.le_refl _) (by subst ex151; have hsp : lx_sign bf T f = ((f + 1), 10 + (lx_ixc ((((bf (nI f)) : Int32).toUInt32 % 65536).toInt32))) := (by unfold lx_sign; rw [if_neg q4]; rw [if_pos q152]; rw [if_pos q153]; rw [if_neg q156]; try rfl); rw [hsp]; exact ⟨rfl, qn163⟩)
      · refine ab_iload_n d_Lexer_behindSign_106 rfl rfl ?_
        refine ab_bipush (v := 38) d_Lexer_behindSign_107 (by decide) ?_
        refine ab_icmp_eq (tgt := 118) d_Lexer_behindSign_109 (by decide) (fun q165 => ?_) (fun q165 => ?_)
        · refine ab_iload_n d_Lexer_behindSign_118 rfl rfl ?_
          refine ab_bipush (v := 38) d_Lexer_behindSign_119 (by decide) ?_
          refine ab_icmp_ne (tgt := 129) d_Lexer_behindSign_121 (by decide) (fun q166 => ?_) (fun q166 => ?_)
          · refine ab_bipush (v := 31) d_Lexer_behindSign_129 (by decide) ?_
            refine ab_istore (lv' := [some (.ref b), some (.int (nI f)), some (.int (bf (nI f))), some (.int x151), some (.int 31)]) d_Lexer_behindSign_131 (by decide) rfl ?_
            refine ab_goto (tgt := 167) d_Lexer_behindSign_133 (by decide) ?_
            refine ab_aload_n d_Lexer_behindSign_167 rfl rfl rfl ?_
            refine ab_iload d_Lexer_behindSign_168 rfl ?_
            refine ab_iload_n d_Lexer_behindSign_170 rfl rfl ?_
            refine ab_iconst (v := 0) d_Lexer_behindSign_171 (by decide) ?_
            refine ab_iconst (v := 0) d_Lexer_behindSign_172 (by decide) ?_
            refine ab_callV_v (As := [.int 31, .int (nI f), .int 0, .int 0]) (rest := []) d_Lexer_behindSign_173 (c_Lexer_note hl0 hc) (ab_mkC s_Lexer_note (Nat.le_of_ble_eq_true rfl) (Nat.le_of_ble_eq_true rfl) (by decide) (by decide)) (k4 8 rfl rfl) i_Lexer_note v_Lexer_note go rfl rfl (Nat.le_of_ble_eq_true rfl) (fun h167 qn168 => ?_)
            refine ab_iload_n d_Lexer_behindSign_176 rfl rfl ?_
            refine ab_iconst (v := 2) d_Lexer_behindSign_177 (by decide) ?_
            refine ab_iadd d_Lexer_behindSign_178 ?_
            refine ab_topi (fun x169 ex169 => ?_)
            obtain rfl : x169 = nI (f + 2) := ex169.trans (nI_add f 2)
            clear ex169
            exact ab_iret d_Lexer_behindSign_179 rfl (Nat.le_refl _) (Nat.le_refl _) (by subst ex151; have hsp : lx_sign bf T f = ((f + 2), 31) := (by unfold lx_sign; rw [if_neg q4]; rw [if_pos q152]; rw [if_neg (fun z => z q153)]; rw [if_pos q165]; rw [if_pos q166]; try rfl); rw [hsp]; exact ⟨rfl, qn168⟩)
          · refine ab_bipush (v := 30) d_Lexer_behindSign_124 (by decide) ?_
            refine ab_goto (tgt := 131) d_Lexer_behindSign_126 (by decide) ?_
            refine ab_istore (lv' := [some (.ref b), some (.int (nI f)), some (.int (bf (nI f))), some (.int x151), some (.int 30)]) d_Lexer_behindSign_131 (by decide) rfl ?_
            refine ab_goto (tgt := 167) d_Lexer_behindSign_133 (by decide) ?_
            refine ab_aload_n d_Lexer_behindSign_167 rfl rfl rfl ?_
            refine ab_iload d_Lexer_behindSign_168 rfl ?_
            refine ab_iload_n d_Lexer_behindSign_170 rfl rfl ?_
            refine ab_iconst (v := 0) d_Lexer_behindSign_171 (by decide) ?_
            refine ab_iconst (v := 0) d_Lexer_behindSign_172 (by decide) ?_
            refine ab_callV_v (As := [.int 30, .int (nI f), .int 0, .int 0]) (rest := []) d_Lexer_behindSign_173 (c_Lexer_note hl0 hc) (ab_mkC s_Lexer_note (Nat.le_of_ble_eq_true rfl) (Nat.le_of_ble_eq_true rfl) (by decide) (by decide)) (k4 8 rfl rfl) i_Lexer_note v_Lexer_note go rfl rfl (Nat.le_of_ble_eq_true rfl) (fun h170 qn171 => ?_)
            refine ab_iload_n d_Lexer_behindSign_176 rfl rfl ?_
            refine ab_iconst (v := 2) d_Lexer_behindSign_177 (by decide) ?_
            refine ab_iadd d_Lexer_behindSign_178 ?_
            refine ab_topi (fun x172 ex172 => ?_)
            obtain rfl : x172 = nI (f + 2) := ex172.trans (nI_add f 2)
            clear ex172
            exact ab_iret d_Lexer_behindSign_179 rfl (Nat.le_refl _) (Nat.le_refl _) (by subst ex151; have hsp : lx_sign bf T f = ((f + 2), 30) := (by unfold lx_sign; rw [if_neg q4]; rw [if_pos q152]; rw [if_neg (fun z => z q153)]; rw [if_pos q165]; rw [if_neg (fun z => z q166)]; try rfl); rw [hsp]; exact ⟨rfl, qn171⟩)
        · refine ab_iload_n d_Lexer_behindSign_112 rfl rfl ?_
          refine ab_bipush (v := 124) d_Lexer_behindSign_113 (by decide) ?_
          refine ab_icmp_ne (tgt := 136) d_Lexer_behindSign_115 (by decide) (fun q173 => ?_) (fun q173 => ?_)
          · refine ab_ldcS (k0 := 2) d_Lexer_behindSign_136 (List.mem_of_getElem? (i := 2) rfl) rfl rfl rfl ?_
            refine ab_iload_n d_Lexer_behindSign_138 rfl rfl ?_
            refine ab_i2c d_Lexer_behindSign_139 ?_
            refine ab_callVK_a (k0 := 2) (As := [.int ((((bf (nI f)) : Int32).toUInt32 % 65536).toInt32)]) (rest := []) d_Lexer_behindSign_140 (by decide) (c_lx_ixc) (ab_mkC s_Str_indexOf (Nat.le_of_ble_eq_true rfl) (Nat.le_of_ble_eq_true rfl) (by decide) (by decide)) (k4 34 rfl rfl) i_Str_indexOf v_Str_indexOf rfl (Nat.le_of_ble_eq_true rfl) (fun h175 q174 => ?_)
            subst q174
            refine ab_if_lt (tgt := 167) d_Lexer_behindSign_143 (by decide) (fun q176 => ?_) (fun q176 => ?_)
            · refine ab_aload_n d_Lexer_behindSign_167 rfl rfl rfl ?_
              refine ab_iload d_Lexer_behindSign_168 rfl ?_
              refine ab_iload_n d_Lexer_behindSign_170 rfl rfl ?_
              refine ab_iconst (v := 0) d_Lexer_behindSign_171 (by decide) ?_
              refine ab_iconst (v := 0) d_Lexer_behindSign_172 (by decide) ?_
              refine ab_callV_v (As := [.int 1, .int (nI f), .int 0, .int 0]) (rest := []) d_Lexer_behindSign_173 (c_Lexer_note hl0 hc) (ab_mkC s_Lexer_note (Nat.le_of_ble_eq_true rfl) (Nat.le_of_ble_eq_true rfl) (by decide) (by decide)) (k4 8 rfl rfl) i_Lexer_note v_Lexer_note go rfl rfl (Nat.le_of_ble_eq_true rfl) (fun h177 qn178 => ?_)
              refine ab_iload_n d_Lexer_behindSign_176 rfl rfl ?_
              refine ab_iconst (v := 2) d_Lexer_behindSign_177 (by decide) ?_
              refine ab_iadd d_Lexer_behindSign_178 ?_
              refine ab_topi (fun x179 ex179 => ?_)
              obtain rfl : x179 = nI (f + 2) := ex179.trans (nI_add f 2)
              clear ex179
              exact ab_iret d_Lexer_behindSign_179 rfl (Nat.le_refl _) (Nat.le_refl _) (by subst ex151; have hsp : lx_sign bf T f = ((f + 2), 1) := (by unfold lx_sign; rw [if_neg q4]; rw [if_pos q152]; rw [if_neg (fun z => z q153)]; rw [if_neg q165]; rw [if_pos q173]; rw [if_pos q176]; try rfl); rw [hsp]; exact ⟨rfl, qn178⟩)
            · refine ab_aload_n d_Lexer_behindSign_146 rfl rfl rfl ?_
              refine ab_bipush (v := 10) d_Lexer_behindSign_147 (by decide) ?_
              refine ab_ldcS (k0 := 2) d_Lexer_behindSign_149 (List.mem_of_getElem? (i := 2) rfl) rfl rfl rfl ?_
              refine ab_iload_n d_Lexer_behindSign_151 rfl rfl ?_
              refine ab_i2c d_Lexer_behindSign_152 ?_
              refine ab_callVK_a (k0 := 2) (As := [.int ((((bf (nI f)) : Int32).toUInt32 % 65536).toInt32)]) (rest := [.int 10, .ref b]) d_Lexer_behindSign_153 (by decide) (c_lx_ixc) (ab_mkC s_Str_indexOf (Nat.le_of_ble_eq_true rfl) (Nat.le_of_ble_eq_true rfl) (by decide) (by decide)) (k4 34 rfl rfl) i_Str_indexOf v_Str_indexOf rfl (Nat.le_of_ble_eq_true rfl) (fun h181 q180 => ?_)
              subst q180
              refine ab_iadd d_Lexer_behindSign_156 ?_
              refine ab_iload_n d_Lexer_behindSign_157 rfl rfl ?_
              refine ab_iconst (v := 0) d_Lexer_behindSign_158 (by decide) ?_
              refine ab_iconst (v := 0) d_Lexer_behindSign_159 (by decide) ?_
              refine ab_callV_v (As := [.int (10 + (lx_ixc ((((bf (nI f)) : Int32).toUInt32 % 65536).toInt32))), .int (nI f), .int 0, .int 0]) (rest := []) d_Lexer_behindSign_160 (c_Lexer_note hl0 hc) (ab_mkC s_Lexer_note (Nat.le_of_ble_eq_true rfl) (Nat.le_of_ble_eq_true rfl) (by decide) (by decide)) (k4 8 rfl rfl) i_Lexer_note v_Lexer_note go rfl rfl (Nat.le_of_ble_eq_true rfl) (fun h182 qn183 => ?_)
              refine ab_iload_n d_Lexer_behindSign_163 rfl rfl ?_
              refine ab_iconst (v := 1) d_Lexer_behindSign_164 (by decide) ?_
              refine ab_iadd d_Lexer_behindSign_165 ?_
              refine ab_topi (fun x184 ex184 => ?_)
              obtain rfl : x184 = nI (f + 1) := ex184.trans (nI_add f 1)
              clear ex184
              exact ab_iret d_Lexer_behindSign_166 rfl (Nat.le_refl _) (Nat.le_refl _) (by subst ex151; have hsp : lx_sign bf T f = ((f + 1), 10 + (lx_ixc ((((bf (nI f)) : Int32).toUInt32 % 65536).toInt32))) := (by unfold lx_sign; rw [if_neg q4]; rw [if_pos q152]; rw [if_neg (fun z => z q153)]; rw [if_neg q165]; rw [if_pos q173]; rw [if_neg q176]; try rfl); rw [hsp]; exact ⟨rfl, qn183⟩)
          · refine ab_iload_n d_Lexer_behindSign_118 rfl rfl ?_
            refine ab_bipush (v := 38) d_Lexer_behindSign_119 (by decide) ?_
            refine ab_icmp_ne (tgt := 129) d_Lexer_behindSign_121 (by decide) (fun q185 => ?_) (fun q185 => ?_)
            · refine ab_bipush (v := 31) d_Lexer_behindSign_129 (by decide) ?_
              refine ab_istore (lv' := [some (.ref b), some (.int (nI f)), some (.int (bf (nI f))), some (.int x151), some (.int 31)]) d_Lexer_behindSign_131 (by decide) rfl ?_
              refine ab_goto (tgt := 167) d_Lexer_behindSign_133 (by decide) ?_
              refine ab_aload_n d_Lexer_behindSign_167 rfl rfl rfl ?_
              refine ab_iload d_Lexer_behindSign_168 rfl ?_
              refine ab_iload_n d_Lexer_behindSign_170 rfl rfl ?_
              refine ab_iconst (v := 0) d_Lexer_behindSign_171 (by decide) ?_
              refine ab_iconst (v := 0) d_Lexer_behindSign_172 (by decide) ?_
              refine ab_callV_v (As := [.int 31, .int (nI f), .int 0, .int 0]) (rest := []) d_Lexer_behindSign_173 (c_Lexer_note hl0 hc) (ab_mkC s_Lexer_note (Nat.le_of_ble_eq_true rfl) (Nat.le_of_ble_eq_true rfl) (by decide) (by decide)) (k4 8 rfl rfl) i_Lexer_note v_Lexer_note go rfl rfl (Nat.le_of_ble_eq_true rfl) (fun h186 qn187 => ?_)
              refine ab_iload_n d_Lexer_behindSign_176 rfl rfl ?_
              refine ab_iconst (v := 2) d_Lexer_behindSign_177 (by decide) ?_
              refine ab_iadd d_Lexer_behindSign_178 ?_
              refine ab_topi (fun x188 ex188 => ?_)
              obtain rfl : x188 = nI (f + 2) := ex188.trans (nI_add f 2)
              clear ex188
              exact ab_iret d_Lexer_behindSign_179 rfl (Nat.le_refl _) (Nat.le_refl _) (by subst ex151; have hsp : lx_sign bf T f = ((f + 2), 31) := (by unfold lx_sign; rw [if_neg q4]; rw [if_pos q152]; rw [if_neg (fun z => z q153)]; rw [if_neg q165]; rw [if_neg (fun z => z q173)]; rw [if_pos q185]; try rfl); rw [hsp]; exact ⟨rfl, qn187⟩)
            · refine ab_bipush (v := 30) d_Lexer_behindSign_124 (by decide) ?_
              refine ab_goto (tgt := 131) d_Lexer_behindSign_126 (by decide) ?_
              refine ab_istore (lv' := [some (.ref b), some (.int (nI f)), some (.int (bf (nI f))), some (.int x151), some (.int 30)]) d_Lexer_behindSign_131 (by decide) rfl ?_
              refine ab_goto (tgt := 167) d_Lexer_behindSign_133 (by decide) ?_
              refine ab_aload_n d_Lexer_behindSign_167 rfl rfl rfl ?_
              refine ab_iload d_Lexer_behindSign_168 rfl ?_
              refine ab_iload_n d_Lexer_behindSign_170 rfl rfl ?_
              refine ab_iconst (v := 0) d_Lexer_behindSign_171 (by decide) ?_
              refine ab_iconst (v := 0) d_Lexer_behindSign_172 (by decide) ?_
              refine ab_callV_v (As := [.int 30, .int (nI f), .int 0, .int 0]) (rest := []) d_Lexer_behindSign_173 (c_Lexer_note hl0 hc) (ab_mkC s_Lexer_note (Nat.le_of_ble_eq_true rfl) (Nat.le_of_ble_eq_true rfl) (by decide) (by decide)) (k4 8 rfl rfl) i_Lexer_note v_Lexer_note go rfl rfl (Nat.le_of_ble_eq_true rfl) (fun h189 qn190 => ?_)
              refine ab_iload_n d_Lexer_behindSign_176 rfl rfl ?_
              refine ab_iconst (v := 2) d_Lexer_behindSign_177 (by decide) ?_
              refine ab_iadd d_Lexer_behindSign_178 ?_
              refine ab_topi (fun x191 ex191 => ?_)
              obtain rfl : x191 = nI (f + 2) := ex191.trans (nI_add f 2)
              clear ex191
              exact ab_iret d_Lexer_behindSign_179 rfl (Nat.le_refl _) (Nat.le_refl _) (by subst ex151; have hsp : lx_sign bf T f = ((f + 2), 30) := (by unfold lx_sign; rw [if_neg q4]; rw [if_pos q152]; rw [if_neg (fun z => z q153)]; rw [if_neg q165]; rw [if_neg (fun z => z q173)]; rw [if_neg (fun z => z q185)]; try rfl); rw [hsp]; exact ⟨rfl, qn190⟩)
    · refine ab_iload_n d_Lexer_behindSign_37 rfl rfl ?_
      refine ab_bipush (v := 60) d_Lexer_behindSign_38 (by decide) ?_
      refine ab_icmp_eq (tgt := 61) d_Lexer_behindSign_40 (by decide) (fun q192 => ?_) (fun q192 => ?_)
      · refine ab_iload_n d_Lexer_behindSign_61 rfl rfl ?_
        refine ab_bipush (v := 60) d_Lexer_behindSign_62 (by decide) ?_
        refine ab_icmp_ne (tgt := 72) d_Lexer_behindSign_64 (by decide) (fun q193 => ?_) (fun q193 => ?_)
        · refine ab_iload_n d_Lexer_behindSign_72 rfl rfl ?_
          refine ab_bipush (v := 62) d_Lexer_behindSign_73 (by decide) ?_
          refine ab_icmp_ne (tgt := 83) d_Lexer_behindSign_75 (by decide) (fun q194 => ?_) (fun q194 => ?_)
          · refine ab_iload_n d_Lexer_behindSign_83 rfl rfl ?_
            refine ab_bipush (v := 61) d_Lexer_behindSign_84 (by decide) ?_
            refine ab_icmp_ne (tgt := 94) d_Lexer_behindSign_86 (by decide) (fun q195 => ?_) (fun q195 => ?_)
            · refine ab_bipush (v := 29) d_Lexer_behindSign_94 (by decide) ?_
              refine ab_istore (lv' := [some (.ref b), some (.int (nI f)), some (.int (bf (nI f))), some (.int x151), some (.int 29)]) d_Lexer_behindSign_96 (by decide) rfl ?_
              refine ab_goto (tgt := 167) d_Lexer_behindSign_98 (by decide) ?_
              refine ab_aload_n d_Lexer_behindSign_167 rfl rfl rfl ?_
              refine ab_iload d_Lexer_behindSign_168 rfl ?_
              refine ab_iload_n d_Lexer_behindSign_170 rfl rfl ?_
              refine ab_iconst (v := 0) d_Lexer_behindSign_171 (by decide) ?_
              refine ab_iconst (v := 0) d_Lexer_behindSign_172 (by decide) ?_
              refine ab_callV_v (As := [.int 29, .int (nI f), .int 0, .int 0]) (rest := []) d_Lexer_behindSign_173 (c_Lexer_note hl0 hc) (ab_mkC s_Lexer_note (Nat.le_of_ble_eq_true rfl) (Nat.le_of_ble_eq_true rfl) (by decide) (by decide)) (k4 8 rfl rfl) i_Lexer_note v_Lexer_note go rfl rfl (Nat.le_of_ble_eq_true rfl) (fun h196 qn197 => ?_)
              refine ab_iload_n d_Lexer_behindSign_176 rfl rfl ?_
              refine ab_iconst (v := 2) d_Lexer_behindSign_177 (by decide) ?_
              refine ab_iadd d_Lexer_behindSign_178 ?_
              refine ab_topi (fun x198 ex198 => ?_)
              obtain rfl : x198 = nI (f + 2) := ex198.trans (nI_add f 2)
              clear ex198
              exact ab_iret d_Lexer_behindSign_179 rfl (Nat.le_refl _) (Nat.le_refl _) (by subst ex151; have hsp : lx_sign bf T f = ((f + 2), 29) := (by unfold lx_sign; rw [if_neg q4]; rw [if_neg (fun z => z q152)]; rw [if_pos q192]; rw [if_pos q193]; rw [if_pos q194]; rw [if_pos q195]; try rfl); rw [hsp]; exact ⟨rfl, qn197⟩)
            · refine ab_bipush (v := 28) d_Lexer_behindSign_89 (by decide) ?_
              refine ab_goto (tgt := 96) d_Lexer_behindSign_91 (by decide) ?_
              refine ab_istore (lv' := [some (.ref b), some (.int (nI f)), some (.int (bf (nI f))), some (.int x151), some (.int 28)]) d_Lexer_behindSign_96 (by decide) rfl ?_
              refine ab_goto (tgt := 167) d_Lexer_behindSign_98 (by decide) ?_
              refine ab_aload_n d_Lexer_behindSign_167 rfl rfl rfl ?_
              refine ab_iload d_Lexer_behindSign_168 rfl ?_
              refine ab_iload_n d_Lexer_behindSign_170 rfl rfl ?_
              refine ab_iconst (v := 0) d_Lexer_behindSign_171 (by decide) ?_
              refine ab_iconst (v := 0) d_Lexer_behindSign_172 (by decide) ?_
              refine ab_callV_v (As := [.int 28, .int (nI f), .int 0, .int 0]) (rest := []) d_Lexer_behindSign_173 (c_Lexer_note hl0 hc) (ab_mkC s_Lexer_note (Nat.le_of_ble_eq_true rfl) (Nat.le_of_ble_eq_true rfl) (by decide) (by decide)) (k4 8 rfl rfl) i_Lexer_note v_Lexer_note go rfl rfl (Nat.le_of_ble_eq_true rfl) (fun h199 qn200 => ?_)
              refine ab_iload_n d_Lexer_behindSign_176 rfl rfl ?_
              refine ab_iconst (v := 2) d_Lexer_behindSign_177 (by decide) ?_
              refine ab_iadd d_Lexer_behindSign_178 ?_
              refine ab_topi (fun x201 ex201 => ?_)
              obtain rfl : x201 = nI (f + 2) := ex201.trans (nI_add f 2)
              clear ex201
              exact ab_iret d_Lexer_behindSign_179 rfl (Nat.le_refl _) (Nat.le_refl _) (by subst ex151; have hsp : lx_sign bf T f = ((f + 2), 28) := (by unfold lx_sign; rw [if_neg q4]; rw [if_neg (fun z => z q152)]; rw [if_pos q192]; rw [if_pos q193]; rw [if_pos q194]; rw [if_neg (fun z => z q195)]; try rfl); rw [hsp]; exact ⟨rfl, qn200⟩)
          · refine ab_bipush (v := 27) d_Lexer_behindSign_78 (by decide) ?_
            refine ab_goto (tgt := 96) d_Lexer_behindSign_80 (by decide) ?_
            refine ab_istore (lv' := [some (.ref b), some (.int (nI f)), some (.int (bf (nI f))), some (.int x151), some (.int 27)]) d_Lexer_behindSign_96 (by decide) rfl ?_
            refine ab_goto (tgt := 167) d_Lexer_behindSign_98 (by decide) ?_
            refine ab_aload_n d_Lexer_behindSign_167 rfl rfl rfl ?_
            refine ab_iload d_Lexer_behindSign_168 rfl ?_
            refine ab_iload_n d_Lexer_behindSign_170 rfl rfl ?_
            refine ab_iconst (v := 0) d_Lexer_behindSign_171 (by decide) ?_
            refine ab_iconst (v := 0) d_Lexer_behindSign_172 (by decide) ?_
            refine ab_callV_v (As := [.int 27, .int (nI f), .int 0, .int 0]) (rest := []) d_Lexer_behindSign_173 (c_Lexer_note hl0 hc) (ab_mkC s_Lexer_note (Nat.le_of_ble_eq_true rfl) (Nat.le_of_ble_eq_true rfl) (by decide) (by decide)) (k4 8 rfl rfl) i_Lexer_note v_Lexer_note go rfl rfl (Nat.le_of_ble_eq_true rfl) (fun h202 qn203 => ?_)
            refine ab_iload_n d_Lexer_behindSign_176 rfl rfl ?_
            refine ab_iconst (v := 2) d_Lexer_behindSign_177 (by decide) ?_
            refine ab_iadd d_Lexer_behindSign_178 ?_
            refine ab_topi (fun x204 ex204 => ?_)
            obtain rfl : x204 = nI (f + 2) := ex204.trans (nI_add f 2)
            clear ex204
            exact ab_iret d_Lexer_behindSign_179 rfl (Nat.le_refl _) (Nat.le_refl _) (by subst ex151; have hsp : lx_sign bf T f = ((f + 2), 27) := (by unfold lx_sign; rw [if_neg q4]; rw [if_neg (fun z => z q152)]; rw [if_pos q192]; rw [if_pos q193]; rw [if_neg (fun z => z q194)]; try rfl); rw [hsp]; exact ⟨rfl, qn203⟩)
        · refine ab_bipush (v := 26) d_Lexer_behindSign_67 (by decide) ?_
          refine ab_goto (tgt := 96) d_Lexer_behindSign_69 (by decide) ?_
          refine ab_istore (lv' := [some (.ref b), some (.int (nI f)), some (.int (bf (nI f))), some (.int x151), some (.int 26)]) d_Lexer_behindSign_96 (by decide) rfl ?_
          refine ab_goto (tgt := 167) d_Lexer_behindSign_98 (by decide) ?_
          refine ab_aload_n d_Lexer_behindSign_167 rfl rfl rfl ?_
          refine ab_iload d_Lexer_behindSign_168 rfl ?_
          refine ab_iload_n d_Lexer_behindSign_170 rfl rfl ?_
          refine ab_iconst (v := 0) d_Lexer_behindSign_171 (by decide) ?_
          refine ab_iconst (v := 0) d_Lexer_behindSign_172 (by decide) ?_
          refine ab_callV_v (As := [.int 26, .int (nI f), .int 0, .int 0]) (rest := []) d_Lexer_behindSign_173 (c_Lexer_note hl0 hc) (ab_mkC s_Lexer_note (Nat.le_of_ble_eq_true rfl) (Nat.le_of_ble_eq_true rfl) (by decide) (by decide)) (k4 8 rfl rfl) i_Lexer_note v_Lexer_note go rfl rfl (Nat.le_of_ble_eq_true rfl) (fun h205 qn206 => ?_)
          refine ab_iload_n d_Lexer_behindSign_176 rfl rfl ?_
          refine ab_iconst (v := 2) d_Lexer_behindSign_177 (by decide) ?_
          refine ab_iadd d_Lexer_behindSign_178 ?_
          refine ab_topi (fun x207 ex207 => ?_)
          obtain rfl : x207 = nI (f + 2) := ex207.trans (nI_add f 2)
          clear ex207
          exact ab_iret d_Lexer_behindSign_179 rfl (Nat.le_refl _) (Nat.le_refl _) (by subst ex151; have hsp : lx_sign bf T f = ((f + 2), 26) := (by unfold lx_sign; rw [if_neg q4]; rw [if_neg (fun z => z q152)]; rw [if_pos q192]; rw [if_neg (fun z => z q193)]; try rfl); rw [hsp]; exact ⟨rfl, qn206⟩)
      · refine ab_iload_n d_Lexer_behindSign_43 rfl rfl ?_
        refine ab_bipush (v := 62) d_Lexer_behindSign_44 (by decide) ?_
        refine ab_icmp_eq (tgt := 61) d_Lexer_behindSign_46 (by decide) (fun q208 => ?_) (fun q208 => ?_)
        · refine ab_iload_n d_Lexer_behindSign_61 rfl rfl ?_
          refine ab_bipush (v := 60) d_Lexer_behindSign_62 (by decide) ?_
          refine ab_icmp_ne (tgt := 72) d_Lexer_behindSign_64 (by decide) (fun q209 => ?_) (fun q209 => ?_)
          · refine ab_iload_n d_Lexer_behindSign_72 rfl rfl ?_
            refine ab_bipush (v := 62) d_Lexer_behindSign_73 (by decide) ?_
            refine ab_icmp_ne (tgt := 83) d_Lexer_behindSign_75 (by decide) (fun q210 => ?_) (fun q210 => ?_)
            · refine ab_iload_n d_Lexer_behindSign_83 rfl rfl ?_
              refine ab_bipush (v := 61) d_Lexer_behindSign_84 (by decide) ?_
              refine ab_icmp_ne (tgt := 94) d_Lexer_behindSign_86 (by decide) (fun q211 => ?_) (fun q211 => ?_)
              · refine ab_bipush (v := 29) d_Lexer_behindSign_94 (by decide) ?_
                refine ab_istore (lv' := [some (.ref b), some (.int (nI f)), some (.int (bf (nI f))), some (.int x151), some (.int 29)]) d_Lexer_behindSign_96 (by decide) rfl ?_
                refine ab_goto (tgt := 167) d_Lexer_behindSign_98 (by decide) ?_
                refine ab_aload_n d_Lexer_behindSign_167 rfl rfl rfl ?_
                refine ab_iload d_Lexer_behindSign_168 rfl ?_
                refine ab_iload_n d_Lexer_behindSign_170 rfl rfl ?_
                refine ab_iconst (v := 0) d_Lexer_behindSign_171 (by decide) ?_
                refine ab_iconst (v := 0) d_Lexer_behindSign_172 (by decide) ?_
                refine ab_callV_v (As := [.int 29, .int (nI f), .int 0, .int 0]) (rest := []) d_Lexer_behindSign_173 (c_Lexer_note hl0 hc) (ab_mkC s_Lexer_note (Nat.le_of_ble_eq_true rfl) (Nat.le_of_ble_eq_true rfl) (by decide) (by decide)) (k4 8 rfl rfl) i_Lexer_note v_Lexer_note go rfl rfl (Nat.le_of_ble_eq_true rfl) (fun h212 qn213 => ?_)
                refine ab_iload_n d_Lexer_behindSign_176 rfl rfl ?_
                refine ab_iconst (v := 2) d_Lexer_behindSign_177 (by decide) ?_
                refine ab_iadd d_Lexer_behindSign_178 ?_
                refine ab_topi (fun x214 ex214 => ?_)
                obtain rfl : x214 = nI (f + 2) := ex214.trans (nI_add f 2)
                clear ex214
                exact ab_iret d_Lexer_behindSign_179 rfl (Nat.le_refl _) (Nat.le_refl _) (by subst ex151; have hsp : lx_sign bf T f = ((f + 2), 29) := (by unfold lx_sign; rw [if_neg q4]; rw [if_neg (fun z => z q152)]; rw [if_neg q192]; rw [if_pos q208]; rw [if_pos q209]; rw [if_pos q210]; rw [if_pos q211]; try rfl); rw [hsp]; exact ⟨rfl, qn213⟩)
              · refine ab_bipush (v := 28) d_Lexer_behindSign_89 (by decide) ?_
                refine ab_goto (tgt := 96) d_Lexer_behindSign_91 (by decide) ?_
                refine ab_istore (lv' := [some (.ref b), some (.int (nI f)), some (.int (bf (nI f))), some (.int x151), some (.int 28)]) d_Lexer_behindSign_96 (by decide) rfl ?_
                refine ab_goto (tgt := 167) d_Lexer_behindSign_98 (by decide) ?_
                refine ab_aload_n d_Lexer_behindSign_167 rfl rfl rfl ?_
                refine ab_iload d_Lexer_behindSign_168 rfl ?_
                refine ab_iload_n d_Lexer_behindSign_170 rfl rfl ?_
                refine ab_iconst (v := 0) d_Lexer_behindSign_171 (by decide) ?_
                refine ab_iconst (v := 0) d_Lexer_behindSign_172 (by decide) ?_
                refine ab_callV_v (As := [.int 28, .int (nI f), .int 0, .int 0]) (rest := []) d_Lexer_behindSign_173 (c_Lexer_note hl0 hc) (ab_mkC s_Lexer_note (Nat.le_of_ble_eq_true rfl) (Nat.le_of_ble_eq_true rfl) (by decide) (by decide)) (k4 8 rfl rfl) i_Lexer_note v_Lexer_note go rfl rfl (Nat.le_of_ble_eq_true rfl) (fun h215 qn216 => ?_)
                refine ab_iload_n d_Lexer_behindSign_176 rfl rfl ?_
                refine ab_iconst (v := 2) d_Lexer_behindSign_177 (by decide) ?_
                refine ab_iadd d_Lexer_behindSign_178 ?_
                refine ab_topi (fun x217 ex217 => ?_)
                obtain rfl : x217 = nI (f + 2) := ex217.trans (nI_add f 2)
                clear ex217
                exact ab_iret d_Lexer_behindSign_179 rfl (Nat.le_refl _) (Nat.le_refl _) (by subst ex151; have hsp : lx_sign bf T f = ((f + 2), 28) := (by unfold lx_sign; rw [if_neg q4]; rw [if_neg (fun z => z q152)]; rw [if_neg q192]; rw [if_pos q208]; rw [if_pos q209]; rw [if_pos q210]; rw [if_neg (fun z => z q211)]; try rfl); rw [hsp]; exact ⟨rfl, qn216⟩)
            · refine ab_bipush (v := 27) d_Lexer_behindSign_78 (by decide) ?_
              refine ab_goto (tgt := 96) d_Lexer_behindSign_80 (by decide) ?_
              refine ab_istore (lv' := [some (.ref b), some (.int (nI f)), some (.int (bf (nI f))), some (.int x151), some (.int 27)]) d_Lexer_behindSign_96 (by decide) rfl ?_
              refine ab_goto (tgt := 167) d_Lexer_behindSign_98 (by decide) ?_
              refine ab_aload_n d_Lexer_behindSign_167 rfl rfl rfl ?_
              refine ab_iload d_Lexer_behindSign_168 rfl ?_
              refine ab_iload_n d_Lexer_behindSign_170 rfl rfl ?_
              refine ab_iconst (v := 0) d_Lexer_behindSign_171 (by decide) ?_
              refine ab_iconst (v := 0) d_Lexer_behindSign_172 (by decide) ?_
              refine ab_callV_v (As := [.int 27, .int (nI f), .int 0, .int 0]) (rest := []) d_Lexer_behindSign_173 (c_Lexer_note hl0 hc) (ab_mkC s_Lexer_note (Nat.le_of_ble_eq_true rfl) (Nat.le_of_ble_eq_true rfl) (by decide) (by decide)) (k4 8 rfl rfl) i_Lexer_note v_Lexer_note go rfl rfl (Nat.le_of_ble_eq_true rfl) (fun h218 qn219 => ?_)
              refine ab_iload_n d_Lexer_behindSign_176 rfl rfl ?_
              refine ab_iconst (v := 2) d_Lexer_behindSign_177 (by decide) ?_
              refine ab_iadd d_Lexer_behindSign_178 ?_
              refine ab_topi (fun x220 ex220 => ?_)
              obtain rfl : x220 = nI (f + 2) := ex220.trans (nI_add f 2)
              clear ex220
              exact ab_iret d_Lexer_behindSign_179 rfl (Nat.le_refl _) (Nat.le_refl _) (by subst ex151; have hsp : lx_sign bf T f = ((f + 2), 27) := (by unfold lx_sign; rw [if_neg q4]; rw [if_neg (fun z => z q152)]; rw [if_neg q192]; rw [if_pos q208]; rw [if_pos q209]; rw [if_neg (fun z => z q210)]; try rfl); rw [hsp]; exact ⟨rfl, qn219⟩)
          · refine ab_bipush (v := 26) d_Lexer_behindSign_67 (by decide) ?_
            refine ab_goto (tgt := 96) d_Lexer_behindSign_69 (by decide) ?_
            refine ab_istore (lv' := [some (.ref b), some (.int (nI f)), some (.int (bf (nI f))), some (.int x151), some (.int 26)]) d_Lexer_behindSign_96 (by decide) rfl ?_
            refine ab_goto (tgt := 167) d_Lexer_behindSign_98 (by decide) ?_
            refine ab_aload_n d_Lexer_behindSign_167 rfl rfl rfl ?_
            refine ab_iload d_Lexer_behindSign_168 rfl ?_
            refine ab_iload_n d_Lexer_behindSign_170 rfl rfl ?_
            refine ab_iconst (v := 0) d_Lexer_behindSign_171 (by decide) ?_
            refine ab_iconst (v := 0) d_Lexer_behindSign_172 (by decide) ?_
            refine ab_callV_v (As := [.int 26, .int (nI f), .int 0, .int 0]) (rest := []) d_Lexer_behindSign_173 (c_Lexer_note hl0 hc) (ab_mkC s_Lexer_note (Nat.le_of_ble_eq_true rfl) (Nat.le_of_ble_eq_true rfl) (by decide) (by decide)) (k4 8 rfl rfl) i_Lexer_note v_Lexer_note go rfl rfl (Nat.le_of_ble_eq_true rfl) (fun h221 qn222 => ?_)
            refine ab_iload_n d_Lexer_behindSign_176 rfl rfl ?_
            refine ab_iconst (v := 2) d_Lexer_behindSign_177 (by decide) ?_
            refine ab_iadd d_Lexer_behindSign_178 ?_
            refine ab_topi (fun x223 ex223 => ?_)
            obtain rfl : x223 = nI (f + 2) := ex223.trans (nI_add f 2)
            clear ex223
            exact ab_iret d_Lexer_behindSign_179 rfl (Nat.le_refl _) (Nat.le_refl _) (by subst ex151; have hsp : lx_sign bf T f = ((f + 2), 26) := (by unfold lx_sign; rw [if_neg q4]; rw [if_neg (fun z => z q152)]; rw [if_neg q192]; rw [if_pos q208]; rw [if_neg (fun z => z q209)]; try rfl); rw [hsp]; exact ⟨rfl, qn222⟩)
        · refine ab_iload_n d_Lexer_behindSign_49 rfl rfl ?_
          refine ab_bipush (v := 61) d_Lexer_behindSign_50 (by decide) ?_
          refine ab_icmp_eq (tgt := 61) d_Lexer_behindSign_52 (by decide) (fun q224 => ?_) (fun q224 => ?_)
          · refine ab_iload_n d_Lexer_behindSign_61 rfl rfl ?_
            refine ab_bipush (v := 60) d_Lexer_behindSign_62 (by decide) ?_
            refine ab_icmp_ne (tgt := 72) d_Lexer_behindSign_64 (by decide) (fun q225 => ?_) (fun q225 => ?_)
            · refine ab_iload_n d_Lexer_behindSign_72 rfl rfl ?_
              refine ab_bipush (v := 62) d_Lexer_behindSign_73 (by decide) ?_
              refine ab_icmp_ne (tgt := 83) d_Lexer_behindSign_75 (by decide) (fun q226 => ?_) (fun q226 => ?_)
              · refine ab_iload_n d_Lexer_behindSign_83 rfl rfl ?_
                refine ab_bipush (v := 61) d_Lexer_behindSign_84 (by decide) ?_
                refine ab_icmp_ne (tgt := 94) d_Lexer_behindSign_86 (by decide) (fun q227 => ?_) (fun q227 => ?_)
                · refine ab_bipush (v := 29) d_Lexer_behindSign_94 (by decide) ?_
                  refine ab_istore (lv' := [some (.ref b), some (.int (nI f)), some (.int (bf (nI f))), some (.int x151), some (.int 29)]) d_Lexer_behindSign_96 (by decide) rfl ?_
                  refine ab_goto (tgt := 167) d_Lexer_behindSign_98 (by decide) ?_
                  refine ab_aload_n d_Lexer_behindSign_167 rfl rfl rfl ?_
                  refine ab_iload d_Lexer_behindSign_168 rfl ?_
                  refine ab_iload_n d_Lexer_behindSign_170 rfl rfl ?_
                  refine ab_iconst (v := 0) d_Lexer_behindSign_171 (by decide) ?_
                  refine ab_iconst (v := 0) d_Lexer_behindSign_172 (by decide) ?_
                  refine ab_callV_v (As := [.int 29, .int (nI f), .int 0, .int 0]) (rest := []) d_Lexer_behindSign_173 (c_Lexer_note hl0 hc) (ab_mkC s_Lexer_note (Nat.le_of_ble_eq_true rfl) (Nat.le_of_ble_eq_true rfl) (by decide) (by decide)) (k4 8 rfl rfl) i_Lexer_note v_Lexer_note go rfl rfl (Nat.le_of_ble_eq_true rfl) (fun h228 qn229 => ?_)
                  refine ab_iload_n d_Lexer_behindSign_176 rfl rfl ?_
                  refine ab_iconst (v := 2) d_Lexer_behindSign_177 (by decide) ?_
                  refine ab_iadd d_Lexer_behindSign_178 ?_
                  refine ab_topi (fun x230 ex230 => ?_)
                  obtain rfl : x230 = nI (f + 2) := ex230.trans (nI_add f 2)
                  clear ex230
                  exact ab_iret d_Lexer_behindSign_179 rfl (Nat.le_refl _) (Nat.le_refl _) (by subst ex151; have hsp : lx_sign bf T f = ((f + 2), 29) := (by unfold lx_sign; rw [if_neg q4]; rw [if_neg (fun z => z q152)]; rw [if_neg q192]; rw [if_neg q208]; rw [if_pos q224]; rw [if_pos q225]; rw [if_pos q226]; rw [if_pos q227]; try rfl); rw [hsp]; exact ⟨rfl, qn229⟩)
                · refine ab_bipush (v := 28) d_Lexer_behindSign_89 (by decide) ?_
                  refine ab_goto (tgt := 96) d_Lexer_behindSign_91 (by decide) ?_
                  refine ab_istore (lv' := [some (.ref b), some (.int (nI f)), some (.int (bf (nI f))), some (.int x151), some (.int 28)]) d_Lexer_behindSign_96 (by decide) rfl ?_
                  refine ab_goto (tgt := 167) d_Lexer_behindSign_98 (by decide) ?_
                  refine ab_aload_n d_Lexer_behindSign_167 rfl rfl rfl ?_
                  refine ab_iload d_Lexer_behindSign_168 rfl ?_
                  refine ab_iload_n d_Lexer_behindSign_170 rfl rfl ?_
                  refine ab_iconst (v := 0) d_Lexer_behindSign_171 (by decide) ?_
                  refine ab_iconst (v := 0) d_Lexer_behindSign_172 (by decide) ?_
                  refine ab_callV_v (As := [.int 28, .int (nI f), .int 0, .int 0]) (rest := []) d_Lexer_behindSign_173 (c_Lexer_note hl0 hc) (ab_mkC s_Lexer_note (Nat.le_of_ble_eq_true rfl) (Nat.le_of_ble_eq_true rfl) (by decide) (by decide)) (k4 8 rfl rfl) i_Lexer_note v_Lexer_note go rfl rfl (Nat.le_of_ble_eq_true rfl) (fun h231 qn232 => ?_)
                  refine ab_iload_n d_Lexer_behindSign_176 rfl rfl ?_
                  refine ab_iconst (v := 2) d_Lexer_behindSign_177 (by decide) ?_
                  refine ab_iadd d_Lexer_behindSign_178 ?_
                  refine ab_topi (fun x233 ex233 => ?_)
                  obtain rfl : x233 = nI (f + 2) := ex233.trans (nI_add f 2)
                  clear ex233
                  exact ab_iret d_Lexer_behindSign_179 rfl (Nat.le_refl _) (Nat.le_refl _) (by subst ex151; have hsp : lx_sign bf T f = ((f + 2), 28) := (by unfold lx_sign; rw [if_neg q4]; rw [if_neg (fun z => z q152)]; rw [if_neg q192]; rw [if_neg q208]; rw [if_pos q224]; rw [if_pos q225]; rw [if_pos q226]; rw [if_neg (fun z => z q227)]; try rfl); rw [hsp]; exact ⟨rfl, qn232⟩)
              · refine ab_bipush (v := 27) d_Lexer_behindSign_78 (by decide) ?_
                refine ab_goto (tgt := 96) d_Lexer_behindSign_80 (by decide) ?_
                refine ab_istore (lv' := [some (.ref b), some (.int (nI f)), some (.int (bf (nI f))), some (.int x151), some (.int 27)]) d_Lexer_behindSign_96 (by decide) rfl ?_
                refine ab_goto (tgt := 167) d_Lexer_behindSign_98 (by decide) ?_
                refine ab_aload_n d_Lexer_behindSign_167 rfl rfl rfl ?_
                refine ab_iload d_Lexer_behindSign_168 rfl ?_
                refine ab_iload_n d_Lexer_behindSign_170 rfl rfl ?_
                refine ab_iconst (v := 0) d_Lexer_behindSign_171 (by decide) ?_
                refine ab_iconst (v := 0) d_Lexer_behindSign_172 (by decide) ?_
                refine ab_callV_v (As := [.int 27, .int (nI f), .int 0, .int 0]) (rest := []) d_Lexer_behindSign_173 (c_Lexer_note hl0 hc) (ab_mkC s_Lexer_note (Nat.le_of_ble_eq_true rfl) (Nat.le_of_ble_eq_true rfl) (by decide) (by decide)) (k4 8 rfl rfl) i_Lexer_note v_Lexer_note go rfl rfl (Nat.le_of_ble_eq_true rfl) (fun h234 qn235 => ?_)
                refine ab_iload_n d_Lexer_behindSign_176 rfl rfl ?_
                refine ab_iconst (v := 2) d_Lexer_behindSign_177 (by decide) ?_
                refine ab_iadd d_Lexer_behindSign_178 ?_
                refine ab_topi (fun x236 ex236 => ?_)
                obtain rfl : x236 = nI (f + 2) := ex236.trans (nI_add f 2)
                clear ex236
                exact ab_iret d_Lexer_behindSign_179 rfl (Nat.le_refl _) (Nat.le_refl _) (by subst ex151; have hsp : lx_sign bf T f = ((f + 2), 27) := (by unfold lx_sign; rw [if_neg q4]; rw [if_neg (fun z => z q152)]; rw [if_neg q192]; rw [if_neg q208]; rw [if_pos q224]; rw [if_pos q225]; rw [if_neg (fun z => z q226)]; try rfl); rw [hsp]; exact ⟨rfl, qn235⟩)
            · refine ab_bipush (v := 26) d_Lexer_behindSign_67 (by decide) ?_
              refine ab_goto (tgt := 96) d_Lexer_behindSign_69 (by decide) ?_
              refine ab_istore (lv' := [some (.ref b), some (.int (nI f)), some (.int (bf (nI f))), some (.int x151), some (.int 26)]) d_Lexer_behindSign_96 (by decide) rfl ?_
              refine ab_goto (tgt := 167) d_Lexer_behindSign_98 (by decide) ?_
              refine ab_aload_n d_Lexer_behindSign_167 rfl rfl rfl ?_
              refine ab_iload d_Lexer_behindSign_168 rfl ?_
              refine ab_iload_n d_Lexer_behindSign_170 rfl rfl ?_
              refine ab_iconst (v := 0) d_Lexer_behindSign_171 (by decide) ?_
              refine ab_iconst (v := 0) d_Lexer_behindSign_172 (by decide) ?_
              refine ab_callV_v (As := [.int 26, .int (nI f), .int 0, .int 0]) (rest := []) d_Lexer_behindSign_173 (c_Lexer_note hl0 hc) (ab_mkC s_Lexer_note (Nat.le_of_ble_eq_true rfl) (Nat.le_of_ble_eq_true rfl) (by decide) (by decide)) (k4 8 rfl rfl) i_Lexer_note v_Lexer_note go rfl rfl (Nat.le_of_ble_eq_true rfl) (fun h237 qn238 => ?_)
              refine ab_iload_n d_Lexer_behindSign_176 rfl rfl ?_
              refine ab_iconst (v := 2) d_Lexer_behindSign_177 (by decide) ?_
              refine ab_iadd d_Lexer_behindSign_178 ?_
              refine ab_topi (fun x239 ex239 => ?_)
              obtain rfl : x239 = nI (f + 2) := ex239.trans (nI_add f 2)
              clear ex239
              exact ab_iret d_Lexer_behindSign_179 rfl (Nat.le_refl _) (Nat.le_refl _) (by subst ex151; have hsp : lx_sign bf T f = ((f + 2), 26) := (by unfold lx_sign; rw [if_neg q4]; rw [if_neg (fun z => z q152)]; rw [if_neg q192]; rw [if_neg q208]; rw [if_pos q224]; rw [if_neg (fun z => z q225)]; try rfl); rw [hsp]; exact ⟨rfl, qn238⟩)
          · refine ab_iload_n d_Lexer_behindSign_55 rfl rfl ?_
            refine ab_bipush (v := 33) d_Lexer_behindSign_56 (by decide) ?_
            refine ab_icmp_ne (tgt := 101) d_Lexer_behindSign_58 (by decide) (fun q240 => ?_) (fun q240 => ?_)
            · refine ab_iload_n d_Lexer_behindSign_101 rfl rfl ?_
              refine ab_iload_n d_Lexer_behindSign_102 rfl rfl ?_
              refine ab_icmp_ne (tgt := 136) d_Lexer_behindSign_103 (by decide) (fun q241 => ?_) (fun q241 => ?_)
              · refine ab_ldcS (k0 := 2) d_Lexer_behindSign_136 (List.mem_of_getElem? (i := 2) rfl) rfl rfl rfl ?_
                refine ab_iload_n d_Lexer_behindSign_138 rfl rfl ?_
                refine ab_i2c d_Lexer_behindSign_139 ?_
                refine ab_callVK_a (k0 := 2) (As := [.int ((((bf (nI f)) : Int32).toUInt32 % 65536).toInt32)]) (rest := []) d_Lexer_behindSign_140 (by decide) (c_lx_ixc) (ab_mkC s_Str_indexOf (Nat.le_of_ble_eq_true rfl) (Nat.le_of_ble_eq_true rfl) (by decide) (by decide)) (k4 34 rfl rfl) i_Str_indexOf v_Str_indexOf rfl (Nat.le_of_ble_eq_true rfl) (fun h243 q242 => ?_)
                subst q242
                refine ab_if_lt (tgt := 167) d_Lexer_behindSign_143 (by decide) (fun q244 => ?_) (fun q244 => ?_)
                · refine ab_aload_n d_Lexer_behindSign_167 rfl rfl rfl ?_
                  refine ab_iload d_Lexer_behindSign_168 rfl ?_
                  refine ab_iload_n d_Lexer_behindSign_170 rfl rfl ?_
                  refine ab_iconst (v := 0) d_Lexer_behindSign_171 (by decide) ?_
                  refine ab_iconst (v := 0) d_Lexer_behindSign_172 (by decide) ?_
                  refine ab_callV_v (As := [.int 1, .int (nI f), .int 0, .int 0]) (rest := []) d_Lexer_behindSign_173 (c_Lexer_note hl0 hc) (ab_mkC s_Lexer_note (Nat.le_of_ble_eq_true rfl) (Nat.le_of_ble_eq_true rfl) (by decide) (by decide)) (k4 8 rfl rfl) i_Lexer_note v_Lexer_note go rfl rfl (Nat.le_of_ble_eq_true rfl) (fun h245 qn246 => ?_)
                  refine ab_iload_n d_Lexer_behindSign_176 rfl rfl ?_
                  refine ab_iconst (v := 2) d_Lexer_behindSign_177 (by decide) ?_
                  refine ab_iadd d_Lexer_behindSign_178 ?_
                  refine ab_topi (fun x247 ex247 => ?_)
                  obtain rfl : x247 = nI (f + 2) := ex247.trans (nI_add f 2)
                  clear ex247
                  exact ab_iret d_Lexer_behindSign_179 rfl (Nat.le_refl _) (Nat.le_refl _) (by subst ex151; have hsp : lx_sign bf T f = ((f + 2), 1) := (by unfold lx_sign; rw [if_neg q4]; rw [if_neg (fun z => z q152)]; rw [if_neg q192]; rw [if_neg q208]; rw [if_neg q224]; rw [if_pos q240]; rw [if_pos q241]; rw [if_pos q244]; try rfl); rw [hsp]; exact ⟨rfl, qn246⟩)
                · refine ab_aload_n d_Lexer_behindSign_146 rfl rfl rfl ?_
                  refine ab_bipush (v := 10) d_Lexer_behindSign_147 (by decide) ?_
                  refine ab_ldcS (k0 := 2) d_Lexer_behindSign_149 (List.mem_of_getElem? (i := 2) rfl) rfl rfl rfl ?_
                  refine ab_iload_n d_Lexer_behindSign_151 rfl rfl ?_
                  refine ab_i2c d_Lexer_behindSign_152 ?_
                  refine ab_callVK_a (k0 := 2) (As := [.int ((((bf (nI f)) : Int32).toUInt32 % 65536).toInt32)]) (rest := [.int 10, .ref b]) d_Lexer_behindSign_153 (by decide) (c_lx_ixc) (ab_mkC s_Str_indexOf (Nat.le_of_ble_eq_true rfl) (Nat.le_of_ble_eq_true rfl) (by decide) (by decide)) (k4 34 rfl rfl) i_Str_indexOf v_Str_indexOf rfl (Nat.le_of_ble_eq_true rfl) (fun h249 q248 => ?_)
                  subst q248
                  refine ab_iadd d_Lexer_behindSign_156 ?_
                  refine ab_iload_n d_Lexer_behindSign_157 rfl rfl ?_
                  refine ab_iconst (v := 0) d_Lexer_behindSign_158 (by decide) ?_
                  refine ab_iconst (v := 0) d_Lexer_behindSign_159 (by decide) ?_
                  refine ab_callV_v (As := [.int (10 + (lx_ixc ((((bf (nI f)) : Int32).toUInt32 % 65536).toInt32))), .int (nI f), .int 0, .int 0]) (rest := []) d_Lexer_behindSign_160 (c_Lexer_note hl0 hc) (ab_mkC s_Lexer_note (Nat.le_of_ble_eq_true rfl) (Nat.le_of_ble_eq_true rfl) (by decide) (by decide)) (k4 8 rfl rfl) i_Lexer_note v_Lexer_note go rfl rfl (Nat.le_of_ble_eq_true rfl) (fun h250 qn251 => ?_)
                  refine ab_iload_n d_Lexer_behindSign_163 rfl rfl ?_
                  refine ab_iconst (v := 1) d_Lexer_behindSign_164 (by decide) ?_
                  refine ab_iadd d_Lexer_behindSign_165 ?_
                  refine ab_topi (fun x252 ex252 => ?_)
                  obtain rfl : x252 = nI (f + 1) := ex252.trans (nI_add f 1)
                  clear ex252
                  exact ab_iret d_Lexer_behindSign_166 rfl (Nat.le_refl _) (Nat.le_refl _) (by subst ex151; have hsp : lx_sign bf T f = ((f + 1), 10 + (lx_ixc ((((bf (nI f)) : Int32).toUInt32 % 65536).toInt32))) := (by unfold lx_sign; rw [if_neg q4]; rw [if_neg (fun z => z q152)]; rw [if_neg q192]; rw [if_neg q208]; rw [if_neg q224]; rw [if_pos q240]; rw [if_pos q241]; rw [if_neg q244]; try rfl); rw [hsp]; exact ⟨rfl, qn251⟩)
              · refine ab_iload_n d_Lexer_behindSign_106 rfl rfl ?_
                refine ab_bipush (v := 38) d_Lexer_behindSign_107 (by decide) ?_
                refine ab_icmp_eq (tgt := 118) d_Lexer_behindSign_109 (by decide) (fun q253 => ?_) (fun q253 => ?_)
                · refine ab_iload_n d_Lexer_behindSign_118 rfl rfl ?_
                  refine ab_bipush (v := 38) d_Lexer_behindSign_119 (by decide) ?_
                  refine ab_icmp_ne (tgt := 129) d_Lexer_behindSign_121 (by decide) (fun q254 => ?_) (fun q254 => ?_)
                  · refine ab_bipush (v := 31) d_Lexer_behindSign_129 (by decide) ?_
                    refine ab_istore (lv' := [some (.ref b), some (.int (nI f)), some (.int (bf (nI f))), some (.int x151), some (.int 31)]) d_Lexer_behindSign_131 (by decide) rfl ?_
                    refine ab_goto (tgt := 167) d_Lexer_behindSign_133 (by decide) ?_
                    refine ab_aload_n d_Lexer_behindSign_167 rfl rfl rfl ?_
                    refine ab_iload d_Lexer_behindSign_168 rfl ?_
                    refine ab_iload_n d_Lexer_behindSign_170 rfl rfl ?_
                    refine ab_iconst (v := 0) d_Lexer_behindSign_171 (by decide) ?_
                    refine ab_iconst (v := 0) d_Lexer_behindSign_172 (by decide) ?_
                    refine ab_callV_v (As := [.int 31, .int (nI f), .int 0, .int 0]) (rest := []) d_Lexer_behindSign_173 (c_Lexer_note hl0 hc) (ab_mkC s_Lexer_note (Nat.le_of_ble_eq_true rfl) (Nat.le_of_ble_eq_true rfl) (by decide) (by decide)) (k4 8 rfl rfl) i_Lexer_note v_Lexer_note go rfl rfl (Nat.le_of_ble_eq_true rfl) (fun h255 qn256 => ?_)
                    refine ab_iload_n d_Lexer_behindSign_176 rfl rfl ?_
                    refine ab_iconst (v := 2) d_Lexer_behindSign_177 (by decide) ?_
                    refine ab_iadd d_Lexer_behindSign_178 ?_
                    refine ab_topi (fun x257 ex257 => ?_)
                    obtain rfl : x257 = nI (f + 2) := ex257.trans (nI_add f 2)
                    clear ex257
                    exact ab_iret d_Lexer_behindSign_179 rfl (Nat.le_refl _) (Nat.le_refl _) (by subst ex151; have hsp : lx_sign bf T f = ((f + 2), 31) := (by unfold lx_sign; rw [if_neg q4]; rw [if_neg (fun z => z q152)]; rw [if_neg q192]; rw [if_neg q208]; rw [if_neg q224]; rw [if_pos q240]; rw [if_neg (fun z => z q241)]; rw [if_pos q253]; rw [if_pos q254]; try rfl); rw [hsp]; exact ⟨rfl, qn256⟩)
                  · refine ab_bipush (v := 30) d_Lexer_behindSign_124 (by decide) ?_
                    refine ab_goto (tgt := 131) d_Lexer_behindSign_126 (by decide) ?_
                    refine ab_istore (lv' := [some (.ref b), some (.int (nI f)), some (.int (bf (nI f))), some (.int x151), some (.int 30)]) d_Lexer_behindSign_131 (by decide) rfl ?_
                    refine ab_goto (tgt := 167) d_Lexer_behindSign_133 (by decide) ?_
                    refine ab_aload_n d_Lexer_behindSign_167 rfl rfl rfl ?_
                    refine ab_iload d_Lexer_behindSign_168 rfl ?_
                    refine ab_iload_n d_Lexer_behindSign_170 rfl rfl ?_
                    refine ab_iconst (v := 0) d_Lexer_behindSign_171 (by decide) ?_
                    refine ab_iconst (v := 0) d_Lexer_behindSign_172 (by decide) ?_
                    refine ab_callV_v (As := [.int 30, .int (nI f), .int 0, .int 0]) (rest := []) d_Lexer_behindSign_173 (c_Lexer_note hl0 hc) (ab_mkC s_Lexer_note (Nat.le_of_ble_eq_true rfl) (Nat.le_of_ble_eq_true rfl) (by decide) (by decide)) (k4 8 rfl rfl) i_Lexer_note v_Lexer_note go rfl rfl (Nat.le_of_ble_eq_true rfl) (fun h258 qn259 => ?_)
                    refine ab_iload_n d_Lexer_behindSign_176 rfl rfl ?_
                    refine ab_iconst (v := 2) d_Lexer_behindSign_177 (by decide) ?_
                    refine ab_iadd d_Lexer_behindSign_178 ?_
                    refine ab_topi (fun x260 ex260 => ?_)
                    obtain rfl : x260 = nI (f + 2) := ex260.trans (nI_add f 2)
                    clear ex260
                    exact ab_iret d_Lexer_behindSign_179 rfl (Nat.le_refl _) (Nat.le_refl _) (by subst ex151; have hsp : lx_sign bf T f = ((f + 2), 30) := (by unfold lx_sign; rw [if_neg q4]; rw [if_neg (fun z => z q152)]; rw [if_neg q192]; rw [if_neg q208]; rw [if_neg q224]; rw [if_pos q240]; rw [if_neg (fun z => z q241)]; rw [if_pos q253]; rw [if_neg (fun z => z q254)]; try rfl); rw [hsp]; exact ⟨rfl, qn259⟩)
                · refine ab_iload_n d_Lexer_behindSign_112 rfl rfl ?_
                  refine ab_bipush (v := 124) d_Lexer_behindSign_113 (by decide) ?_
                  refine ab_icmp_ne (tgt := 136) d_Lexer_behindSign_115 (by decide) (fun q261 => ?_) (fun q261 => ?_)
                  · refine ab_ldcS (k0 := 2) d_Lexer_behindSign_136 (List.mem_of_getElem? (i := 2) rfl) rfl rfl rfl ?_
                    refine ab_iload_n d_Lexer_behindSign_138 rfl rfl ?_
                    refine ab_i2c d_Lexer_behindSign_139 ?_
                    refine ab_callVK_a (k0 := 2) (As := [.int ((((bf (nI f)) : Int32).toUInt32 % 65536).toInt32)]) (rest := []) d_Lexer_behindSign_140 (by decide) (c_lx_ixc) (ab_mkC s_Str_indexOf (Nat.le_of_ble_eq_true rfl) (Nat.le_of_ble_eq_true rfl) (by decide) (by decide)) (k4 34 rfl rfl) i_Str_indexOf v_Str_indexOf rfl (Nat.le_of_ble_eq_true rfl) (fun h263 q262 => ?_)
                    subst q262
                    refine ab_if_lt (tgt := 167) d_Lexer_behindSign_143 (by decide) (fun q264 => ?_) (fun q264 => ?_)
                    · refine ab_aload_n d_Lexer_behindSign_167 rfl rfl rfl ?_
                      refine ab_iload d_Lexer_behindSign_168 rfl ?_
                      refine ab_iload_n d_Lexer_behindSign_170 rfl rfl ?_
                      refine ab_iconst (v := 0) d_Lexer_behindSign_171 (by decide) ?_
                      refine ab_iconst (v := 0) d_Lexer_behindSign_172 (by decide) ?_
                      refine ab_callV_v (As := [.int 1, .int (nI f), .int 0, .int 0]) (rest := []) d_Lexer_behindSign_173 (c_Lexer_note hl0 hc) (ab_mkC s_Lexer_note (Nat.le_of_ble_eq_true rfl) (Nat.le_of_ble_eq_true rfl) (by decide) (by decide)) (k4 8 rfl rfl) i_Lexer_note v_Lexer_note go rfl rfl (Nat.le_of_ble_eq_true rfl) (fun h265 qn266 => ?_)
                      refine ab_iload_n d_Lexer_behindSign_176 rfl rfl ?_
                      refine ab_iconst (v := 2) d_Lexer_behindSign_177 (by decide) ?_
                      refine ab_iadd d_Lexer_behindSign_178 ?_
                      refine ab_topi (fun x267 ex267 => ?_)
                      obtain rfl : x267 = nI (f + 2) := ex267.trans (nI_add f 2)
                      clear ex267
                      exact ab_iret d_Lexer_behindSign_179 rfl (Nat.le_refl _) (Nat.le_refl _) (by subst ex151; have hsp : lx_sign bf T f = ((f + 2), 1) := (by unfold lx_sign; rw [if_neg q4]; rw [if_neg (fun z => z q152)]; rw [if_neg q192]; rw [if_neg q208]; rw [if_neg q224]; rw [if_pos q240]; rw [if_neg (fun z => z q241)]; rw [if_neg q253]; rw [if_pos q261]; rw [if_pos q264]; try rfl); rw [hsp]; exact ⟨rfl, qn266⟩)
                    · refine ab_aload_n d_Lexer_behindSign_146 rfl rfl rfl ?_
                      refine ab_bipush (v := 10) d_Lexer_behindSign_147 (by decide) ?_
                      refine ab_ldcS (k0 := 2) d_Lexer_behindSign_149 (List.mem_of_getElem? (i := 2) rfl) rfl rfl rfl ?_
                      refine ab_iload_n d_Lexer_behindSign_151 rfl rfl ?_
                      refine ab_i2c d_Lexer_behindSign_152 ?_
                      refine ab_callVK_a (k0 := 2) (As := [.int ((((bf (nI f)) : Int32).toUInt32 % 65536).toInt32)]) (rest := [.int 10, .ref b]) d_Lexer_behindSign_153 (by decide) (c_lx_ixc) (ab_mkC s_Str_indexOf (Nat.le_of_ble_eq_true rfl) (Nat.le_of_ble_eq_true rfl) (by decide) (by decide)) (k4 34 rfl rfl) i_Str_indexOf v_Str_indexOf rfl (Nat.le_of_ble_eq_true rfl) (fun h269 q268 => ?_)
                      subst q268
                      refine ab_iadd d_Lexer_behindSign_156 ?_
                      refine ab_iload_n d_Lexer_behindSign_157 rfl rfl ?_
                      refine ab_iconst (v := 0) d_Lexer_behindSign_158 (by decide) ?_
                      refine ab_iconst (v := 0) d_Lexer_behindSign_159 (by decide) ?_
                      refine ab_callV_v (As := [.int (10 + (lx_ixc ((((bf (nI f)) : Int32).toUInt32 % 65536).toInt32))), .int (nI f), .int 0, .int 0]) (rest := []) d_Lexer_behindSign_160 (c_Lexer_note hl0 hc) (ab_mkC s_Lexer_note (Nat.le_of_ble_eq_true rfl) (Nat.le_of_ble_eq_true rfl) (by decide) (by decide)) (k4 8 rfl rfl) i_Lexer_note v_Lexer_note go rfl rfl (Nat.le_of_ble_eq_true rfl) (fun h270 qn271 => ?_)
                      refine ab_iload_n d_Lexer_behindSign_163 rfl rfl ?_
                      refine ab_iconst (v := 1) d_Lexer_behindSign_164 (by decide) ?_
                      refine ab_iadd d_Lexer_behindSign_165 ?_
                      refine ab_topi (fun x272 ex272 => ?_)
                      obtain rfl : x272 = nI (f + 1) := ex272.trans (nI_add f 1)
                      clear ex272
                      exact ab_iret d_Lexer_behindSign_166 rfl (Nat.le_refl _) (Nat.le_refl _) (by subst ex151; have hsp : lx_sign bf T f = ((f + 1), 10 + (lx_ixc ((((bf (nI f)) : Int32).toUInt32 % 65536).toInt32))) := (by unfold lx_sign; rw [if_neg q4]; rw [if_neg (fun z => z q152)]; rw [if_neg q192]; rw [if_neg q208]; rw [if_neg q224]; rw [if_pos q240]; rw [if_neg (fun z => z q241)]; rw [if_neg q253]; rw [if_pos q261]; rw [if_neg q264]; try rfl); rw [hsp]; exact ⟨rfl, qn271⟩)
                  · refine ab_iload_n d_Lexer_behindSign_118 rfl rfl ?_
                    refine ab_bipush (v := 38) d_Lexer_behindSign_119 (by decide) ?_
                    refine ab_icmp_ne (tgt := 129) d_Lexer_behindSign_121 (by decide) (fun q273 => ?_) (fun q273 => ?_)
                    · refine ab_bipush (v := 31) d_Lexer_behindSign_129 (by decide) ?_
                      refine ab_istore (lv' := [some (.ref b), some (.int (nI f)), some (.int (bf (nI f))), some (.int x151), some (.int 31)]) d_Lexer_behindSign_131 (by decide) rfl ?_
                      refine ab_goto (tgt := 167) d_Lexer_behindSign_133 (by decide) ?_
                      refine ab_aload_n d_Lexer_behindSign_167 rfl rfl rfl ?_
                      refine ab_iload d_Lexer_behindSign_168 rfl ?_
                      refine ab_iload_n d_Lexer_behindSign_170 rfl rfl ?_
                      refine ab_iconst (v := 0) d_Lexer_behindSign_171 (by decide) ?_
                      refine ab_iconst (v := 0) d_Lexer_behindSign_172 (by decide) ?_
                      refine ab_callV_v (As := [.int 31, .int (nI f), .int 0, .int 0]) (rest := []) d_Lexer_behindSign_173 (c_Lexer_note hl0 hc) (ab_mkC s_Lexer_note (Nat.le_of_ble_eq_true rfl) (Nat.le_of_ble_eq_true rfl) (by decide) (by decide)) (k4 8 rfl rfl) i_Lexer_note v_Lexer_note go rfl rfl (Nat.le_of_ble_eq_true rfl) (fun h274 qn275 => ?_)
                      refine ab_iload_n d_Lexer_behindSign_176 rfl rfl ?_
                      refine ab_iconst (v := 2) d_Lexer_behindSign_177 (by decide) ?_
                      refine ab_iadd d_Lexer_behindSign_178 ?_
                      refine ab_topi (fun x276 ex276 => ?_)
                      obtain rfl : x276 = nI (f + 2) := ex276.trans (nI_add f 2)
                      clear ex276
                      exact ab_iret d_Lexer_behindSign_179 rfl (Nat.le_refl _) (Nat.le_refl _) (by subst ex151; have hsp : lx_sign bf T f = ((f + 2), 31) := (by unfold lx_sign; rw [if_neg q4]; rw [if_neg (fun z => z q152)]; rw [if_neg q192]; rw [if_neg q208]; rw [if_neg q224]; rw [if_pos q240]; rw [if_neg (fun z => z q241)]; rw [if_neg q253]; rw [if_neg (fun z => z q261)]; rw [if_pos q273]; try rfl); rw [hsp]; exact ⟨rfl, qn275⟩)
                    · refine ab_bipush (v := 30) d_Lexer_behindSign_124 (by decide) ?_
                      refine ab_goto (tgt := 131) d_Lexer_behindSign_126 (by decide) ?_
                      refine ab_istore (lv' := [some (.ref b), some (.int (nI f)), some (.int (bf (nI f))), some (.int x151), some (.int 30)]) d_Lexer_behindSign_131 (by decide) rfl ?_
                      refine ab_goto (tgt := 167) d_Lexer_behindSign_133 (by decide) ?_
                      refine ab_aload_n d_Lexer_behindSign_167 rfl rfl rfl ?_
                      refine ab_iload d_Lexer_behindSign_168 rfl ?_
                      refine ab_iload_n d_Lexer_behindSign_170 rfl rfl ?_
                      refine ab_iconst (v := 0) d_Lexer_behindSign_171 (by decide) ?_
                      refine ab_iconst (v := 0) d_Lexer_behindSign_172 (by decide) ?_
                      refine ab_callV_v (As := [.int 30, .int (nI f), .int 0, .int 0]) (rest := []) d_Lexer_behindSign_173 (c_Lexer_note hl0 hc) (ab_mkC s_Lexer_note (Nat.le_of_ble_eq_true rfl) (Nat.le_of_ble_eq_true rfl) (by decide) (by decide)) (k4 8 rfl rfl) i_Lexer_note v_Lexer_note go rfl rfl (Nat.le_of_ble_eq_true rfl) (fun h277 qn278 => ?_)
                      refine ab_iload_n d_Lexer_behindSign_176 rfl rfl ?_
                      refine ab_iconst (v := 2) d_Lexer_behindSign_177 (by decide) ?_
                      refine ab_iadd d_Lexer_behindSign_178 ?_
                      refine ab_topi (fun x279 ex279 => ?_)
                      obtain rfl : x279 = nI (f + 2) := ex279.trans (nI_add f 2)
                      clear ex279
                      exact ab_iret d_Lexer_behindSign_179 rfl (Nat.le_refl _) (Nat.le_refl _) (by subst ex151; have hsp : lx_sign bf T f = ((f + 2), 30) := (by unfold lx_sign; rw [if_neg q4]; rw [if_neg (fun z => z q152)]; rw [if_neg q192]; rw [if_neg q208]; rw [if_neg q224]; rw [if_pos q240]; rw [if_neg (fun z => z q241)]; rw [if_neg q253]; rw [if_neg (fun z => z q261)]; rw [if_neg (fun z => z q273)]; try rfl); rw [hsp]; exact ⟨rfl, qn278⟩)
            · refine ab_iload_n d_Lexer_behindSign_61 rfl rfl ?_
              refine ab_bipush (v := 60) d_Lexer_behindSign_62 (by decide) ?_
              refine ab_icmp_ne (tgt := 72) d_Lexer_behindSign_64 (by decide) (fun q280 => ?_) (fun q280 => ?_)
              · refine ab_iload_n d_Lexer_behindSign_72 rfl rfl ?_
                refine ab_bipush (v := 62) d_Lexer_behindSign_73 (by decide) ?_
                refine ab_icmp_ne (tgt := 83) d_Lexer_behindSign_75 (by decide) (fun q281 => ?_) (fun q281 => ?_)
                · refine ab_iload_n d_Lexer_behindSign_83 rfl rfl ?_
                  refine ab_bipush (v := 61) d_Lexer_behindSign_84 (by decide) ?_
                  refine ab_icmp_ne (tgt := 94) d_Lexer_behindSign_86 (by decide) (fun q282 => ?_) (fun q282 => ?_)
                  · refine ab_bipush (v := 29) d_Lexer_behindSign_94 (by decide) ?_
                    refine ab_istore (lv' := [some (.ref b), some (.int (nI f)), some (.int (bf (nI f))), some (.int x151), some (.int 29)]) d_Lexer_behindSign_96 (by decide) rfl ?_
                    refine ab_goto (tgt := 167) d_Lexer_behindSign_98 (by decide) ?_
                    refine ab_aload_n d_Lexer_behindSign_167 rfl rfl rfl ?_
                    refine ab_iload d_Lexer_behindSign_168 rfl ?_
                    refine ab_iload_n d_Lexer_behindSign_170 rfl rfl ?_
                    refine ab_iconst (v := 0) d_Lexer_behindSign_171 (by decide) ?_
                    refine ab_iconst (v := 0) d_Lexer_behindSign_172 (by decide) ?_
                    refine ab_callV_v (As := [.int 29, .int (nI f), .int 0, .int 0]) (rest := []) d_Lexer_behindSign_173 (c_Lexer_note hl0 hc) (ab_mkC s_Lexer_note (Nat.le_of_ble_eq_true rfl) (Nat.le_of_ble_eq_true rfl) (by decide) (by decide)) (k4 8 rfl rfl) i_Lexer_note v_Lexer_note go rfl rfl (Nat.le_of_ble_eq_true rfl) (fun h283 qn284 => ?_)
                    refine ab_iload_n d_Lexer_behindSign_176 rfl rfl ?_
                    refine ab_iconst (v := 2) d_Lexer_behindSign_177 (by decide) ?_
                    refine ab_iadd d_Lexer_behindSign_178 ?_
                    refine ab_topi (fun x285 ex285 => ?_)
                    obtain rfl : x285 = nI (f + 2) := ex285.trans (nI_add f 2)
                    clear ex285
                    exact ab_iret d_Lexer_behindSign_179 rfl (Nat.le_refl _) (Nat.le_refl _) (by subst ex151; have hsp : lx_sign bf T f = ((f + 2), 29) := (by unfold lx_sign; rw [if_neg q4]; rw [if_neg (fun z => z q152)]; rw [if_neg q192]; rw [if_neg q208]; rw [if_neg q224]; rw [if_neg (fun z => z q240)]; rw [if_pos q280]; rw [if_pos q281]; rw [if_pos q282]; try rfl); rw [hsp]; exact ⟨rfl, qn284⟩)
                  · refine ab_bipush (v := 28) d_Lexer_behindSign_89 (by decide) ?_
                    refine ab_goto (tgt := 96) d_Lexer_behindSign_91 (by decide) ?_
                    refine ab_istore (lv' := [some (.ref b), some (.int (nI f)), some (.int (bf (nI f))), some (.int x151), some (.int 28)]) d_Lexer_behindSign_96 (by decide) rfl ?_
                    refine ab_goto (tgt := 167) d_Lexer_behindSign_98 (by decide) ?_
                    refine ab_aload_n d_Lexer_behindSign_167 rfl rfl rfl ?_
                    refine ab_iload d_Lexer_behindSign_168 rfl ?_
                    refine ab_iload_n d_Lexer_behindSign_170 rfl rfl ?_
                    refine ab_iconst (v := 0) d_Lexer_behindSign_171 (by decide) ?_
                    refine ab_iconst (v := 0) d_Lexer_behindSign_172 (by decide) ?_
                    refine ab_callV_v (As := [.int 28, .int (nI f), .int 0, .int 0]) (rest := []) d_Lexer_behindSign_173 (c_Lexer_note hl0 hc) (ab_mkC s_Lexer_note (Nat.le_of_ble_eq_true rfl) (Nat.le_of_ble_eq_true rfl) (by decide) (by decide)) (k4 8 rfl rfl) i_Lexer_note v_Lexer_note go rfl rfl (Nat.le_of_ble_eq_true rfl) (fun h286 qn287 => ?_)
                    refine ab_iload_n d_Lexer_behindSign_176 rfl rfl ?_
                    refine ab_iconst (v := 2) d_Lexer_behindSign_177 (by decide) ?_
                    refine ab_iadd d_Lexer_behindSign_178 ?_
                    refine ab_topi (fun x288 ex288 => ?_)
                    obtain rfl : x288 = nI (f + 2) := ex288.trans (nI_add f 2)
                    clear ex288
                    exact ab_iret d_Lexer_behindSign_179 rfl (Nat.le_refl _) (Nat.le_refl _) (by subst ex151; have hsp : lx_sign bf T f = ((f + 2), 28) := (by unfold lx_sign; rw [if_neg q4]; rw [if_neg (fun z => z q152)]; rw [if_neg q192]; rw [if_neg q208]; rw [if_neg q224]; rw [if_neg (fun z => z q240)]; rw [if_pos q280]; rw [if_pos q281]; rw [if_neg (fun z => z q282)]; try rfl); rw [hsp]; exact ⟨rfl, qn287⟩)
                · refine ab_bipush (v := 27) d_Lexer_behindSign_78 (by decide) ?_
                  refine ab_goto (tgt := 96) d_Lexer_behindSign_80 (by decide) ?_
                  refine ab_istore (lv' := [some (.ref b), some (.int (nI f)), some (.int (bf (nI f))), some (.int x151), some (.int 27)]) d_Lexer_behindSign_96 (by decide) rfl ?_
                  refine ab_goto (tgt := 167) d_Lexer_behindSign_98 (by decide) ?_
                  refine ab_aload_n d_Lexer_behindSign_167 rfl rfl rfl ?_
                  refine ab_iload d_Lexer_behindSign_168 rfl ?_
                  refine ab_iload_n d_Lexer_behindSign_170 rfl rfl ?_
                  refine ab_iconst (v := 0) d_Lexer_behindSign_171 (by decide) ?_
                  refine ab_iconst (v := 0) d_Lexer_behindSign_172 (by decide) ?_
                  refine ab_callV_v (As := [.int 27, .int (nI f), .int 0, .int 0]) (rest := []) d_Lexer_behindSign_173 (c_Lexer_note hl0 hc) (ab_mkC s_Lexer_note (Nat.le_of_ble_eq_true rfl) (Nat.le_of_ble_eq_true rfl) (by decide) (by decide)) (k4 8 rfl rfl) i_Lexer_note v_Lexer_note go rfl rfl (Nat.le_of_ble_eq_true rfl) (fun h289 qn290 => ?_)
                  refine ab_iload_n d_Lexer_behindSign_176 rfl rfl ?_
                  refine ab_iconst (v := 2) d_Lexer_behindSign_177 (by decide) ?_
                  refine ab_iadd d_Lexer_behindSign_178 ?_
                  refine ab_topi (fun x291 ex291 => ?_)
                  obtain rfl : x291 = nI (f + 2) := ex291.trans (nI_add f 2)
                  clear ex291
                  exact ab_iret d_Lexer_behindSign_179 rfl (Nat.le_refl _) (Nat.le_refl _) (by subst ex151; have hsp : lx_sign bf T f = ((f + 2), 27) := (by unfold lx_sign; rw [if_neg q4]; rw [if_neg (fun z => z q152)]; rw [if_neg q192]; rw [if_neg q208]; rw [if_neg q224]; rw [if_neg (fun z => z q240)]; rw [if_pos q280]; rw [if_neg (fun z => z q281)]; try rfl); rw [hsp]; exact ⟨rfl, qn290⟩)
              · refine ab_bipush (v := 26) d_Lexer_behindSign_67 (by decide) ?_
                refine ab_goto (tgt := 96) d_Lexer_behindSign_69 (by decide) ?_
                refine ab_istore (lv' := [some (.ref b), some (.int (nI f)), some (.int (bf (nI f))), some (.int x151), some (.int 26)]) d_Lexer_behindSign_96 (by decide) rfl ?_
                refine ab_goto (tgt := 167) d_Lexer_behindSign_98 (by decide) ?_
                refine ab_aload_n d_Lexer_behindSign_167 rfl rfl rfl ?_
                refine ab_iload d_Lexer_behindSign_168 rfl ?_
                refine ab_iload_n d_Lexer_behindSign_170 rfl rfl ?_
                refine ab_iconst (v := 0) d_Lexer_behindSign_171 (by decide) ?_
                refine ab_iconst (v := 0) d_Lexer_behindSign_172 (by decide) ?_
                refine ab_callV_v (As := [.int 26, .int (nI f), .int 0, .int 0]) (rest := []) d_Lexer_behindSign_173 (c_Lexer_note hl0 hc) (ab_mkC s_Lexer_note (Nat.le_of_ble_eq_true rfl) (Nat.le_of_ble_eq_true rfl) (by decide) (by decide)) (k4 8 rfl rfl) i_Lexer_note v_Lexer_note go rfl rfl (Nat.le_of_ble_eq_true rfl) (fun h292 qn293 => ?_)
                refine ab_iload_n d_Lexer_behindSign_176 rfl rfl ?_
                refine ab_iconst (v := 2) d_Lexer_behindSign_177 (by decide) ?_
                refine ab_iadd d_Lexer_behindSign_178 ?_
                refine ab_topi (fun x294 ex294 => ?_)
                obtain rfl : x294 = nI (f + 2) := ex294.trans (nI_add f 2)
                clear ex294
                exact ab_iret d_Lexer_behindSign_179 rfl (Nat.le_refl _) (Nat.le_refl _) (by subst ex151; have hsp : lx_sign bf T f = ((f + 2), 26) := (by unfold lx_sign; rw [if_neg q4]; rw [if_neg (fun z => z q152)]; rw [if_neg q192]; rw [if_neg q208]; rw [if_neg q224]; rw [if_neg (fun z => z q240)]; rw [if_neg (fun z => z q280)]; try rfl); rw [hsp]; exact ⟨rfl, qn293⟩)
/-- the token that begins at f: where it ends, its kind, its value, whether it is too much -/
def lx_tok (bf : Int32 → Int32) (T f : Nat) : Nat × Int32 × Int32 × Int32 :=
  if sp_letter (bf (nI f)) = 0 then if sp_digit (bf (nI f)) = 0 then ((lx_sign bf T f).1, (lx_sign bf T f).2, 0, 0) else lx_num bf T f
  else (lx_bn bf T f, lx_word bf f (lx_bn bf T f - f), nI (lx_bn bf T f - f), lx_gt12 (lx_bn bf T f - f))
set_option maxRecDepth 20000 in
set_option maxHeartbeats 2000000 in
theorem c_Lexer_behindToken {h : List ab_E} {b : Nat} {s : Nat → Int32} {a : Nat → Nat → Int32} {bf : Int32 → Int32} {T f : Nat} (hl : at_Lexer h b s a) (hT : s 1 = nI T) (hT2 : T ≤ 6000) (hb : ∀ i, lx_byte s a i = bf i) (h12 : a 12 = kept0) (hf : f < T) (hc : ¬ s 10 < 0) : ab_M y_Lexer_behindToken { frames := 6, cells := 0, slots := 0, locals := 260 } [.ref b, .int (nI f)] h (ab_A (some (.int (nI (lx_tok bf T f).1))) (fun h1 => at_Lexer h1 b (sp_note_s s) (sp_note_a s a ((lx_tok bf T f).2.1) (nI f) ((lx_tok bf T f).2.2.1) ((lx_tok bf T f).2.2.2)) ∧ ab_fr (in_Lexer b) h h1)) := by
  have hl0 := hl; obtain ⟨go, g0, g6, g7, g8, g9, g12⟩ := hl
  replace go : h[b]? = some (.inr (1, [.ref (b + 1), .int (nI T), .int (s 2), .int (s 3), .int (s 4), .int (s 5), .ref (b + 2), .ref (b + 3), .ref (b + 4), .ref (b + 5), .int (s 10), .int (s 11), .ref (b + 6)])) := (by rw [← hT]; exact go)
  refine ab_of2 (lv := [some (.ref b), some (.int (nI f)), none]) 1 rfl rfl (Nat.le_of_ble_eq_true rfl) ?_
  refine ab_aload_n d_Lexer_behindToken_0 rfl rfl rfl ?_
  refine ab_iload_n d_Lexer_behindToken_1 rfl rfl ?_
  refine ab_callV_a (As := [.int (nI f)]) (rest := []) d_Lexer_behindToken_2 (c_bf hl0 (nI_pos (by omega)) hT hT2 hb) (ab_mkC s_Lexer_byteAt (Nat.le_of_ble_eq_true rfl) (Nat.le_of_ble_eq_true rfl) (by decide) (by decide)) (k3 226 rfl rfl) i_Lexer_byteAt v_Lexer_byteAt go rfl rfl (Nat.le_of_ble_eq_true rfl) (fun h2 q1 => ?_)
  subst q1
  refine ab_istore_n (lv' := [some (.ref b), some (.int (nI f)), some (.int (bf (nI f)))]) d_Lexer_behindToken_5 rfl (by decide) rfl ?_
  refine ab_iload_n d_Lexer_behindToken_6 rfl rfl ?_
  refine ab_callS_a (As := [.int (bf (nI f))]) (rest := []) d_Lexer_behindToken_7 (c_Lexer_isLetter) (ab_mkC s_Lexer_isLetter (Nat.le_of_ble_eq_true rfl) (Nat.le_of_ble_eq_true rfl) (by decide) (by decide)) (k3 234 rfl rfl) t_Lexer_isLetter rfl (Nat.le_of_ble_eq_true rfl) (fun h4 q3 => ?_)
  subst q3
  refine ab_if_eq (tgt := 19) d_Lexer_behindToken_10 (by decide) (fun q5 => ?_) (fun q5 => ?_)
  · refine ab_iload_n d_Lexer_behindToken_19 rfl rfl ?_
    refine ab_callS_a (As := [.int (bf (nI f))]) (rest := []) d_Lexer_behindToken_20 (c_Lexer_isDigit) (ab_mkC s_Lexer_isDigit (Nat.le_of_ble_eq_true rfl) (Nat.le_of_ble_eq_true rfl) (by decide) (by decide)) (k4 1 rfl rfl) t_Lexer_isDigit rfl (Nat.le_of_ble_eq_true rfl) (fun h7 q6 => ?_)
    subst q6
    refine ab_if_eq (tgt := 32) d_Lexer_behindToken_23 (by decide) (fun q8 => ?_) (fun q8 => ?_)
    · refine ab_aload_n d_Lexer_behindToken_32 rfl rfl rfl ?_
      refine ab_iload_n d_Lexer_behindToken_33 rfl rfl ?_
      refine ab_callV_a (As := [.int (nI f)]) (rest := []) d_Lexer_behindToken_34 (c_Lexer_behindSign hl0 hT hT2 hb hf hc) (ab_mkC s_Lexer_behindSign (Nat.le_of_ble_eq_true rfl) (Nat.le_of_ble_eq_true rfl) (by decide) (by decide)) (k4 29 rfl rfl) i_Lexer_behindSign v_Lexer_behindSign go rfl rfl (Nat.le_of_ble_eq_true rfl) (fun h9 qn10 => ?_)
      exact ab_iret d_Lexer_behindToken_37 rfl (Nat.le_refl _) (Nat.le_refl _) (by unfold lx_tok; rw [if_pos q5]; rw [if_pos q8]; exact ⟨rfl, qn10⟩)
    · refine ab_aload_n d_Lexer_behindToken_26 rfl rfl rfl ?_
      refine ab_iload_n d_Lexer_behindToken_27 rfl rfl ?_
      refine ab_callV_a (As := [.int (nI f)]) (rest := []) d_Lexer_behindToken_28 (c_Lexer_behindNumber hl0 hT hT2 hb hf hc) (ab_mkC s_Lexer_behindNumber (Nat.le_of_ble_eq_true rfl) (Nat.le_of_ble_eq_true rfl) (by decide) (by decide)) (k4 12 rfl rfl) i_Lexer_behindNumber v_Lexer_behindNumber go rfl rfl (Nat.le_of_ble_eq_true rfl) (fun h11 qn12 => ?_)
      exact ab_iret d_Lexer_behindToken_31 rfl (Nat.le_refl _) (Nat.le_refl _) (by unfold lx_tok; rw [if_pos q5]; rw [if_neg q8]; exact ⟨rfl, qn12⟩)
  · refine ab_aload_n d_Lexer_behindToken_13 rfl rfl rfl ?_
    refine ab_iload_n d_Lexer_behindToken_14 rfl rfl ?_
    refine ab_callV_a (As := [.int (nI f)]) (rest := []) d_Lexer_behindToken_15 (c_Lexer_behindName hl0 hT hT2 hb h12 hf hc) (ab_mkC s_Lexer_behindName (Nat.le_of_ble_eq_true rfl) (Nat.le_of_ble_eq_true rfl) (by decide) (by decide)) (k3 237 rfl rfl) i_Lexer_behindName v_Lexer_behindName go rfl rfl (Nat.le_of_ble_eq_true rfl) (fun h13 qn14 => ?_)
    exact ab_iret d_Lexer_behindToken_18 rfl (Nat.le_refl _) (Nat.le_refl _) (by unfold lx_tok; rw [if_neg q5]; exact ⟨rfl, qn14⟩)
