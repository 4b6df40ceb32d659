/-- where the kept words begin -/
def sp_kept : Nat → Nat → Nat → (Nat → Int32) → (Nat → Int32)
  | 0, _, _, f => f
  | n + 1, i, w, f => if kb i = 32 ∧ w < 41 then sp_kept n (i + 1) (w + 1) (upd f (w + 1) (nI i + 1)) else sp_kept n (i + 1) w f
def kept0 : Nat → Int32 := sp_kept 214 0 0 (fun _ => 0)
theorem kept0_eq : sp_kept 214 0 0 (fun _ => 0) = kept0 := rfl
def a0_Lexer : Nat → Nat → Int32 := fun k => if k = 12 then kept0 else fun _ => 0
theorem a0_Lexer_12 : a0_Lexer 12 = kept0 := if_pos rfl
theorem a0_Lexer_ne {k : Nat} (h : k ≠ 12) : a0_Lexer k = fun _ => 0 := if_neg h
set_option maxRecDepth 20000 in
set_option maxHeartbeats 2000000 in
theorem l_Lexer_init {b : Nat} {Po : Outcome → List ab_E → Prop} : ∀ (n i w : Nat) (h : List ab_E) (f : Nat → Int32), i + n = 214 → w ≤ 41 → h[b]? = some (.inr (1, [.ref (b + 1), .int 0, .int 0, .int 0, .int 0, .int 0, .ref (b + 2), .ref (b + 3), .ref (b + 4), .ref (b + 5), .int 0, .int 0, .ref (b + 6)])) → h[b + 6]? = some (.inl (.int, 42, .inl f)) → Po (.returned none) (h.set (b + 6) (.inl (.int, 42, .inl (sp_kept n i w f)))) →
    ab_V y_Lexer_init { frames := 4, cells := 6, slots := 30046, locals := 160 } Po 6 30046 6 30046 61 [some (.ref b), some (.int (nI w)), some (.int (nI i))] [] h := by
  intro n
  induction n with
  | zero =>
    intro i w h f hi hw g0 g6 hp
    refine ab_iload_n d_Lexer_init_61 rfl rfl ?_
    refine ab_ldcS (k0 := 0) d_Lexer_init_62 (List.mem_of_getElem? (i := 0) rfl) rfl rfl rfl ?_
    refine ab_callVK_a (k0 := 0) (As := []) (rest := [.int (nI i)]) d_Lexer_init_64 (by decide) (c_Str_length_0) (ab_mkC s_Str_length (Nat.le_of_ble_eq_true rfl) (Nat.le_of_ble_eq_true rfl) (Nat.le_of_ble_eq_true rfl) (Nat.le_of_ble_eq_true rfl)) (k1 46 rfl rfl) i_Str_length v_Str_length rfl (Nat.le_of_ble_eq_true rfl) (fun h2 q1 => ?_)
    subst q1
    refine ab_icmp_ge (tgt := 105) d_Lexer_init_67 (by decide) (fun q3 => ?_) (fun q3 => ?_)
    · exact ab_vret d_Lexer_init_105 rfl (Nat.le_of_ble_eq_true rfl) (Nat.le_of_ble_eq_true rfl) (by rw [sp_kept, ab_set_same g6] at hp; exact hp)
    · exact absurd (nI_le (a := 214) (b := i) (by omega) (by omega)) q3
  | succ n ih =>
    intro i w h f hi hw g0 g6 hp
    refine ab_iload_n d_Lexer_init_61 rfl rfl ?_
    refine ab_ldcS (k0 := 0) d_Lexer_init_62 (List.mem_of_getElem? (i := 0) rfl) rfl rfl rfl ?_
    refine ab_callVK_a (k0 := 0) (As := []) (rest := [.int (nI i)]) d_Lexer_init_64 (by decide) (c_Str_length_0) (ab_mkC s_Str_length (Nat.le_of_ble_eq_true rfl) (Nat.le_of_ble_eq_true rfl) (Nat.le_of_ble_eq_true rfl) (Nat.le_of_ble_eq_true rfl)) (k1 46 rfl rfl) i_Str_length v_Str_length rfl (Nat.le_of_ble_eq_true rfl) (fun h2 q1 => ?_)
    subst q1
    refine ab_icmp_ge (tgt := 105) d_Lexer_init_67 (by decide) (fun q3 => ?_) (fun q3 => ?_)
    · exact absurd ((nI_leI (a := 214) (by decide) (by omega)).mp q3) (by omega)
    · refine ab_ldcS (k0 := 0) d_Lexer_init_70 (List.mem_of_getElem? (i := 0) rfl) rfl rfl rfl ?_
      refine ab_iload_n d_Lexer_init_72 rfl rfl ?_
      refine ab_callVK_a (k0 := 0) (As := [.int (nI i)]) (rest := []) d_Lexer_init_73 (by decide) (c_Str_charAt (by omega)) (ab_mkC s_Str_charAt (Nat.le_of_ble_eq_true rfl) (Nat.le_of_ble_eq_true rfl) (Nat.le_of_ble_eq_true rfl) (Nat.le_of_ble_eq_true rfl)) (k1 56 rfl rfl) i_Str_charAt v_Str_charAt rfl (Nat.le_of_ble_eq_true rfl) (fun h5 q4 => ?_)
      subst q4
      refine ab_bipush (v := 32) d_Lexer_init_76 (by decide) ?_
      refine ab_icmp_ne (tgt := 99) d_Lexer_init_78 (by decide) (fun q6 => ?_) (fun q6 => ?_)
      · obtain ⟨x7, ex7⟩ : ∃ q : Int32, q = nI i + 1 := ⟨_, rfl⟩
        refine ab_iinc (v := x7) (lv' := [some (.ref b), some (.int (nI w)), some (.int x7)]) d_Lexer_init_99 rfl (by rw [ex7]; rfl) (by decide) rfl ?_
        refine ab_goto (tgt := 61) d_Lexer_init_102 (by decide) ?_
        subst ex7
        rw [nI_1]
        exact ih (i + 1) w _ _ (by omega) (by omega) g0 g6 (by rw [sp_kept, if_neg (fun z => q6 z.1)] at hp; exact hp)
      · refine ab_iload_n d_Lexer_init_81 rfl rfl ?_
        refine ab_bipush (v := 41) d_Lexer_init_82 (by decide) ?_
        refine ab_icmp_ge (tgt := 99) d_Lexer_init_84 (by decide) (fun q8 => ?_) (fun q8 => ?_)
        · obtain ⟨x9, ex9⟩ : ∃ q : Int32, q = nI i + 1 := ⟨_, rfl⟩
          refine ab_iinc (v := x9) (lv' := [some (.ref b), some (.int (nI w)), some (.int x9)]) d_Lexer_init_99 rfl (by rw [ex9]; rfl) (by decide) rfl ?_
          refine ab_goto (tgt := 61) d_Lexer_init_102 (by decide) ?_
          subst ex9
          rw [nI_1]
          exact ih (i + 1) w _ _ (by omega) (by omega) g0 g6 (by rw [sp_kept, if_neg (fun z => absurd ((nI_leI (a := 41) (b := w) (by decide) (by omega)).mp q8) (by omega))] at hp; exact hp)
        · obtain ⟨x10, ex10⟩ : ∃ q : Int32, q = nI w + 1 := ⟨_, rfl⟩
          refine ab_iinc (v := x10) (lv' := [some (.ref b), some (.int x10), some (.int (nI i))]) d_Lexer_init_87 rfl (by rw [ex10]; rfl) (by decide) rfl ?_
          refine ab_aload_n d_Lexer_init_90 rfl rfl rfl ?_
          refine ab_get (f := 12) d_Lexer_init_91 g0 rfl (by decide) (k1 114 rfl rfl) rfl ?_
          refine ab_iload_n d_Lexer_init_94 rfl rfl ?_
          refine ab_iload_n d_Lexer_init_95 rfl rfl ?_
          refine ab_iconst (v := 1) d_Lexer_init_96 (by decide) ?_
          refine ab_iadd d_Lexer_init_97 ?_
          refine ab_iast d_Lexer_init_98 tI g6 (by rw [ex10, nI_1]; exact vp_in_nI (by have := (nI_ltI (a := w) (b := 41) (by omega) (by decide)).mp (Int32.not_le.mp q8); omega) (by decide)) ?_
          refine ab_gen (fun h11 e12 => ?_)
          have c13 : h11[b]? = some (.inr (1, [.ref (b + 1), .int 0, .int 0, .int 0, .int 0, .int 0, .ref (b + 2), .ref (b + 3), .ref (b + 4), .ref (b + 5), .int 0, .int 0, .ref (b + 6)])) := ab_other e12 (by omega) g0
          have c14 : h11[b+6]? = some (.inl (.int, 42, .inl (upd f (x10).toNatClampNeg ((nI i) + 1)))) := ab_self e12 g6
          obtain ⟨x15, ex15⟩ : ∃ q : Int32, q = nI i + 1 := ⟨_, rfl⟩
          refine ab_iinc (v := x15) (lv' := [some (.ref b), some (.int x10), some (.int x15)]) d_Lexer_init_99 rfl (by rw [ex15]; rfl) (by decide) rfl ?_
          refine ab_goto (tgt := 61) d_Lexer_init_102 (by decide) ?_
          have q3b := (nI_ltI (a := w) (b := 41) (by omega) (by decide)).mp (Int32.not_le.mp q8)
          subst ex10
          subst ex15
          rw [nI_1, nI_1]
          have c14 : h11[b + 6]? = some (.inl (.int, 42, .inl (upd f (w + 1) (nI i + 1)))) := by rw [nI_1, nI_clamp (by omega)] at c14; exact c14
          exact ih (i + 1) (w + 1) _ _ (by omega) (by omega) c13 c14 (by rw [sp_kept, if_pos ⟨q6, q3b⟩] at hp; rw [e12, List.set_set]; exact hp)
set_option maxRecDepth 20000 in
set_option maxHeartbeats 2000000 in
theorem c_Lexer_init {h : List ab_E}  {b : Nat}   (ho : h[b]? = some (.inr (1, [.null, .int 0, .int 0, .int 0, .int 0, .int 0, .null, .null, .null, .null, .int 0, .int 0, .null]))) (hlen : h.length = b + 1)  : ab_M y_Lexer_init { frames := 4, cells := 6, slots := 30046, locals := 160 } [.ref b] h (ab_A none (fun h1 => at_Lexer h1 b (fun _ => 0) (a0_Lexer) ∧ h1.length = b + 7 ∧ ab_fr (in_up b) h h1)) := by
  refine ab_of2 (lv := [some (.ref b), none, none]) 2 rfl rfl (Nat.le_of_ble_eq_true rfl) ?_
  refine ab_aload_n d_Lexer_init_0 rfl rfl rfl ?_
  refine ab_objInit d_Lexer_init_1 (k1 44 rfl rfl) (k1 37 rfl rfl) (k1 38 rfl rfl) (by decide) (by decide) ?_
  refine ab_aload_n d_Lexer_init_4 rfl rfl rfl ?_
  refine ab_sipush (v := 6000) d_Lexer_init_5 (by decide) ?_
  refine ab_newaL (N := 6000) hlen d_Lexer_init_8 rfl (k1 142 rfl rfl) tB (Or.inr (Or.inl rfl)) (by decide) (by decide) (by decide) (by decide) (by decide) (fun h1 e2 e3 e4 => ?_)
  have c5 : h1[b + 1]? = some (.inl (.byte, 6000, .inl (fun _ => 0))) := e3
  have c6 : h1[b]? = some (.inr (1, [.null, .int 0, .int 0, .int 0, .int 0, .int 0, .null, .null, .null, .null, .int 0, .int 0, .null])) := (e4 _ (by omega)).trans ho
  have fr7 : ab_fr (in_up b) h h1 := ab_fr_new (ab_fr_rf _ _) e4 e2 hlen
  have l8 : h1.length = b + 2 := e2
  clear e2 e3 e4
  refine ab_putF (f := 0) d_Lexer_init_10 c6 rfl (by decide) (k1 94 rfl rfl) rfl rfl rfl rfl (fun _ => rfl) (fun _ => rfl) (Nat.le_of_ble_eq_true rfl) ?_
  show ab_V _ _ _ _ _ _ _ 13 [some (.ref b), none, none] [] (h1.set b (.inr (1, [.ref (b + 1), .int 0, .int 0, .int 0, .int 0, .int 0, .null, .null, .null, .null, .int 0, .int 0, .null])))
  refine ab_gen (fun h9 e10 => ?_)
  have c11 : h9[b]? = some (.inr (1, [.ref (b + 1), .int 0, .int 0, .int 0, .int 0, .int 0, .null, .null, .null, .null, .int 0, .int 0, .null])) := ab_self e10 c6
  have c12 : h9[b+1]? = some (.inl (.byte, 6000, .inl (fun _ => 0))) := ab_other e10 (by omega) c5
  have l13 : h9.length = b + 2 := by rw [e10]; exact List.length_set.trans l8
  have fr14 : ab_fr (in_up b) h h9 := ab_fr_set fr7 e10 (by first | (show _ ∧ _; omega) | (show _ ∨ _; omega) | (show _ = _; omega) | (show _ ≤ _; omega))
  clear c6 c5 l8 fr7 e10
  try clear h1
  refine ab_aload_n d_Lexer_init_13 rfl rfl rfl ?_
  refine ab_sipush (v := 6001) d_Lexer_init_14 (by decide) ?_
  refine ab_newaL (N := 6001) l13 d_Lexer_init_17 rfl (k1 143 rfl rfl) tI (Or.inl rfl) (by decide) (by decide) (by decide) (by decide) (by decide) (fun h15 e16 e17 e18 => ?_)
  have c19 : h15[b + 2]? = some (.inl (.int, 6001, .inl (fun _ => 0))) := e17
  have c20 : h15[b]? = some (.inr (1, [.ref (b + 1), .int 0, .int 0, .int 0, .int 0, .int 0, .null, .null, .null, .null, .int 0, .int 0, .null])) := (e18 _ (by omega)).trans c11
  have c21 : h15[b+1]? = some (.inl (.byte, 6000, .inl (fun _ => 0))) := (e18 _ (by omega)).trans c12
  have fr22 : ab_fr (in_up b) h h15 := ab_fr_new fr14 e18 e16 l13
  have l23 : h15.length = b + 3 := e16
  clear c11 c12 e16 e17 e18 l13 fr14
  try clear h9
  refine ab_putF (f := 6) d_Lexer_init_19 c20 rfl (by decide) (k1 108 rfl rfl) rfl rfl rfl rfl (fun _ => rfl) (fun _ => rfl) (Nat.le_of_ble_eq_true rfl) ?_
  show ab_V _ _ _ _ _ _ _ 22 [some (.ref b), none, none] [] (h15.set b (.inr (1, [.ref (b + 1), .int 0, .int 0, .int 0, .int 0, .int 0, .ref (b + 2), .null, .null, .null, .int 0, .int 0, .null])))
  refine ab_gen (fun h24 e25 => ?_)
  have c26 : h24[b]? = some (.inr (1, [.ref (b + 1), .int 0, .int 0, .int 0, .int 0, .int 0, .ref (b + 2), .null, .null, .null, .int 0, .int 0, .null])) := ab_self e25 c20
  have c27 : h24[b+1]? = some (.inl (.byte, 6000, .inl (fun _ => 0))) := ab_other e25 (by omega) c21
  have c28 : h24[b+2]? = some (.inl (.int, 6001, .inl (fun _ => 0))) := ab_other e25 (by omega) c19
  have l29 : h24.length = b + 3 := by rw [e25]; exact List.length_set.trans l23
  have fr30 : ab_fr (in_up b) h h24 := ab_fr_set fr22 e25 (by first | (show _ ∧ _; omega) | (show _ ∨ _; omega) | (show _ = _; omega) | (show _ ≤ _; omega))
  clear c20 c21 c19 l23 fr22 e25
  try clear h15
  refine ab_aload_n d_Lexer_init_22 rfl rfl rfl ?_
  refine ab_sipush (v := 6001) d_Lexer_init_23 (by decide) ?_
  refine ab_newaL (N := 6001) l29 d_Lexer_init_26 rfl (k1 143 rfl rfl) tI (Or.inl rfl) (by decide) (by decide) (by decide) (by decide) (by decide) (fun h31 e32 e33 e34 => ?_)
  have c35 : h31[b + 3]? = some (.inl (.int, 6001, .inl (fun _ => 0))) := e33
  have c36 : h31[b]? = some (.inr (1, [.ref (b + 1), .int 0, .int 0, .int 0, .int 0, .int 0, .ref (b + 2), .null, .null, .null, .int 0, .int 0, .null])) := (e34 _ (by omega)).trans c26
  have c37 : h31[b+1]? = some (.inl (.byte, 6000, .inl (fun _ => 0))) := (e34 _ (by omega)).trans c27
  have c38 : h31[b+2]? = some (.inl (.int, 6001, .inl (fun _ => 0))) := (e34 _ (by omega)).trans c28
  have fr39 : ab_fr (in_up b) h h31 := ab_fr_new fr30 e34 e32 l29
  have l40 : h31.length = b + 4 := e32
  clear c26 c27 c28 e32 e33 e34 l29 fr30
  try clear h24
  refine ab_putF (f := 7) d_Lexer_init_28 c36 rfl (by decide) (k1 109 rfl rfl) rfl rfl rfl rfl (fun _ => rfl) (fun _ => rfl) (Nat.le_of_ble_eq_true rfl) ?_
  show ab_V _ _ _ _ _ _ _ 31 [some (.ref b), none, none] [] (h31.set b (.inr (1, [.ref (b + 1), .int 0, .int 0, .int 0, .int 0, .int 0, .ref (b + 2), .ref (b + 3), .null, .null, .int 0, .int 0, .null])))
  refine ab_gen (fun h41 e42 => ?_)
  have c43 : h41[b]? = some (.inr (1, [.ref (b + 1), .int 0, .int 0, .int 0, .int 0, .int 0, .ref (b + 2), .ref (b + 3), .null, .null, .int 0, .int 0, .null])) := ab_self e42 c36
  have c44 : h41[b+1]? = some (.inl (.byte, 6000, .inl (fun _ => 0))) := ab_other e42 (by omega) c37
  have c45 : h41[b+2]? = some (.inl (.int, 6001, .inl (fun _ => 0))) := ab_other e42 (by omega) c38
  have c46 : h41[b+3]? = some (.inl (.int, 6001, .inl (fun _ => 0))) := ab_other e42 (by omega) c35
  have l47 : h41.length = b + 4 := by rw [e42]; exact List.length_set.trans l40
  have fr48 : ab_fr (in_up b) h h41 := ab_fr_set fr39 e42 (by first | (show _ ∧ _; omega) | (show _ ∨ _; omega) | (show _ = _; omega) | (show _ ≤ _; omega))
  clear c36 c37 c38 c35 l40 fr39 e42
  try clear h31
  refine ab_aload_n d_Lexer_init_31 rfl rfl rfl ?_
  refine ab_sipush (v := 6001) d_Lexer_init_32 (by decide) ?_
  refine ab_newaL (N := 6001) l47 d_Lexer_init_35 rfl (k1 143 rfl rfl) tI (Or.inl rfl) (by decide) (by decide) (by decide) (by decide) (by decide) (fun h49 e50 e51 e52 => ?_)
  have c53 : h49[b + 4]? = some (.inl (.int, 6001, .inl (fun _ => 0))) := e51
  have c54 : h49[b]? = some (.inr (1, [.ref (b + 1), .int 0, .int 0, .int 0, .int 0, .int 0, .ref (b + 2), .ref (b + 3), .null, .null, .int 0, .int 0, .null])) := (e52 _ (by omega)).trans c43
  have c55 : h49[b+1]? = some (.inl (.byte, 6000, .inl (fun _ => 0))) := (e52 _ (by omega)).trans c44
  have c56 : h49[b+2]? = some (.inl (.int, 6001, .inl (fun _ => 0))) := (e52 _ (by omega)).trans c45
  have c57 : h49[b+3]? = some (.inl (.int, 6001, .inl (fun _ => 0))) := (e52 _ (by omega)).trans c46
  have fr58 : ab_fr (in_up b) h h49 := ab_fr_new fr48 e52 e50 l47
  have l59 : h49.length = b + 5 := e50
  clear c43 c44 c45 c46 e50 e51 e52 l47 fr48
  try clear h41
  refine ab_putF (f := 8) d_Lexer_init_37 c54 rfl (by decide) (k1 110 rfl rfl) rfl rfl rfl rfl (fun _ => rfl) (fun _ => rfl) (Nat.le_of_ble_eq_true rfl) ?_
  show ab_V _ _ _ _ _ _ _ 40 [some (.ref b), none, none] [] (h49.set b (.inr (1, [.ref (b + 1), .int 0, .int 0, .int 0, .int 0, .int 0, .ref (b + 2), .ref (b + 3), .ref (b + 4), .null, .int 0, .int 0, .null])))
  refine ab_gen (fun h60 e61 => ?_)
  have c62 : h60[b]? = some (.inr (1, [.ref (b + 1), .int 0, .int 0, .int 0, .int 0, .int 0, .ref (b + 2), .ref (b + 3), .ref (b + 4), .null, .int 0, .int 0, .null])) := ab_self e61 c54
  have c63 : h60[b+1]? = some (.inl (.byte, 6000, .inl (fun _ => 0))) := ab_other e61 (by omega) c55
  have c64 : h60[b+2]? = some (.inl (.int, 6001, .inl (fun _ => 0))) := ab_other e61 (by omega) c56
  have c65 : h60[b+3]? = some (.inl (.int, 6001, .inl (fun _ => 0))) := ab_other e61 (by omega) c57
  have c66 : h60[b+4]? = some (.inl (.int, 6001, .inl (fun _ => 0))) := ab_other e61 (by omega) c53
  have l67 : h60.length = b + 5 := by rw [e61]; exact List.length_set.trans l59
  have fr68 : ab_fr (in_up b) h h60 := ab_fr_set fr58 e61 (by first | (show _ ∧ _; omega) | (show _ ∨ _; omega) | (show _ = _; omega) | (show _ ≤ _; omega))
  clear c54 c55 c56 c57 c53 l59 fr58 e61
  try clear h49
  refine ab_aload_n d_Lexer_init_40 rfl rfl rfl ?_
  refine ab_sipush (v := 6001) d_Lexer_init_41 (by decide) ?_
  refine ab_newaL (N := 6001) l67 d_Lexer_init_44 rfl (k1 144 rfl rfl) tZ (Or.inr (Or.inr (Or.inl rfl))) (by decide) (by decide) (by decide) (by decide) (by decide) (fun h69 e70 e71 e72 => ?_)
  have c73 : h69[b + 5]? = some (.inl (.boolean, 6001, .inl (fun _ => 0))) := e71
  have c74 : h69[b]? = some (.inr (1, [.ref (b + 1), .int 0, .int 0, .int 0, .int 0, .int 0, .ref (b + 2), .ref (b + 3), .ref (b + 4), .null, .int 0, .int 0, .null])) := (e72 _ (by omega)).trans c62
  have c75 : h69[b+1]? = some (.inl (.byte, 6000, .inl (fun _ => 0))) := (e72 _ (by omega)).trans c63
  have c76 : h69[b+2]? = some (.inl (.int, 6001, .inl (fun _ => 0))) := (e72 _ (by omega)).trans c64
  have c77 : h69[b+3]? = some (.inl (.int, 6001, .inl (fun _ => 0))) := (e72 _ (by omega)).trans c65
  have c78 : h69[b+4]? = some (.inl (.int, 6001, .inl (fun _ => 0))) := (e72 _ (by omega)).trans c66
  have fr79 : ab_fr (in_up b) h h69 := ab_fr_new fr68 e72 e70 l67
  have l80 : h69.length = b + 6 := e70
  clear c62 c63 c64 c65 c66 e70 e71 e72 l67 fr68
  try clear h60
  refine ab_putF (f := 9) d_Lexer_init_46 c74 rfl (by decide) (k1 111 rfl rfl) rfl rfl rfl rfl (fun _ => rfl) (fun _ => rfl) (Nat.le_of_ble_eq_true rfl) ?_
  show ab_V _ _ _ _ _ _ _ 49 [some (.ref b), none, none] [] (h69.set b (.inr (1, [.ref (b + 1), .int 0, .int 0, .int 0, .int 0, .int 0, .ref (b + 2), .ref (b + 3), .ref (b + 4), .ref (b + 5), .int 0, .int 0, .null])))
  refine ab_gen (fun h81 e82 => ?_)
  have c83 : h81[b]? = some (.inr (1, [.ref (b + 1), .int 0, .int 0, .int 0, .int 0, .int 0, .ref (b + 2), .ref (b + 3), .ref (b + 4), .ref (b + 5), .int 0, .int 0, .null])) := ab_self e82 c74
  have c84 : h81[b+1]? = some (.inl (.byte, 6000, .inl (fun _ => 0))) := ab_other e82 (by omega) c75
  have c85 : h81[b+2]? = some (.inl (.int, 6001, .inl (fun _ => 0))) := ab_other e82 (by omega) c76
  have c86 : h81[b+3]? = some (.inl (.int, 6001, .inl (fun _ => 0))) := ab_other e82 (by omega) c77
  have c87 : h81[b+4]? = some (.inl (.int, 6001, .inl (fun _ => 0))) := ab_other e82 (by omega) c78
  have c88 : h81[b+5]? = some (.inl (.boolean, 6001, .inl (fun _ => 0))) := ab_other e82 (by omega) c73
  have l89 : h81.length = b + 6 := by rw [e82]; exact List.length_set.trans l80
  have fr90 : ab_fr (in_up b) h h81 := ab_fr_set fr79 e82 (by first | (show _ ∧ _; omega) | (show _ ∨ _; omega) | (show _ = _; omega) | (show _ ≤ _; omega))
  clear c74 c75 c76 c77 c78 c73 l80 fr79 e82
  try clear h69
  refine ab_aload_n d_Lexer_init_49 rfl rfl rfl ?_
  refine ab_bipush (v := 42) d_Lexer_init_50 (by decide) ?_
  refine ab_newaL (N := 42) l89 d_Lexer_init_52 rfl (k1 143 rfl rfl) tI (Or.inl rfl) (by decide) (by decide) (by decide) (by decide) (by decide) (fun h91 e92 e93 e94 => ?_)
  have c95 : h91[b + 6]? = some (.inl (.int, 42, .inl (fun _ => 0))) := e93
  have c96 : h91[b]? = some (.inr (1, [.ref (b + 1), .int 0, .int 0, .int 0, .int 0, .int 0, .ref (b + 2), .ref (b + 3), .ref (b + 4), .ref (b + 5), .int 0, .int 0, .null])) := (e94 _ (by omega)).trans c83
  have c97 : h91[b+1]? = some (.inl (.byte, 6000, .inl (fun _ => 0))) := (e94 _ (by omega)).trans c84
  have c98 : h91[b+2]? = some (.inl (.int, 6001, .inl (fun _ => 0))) := (e94 _ (by omega)).trans c85
  have c99 : h91[b+3]? = some (.inl (.int, 6001, .inl (fun _ => 0))) := (e94 _ (by omega)).trans c86
  have c100 : h91[b+4]? = some (.inl (.int, 6001, .inl (fun _ => 0))) := (e94 _ (by omega)).trans c87
  have c101 : h91[b+5]? = some (.inl (.boolean, 6001, .inl (fun _ => 0))) := (e94 _ (by omega)).trans c88
  have fr102 : ab_fr (in_up b) h h91 := ab_fr_new fr90 e94 e92 l89
  have l103 : h91.length = b + 7 := e92
  clear c83 c84 c85 c86 c87 c88 e92 e93 e94 l89 fr90
  try clear h81
  refine ab_putF (f := 12) d_Lexer_init_54 c96 rfl (by decide) (k1 114 rfl rfl) rfl rfl rfl rfl (fun _ => rfl) (fun _ => rfl) (Nat.le_of_ble_eq_true rfl) ?_
  show ab_V _ _ _ _ _ _ _ 57 [some (.ref b), none, none] [] (h91.set b (.inr (1, [.ref (b + 1), .int 0, .int 0, .int 0, .int 0, .int 0, .ref (b + 2), .ref (b + 3), .ref (b + 4), .ref (b + 5), .int 0, .int 0, .ref (b + 6)])))
  refine ab_gen (fun h104 e105 => ?_)
  have c106 : h104[b]? = some (.inr (1, [.ref (b + 1), .int 0, .int 0, .int 0, .int 0, .int 0, .ref (b + 2), .ref (b + 3), .ref (b + 4), .ref (b + 5), .int 0, .int 0, .ref (b + 6)])) := ab_self e105 c96
  have c107 : h104[b+1]? = some (.inl (.byte, 6000, .inl (fun _ => 0))) := ab_other e105 (by omega) c97
  have c108 : h104[b+2]? = some (.inl (.int, 6001, .inl (fun _ => 0))) := ab_other e105 (by omega) c98
  have c109 : h104[b+3]? = some (.inl (.int, 6001, .inl (fun _ => 0))) := ab_other e105 (by omega) c99
  have c110 : h104[b+4]? = some (.inl (.int, 6001, .inl (fun _ => 0))) := ab_other e105 (by omega) c100
  have c111 : h104[b+5]? = some (.inl (.boolean, 6001, .inl (fun _ => 0))) := ab_other e105 (by omega) c101
  have c112 : h104[b+6]? = some (.inl (.int, 42, .inl (fun _ => 0))) := ab_other e105 (by omega) c95
  have l113 : h104.length = b + 7 := by rw [e105]; exact List.length_set.trans l103
  have fr114 : ab_fr (in_up b) h h104 := ab_fr_set fr102 e105 (by first | (show _ ∧ _; omega) | (show _ ∨ _; omega) | (show _ = _; omega) | (show _ ≤ _; omega))
  clear c96 c97 c98 c99 c100 c101 c95 l103 fr102 e105
  try clear h91
  refine ab_iconst (v := 0) d_Lexer_init_57 (by decide) ?_
  refine ab_istore_n (lv' := [some (.ref b), some (.int 0), none]) d_Lexer_init_58 rfl (by decide) rfl ?_
  refine ab_iconst (v := 0) d_Lexer_init_59 (by decide) ?_
  refine ab_istore_n (lv' := [some (.ref b), some (.int 0), some (.int 0)]) d_Lexer_init_60 rfl (by decide) rfl ?_
  refine l_Lexer_init 214 0 0 h104 (fun _ => 0) rfl (by omega) c106 c112 ?_
  rw [kept0_eq]
  exact ⟨rfl, ⟨ab_other rfl (by omega) c106, by rw [a0_Lexer_ne (by decide)]; exact ab_other rfl (by omega) c107, by rw [a0_Lexer_ne (by decide)]; exact ab_other rfl (by omega) c108, by rw [a0_Lexer_ne (by decide)]; exact ab_other rfl (by omega) c109, by rw [a0_Lexer_ne (by decide)]; exact ab_other rfl (by omega) c110, by rw [a0_Lexer_ne (by decide)]; exact ab_other rfl (by omega) c111, by rw [a0_Lexer_12]; exact ab_self rfl c112⟩, by rw [List.length_set]; exact l113, ab_fr_set fr114 rfl (by show _ ≤ _; omega)⟩
