def y_Row_rounded : ab_Y := (⟨"WorldEngine$Row", "rounded", "(JJ)J"⟩, prog_8_method_21_code, 13, (some FieldType.long), [])
theorem d_Row_rounded_0 : decode y_Row_rounded.2.1 0 = .ok (.lload_n 2, 1) := by decide +kernel
theorem d_Row_rounded_1 : decode y_Row_rounded.2.1 1 = .ok (.lconst 0, 1) := by decide +kernel
theorem d_Row_rounded_2 : decode y_Row_rounded.2.1 2 = .ok (.lcmp, 1) := by decide +kernel
theorem d_Row_rounded_3 : decode y_Row_rounded.2.1 3 = .ok (.ifCond .ne 5, 3) := by decide +kernel
theorem d_Row_rounded_6 : decode y_Row_rounded.2.1 6 = .ok (.lconst 0, 1) := by decide +kernel
theorem d_Row_rounded_7 : decode y_Row_rounded.2.1 7 = .ok (.lreturn, 1) := by decide +kernel
theorem d_Row_rounded_8 : decode y_Row_rounded.2.1 8 = .ok (.lload_n 2, 1) := by decide +kernel
theorem d_Row_rounded_9 : decode y_Row_rounded.2.1 9 = .ok (.lconst 0, 1) := by decide +kernel
theorem d_Row_rounded_10 : decode y_Row_rounded.2.1 10 = .ok (.lcmp, 1) := by decide +kernel
theorem d_Row_rounded_11 : decode y_Row_rounded.2.1 11 = .ok (.ifCond .ge 8, 3) := by decide +kernel
theorem d_Row_rounded_14 : decode y_Row_rounded.2.1 14 = .ok (.lload_n 0, 1) := by decide +kernel
theorem d_Row_rounded_15 : decode y_Row_rounded.2.1 15 = .ok (.lneg, 1) := by decide +kernel
theorem d_Row_rounded_16 : decode y_Row_rounded.2.1 16 = .ok (.goto 4, 3) := by decide +kernel
theorem d_Row_rounded_19 : decode y_Row_rounded.2.1 19 = .ok (.lload_n 0, 1) := by decide +kernel
theorem d_Row_rounded_20 : decode y_Row_rounded.2.1 20 = .ok (.lstore 4, 2) := by decide +kernel
theorem d_Row_rounded_22 : decode y_Row_rounded.2.1 22 = .ok (.lload_n 2, 1) := by decide +kernel
theorem d_Row_rounded_23 : decode y_Row_rounded.2.1 23 = .ok (.invokestatic 155, 3) := by decide +kernel
theorem d_Row_rounded_26 : decode y_Row_rounded.2.1 26 = .ok (.lstore 6, 2) := by decide +kernel
theorem d_Row_rounded_28 : decode y_Row_rounded.2.1 28 = .ok (.lload 4, 2) := by decide +kernel
theorem d_Row_rounded_30 : decode y_Row_rounded.2.1 30 = .ok (.lload 6, 2) := by decide +kernel
theorem d_Row_rounded_32 : decode y_Row_rounded.2.1 32 = .ok (.invokestatic 244, 3) := by decide +kernel
theorem d_Row_rounded_35 : decode y_Row_rounded.2.1 35 = .ok (.lstore 8, 2) := by decide +kernel
theorem d_Row_rounded_37 : decode y_Row_rounded.2.1 37 = .ok (.ldc2_w 247, 3) := by decide +kernel
theorem d_Row_rounded_40 : decode y_Row_rounded.2.1 40 = .ok (.lload 4, 2) := by decide +kernel
theorem d_Row_rounded_42 : decode y_Row_rounded.2.1 42 = .ok (.lload 8, 2) := by decide +kernel
theorem d_Row_rounded_44 : decode y_Row_rounded.2.1 44 = .ok (.lload 6, 2) := by decide +kernel
theorem d_Row_rounded_46 : decode y_Row_rounded.2.1 46 = .ok (.lmul, 1) := by decide +kernel
theorem d_Row_rounded_47 : decode y_Row_rounded.2.1 47 = .ok (.lsub, 1) := by decide +kernel
theorem d_Row_rounded_48 : decode y_Row_rounded.2.1 48 = .ok (.lmul, 1) := by decide +kernel
theorem d_Row_rounded_49 : decode y_Row_rounded.2.1 49 = .ok (.lstore 10, 2) := by decide +kernel
theorem d_Row_rounded_51 : decode y_Row_rounded.2.1 51 = .ok (.lload 10, 2) := by decide +kernel
theorem d_Row_rounded_53 : decode y_Row_rounded.2.1 53 = .ok (.lload 6, 2) := by decide +kernel
theorem d_Row_rounded_55 : decode y_Row_rounded.2.1 55 = .ok (.lcmp, 1) := by decide +kernel
theorem d_Row_rounded_56 : decode y_Row_rounded.2.1 56 = .ok (.ifCond .gt 20, 3) := by decide +kernel
theorem d_Row_rounded_59 : decode y_Row_rounded.2.1 59 = .ok (.lload 10, 2) := by decide +kernel
theorem d_Row_rounded_61 : decode y_Row_rounded.2.1 61 = .ok (.lload 6, 2) := by decide +kernel
theorem d_Row_rounded_63 : decode y_Row_rounded.2.1 63 = .ok (.lcmp, 1) := by decide +kernel
theorem d_Row_rounded_64 : decode y_Row_rounded.2.1 64 = .ok (.ifCond .ne 16, 3) := by decide +kernel
theorem d_Row_rounded_67 : decode y_Row_rounded.2.1 67 = .ok (.lload 8, 2) := by decide +kernel
theorem d_Row_rounded_69 : decode y_Row_rounded.2.1 69 = .ok (.lconst 1, 1) := by decide +kernel
theorem d_Row_rounded_70 : decode y_Row_rounded.2.1 70 = .ok (.land, 1) := by decide +kernel
theorem d_Row_rounded_71 : decode y_Row_rounded.2.1 71 = .ok (.lconst 1, 1) := by decide +kernel
theorem d_Row_rounded_72 : decode y_Row_rounded.2.1 72 = .ok (.lcmp, 1) := by decide +kernel
theorem d_Row_rounded_73 : decode y_Row_rounded.2.1 73 = .ok (.ifCond .ne 7, 3) := by decide +kernel
theorem d_Row_rounded_76 : decode y_Row_rounded.2.1 76 = .ok (.iconst 1, 1) := by decide +kernel
theorem d_Row_rounded_77 : decode y_Row_rounded.2.1 77 = .ok (.goto 4, 3) := by decide +kernel
theorem d_Row_rounded_80 : decode y_Row_rounded.2.1 80 = .ok (.iconst 0, 1) := by decide +kernel
theorem d_Row_rounded_81 : decode y_Row_rounded.2.1 81 = .ok (.istore 12, 2) := by decide +kernel
theorem d_Row_rounded_83 : decode y_Row_rounded.2.1 83 = .ok (.iload 12, 2) := by decide +kernel
theorem d_Row_rounded_85 : decode y_Row_rounded.2.1 85 = .ok (.ifCond .eq 10, 3) := by decide +kernel
theorem d_Row_rounded_88 : decode y_Row_rounded.2.1 88 = .ok (.lload 8, 2) := by decide +kernel
theorem d_Row_rounded_90 : decode y_Row_rounded.2.1 90 = .ok (.lconst 1, 1) := by decide +kernel
theorem d_Row_rounded_91 : decode y_Row_rounded.2.1 91 = .ok (.ladd, 1) := by decide +kernel
theorem d_Row_rounded_92 : decode y_Row_rounded.2.1 92 = .ok (.goto 5, 3) := by decide +kernel
theorem d_Row_rounded_95 : decode y_Row_rounded.2.1 95 = .ok (.lload 8, 2) := by decide +kernel
theorem d_Row_rounded_97 : decode y_Row_rounded.2.1 97 = .ok (.lreturn, 1) := by decide +kernel
theorem s_Row_rounded : ab_Stat y_Row_rounded 2 := ⟨(k7 67 rfl rfl), (k1 13 rfl rfl), ⟨by decide, by decide⟩, by decide +kernel⟩
theorem t_Row_rounded : Cond.static y_Row_rounded.1 ∈ ab_T := (k7 66 rfl rfl)
def B_Row_rounded_81 (N : Nat) (p0 : Int64) (p2 : Int64) (l8 : Int64) (w0 : Int32) (H : Hp) : Option (Int64 × Hp) :=
    if w0 = (0 : Int32) then
    some (l8, H)
    else
    some (l8 + (1 : Int64), H)
set_option maxRecDepth 20000 in
set_option maxHeartbeats 2000000 in
theorem mB_Row_rounded_81 {N : Nat} {p0 : Int64} {p2 : Int64} {l8 : Int64} {w0 : Int32} {H : Hp} {r : Int64 × Hp} (hF : B_Row_rounded_81 N p0 p2 l8 w0 H = some r) : Sa H r.2 := by
  unfold B_Row_rounded_81 at hF
  have hm := Sa.rf H
  rcases ite_s hF with ⟨q_3, hG⟩ | ⟨q_3, hG⟩
  · clear hF
    have hr := Option.some.inj hG; subst hr
    exact hm
  · clear hF
    have hr := Option.some.inj hG; subst hr
    exact hm
set_option maxRecDepth 20000 in
set_option maxHeartbeats 2000000 in
theorem kB_Row_rounded_81 {N : Nat} {p0 : Int64} {p2 : Int64} {l8 : Int64} {w0 : Int32} {H : Hp} {r : Int64 × Hp} (hF : B_Row_rounded_81 N p0 p2 l8 w0 H = some r) : ab_V y_Row_rounded { frames := 1, cells := 0, slots := 0, locals := 25 } (po (.returned (some (.long r.1))) r.2) 0 0 0 0 81 [some (.long p0), none, some (.long p2), none, none, none, none, none, some (.long l8), none, none, none, none] [.int w0] (hpw H) := by
  unfold B_Row_rounded_81 at hF
  refine ab_istore (lv' := [some (.long p0), none, some (.long p2), none, none, none, none, none, some (.long l8), none, none, none, some (.int w0)]) d_Row_rounded_81 (by decide) rfl ?_
  refine ab_iload d_Row_rounded_83 rfl ?_
  refine ab_if_eq (tgt := 95) d_Row_rounded_85 (by decide) (fun q11 => ?_) (fun q11 => ?_)
  · rw [if_pos q11] at hF
    refine ab_lload d_Row_rounded_95 rfl ?_
    exact ab_lret d_Row_rounded_97 rfl (Nat.le_refl _) (Nat.le_refl _) (by have hr := Option.some.inj hF; subst hr; exact ⟨rfl, rfl⟩)
  · rw [if_neg q11] at hF
    refine ab_lload d_Row_rounded_88 rfl ?_
    refine ab_lconst (v := 1) d_Row_rounded_90 (by decide) ?_
    refine ab_ladd d_Row_rounded_91 ?_
    refine ab_goto (tgt := 97) d_Row_rounded_92 (by decide) ?_
    exact ab_lret d_Row_rounded_97 rfl (Nat.le_refl _) (Nat.le_refl _) (by have hr := Option.some.inj hF; subst hr; exact ⟨rfl, rfl⟩)
def B_Row_rounded_76 (N : Nat) (p0 : Int64) (p2 : Int64) (l8 : Int64) (H : Hp) : Option (Int64 × Hp) :=
    B_Row_rounded_81 N p0 p2 l8 1 H
set_option maxRecDepth 20000 in
set_option maxHeartbeats 2000000 in
theorem mB_Row_rounded_76 {N : Nat} {p0 : Int64} {p2 : Int64} {l8 : Int64} {H : Hp} {r : Int64 × Hp} (hF : B_Row_rounded_76 N p0 p2 l8 H = some r) : Sa H r.2 := by
  unfold B_Row_rounded_76 at hF
  have hm := Sa.rf H
  exact hm.tr (mB_Row_rounded_81 hF)
set_option maxRecDepth 20000 in
set_option maxHeartbeats 2000000 in
theorem kB_Row_rounded_76 {N : Nat} {p0 : Int64} {p2 : Int64} {l8 : Int64} {H : Hp} {r : Int64 × Hp} (hF : B_Row_rounded_76 N p0 p2 l8 H = some r) : ab_V y_Row_rounded { frames := 1, cells := 0, slots := 0, locals := 25 } (po (.returned (some (.long r.1))) r.2) 0 0 0 0 76 [some (.long p0), none, some (.long p2), none, none, none, none, none, some (.long l8), none, none, none, none] [] (hpw H) := by
  unfold B_Row_rounded_76 at hF
  refine ab_iconst (v := 1) d_Row_rounded_76 (by decide) ?_
  refine ab_goto (tgt := 81) d_Row_rounded_77 (by decide) ?_
  exact kB_Row_rounded_81 hF
def B_Row_rounded_80 (N : Nat) (p0 : Int64) (p2 : Int64) (l8 : Int64) (H : Hp) : Option (Int64 × Hp) :=
    B_Row_rounded_81 N p0 p2 l8 0 H
set_option maxRecDepth 20000 in
set_option maxHeartbeats 2000000 in
theorem mB_Row_rounded_80 {N : Nat} {p0 : Int64} {p2 : Int64} {l8 : Int64} {H : Hp} {r : Int64 × Hp} (hF : B_Row_rounded_80 N p0 p2 l8 H = some r) : Sa H r.2 := by
  unfold B_Row_rounded_80 at hF
  have hm := Sa.rf H
  exact hm.tr (mB_Row_rounded_81 hF)
set_option maxRecDepth 20000 in
set_option maxHeartbeats 2000000 in
theorem kB_Row_rounded_80 {N : Nat} {p0 : Int64} {p2 : Int64} {l8 : Int64} {H : Hp} {r : Int64 × Hp} (hF : B_Row_rounded_80 N p0 p2 l8 H = some r) : ab_V y_Row_rounded { frames := 1, cells := 0, slots := 0, locals := 25 } (po (.returned (some (.long r.1))) r.2) 0 0 0 0 80 [some (.long p0), none, some (.long p2), none, none, none, none, none, some (.long l8), none, none, none, none] [] (hpw H) := by
  unfold B_Row_rounded_80 at hF
  refine ab_iconst (v := 0) d_Row_rounded_80 (by decide) ?_
  exact kB_Row_rounded_81 hF
def B_Row_rounded_20 (N : Nat) (p0 : Int64) (p2 : Int64) (w0 : Int64) (H : Hp) : Option (Int64 × Hp) :=
    bC (F_Math_abs N p2 H) fun v4 H5 =>
    bC (F_Math_floorDiv N w0 v4 H5) fun v7 H8 =>
    bnd ((2 : Int64) * (w0 - (v7 * v4))) fun x9 =>
    if (0 : Int32) < (lg_cmp x9 v4) then
    B_Row_rounded_76 N p0 p2 v7 H8
    else
    if (lg_cmp x9 v4) = (0 : Int32) then
    if (lg_cmp (v7 &&& (1 : Int64)) (1 : Int64)) = (0 : Int32) then
    B_Row_rounded_76 N p0 p2 v7 H8
    else
    B_Row_rounded_80 N p0 p2 v7 H8
    else
    B_Row_rounded_80 N p0 p2 v7 H8
set_option maxRecDepth 20000 in
set_option maxHeartbeats 2000000 in
theorem mB_Row_rounded_20 {N : Nat} {p0 : Int64} {p2 : Int64} {w0 : Int64} {H : Hp} {r : Int64 × Hp} (hF : B_Row_rounded_20 N p0 p2 w0 H = some r) : Sa H r.2 := by
  unfold B_Row_rounded_20 at hF
  have hm := Sa.rf H
  obtain ⟨v16, H17, z15, hG⟩ := bC_s hF; clear hF
  replace hm : Sa H H17 := hm.tr (m_Math_abs z15)
  obtain ⟨v19, H20, z18, hF⟩ := bC_s hG; clear hG
  replace hm : Sa H H20 := hm.tr (m_Math_floorDiv z18)
  obtain ⟨x21, -, hG⟩ := bnd_g hF; clear hF
  rcases ite_s hG with ⟨q_6, hF⟩ | ⟨q_6, hF⟩
  · clear hG
    exact hm.tr (mB_Row_rounded_76 hF)
  · clear hG
    rcases ite_s hF with ⟨q_7, hG⟩ | ⟨q_7, hG⟩
    · clear hF
      rcases ite_s hG with ⟨q_8, hF⟩ | ⟨q_8, hF⟩
      · clear hG
        exact hm.tr (mB_Row_rounded_76 hF)
      · clear hG
        exact hm.tr (mB_Row_rounded_80 hF)
    · clear hF
      exact hm.tr (mB_Row_rounded_80 hG)
set_option maxRecDepth 20000 in
set_option maxHeartbeats 2000000 in
theorem kB_Row_rounded_20 {N : Nat} {p0 : Int64} {p2 : Int64} {w0 : Int64} {H : Hp} {r : Int64 × Hp} (hF : B_Row_rounded_20 N p0 p2 w0 H = some r) : ab_V y_Row_rounded { frames := 1, cells := 0, slots := 0, locals := 25 } (po (.returned (some (.long r.1))) r.2) 0 0 0 0 20 [some (.long p0), none, some (.long p2), none, none, none, none, none, none, none, none, none, none] [.long w0] (hpw H) := by
  unfold B_Row_rounded_20 at hF
  refine ab_lstore (lv' := [some (.long p0), none, some (.long p2), none, some (.long w0), none, none, none, none, none, none, none, none]) d_Row_rounded_20 (by decide) rfl ?_
  refine ab_lload_n d_Row_rounded_22 rfl rfl ?_
  obtain ⟨v4, H5, z3, hG⟩ := bC_s hF; clear hF
  refine hp_callS_a (v := .long v4) (H1 := H5) (As := [.long p2]) (rest := []) d_Row_rounded_23 (k_Math_abs z3) (ab_mkC s_Math_abs (Nat.le_of_ble_eq_true rfl) (Nat.le_of_ble_eq_true rfl) (Nat.le_refl 0) (Nat.le_refl 0)) (k6 227 rfl rfl) t_Math_abs rfl (Nat.le_of_ble_eq_true rfl) ?_
  have s_1 : Sa H H5 := (m_Math_abs z3)
  refine ab_lstore (lv' := [some (.long p0), none, some (.long p2), none, some (.long w0), none, some (.long v4), none, none, none, none, none, none]) d_Row_rounded_26 (by decide) rfl ?_
  refine ab_lload d_Row_rounded_28 rfl ?_
  refine ab_lload d_Row_rounded_30 rfl ?_
  obtain ⟨v7, H8, z6, hF⟩ := bC_s hG; clear hG
  refine hp_callS_a (v := .long v7) (H1 := H8) (As := [.long w0, .long v4]) (rest := []) d_Row_rounded_32 (k_Math_floorDiv z6) (ab_mkC s_Math_floorDiv (Nat.le_of_ble_eq_true rfl) (Nat.le_of_ble_eq_true rfl) (Nat.le_refl 0) (Nat.le_refl 0)) (k7 68 rfl rfl) t_Math_floorDiv rfl (Nat.le_of_ble_eq_true rfl) ?_
  have s_2 : Sa H H8 := (s_1).tr (m_Math_floorDiv z6)
  refine ab_lstore (lv' := [some (.long p0), none, some (.long p2), none, some (.long w0), none, some (.long v4), none, some (.long v7), none, none, none, none]) d_Row_rounded_35 (by decide) rfl ?_
  refine ab_ldc2 d_Row_rounded_37 (k7 71 rfl rfl) ?_
  refine ab_lload d_Row_rounded_40 rfl ?_
  refine ab_lload d_Row_rounded_42 rfl ?_
  refine ab_lload d_Row_rounded_44 rfl ?_
  refine ab_lmul d_Row_rounded_46 ?_
  refine ab_lsub d_Row_rounded_47 ?_
  refine ab_lmul d_Row_rounded_48 ?_
  refine ab_topl (fun x9 ex9 => ?_)
  replace hF := bnd_s ex9 hF
  refine ab_lstore (lv' := [some (.long p0), none, some (.long p2), none, some (.long w0), none, some (.long v4), none, some (.long v7), none, some (.long x9), none, none]) d_Row_rounded_49 (by decide) rfl ?_
  refine ab_lload d_Row_rounded_51 rfl ?_
  refine ab_lload d_Row_rounded_53 rfl ?_
  refine ab_lcmp d_Row_rounded_55 ?_
  refine ab_if_gt (tgt := 76) d_Row_rounded_56 (by decide) (fun q10 => ?_) (fun q10 => ?_)
  · rw [if_pos q10] at hF
    refine ab_le (lv' := [some (.long p0), none, some (.long p2), none, none, none, none, none, some (.long v7), none, none, none, none]) ⟨rfl, ⟨rfl, ⟨rfl, trivial⟩⟩⟩ ?_
    exact kB_Row_rounded_76 hF
  · rw [if_neg q10] at hF
    refine ab_lload d_Row_rounded_59 rfl ?_
    refine ab_lload d_Row_rounded_61 rfl ?_
    refine ab_lcmp d_Row_rounded_63 ?_
    refine ab_if_ne (tgt := 80) d_Row_rounded_64 (by decide) (fun q13 => ?_) (fun q13 => ?_)
    · rw [if_neg q13] at hF
      refine ab_le (lv' := [some (.long p0), none, some (.long p2), none, none, none, none, none, some (.long v7), none, none, none, none]) ⟨rfl, ⟨rfl, ⟨rfl, trivial⟩⟩⟩ ?_
      exact kB_Row_rounded_80 hF
    · rw [if_pos q13] at hF
      refine ab_lload d_Row_rounded_67 rfl ?_
      refine ab_lconst (v := 1) d_Row_rounded_69 (by decide) ?_
      refine ab_land d_Row_rounded_70 ?_
      refine ab_lconst (v := 1) d_Row_rounded_71 (by decide) ?_
      refine ab_lcmp d_Row_rounded_72 ?_
      refine ab_if_ne (tgt := 80) d_Row_rounded_73 (by decide) (fun q14 => ?_) (fun q14 => ?_)
      · rw [if_neg q14] at hF
        refine ab_le (lv' := [some (.long p0), none, some (.long p2), none, none, none, none, none, some (.long v7), none, none, none, none]) ⟨rfl, ⟨rfl, ⟨rfl, trivial⟩⟩⟩ ?_
        exact kB_Row_rounded_80 hF
      · rw [if_pos q14] at hF
        refine ab_le (lv' := [some (.long p0), none, some (.long p2), none, none, none, none, none, some (.long v7), none, none, none, none]) ⟨rfl, ⟨rfl, ⟨rfl, trivial⟩⟩⟩ ?_
        exact kB_Row_rounded_76 hF
def F_Row_rounded (N : Nat) (p0 : Int64) (p2 : Int64) (H : Hp) : Option (Int64 × Hp) :=
    if (lg_cmp p2 (0 : Int64)) = (0 : Int32) then
    some (0, H)
    else
    if (0 : Int32) ≤ (lg_cmp p2 (0 : Int64)) then
    B_Row_rounded_20 N p0 p2 p0 H
    else
    B_Row_rounded_20 N p0 p2 (-p0) H
set_option maxRecDepth 20000 in
set_option maxHeartbeats 2000000 in
theorem m_Row_rounded {N : Nat} {p0 : Int64} {p2 : Int64} {H : Hp} {r : Int64 × Hp} (hF : F_Row_rounded N p0 p2 H = some r) : Sa H r.2 := by
  unfold F_Row_rounded at hF
  have hm := Sa.rf H
  rcases ite_s hF with ⟨q_9, hG⟩ | ⟨q_9, hG⟩
  · clear hF
    have hr := Option.some.inj hG; subst hr
    exact hm
  · clear hF
    rcases ite_s hG with ⟨q_10, hF⟩ | ⟨q_10, hF⟩
    · clear hG
      exact hm.tr (mB_Row_rounded_20 hF)
    · clear hG
      exact hm.tr (mB_Row_rounded_20 hF)
set_option maxRecDepth 20000 in
set_option maxHeartbeats 2000000 in
theorem k_Row_rounded {N : Nat} {p0 : Int64} {p2 : Int64} {H : Hp} {r : Int64 × Hp} (hF : F_Row_rounded N p0 p2 H = some r) : ab_M y_Row_rounded { frames := 1, cells := 0, slots := 0, locals := 25 } [.long p0, .long p2] (hpw H) (po (.returned (some (.long r.1))) r.2) := by
  unfold F_Row_rounded at hF
  refine ab_of2 (lv := [some (.long p0), none, some (.long p2), none, none, none, none, none, none, none, none, none, none]) 9 rfl rfl (Nat.le_of_ble_eq_true rfl) ?_
  refine ab_lload_n d_Row_rounded_0 rfl rfl ?_
  refine ab_lconst (v := 0) d_Row_rounded_1 (by decide) ?_
  refine ab_lcmp d_Row_rounded_2 ?_
  refine ab_if_ne (tgt := 8) d_Row_rounded_3 (by decide) (fun q1 => ?_) (fun q1 => ?_)
  · rw [if_neg q1] at hF
    refine ab_lload_n d_Row_rounded_8 rfl rfl ?_
    refine ab_lconst (v := 0) d_Row_rounded_9 (by decide) ?_
    refine ab_lcmp d_Row_rounded_10 ?_
    refine ab_if_ge (tgt := 19) d_Row_rounded_11 (by decide) (fun q2 => ?_) (fun q2 => ?_)
    · rw [if_pos q2] at hF
      refine ab_lload_n d_Row_rounded_19 rfl rfl ?_
      exact kB_Row_rounded_20 hF
    · rw [if_neg q2] at hF
      refine ab_lload_n d_Row_rounded_14 rfl rfl ?_
      refine ab_lneg d_Row_rounded_15 ?_
      refine ab_goto (tgt := 20) d_Row_rounded_16 (by decide) ?_
      exact kB_Row_rounded_20 hF
  · rw [if_pos q1] at hF
    refine ab_lconst (v := 0) d_Row_rounded_6 (by decide) ?_
    exact ab_lret d_Row_rounded_7 rfl (Nat.le_refl _) (Nat.le_refl _) (by have hr := Option.some.inj hF; subst hr; exact ⟨rfl, rfl⟩)
def y_Row_rootOf : ab_Y := (⟨"WorldEngine$Row", "rootOf", "(J)J"⟩, prog_8_method_22_code, 7, (some FieldType.long), [])
theorem d_Row_rootOf_0 : decode y_Row_rootOf.2.1 0 = .ok (.lconst 0, 1) := by decide +kernel
theorem d_Row_rootOf_1 : decode y_Row_rootOf.2.1 1 = .ok (.lstore_n 2, 1) := by decide +kernel
theorem d_Row_rootOf_2 : decode y_Row_rootOf.2.1 2 = .ok (.bipush 23, 2) := by decide +kernel
theorem d_Row_rootOf_4 : decode y_Row_rootOf.2.1 4 = .ok (.istore 4, 2) := by decide +kernel
theorem d_Row_rootOf_6 : decode y_Row_rootOf.2.1 6 = .ok (.iload 4, 2) := by decide +kernel
theorem d_Row_rootOf_8 : decode y_Row_rootOf.2.1 8 = .ok (.ifCond .lt 30, 3) := by decide +kernel
theorem d_Row_rootOf_11 : decode y_Row_rootOf.2.1 11 = .ok (.lload_n 2, 1) := by decide +kernel
theorem d_Row_rootOf_12 : decode y_Row_rootOf.2.1 12 = .ok (.lconst 1, 1) := by decide +kernel
theorem d_Row_rootOf_13 : decode y_Row_rootOf.2.1 13 = .ok (.iload 4, 2) := by decide +kernel
theorem d_Row_rootOf_15 : decode y_Row_rootOf.2.1 15 = .ok (.lshl, 1) := by decide +kernel
theorem d_Row_rootOf_16 : decode y_Row_rootOf.2.1 16 = .ok (.ladd, 1) := by decide +kernel
theorem d_Row_rootOf_17 : decode y_Row_rootOf.2.1 17 = .ok (.lstore 5, 2) := by decide +kernel
theorem d_Row_rootOf_19 : decode y_Row_rootOf.2.1 19 = .ok (.lload 5, 2) := by decide +kernel
theorem d_Row_rootOf_21 : decode y_Row_rootOf.2.1 21 = .ok (.lload 5, 2) := by decide +kernel
theorem d_Row_rootOf_23 : decode y_Row_rootOf.2.1 23 = .ok (.lmul, 1) := by decide +kernel
theorem d_Row_rootOf_24 : decode y_Row_rootOf.2.1 24 = .ok (.lload_n 0, 1) := by decide +kernel
theorem d_Row_rootOf_25 : decode y_Row_rootOf.2.1 25 = .ok (.lcmp, 1) := by decide +kernel
theorem d_Row_rootOf_26 : decode y_Row_rootOf.2.1 26 = .ok (.ifCond .gt 6, 3) := by decide +kernel
theorem d_Row_rootOf_29 : decode y_Row_rootOf.2.1 29 = .ok (.lload 5, 2) := by decide +kernel
theorem d_Row_rootOf_31 : decode y_Row_rootOf.2.1 31 = .ok (.lstore_n 2, 1) := by decide +kernel
theorem d_Row_rootOf_32 : decode y_Row_rootOf.2.1 32 = .ok (.iinc 4 (-1), 3) := by decide +kernel
theorem d_Row_rootOf_35 : decode y_Row_rootOf.2.1 35 = .ok (.goto (-29), 3) := by decide +kernel
theorem d_Row_rootOf_38 : decode y_Row_rootOf.2.1 38 = .ok (.lload_n 2, 1) := by decide +kernel
theorem d_Row_rootOf_39 : decode y_Row_rootOf.2.1 39 = .ok (.lreturn, 1) := by decide +kernel
theorem s_Row_rootOf : ab_Stat y_Row_rootOf 1 := ⟨(k7 74 rfl rfl), (k1 13 rfl rfl), ⟨by decide, by decide⟩, by decide +kernel⟩
theorem t_Row_rootOf : Cond.static y_Row_rootOf.1 ∈ ab_T := (k7 73 rfl rfl)
def B_Row_rootOf_32 (N : Nat) (p0 : Int64) (kq6 : Int64 → Int32 → Hp → Option (Int64 × Hp)) (l2 : Int64) (l4 : Int32) (H : Hp) : Option (Int64 × Hp) :=
    kq6 l2 (l4 + (-1)) H
set_option maxRecDepth 20000 in
set_option maxHeartbeats 2000000 in
theorem mB_Row_rootOf_32 {N : Nat} {p0 : Int64} {kq6 : Int64 → Int32 → Hp → Option (Int64 × Hp)} (hm6 : ∀ (l2 : Int64) (l4 : Int32) (H : Hp) (r : Int64 × Hp), kq6 l2 l4 H = some r → Sa H r.2) {l2 : Int64} {l4 : Int32} {H : Hp} {r : Int64 × Hp} (hF : B_Row_rootOf_32 N p0 kq6 l2 l4 H = some r) : Sa H r.2 := by
  unfold B_Row_rootOf_32 at hF
  have hm := Sa.rf H
  exact hm.tr (hm6 l2 (l4 + (-1)) H r hF)
set_option maxRecDepth 20000 in
set_option maxHeartbeats 2000000 in
theorem kB_Row_rootOf_32 {N : Nat} {p0 : Int64} {kq6 : Int64 → Int32 → Hp → Option (Int64 × Hp)} (hm6 : ∀ (l2 : Int64) (l4 : Int32) (H : Hp) (r : Int64 × Hp), kq6 l2 l4 H = some r → Sa H r.2) (hk6 : ∀ (l2 : Int64) (l4 : Int32) (H : Hp) (r : Int64 × Hp), kq6 l2 l4 H = some r → ab_V y_Row_rootOf { frames := 0, cells := 0, slots := 0, locals := 0 } (po (.returned (some (.long r.1))) r.2) 0 0 0 0 6 [some (.long p0), none, some (.long l2), none, some (.int l4), none, none] [] (hpw H)) {l2 : Int64} {l4 : Int32} {H : Hp} {r : Int64 × Hp} (hF : B_Row_rootOf_32 N p0 kq6 l2 l4 H = some r) : ab_V y_Row_rootOf { frames := 0, cells := 0, slots := 0, locals := 0 } (po (.returned (some (.long r.1))) r.2) 0 0 0 0 32 [some (.long p0), none, some (.long l2), none, some (.int l4), none, none] [] (hpw H) := by
  unfold B_Row_rootOf_32 at hF
  refine ab_iinc (v := l4 + (-1)) (lv' := [some (.long p0), none, some (.long l2), none, some (.int (l4 + (-1))), none, none]) d_Row_rootOf_32 rfl rfl (by decide) rfl ?_
  refine ab_goto (tgt := 6) d_Row_rootOf_35 (by decide) ?_
  exact hk6 l2 (l4 + (-1)) H r hF
def B_Row_rootOf_6 (N : Nat) (p0 : Int64) : Nat → Int64 → Int32 → Hp → Option (Int64 × Hp)
  | 0, _, _, _ => none
  | n + 1, l2, l4, H =>
    if l4 < (0 : Int32) then
    some (l2, H)
    else
    bnd (l2 + ((1 : Int64) <<< ((l4 : Int32).toInt64 &&& 63))) fun x2 =>
    if (0 : Int32) < (lg_cmp (x2 * x2) p0) then
    B_Row_rootOf_32 N p0 (fun l2 l4 H => B_Row_rootOf_6 N p0 n l2 l4 H) l2 l4 H
    else
    B_Row_rootOf_32 N p0 (fun l2 l4 H => B_Row_rootOf_6 N p0 n l2 l4 H) x2 l4 H
termination_by structural n => n
set_option maxRecDepth 20000 in
set_option maxHeartbeats 2000000 in
theorem mB_Row_rootOf_6 {N : Nat} {p0 : Int64} : ∀ (n : Nat) (l2 : Int64) (l4 : Int32) (H : Hp) (r : Int64 × Hp), B_Row_rootOf_6 N p0 n l2 l4 H = some r → Sa H r.2 := by
  intro n
  induction n with
  | zero => intro l2 l4 H r hF; rw [B_Row_rootOf_6] at hF; cases hF
  | succ n ih =>
    intro l2 l4 H r hF
    rw [B_Row_rootOf_6] at hF
    have hm := Sa.rf H
    rcases ite_s hF with ⟨q_1, hG⟩ | ⟨q_1, hG⟩
    · clear hF
      have hr := Option.some.inj hG; subst hr
      exact hm
    · clear hF
      obtain ⟨x5, -, hF⟩ := bnd_g hG; clear hG
      rcases ite_s hF with ⟨q_2, hG⟩ | ⟨q_2, hG⟩
      · clear hF
        exact hm.tr (mB_Row_rootOf_32 ih hG)
      · clear hF
        exact hm.tr (mB_Row_rootOf_32 ih hG)
set_option maxRecDepth 20000 in
set_option maxHeartbeats 2000000 in
theorem kB_Row_rootOf_6 {N : Nat} {p0 : Int64} : ∀ (n : Nat) (l2 : Int64) (l4 : Int32) (H : Hp) (r : Int64 × Hp), B_Row_rootOf_6 N p0 n l2 l4 H = some r → ab_V y_Row_rootOf { frames := 0, cells := 0, slots := 0, locals := 0 } (po (.returned (some (.long r.1))) r.2) 0 0 0 0 6 [some (.long p0), none, some (.long l2), none, some (.int l4), none, none] [] (hpw H) := by
  intro n
  induction n with
  | zero => intro l2 l4 H r hF; rw [B_Row_rootOf_6] at hF; cases hF
  | succ n ih =>
    intro l2 l4 H r hF
    rw [B_Row_rootOf_6] at hF
    refine ab_iload d_Row_rootOf_6 rfl ?_
    refine ab_if_lt (tgt := 38) d_Row_rootOf_8 (by decide) (fun q1 => ?_) (fun q1 => ?_)
    · rw [if_pos q1] at hF
      refine ab_lload_n d_Row_rootOf_38 rfl rfl ?_
      exact ab_lret d_Row_rootOf_39 rfl (Nat.le_refl _) (Nat.le_refl _) (by have hr := Option.some.inj hF; subst hr; exact ⟨rfl, rfl⟩)
    · rw [if_neg q1] at hF
      refine ab_lload_n d_Row_rootOf_11 rfl rfl ?_
      refine ab_lconst (v := 1) d_Row_rootOf_12 (by decide) ?_
      refine ab_iload d_Row_rootOf_13 rfl ?_
      refine ab_lshl d_Row_rootOf_15 ?_
      refine ab_ladd d_Row_rootOf_16 ?_
      refine ab_topl (fun x2 ex2 => ?_)
      replace hF := bnd_s ex2 hF
      refine ab_lstore (lv' := [some (.long p0), none, some (.long l2), none, some (.int l4), some (.long x2), none]) d_Row_rootOf_17 (by decide) rfl ?_
      refine ab_lload d_Row_rootOf_19 rfl ?_
      refine ab_lload d_Row_rootOf_21 rfl ?_
      refine ab_lmul d_Row_rootOf_23 ?_
      refine ab_lload_n d_Row_rootOf_24 rfl rfl ?_
      refine ab_lcmp d_Row_rootOf_25 ?_
      refine ab_if_gt (tgt := 32) d_Row_rootOf_26 (by decide) (fun q3 => ?_) (fun q3 => ?_)
      · rw [if_pos q3] at hF
        refine ab_le (lv' := [some (.long p0), none, some (.long l2), none, some (.int l4), none, none]) ⟨rfl, ⟨rfl, ⟨rfl, trivial⟩⟩⟩ ?_
        exact kB_Row_rootOf_32 (mB_Row_rootOf_6 n) ih hF
      · rw [if_neg q3] at hF
        refine ab_lload d_Row_rootOf_29 rfl ?_
        refine ab_lstore_n (lv' := [some (.long p0), none, some (.long x2), none, some (.int l4), some (.long x2), none]) d_Row_rootOf_31 rfl (by decide) rfl ?_
        refine ab_le (lv' := [some (.long p0), none, some (.long x2), none, some (.int l4), none, none]) ⟨rfl, ⟨rfl, ⟨rfl, trivial⟩⟩⟩ ?_
        exact kB_Row_rootOf_32 (mB_Row_rootOf_6 n) ih hF
def F_Row_rootOf (N : Nat) (p0 : Int64) (H : Hp) : Option (Int64 × Hp) :=
    B_Row_rootOf_6 N p0 N 0 23 H
set_option maxRecDepth 20000 in
set_option maxHeartbeats 2000000 in
theorem m_Row_rootOf {N : Nat} {p0 : Int64} {H : Hp} {r : Int64 × Hp} (hF : F_Row_rootOf N p0 H = some r) : Sa H r.2 := by
  unfold F_Row_rootOf at hF
  have hm := Sa.rf H
  exact hm.tr (mB_Row_rootOf_6 N 0 23 H r hF)
set_option maxRecDepth 20000 in
set_option maxHeartbeats 2000000 in
theorem k_Row_rootOf {N : Nat} {p0 : Int64} {H : Hp} {r : Int64 × Hp} (hF : F_Row_rootOf N p0 H = some r) : ab_M y_Row_rootOf { frames := 0, cells := 0, slots := 0, locals := 0 } [.long p0] (hpw H) (po (.returned (some (.long r.1))) r.2) := by
  unfold F_Row_rootOf at hF
  refine ab_of2 (lv := [some (.long p0), none, none, none, none, none, none]) 5 rfl rfl (Nat.le_of_ble_eq_true rfl) ?_
  refine ab_lconst (v := 0) d_Row_rootOf_0 (by decide) ?_
  refine ab_lstore_n (lv' := [some (.long p0), none, some (.long 0), none, none, none, none]) d_Row_rootOf_1 rfl (by decide) rfl ?_
  refine ab_bipush (v := 23) d_Row_rootOf_2 (by decide) ?_
  refine ab_istore (lv' := [some (.long p0), none, some (.long 0), none, some (.int 23), none, none]) d_Row_rootOf_4 (by decide) rfl ?_
  exact kB_Row_rootOf_6 N 0 23 H r hF
def y_Row_fixes : ab_Y := (⟨"WorldEngine$Row", "fixes", "(I)V"⟩, prog_8_method_20_code, 6, none, [])
theorem d_Row_fixes_0 : decode y_Row_fixes.2.1 0 = .ok (.aload_n 0, 1) := by decide +kernel
theorem d_Row_fixes_1 : decode y_Row_fixes.2.1 1 = .ok (.invokevirtual 126, 3) := by decide +kernel
theorem d_Row_fixes_4 : decode y_Row_fixes.2.1 4 = .ok (.i2l, 1) := by decide +kernel
theorem d_Row_fixes_5 : decode y_Row_fixes.2.1 5 = .ok (.lstore_n 2, 1) := by decide +kernel
theorem d_Row_fixes_6 : decode y_Row_fixes.2.1 6 = .ok (.lconst 0, 1) := by decide +kernel
theorem d_Row_fixes_7 : decode y_Row_fixes.2.1 7 = .ok (.lstore 4, 2) := by decide +kernel
theorem d_Row_fixes_9 : decode y_Row_fixes.2.1 9 = .ok (.iload_n 1, 1) := by decide +kernel
theorem d_Row_fixes_10 : decode y_Row_fixes.2.1 10 = .ok (.tableswitch 165 70 76 #[42, 49, 61, 73, 91, 128, 156], 42) := by decide +kernel
theorem d_Row_fixes_52 : decode y_Row_fixes.2.1 52 = .ok (.lload_n 2, 1) := by decide +kernel
theorem d_Row_fixes_53 : decode y_Row_fixes.2.1 53 = .ok (.lneg, 1) := by decide +kernel
theorem d_Row_fixes_54 : decode y_Row_fixes.2.1 54 = .ok (.lstore 4, 2) := by decide +kernel
theorem d_Row_fixes_56 : decode y_Row_fixes.2.1 56 = .ok (.goto 126, 3) := by decide +kernel
theorem d_Row_fixes_59 : decode y_Row_fixes.2.1 59 = .ok (.aload_n 0, 1) := by decide +kernel
theorem d_Row_fixes_60 : decode y_Row_fixes.2.1 60 = .ok (.invokevirtual 126, 3) := by decide +kernel
theorem d_Row_fixes_63 : decode y_Row_fixes.2.1 63 = .ok (.i2l, 1) := by decide +kernel
theorem d_Row_fixes_64 : decode y_Row_fixes.2.1 64 = .ok (.lload_n 2, 1) := by decide +kernel
theorem d_Row_fixes_65 : decode y_Row_fixes.2.1 65 = .ok (.ladd, 1) := by decide +kernel
theorem d_Row_fixes_66 : decode y_Row_fixes.2.1 66 = .ok (.lstore 4, 2) := by decide +kernel
theorem d_Row_fixes_68 : decode y_Row_fixes.2.1 68 = .ok (.goto 114, 3) := by decide +kernel
theorem d_Row_fixes_71 : decode y_Row_fixes.2.1 71 = .ok (.aload_n 0, 1) := by decide +kernel
theorem d_Row_fixes_72 : decode y_Row_fixes.2.1 72 = .ok (.invokevirtual 126, 3) := by decide +kernel
theorem d_Row_fixes_75 : decode y_Row_fixes.2.1 75 = .ok (.i2l, 1) := by decide +kernel
theorem d_Row_fixes_76 : decode y_Row_fixes.2.1 76 = .ok (.lload_n 2, 1) := by decide +kernel
theorem d_Row_fixes_77 : decode y_Row_fixes.2.1 77 = .ok (.lsub, 1) := by decide +kernel
theorem d_Row_fixes_78 : decode y_Row_fixes.2.1 78 = .ok (.lstore 4, 2) := by decide +kernel
theorem d_Row_fixes_80 : decode y_Row_fixes.2.1 80 = .ok (.goto 102, 3) := by decide +kernel
theorem d_Row_fixes_83 : decode y_Row_fixes.2.1 83 = .ok (.aload_n 0, 1) := by decide +kernel
theorem d_Row_fixes_84 : decode y_Row_fixes.2.1 84 = .ok (.invokevirtual 126, 3) := by decide +kernel
theorem d_Row_fixes_87 : decode y_Row_fixes.2.1 87 = .ok (.i2l, 1) := by decide +kernel
theorem d_Row_fixes_88 : decode y_Row_fixes.2.1 88 = .ok (.lload_n 2, 1) := by decide +kernel
theorem d_Row_fixes_89 : decode y_Row_fixes.2.1 89 = .ok (.lmul, 1) := by decide +kernel
theorem d_Row_fixes_90 : decode y_Row_fixes.2.1 90 = .ok (.ldc2_w 230, 3) := by decide +kernel
theorem d_Row_fixes_93 : decode y_Row_fixes.2.1 93 = .ok (.invokestatic 232, 3) := by decide +kernel
theorem d_Row_fixes_96 : decode y_Row_fixes.2.1 96 = .ok (.lstore 4, 2) := by decide +kernel
theorem d_Row_fixes_98 : decode y_Row_fixes.2.1 98 = .ok (.goto 84, 3) := by decide +kernel
theorem d_Row_fixes_101 : decode y_Row_fixes.2.1 101 = .ok (.aload_n 0, 1) := by decide +kernel
theorem d_Row_fixes_102 : decode y_Row_fixes.2.1 102 = .ok (.invokevirtual 126, 3) := by decide +kernel
theorem d_Row_fixes_105 : decode y_Row_fixes.2.1 105 = .ok (.i2l, 1) := by decide +kernel
theorem d_Row_fixes_106 : decode y_Row_fixes.2.1 106 = .ok (.ldc2_w 230, 3) := by decide +kernel
theorem d_Row_fixes_109 : decode y_Row_fixes.2.1 109 = .ok (.lmul, 1) := by decide +kernel
theorem d_Row_fixes_110 : decode y_Row_fixes.2.1 110 = .ok (.lstore 4, 2) := by decide +kernel
theorem d_Row_fixes_112 : decode y_Row_fixes.2.1 112 = .ok (.aload_n 0, 1) := by decide +kernel
theorem d_Row_fixes_113 : decode y_Row_fixes.2.1 113 = .ok (.lload_n 2, 1) := by decide +kernel
theorem d_Row_fixes_114 : decode y_Row_fixes.2.1 114 = .ok (.lconst 0, 1) := by decide +kernel
theorem d_Row_fixes_115 : decode y_Row_fixes.2.1 115 = .ok (.lcmp, 1) := by decide +kernel
theorem d_Row_fixes_116 : decode y_Row_fixes.2.1 116 = .ok (.ifCond .ne 7, 3) := by decide +kernel
theorem d_Row_fixes_119 : decode y_Row_fixes.2.1 119 = .ok (.iconst 1, 1) := by decide +kernel
theorem d_Row_fixes_120 : decode y_Row_fixes.2.1 120 = .ok (.goto 4, 3) := by decide +kernel
theorem d_Row_fixes_123 : decode y_Row_fixes.2.1 123 = .ok (.iconst 0, 1) := by decide +kernel
theorem d_Row_fixes_124 : decode y_Row_fixes.2.1 124 = .ok (.putfield 71, 3) := by decide +kernel
theorem d_Row_fixes_127 : decode y_Row_fixes.2.1 127 = .ok (.lload 4, 2) := by decide +kernel
theorem d_Row_fixes_129 : decode y_Row_fixes.2.1 129 = .ok (.lload_n 2, 1) := by decide +kernel
theorem d_Row_fixes_130 : decode y_Row_fixes.2.1 130 = .ok (.invokestatic 232, 3) := by decide +kernel
theorem d_Row_fixes_133 : decode y_Row_fixes.2.1 133 = .ok (.lstore 4, 2) := by decide +kernel
theorem d_Row_fixes_135 : decode y_Row_fixes.2.1 135 = .ok (.goto 47, 3) := by decide +kernel
theorem d_Row_fixes_138 : decode y_Row_fixes.2.1 138 = .ok (.aload_n 0, 1) := by decide +kernel
theorem d_Row_fixes_139 : decode y_Row_fixes.2.1 139 = .ok (.lload_n 2, 1) := by decide +kernel
theorem d_Row_fixes_140 : decode y_Row_fixes.2.1 140 = .ok (.lconst 0, 1) := by decide +kernel
theorem d_Row_fixes_141 : decode y_Row_fixes.2.1 141 = .ok (.lcmp, 1) := by decide +kernel
theorem d_Row_fixes_142 : decode y_Row_fixes.2.1 142 = .ok (.ifCond .ge 7, 3) := by decide +kernel
theorem d_Row_fixes_145 : decode y_Row_fixes.2.1 145 = .ok (.iconst 2, 1) := by decide +kernel
theorem d_Row_fixes_146 : decode y_Row_fixes.2.1 146 = .ok (.goto 4, 3) := by decide +kernel
theorem d_Row_fixes_149 : decode y_Row_fixes.2.1 149 = .ok (.iconst 0, 1) := by decide +kernel
theorem d_Row_fixes_150 : decode y_Row_fixes.2.1 150 = .ok (.putfield 71, 3) := by decide +kernel
theorem d_Row_fixes_153 : decode y_Row_fixes.2.1 153 = .ok (.lload_n 2, 1) := by decide +kernel
theorem d_Row_fixes_154 : decode y_Row_fixes.2.1 154 = .ok (.ldc2_w 230, 3) := by decide +kernel
theorem d_Row_fixes_157 : decode y_Row_fixes.2.1 157 = .ok (.lmul, 1) := by decide +kernel
theorem d_Row_fixes_158 : decode y_Row_fixes.2.1 158 = .ok (.invokestatic 235, 3) := by decide +kernel
theorem d_Row_fixes_161 : decode y_Row_fixes.2.1 161 = .ok (.lstore 4, 2) := by decide +kernel
theorem d_Row_fixes_163 : decode y_Row_fixes.2.1 163 = .ok (.goto 19, 3) := by decide +kernel
theorem d_Row_fixes_166 : decode y_Row_fixes.2.1 166 = .ok (.lload_n 2, 1) := by decide +kernel
theorem d_Row_fixes_167 : decode y_Row_fixes.2.1 167 = .ok (.bipush 16, 2) := by decide +kernel
theorem d_Row_fixes_169 : decode y_Row_fixes.2.1 169 = .ok (.lshr, 1) := by decide +kernel
theorem d_Row_fixes_170 : decode y_Row_fixes.2.1 170 = .ok (.lstore 4, 2) := by decide +kernel
theorem d_Row_fixes_172 : decode y_Row_fixes.2.1 172 = .ok (.goto 10, 3) := by decide +kernel
theorem d_Row_fixes_175 : decode y_Row_fixes.2.1 175 = .ok (.lload_n 2, 1) := by decide +kernel
theorem d_Row_fixes_176 : decode y_Row_fixes.2.1 176 = .ok (.ldc2_w 230, 3) := by decide +kernel
theorem d_Row_fixes_179 : decode y_Row_fixes.2.1 179 = .ok (.lmul, 1) := by decide +kernel
theorem d_Row_fixes_180 : decode y_Row_fixes.2.1 180 = .ok (.lstore 4, 2) := by decide +kernel
theorem d_Row_fixes_182 : decode y_Row_fixes.2.1 182 = .ok (.aload_n 0, 1) := by decide +kernel
theorem d_Row_fixes_183 : decode y_Row_fixes.2.1 183 = .ok (.ldc2_w 238, 3) := by decide +kernel
theorem d_Row_fixes_186 : decode y_Row_fixes.2.1 186 = .ok (.ldc2_w 240, 3) := by decide +kernel
theorem d_Row_fixes_189 : decode y_Row_fixes.2.1 189 = .ok (.lload 4, 2) := by decide +kernel
theorem d_Row_fixes_191 : decode y_Row_fixes.2.1 191 = .ok (.invokestatic 242, 3) := by decide +kernel
theorem d_Row_fixes_194 : decode y_Row_fixes.2.1 194 = .ok (.invokestatic 161, 3) := by decide +kernel
theorem d_Row_fixes_197 : decode y_Row_fixes.2.1 197 = .ok (.l2i, 1) := by decide +kernel
theorem d_Row_fixes_198 : decode y_Row_fixes.2.1 198 = .ok (.invokevirtual 129, 3) := by decide +kernel
theorem d_Row_fixes_201 : decode y_Row_fixes.2.1 201 = .ok (.return_, 1) := by decide +kernel
theorem s_Row_fixes : ab_Stat y_Row_fixes 1 := ⟨(k7 63 rfl rfl), (k1 13 rfl rfl), ⟨by decide, by decide⟩, by decide +kernel⟩
theorem i_Row_fixes : Cond.instanceMethod y_Row_fixes.1 ∈ ab_T := (k7 62 rfl rfl)
theorem v_Row_fixes : Cond.selects "WorldEngine$Row" y_Row_fixes.1 y_Row_fixes.1 ∈ ab_T := ab_s (List.mem_of_getElem? (i := 82) rfl) rfl
def B_Row_fixes_182 (N : Nat) (p0 : Nat) (p1 : Int32) (l4 : Int64) (H : Hp) : Option (Unit × Hp) :=
    bC (F_Math_min2 N (2147483647 : Int64) l4 H) fun v8 H9 =>
    bC (F_Math_max2 N ((-2147483648) : Int64) v8 H9) fun v11 H12 =>
    ck (H12.sh[p0]? = some (8, 0)) <|
    bC (F_Row_push N p0 ((v11 : Int64).toInt32) H12) fun v15 H16 =>
    some ((), H16)
set_option maxRecDepth 20000 in
set_option maxHeartbeats 2000000 in
theorem mB_Row_fixes_182 {N : Nat} {p0 : Nat} {p1 : Int32} {l4 : Int64} {H : Hp} {r : Unit × Hp} (hF : B_Row_fixes_182 N p0 p1 l4 H = some r) : Sa H r.2 := by
  unfold B_Row_fixes_182 at hF
  have hm := Sa.rf H
  obtain ⟨v18, H19, z17, hG⟩ := bC_s hF; clear hF
  replace hm : Sa H H19 := hm.tr (m_Math_min2 z17)
  obtain ⟨v21, H22, z20, hF⟩ := bC_s hG; clear hG
  replace hm : Sa H H22 := hm.tr (m_Math_max2 z20)
  obtain ⟨q23, hG⟩ := ck_s hF; clear hF
  obtain ⟨v25, H26, z24, hF⟩ := bC_s hG; clear hG
  replace hm : Sa H H26 := hm.tr (m_Row_push z24)
  have hr := Option.some.inj hF; subst hr
  exact hm
set_option maxRecDepth 20000 in
set_option maxHeartbeats 2000000 in
theorem kB_Row_fixes_182 {N : Nat} {p0 : Nat} {p1 : Int32} {l4 : Int64} {H : Hp} {r : Unit × Hp} (hF : B_Row_fixes_182 N p0 p1 l4 H = some r) : ab_V y_Row_fixes { frames := 2, cells := 0, slots := 0, locals := 57 } (po (.returned none) r.2) 0 0 0 0 182 [some (.ref p0), some (.int p1), none, none, some (.long l4), none] [] (hpw H) := by
  unfold B_Row_fixes_182 at hF
  refine ab_aload_n d_Row_fixes_182 rfl rfl rfl ?_
  refine ab_ldc2 d_Row_fixes_183 (k7 75 rfl rfl) ?_
  refine ab_ldc2 d_Row_fixes_186 (k7 76 rfl rfl) ?_
  refine ab_lload d_Row_fixes_189 rfl ?_
  obtain ⟨v8, H9, z7, hG⟩ := bC_s hF; clear hF
  refine hp_callS_a (v := .long v8) (H1 := H9) (As := [.long 2147483647, .long l4]) (rest := [.long (-2147483648), .ref p0]) d_Row_fixes_191 (k_Math_min2 z7) (ab_mkC s_Math_min2 (Nat.le_of_ble_eq_true rfl) (Nat.le_of_ble_eq_true rfl) (Nat.le_refl 0) (Nat.le_refl 0)) (k7 77 rfl rfl) t_Math_min2 rfl (Nat.le_of_ble_eq_true rfl) ?_
  have s_2 : Sa H H9 := (m_Math_min2 z7)
  obtain ⟨v11, H12, z10, hF⟩ := bC_s hG; clear hG
  refine hp_callS_a (v := .long v11) (H1 := H12) (As := [.long (-2147483648), .long v8]) (rest := [.ref p0]) d_Row_fixes_194 (k_Math_max2 z10) (ab_mkC s_Math_max2 (Nat.le_of_ble_eq_true rfl) (Nat.le_of_ble_eq_true rfl) (Nat.le_refl 0) (Nat.le_refl 0)) (k6 230 rfl rfl) t_Math_max2 rfl (Nat.le_of_ble_eq_true rfl) ?_
  have s_3 : Sa H H12 := (s_2).tr (m_Math_max2 z10)
  refine ab_l2i d_Row_fixes_197 ?_
  obtain ⟨q13, hG⟩ := ck_s hF; clear hF
  rw [(s_3).1] at q13
  obtain ⟨v15, H16, z14, hF⟩ := bC_s hG; clear hG
  refine hp_callV_v (H1 := H16) (As := [.int ((v11 : Int64).toInt32)]) (rest := []) d_Row_fixes_198 (k_Row_push z14) (ab_mkC s_Row_push (Nat.le_of_ble_eq_true rfl) (Nat.le_of_ble_eq_true rfl) (Nat.le_refl 0) (Nat.le_refl 0)) (k6 218 rfl rfl) i_Row_push v_Row_push (by rw [(s_3).1]; exact q13) (by decide) rfl rfl (Nat.le_of_ble_eq_true rfl) ?_
  have s_4 : Sa H H16 := (s_3).tr (m_Row_push z14)
  exact ab_vret d_Row_fixes_201 rfl (Nat.le_refl _) (Nat.le_refl _) (by have hr := Option.some.inj hF; subst hr; exact ⟨rfl, rfl⟩)
def B_Row_fixes_124 (N : Nat) (p0 : Nat) (p1 : Int32) (l2 : Int64) (l4 : Int64) (w0 : Nat) (w1 : Int32) (H : Hp) : Option (Unit × Hp) :=
    ck (H.sh[w0]? = some (8, 0)) <|
    bnd (H.sD w0 16 w1) fun H51 =>
    bC (F_Row_rounded N l4 l2 H51) fun v53 H54 =>
    B_Row_fixes_182 N p0 p1 v53 H54
set_option maxRecDepth 20000 in
set_option maxHeartbeats 2000000 in
theorem mB_Row_fixes_124 {N : Nat} {p0 : Nat} {p1 : Int32} {l2 : Int64} {l4 : Int64} {w0 : Nat} {w1 : Int32} {H : Hp} {r : Unit × Hp} (hF : B_Row_fixes_124 N p0 p1 l2 l4 w0 w1 H = some r) : Sa H r.2 := by
  unfold B_Row_fixes_124 at hF
  have hm := Sa.rf H
  obtain ⟨q55, hG⟩ := ck_s hF; clear hF
  obtain ⟨H56, eH56, hF⟩ := bnd_g hG; clear hG
  replace hm : Sa H H56 := by rw [eH56]; exact hm
  obtain ⟨v58, H59, z57, hG⟩ := bC_s hF; clear hF
  replace hm : Sa H H59 := hm.tr (m_Row_rounded z57)
  exact hm.tr (mB_Row_fixes_182 hG)
set_option maxRecDepth 20000 in
set_option maxHeartbeats 2000000 in
theorem kB_Row_fixes_124 {N : Nat} {p0 : Nat} {p1 : Int32} {l2 : Int64} {l4 : Int64} {w0 : Nat} {w1 : Int32} {H : Hp} {r : Unit × Hp} (hF : B_Row_fixes_124 N p0 p1 l2 l4 w0 w1 H = some r) : ab_V y_Row_fixes { frames := 2, cells := 0, slots := 0, locals := 57 } (po (.returned none) r.2) 0 0 0 0 124 [some (.ref p0), some (.int p1), some (.long l2), none, some (.long l4), none] [.int w1, .ref w0] (hpw H) := by
  unfold B_Row_fixes_124 at hF
  obtain ⟨q50, hG⟩ := ck_s hF; clear hF
  refine hp_putI (v := w1) (f := 16) d_Row_fixes_124 q50 (by decide) rfl (by decide) (k2 78 rfl rfl) rfl rfl (fun _ => rfl) (fun _ => rfl) rfl ?_
  refine hp_gen (fun H51 eH51 => ?_)
  replace hG := bnd_s eH51 hG
  have s_13 : Sa H H51 := by rw [eH51]; exact Sa.rf _
  refine ab_lload d_Row_fixes_127 rfl ?_
  refine ab_lload_n d_Row_fixes_129 rfl rfl ?_
  obtain ⟨v53, H54, z52, hF⟩ := bC_s hG; clear hG
  refine hp_callS_a (v := .long v53) (H1 := H54) (As := [.long l4, .long l2]) (rest := []) d_Row_fixes_130 (k_Row_rounded z52) (ab_mkC s_Row_rounded (Nat.le_of_ble_eq_true rfl) (Nat.le_of_ble_eq_true rfl) (Nat.le_refl 0) (Nat.le_refl 0)) (k7 65 rfl rfl) t_Row_rounded rfl (Nat.le_of_ble_eq_true rfl) ?_
  have s_14 : Sa H H54 := (s_13).tr (m_Row_rounded z52)
  refine ab_lstore (lv' := [some (.ref p0), some (.int p1), some (.long l2), none, some (.long v53), none]) d_Row_fixes_133 (by decide) rfl ?_
  refine ab_goto (tgt := 182) d_Row_fixes_135 (by decide) ?_
  refine ab_le (lv' := [some (.ref p0), some (.int p1), none, none, some (.long v53), none]) ⟨rfl, ⟨rfl, ⟨rfl, trivial⟩⟩⟩ ?_
  exact kB_Row_fixes_182 hF
def B_Row_fixes_150 (N : Nat) (p0 : Nat) (p1 : Int32) (l2 : Int64) (w0 : Nat) (w1 : Int32) (H : Hp) : Option (Unit × Hp) :=
    ck (H.sh[w0]? = some (8, 0)) <|
    bnd (H.sD w0 16 w1) fun H63 =>
    bC (F_Row_rootOf N (l2 * (65536 : Int64)) H63) fun v65 H66 =>
    B_Row_fixes_182 N p0 p1 v65 H66
set_option maxRecDepth 20000 in
set_option maxHeartbeats 2000000 in
theorem mB_Row_fixes_150 {N : Nat} {p0 : Nat} {p1 : Int32} {l2 : Int64} {w0 : Nat} {w1 : Int32} {H : Hp} {r : Unit × Hp} (hF : B_Row_fixes_150 N p0 p1 l2 w0 w1 H = some r) : Sa H r.2 := by
  unfold B_Row_fixes_150 at hF
  have hm := Sa.rf H
  obtain ⟨q67, hG⟩ := ck_s hF; clear hF
  obtain ⟨H68, eH68, hF⟩ := bnd_g hG; clear hG
  replace hm : Sa H H68 := by rw [eH68]; exact hm
  obtain ⟨v70, H71, z69, hG⟩ := bC_s hF; clear hF
  replace hm : Sa H H71 := hm.tr (m_Row_rootOf z69)
  exact hm.tr (mB_Row_fixes_182 hG)
set_option maxRecDepth 20000 in
set_option maxHeartbeats 2000000 in
theorem kB_Row_fixes_150 {N : Nat} {p0 : Nat} {p1 : Int32} {l2 : Int64} {w0 : Nat} {w1 : Int32} {H : Hp} {r : Unit × Hp} (hF : B_Row_fixes_150 N p0 p1 l2 w0 w1 H = some r) : ab_V y_Row_fixes { frames := 2, cells := 0, slots := 0, locals := 57 } (po (.returned none) r.2) 0 0 0 0 150 [some (.ref p0), some (.int p1), some (.long l2), none, none, none] [.int w1, .ref w0] (hpw H) := by
  unfold B_Row_fixes_150 at hF
  obtain ⟨q62, hG⟩ := ck_s hF; clear hF
  refine hp_putI (v := w1) (f := 16) d_Row_fixes_150 q62 (by decide) rfl (by decide) (k2 78 rfl rfl) rfl rfl (fun _ => rfl) (fun _ => rfl) rfl ?_
  refine hp_gen (fun H63 eH63 => ?_)
  replace hG := bnd_s eH63 hG
  have s_17 : Sa H H63 := by rw [eH63]; exact Sa.rf _
  refine ab_lload_n d_Row_fixes_153 rfl rfl ?_
  refine ab_ldc2 d_Row_fixes_154 (k7 64 rfl rfl) ?_
  refine ab_lmul d_Row_fixes_157 ?_
  obtain ⟨v65, H66, z64, hF⟩ := bC_s hG; clear hG
  refine hp_callS_a (v := .long v65) (H1 := H66) (As := [.long (l2 * (65536 : Int64))]) (rest := []) d_Row_fixes_158 (k_Row_rootOf z64) (ab_mkC s_Row_rootOf (Nat.le_of_ble_eq_true rfl) (Nat.le_of_ble_eq_true rfl) (Nat.le_refl 0) (Nat.le_refl 0)) (k7 72 rfl rfl) t_Row_rootOf rfl (Nat.le_of_ble_eq_true rfl) ?_
  have s_18 : Sa H H66 := (s_17).tr (m_Row_rootOf z64)
  refine ab_lstore (lv' := [some (.ref p0), some (.int p1), some (.long l2), none, some (.long v65), none]) d_Row_fixes_161 (by decide) rfl ?_
  refine ab_goto (tgt := 182) d_Row_fixes_163 (by decide) ?_
  refine ab_le (lv' := [some (.ref p0), some (.int p1), none, none, some (.long v65), none]) ⟨rfl, ⟨rfl, ⟨rfl, trivial⟩⟩⟩ ?_
  exact kB_Row_fixes_182 hF
def F_Row_fixes (N : Nat) (p0 : Nat) (p1 : Int32) (H : Hp) : Option (Unit × Hp) :=
    ck (H.sh[p0]? = some (8, 0)) <|
    bC (F_Row_pop N p0 H) fun v3 H4 =>
    bnd ((v3 : Int32).toInt64) fun x5 =>
    if p1 = 70 then
    B_Row_fixes_182 N p0 p1 (-x5) H4
    else if p1 = 71 then
    bC (F_Row_pop N p0 H4) fun v29 H30 =>
    bnd (((v29 : Int32).toInt64) + x5) fun x31 =>
    B_Row_fixes_182 N p0 p1 x31 H30
    else if p1 = 72 then
    bC (F_Row_pop N p0 H4) fun v34 H35 =>
    bnd (((v34 : Int32).toInt64) - x5) fun x36 =>
    B_Row_fixes_182 N p0 p1 x36 H35
    else if p1 = 73 then
    bC (F_Row_pop N p0 H4) fun v39 H40 =>
    bC (F_Row_rounded N (((v39 : Int32).toInt64) * x5) (65536 : Int64) H40) fun v42 H43 =>
    B_Row_fixes_182 N p0 p1 v42 H43
    else if p1 = 74 then
    bC (F_Row_pop N p0 H4) fun v46 H47 =>
    bnd (((v46 : Int32).toInt64) * (65536 : Int64)) fun x48 =>
    if (lg_cmp x5 (0 : Int64)) = (0 : Int32) then
    B_Row_fixes_124 N p0 p1 x5 x48 p0 1 H47
    else
    B_Row_fixes_124 N p0 p1 x5 x48 p0 0 H47
    else if p1 = 75 then
    if (0 : Int32) ≤ (lg_cmp x5 (0 : Int64)) then
    B_Row_fixes_150 N p0 p1 x5 p0 0 H4
    else
    B_Row_fixes_150 N p0 p1 x5 p0 2 H4
    else if p1 = 76 then
    bnd (x5 >>> (((16 : Int32) : Int32).toInt64 &&& 63)) fun x73 =>
    B_Row_fixes_182 N p0 p1 x73 H4
    else bnd (x5 * (65536 : Int64)) fun x74 =>
    B_Row_fixes_182 N p0 p1 x74 H4
set_option maxRecDepth 20000 in
set_option maxHeartbeats 2000000 in
theorem m_Row_fixes {N : Nat} {p0 : Nat} {p1 : Int32} {H : Hp} {r : Unit × Hp} (hF : F_Row_fixes N p0 p1 H = some r) : Sa H r.2 := by
  unfold F_Row_fixes at hF
  have hm := Sa.rf H
  obtain ⟨q75, hG⟩ := ck_s hF; clear hF
  obtain ⟨v77, H78, z76, hF⟩ := bC_s hG; clear hG
  replace hm : Sa H H78 := hm.tr (m_Row_pop z76)
  obtain ⟨x79, -, hG⟩ := bnd_g hF; clear hF
  rcases ite_s hG with ⟨q_22, hF⟩ | ⟨q_22, hF⟩
  · clear hG
    exact hm.tr (mB_Row_fixes_182 hF)
  clear hG
  rcases ite_s hF with ⟨q_23, hG⟩ | ⟨q_23, hG⟩
  · clear hF
    obtain ⟨v83, H84, z82, hF⟩ := bC_s hG; clear hG
    replace hm : Sa H H84 := hm.tr (m_Row_pop z82)
    obtain ⟨x85, -, hG⟩ := bnd_g hF; clear hF
    exact hm.tr (mB_Row_fixes_182 hG)
  clear hF
  rcases ite_s hG with ⟨q_25, hF⟩ | ⟨q_25, hF⟩
  · clear hG
    obtain ⟨v88, H89, z87, hG⟩ := bC_s hF; clear hF
    replace hm : Sa H H89 := hm.tr (m_Row_pop z87)
    obtain ⟨x90, -, hF⟩ := bnd_g hG; clear hG
    exact hm.tr (mB_Row_fixes_182 hF)
  clear hG
  rcases ite_s hF with ⟨q_27, hG⟩ | ⟨q_27, hG⟩
  · clear hF
    obtain ⟨v93, H94, z92, hF⟩ := bC_s hG; clear hG
    replace hm : Sa H H94 := hm.tr (m_Row_pop z92)
    obtain ⟨v96, H97, z95, hG⟩ := bC_s hF; clear hF
    replace hm : Sa H H97 := hm.tr (m_Row_rounded z95)
    exact hm.tr (mB_Row_fixes_182 hG)
  clear hF
  rcases ite_s hG with ⟨q_30, hF⟩ | ⟨q_30, hF⟩
  · clear hG
    obtain ⟨v100, H101, z99, hG⟩ := bC_s hF; clear hF
    replace hm : Sa H H101 := hm.tr (m_Row_pop z99)
    obtain ⟨x102, -, hF⟩ := bnd_g hG; clear hG
    rcases ite_s hF with ⟨q_32, hG⟩ | ⟨q_32, hG⟩
    · clear hF
      exact hm.tr (mB_Row_fixes_124 hG)
    · clear hF
      exact hm.tr (mB_Row_fixes_124 hG)
  clear hG
  rcases ite_s hF with ⟨q_33, hG⟩ | ⟨q_33, hG⟩
  · clear hF
    rcases ite_s hG with ⟨q_34, hF⟩ | ⟨q_34, hF⟩
    · clear hG
      exact hm.tr (mB_Row_fixes_150 hF)
    · clear hG
      exact hm.tr (mB_Row_fixes_150 hF)
  clear hF
  rcases ite_s hG with ⟨q_35, hF⟩ | ⟨q_35, hF⟩
  · clear hG
    obtain ⟨x107, -, hG⟩ := bnd_g hF; clear hF
    exact hm.tr (mB_Row_fixes_182 hG)
  clear hG
  obtain ⟨x108, -, hG⟩ := bnd_g hF; clear hF
  exact hm.tr (mB_Row_fixes_182 hG)
set_option maxRecDepth 20000 in
set_option maxHeartbeats 2000000 in
theorem k_Row_fixes {N : Nat} {p0 : Nat} {p1 : Int32} {H : Hp} {r : Unit × Hp} (hF : F_Row_fixes N p0 p1 H = some r) : ab_M y_Row_fixes { frames := 2, cells := 0, slots := 0, locals := 57 } [.ref p0, .int p1] (hpw H) (po (.returned none) r.2) := by
  unfold F_Row_fixes at hF
  refine ab_of2 (lv := [some (.ref p0), some (.int p1), none, none, none, none]) 4 rfl rfl (Nat.le_of_ble_eq_true rfl) ?_
  refine ab_aload_n d_Row_fixes_0 rfl rfl rfl ?_
  obtain ⟨q1, hG⟩ := ck_s hF; clear hF
  obtain ⟨v3, H4, z2, hF⟩ := bC_s hG; clear hG
  refine hp_callV_a (v := .int v3) (H1 := H4) (As := []) (rest := []) d_Row_fixes_1 (k_Row_pop z2) (ab_mkC s_Row_pop (Nat.le_of_ble_eq_true rfl) (Nat.le_of_ble_eq_true rfl) (Nat.le_refl 0) (Nat.le_refl 0)) (k6 214 rfl rfl) i_Row_pop v_Row_pop q1 (by decide) rfl rfl (Nat.le_of_ble_eq_true rfl) ?_
  have s_1 : Sa H H4 := (m_Row_pop z2)
  refine ab_i2l d_Row_fixes_4 ?_
  refine ab_topl (fun x5 ex5 => ?_)
  replace hF := bnd_s ex5 hF
  refine ab_lstore_n (lv' := [some (.ref p0), some (.int p1), some (.long x5), none, none, none]) d_Row_fixes_5 rfl (by decide) rfl ?_
  refine ab_lconst (v := 0) d_Row_fixes_6 (by decide) ?_
  refine ab_lstore (lv' := [some (.ref p0), some (.int p1), some (.long x5), none, some (.long 0), none]) d_Row_fixes_7 (by decide) rfl ?_
  refine ab_iload_n d_Row_fixes_9 rfl rfl ?_
  by_cases t6 : p1 = 70
  · rw [if_pos t6] at hF
    refine ab_tableIn (off := 42) (tgt := 52) d_Row_fixes_10 (by rw [t6]; decide) (by rw [t6]; decide) (by rw [t6]; decide) (by decide) ?_
    refine ab_lload_n d_Row_fixes_52 rfl rfl ?_
    refine ab_lneg d_Row_fixes_53 ?_
    refine ab_lstore (lv' := [some (.ref p0), some (.int p1), some (.long x5), none, some (.long (-x5)), none]) d_Row_fixes_54 (by decide) rfl ?_
    refine ab_goto (tgt := 182) d_Row_fixes_56 (by decide) ?_
    refine ab_le (lv' := [some (.ref p0), some (.int p1), none, none, some (.long (-x5)), none]) ⟨rfl, ⟨rfl, ⟨rfl, trivial⟩⟩⟩ ?_
    exact kB_Row_fixes_182 hF
  rw [if_neg t6] at hF
  have ut6 : ¬ (70 : Int) = (p1).toInt := fun z => t6 (Int32.toInt_inj.mp (z.symm.trans (by decide)))
  by_cases t27 : p1 = 71
  · rw [if_pos t27] at hF
    refine ab_tableIn (off := 49) (tgt := 59) d_Row_fixes_10 (by rw [t27]; decide) (by rw [t27]; decide) (by rw [t27]; decide) (by decide) ?_
    refine ab_aload_n d_Row_fixes_59 rfl rfl rfl ?_
    obtain ⟨v29, H30, z28, hG⟩ := bC_s hF; clear hF
    refine hp_callV_a (v := .int v29) (H1 := H30) (As := []) (rest := []) d_Row_fixes_60 (k_Row_pop z28) (ab_mkC s_Row_pop (Nat.le_of_ble_eq_true rfl) (Nat.le_of_ble_eq_true rfl) (Nat.le_refl 0) (Nat.le_refl 0)) (k6 214 rfl rfl) i_Row_pop v_Row_pop (by rw [(s_1).1]; exact q1) (by decide) rfl rfl (Nat.le_of_ble_eq_true rfl) ?_
    have s_8 : Sa H H30 := (s_1).tr (m_Row_pop z28)
    refine ab_i2l d_Row_fixes_63 ?_
    refine ab_lload_n d_Row_fixes_64 rfl rfl ?_
    refine ab_ladd d_Row_fixes_65 ?_
    refine ab_topl (fun x31 ex31 => ?_)
    replace hG := bnd_s ex31 hG
    refine ab_lstore (lv' := [some (.ref p0), some (.int p1), some (.long x5), none, some (.long x31), none]) d_Row_fixes_66 (by decide) rfl ?_
    refine ab_goto (tgt := 182) d_Row_fixes_68 (by decide) ?_
    refine ab_le (lv' := [some (.ref p0), some (.int p1), none, none, some (.long x31), none]) ⟨rfl, ⟨rfl, ⟨rfl, trivial⟩⟩⟩ ?_
    exact kB_Row_fixes_182 hG
  rw [if_neg t27] at hF
  have ut27 : ¬ (71 : Int) = (p1).toInt := fun z => t27 (Int32.toInt_inj.mp (z.symm.trans (by decide)))
  by_cases t32 : p1 = 72
  · rw [if_pos t32] at hF
    refine ab_tableIn (off := 61) (tgt := 71) d_Row_fixes_10 (by rw [t32]; decide) (by rw [t32]; decide) (by rw [t32]; decide) (by decide) ?_
    refine ab_aload_n d_Row_fixes_71 rfl rfl rfl ?_
    obtain ⟨v34, H35, z33, hG⟩ := bC_s hF; clear hF
    refine hp_callV_a (v := .int v34) (H1 := H35) (As := []) (rest := []) d_Row_fixes_72 (k_Row_pop z33) (ab_mkC s_Row_pop (Nat.le_of_ble_eq_true rfl) (Nat.le_of_ble_eq_true rfl) (Nat.le_refl 0) (Nat.le_refl 0)) (k6 214 rfl rfl) i_Row_pop v_Row_pop (by rw [(s_1).1]; exact q1) (by decide) rfl rfl (Nat.le_of_ble_eq_true rfl) ?_
    have s_9 : Sa H H35 := (s_1).tr (m_Row_pop z33)
    refine ab_i2l d_Row_fixes_75 ?_
    refine ab_lload_n d_Row_fixes_76 rfl rfl ?_
    refine ab_lsub d_Row_fixes_77 ?_
    refine ab_topl (fun x36 ex36 => ?_)
    replace hG := bnd_s ex36 hG
    refine ab_lstore (lv' := [some (.ref p0), some (.int p1), some (.long x5), none, some (.long x36), none]) d_Row_fixes_78 (by decide) rfl ?_
    refine ab_goto (tgt := 182) d_Row_fixes_80 (by decide) ?_
    refine ab_le (lv' := [some (.ref p0), some (.int p1), none, none, some (.long x36), none]) ⟨rfl, ⟨rfl, ⟨rfl, trivial⟩⟩⟩ ?_
    exact kB_Row_fixes_182 hG
  rw [if_neg t32] at hF
  have ut32 : ¬ (72 : Int) = (p1).toInt := fun z => t32 (Int32.toInt_inj.mp (z.symm.trans (by decide)))
  by_cases t37 : p1 = 73
  · rw [if_pos t37] at hF
    refine ab_tableIn (off := 73) (tgt := 83) d_Row_fixes_10 (by rw [t37]; decide) (by rw [t37]; decide) (by rw [t37]; decide) (by decide) ?_
    refine ab_aload_n d_Row_fixes_83 rfl rfl rfl ?_
    obtain ⟨v39, H40, z38, hG⟩ := bC_s hF; clear hF
    refine hp_callV_a (v := .int v39) (H1 := H40) (As := []) (rest := []) d_Row_fixes_84 (k_Row_pop z38) (ab_mkC s_Row_pop (Nat.le_of_ble_eq_true rfl) (Nat.le_of_ble_eq_true rfl) (Nat.le_refl 0) (Nat.le_refl 0)) (k6 214 rfl rfl) i_Row_pop v_Row_pop (by rw [(s_1).1]; exact q1) (by decide) rfl rfl (Nat.le_of_ble_eq_true rfl) ?_
    have s_10 : Sa H H40 := (s_1).tr (m_Row_pop z38)
    refine ab_i2l d_Row_fixes_87 ?_
    refine ab_lload_n d_Row_fixes_88 rfl rfl ?_
    refine ab_lmul d_Row_fixes_89 ?_
    refine ab_ldc2 d_Row_fixes_90 (k7 64 rfl rfl) ?_
    obtain ⟨v42, H43, z41, hF⟩ := bC_s hG; clear hG
    refine hp_callS_a (v := .long v42) (H1 := H43) (As := [.long (((v39 : Int32).toInt64) * x5), .long 65536]) (rest := []) d_Row_fixes_93 (k_Row_rounded z41) (ab_mkC s_Row_rounded (Nat.le_of_ble_eq_true rfl) (Nat.le_of_ble_eq_true rfl) (Nat.le_refl 0) (Nat.le_refl 0)) (k7 65 rfl rfl) t_Row_rounded rfl (Nat.le_of_ble_eq_true rfl) ?_
    have s_11 : Sa H H43 := (s_10).tr (m_Row_rounded z41)
    refine ab_lstore (lv' := [some (.ref p0), some (.int p1), some (.long x5), none, some (.long v42), none]) d_Row_fixes_96 (by decide) rfl ?_
    refine ab_goto (tgt := 182) d_Row_fixes_98 (by decide) ?_
    refine ab_le (lv' := [some (.ref p0), some (.int p1), none, none, some (.long v42), none]) ⟨rfl, ⟨rfl, ⟨rfl, trivial⟩⟩⟩ ?_
    exact kB_Row_fixes_182 hF
  rw [if_neg t37] at hF
  have ut37 : ¬ (73 : Int) = (p1).toInt := fun z => t37 (Int32.toInt_inj.mp (z.symm.trans (by decide)))
  by_cases t44 : p1 = 74
  · rw [if_pos t44] at hF
    refine ab_tableIn (off := 91) (tgt := 101) d_Row_fixes_10 (by rw [t44]; decide) (by rw [t44]; decide) (by rw [t44]; decide) (by decide) ?_
    refine ab_aload_n d_Row_fixes_101 rfl rfl rfl ?_
    obtain ⟨v46, H47, z45, hG⟩ := bC_s hF; clear hF
    refine hp_callV_a (v := .int v46) (H1 := H47) (As := []) (rest := []) d_Row_fixes_102 (k_Row_pop z45) (ab_mkC s_Row_pop (Nat.le_of_ble_eq_true rfl) (Nat.le_of_ble_eq_true rfl) (Nat.le_refl 0) (Nat.le_refl 0)) (k6 214 rfl rfl) i_Row_pop v_Row_pop (by rw [(s_1).1]; exact q1) (by decide) rfl rfl (Nat.le_of_ble_eq_true rfl) ?_
    have s_12 : Sa H H47 := (s_1).tr (m_Row_pop z45)
    refine ab_i2l d_Row_fixes_105 ?_
    refine ab_ldc2 d_Row_fixes_106 (k7 64 rfl rfl) ?_
    refine ab_lmul d_Row_fixes_109 ?_
    refine ab_topl (fun x48 ex48 => ?_)
    replace hG := bnd_s ex48 hG
    refine ab_lstore (lv' := [some (.ref p0), some (.int p1), some (.long x5), none, some (.long x48), none]) d_Row_fixes_110 (by decide) rfl ?_
    refine ab_aload_n d_Row_fixes_112 rfl rfl rfl ?_
    refine ab_lload_n d_Row_fixes_113 rfl rfl ?_
    refine ab_lconst (v := 0) d_Row_fixes_114 (by decide) ?_
    refine ab_lcmp d_Row_fixes_115 ?_
    refine ab_if_ne (tgt := 123) d_Row_fixes_116 (by decide) (fun q49 => ?_) (fun q49 => ?_)
    · rw [if_neg q49] at hG
      refine ab_iconst (v := 0) d_Row_fixes_123 (by decide) ?_
      exact kB_Row_fixes_124 hG
    · rw [if_pos q49] at hG
      refine ab_iconst (v := 1) d_Row_fixes_119 (by decide) ?_
      refine ab_goto (tgt := 124) d_Row_fixes_120 (by decide) ?_
      exact kB_Row_fixes_124 hG
  rw [if_neg t44] at hF
  have ut44 : ¬ (74 : Int) = (p1).toInt := fun z => t44 (Int32.toInt_inj.mp (z.symm.trans (by decide)))
  by_cases t60 : p1 = 75
  · rw [if_pos t60] at hF
    refine ab_tableIn (off := 128) (tgt := 138) d_Row_fixes_10 (by rw [t60]; decide) (by rw [t60]; decide) (by rw [t60]; decide) (by decide) ?_
    refine ab_aload_n d_Row_fixes_138 rfl rfl rfl ?_
    refine ab_lload_n d_Row_fixes_139 rfl rfl ?_
    refine ab_lconst (v := 0) d_Row_fixes_140 (by decide) ?_
    refine ab_lcmp d_Row_fixes_141 ?_
    refine ab_if_ge (tgt := 149) d_Row_fixes_142 (by decide) (fun q61 => ?_) (fun q61 => ?_)
    · rw [if_pos q61] at hF
      refine ab_iconst (v := 0) d_Row_fixes_149 (by decide) ?_
      refine ab_le (lv' := [some (.ref p0), some (.int p1), some (.long x5), none, none, none]) ⟨rfl, ⟨rfl, ⟨rfl, trivial⟩⟩⟩ ?_
      exact kB_Row_fixes_150 hF
    · rw [if_neg q61] at hF
      refine ab_iconst (v := 2) d_Row_fixes_145 (by decide) ?_
      refine ab_goto (tgt := 150) d_Row_fixes_146 (by decide) ?_
      refine ab_le (lv' := [some (.ref p0), some (.int p1), some (.long x5), none, none, none]) ⟨rfl, ⟨rfl, ⟨rfl, trivial⟩⟩⟩ ?_
      exact kB_Row_fixes_150 hF
  rw [if_neg t60] at hF
  have ut60 : ¬ (75 : Int) = (p1).toInt := fun z => t60 (Int32.toInt_inj.mp (z.symm.trans (by decide)))
  by_cases t72 : p1 = 76
  · rw [if_pos t72] at hF
    refine ab_tableIn (off := 156) (tgt := 166) d_Row_fixes_10 (by rw [t72]; decide) (by rw [t72]; decide) (by rw [t72]; decide) (by decide) ?_
    refine ab_lload_n d_Row_fixes_166 rfl rfl ?_
    refine ab_bipush (v := 16) d_Row_fixes_167 (by decide) ?_
    refine ab_lshr d_Row_fixes_169 ?_
    refine ab_topl (fun x73 ex73 => ?_)
    replace hF := bnd_s ex73 hF
    refine ab_lstore (lv' := [some (.ref p0), some (.int p1), some (.long x5), none, some (.long x73), none]) d_Row_fixes_170 (by decide) rfl ?_
    refine ab_goto (tgt := 182) d_Row_fixes_172 (by decide) ?_
    refine ab_le (lv' := [some (.ref p0), some (.int p1), none, none, some (.long x73), none]) ⟨rfl, ⟨rfl, ⟨rfl, trivial⟩⟩⟩ ?_
    exact kB_Row_fixes_182 hF
  rw [if_neg t72] at hF
  have ut72 : ¬ (76 : Int) = (p1).toInt := fun z => t72 (Int32.toInt_inj.mp (z.symm.trans (by decide)))
  refine ab_tableOut (tgt := 175) d_Row_fixes_10 (by omega) (by decide) ?_
  refine ab_lload_n d_Row_fixes_175 rfl rfl ?_
  refine ab_ldc2 d_Row_fixes_176 (k7 64 rfl rfl) ?_
  refine ab_lmul d_Row_fixes_179 ?_
  refine ab_topl (fun x74 ex74 => ?_)
  replace hF := bnd_s ex74 hF
  refine ab_lstore (lv' := [some (.ref p0), some (.int p1), some (.long x5), none, some (.long x74), none]) d_Row_fixes_180 (by decide) rfl ?_
  refine ab_le (lv' := [some (.ref p0), some (.int p1), none, none, some (.long x74), none]) ⟨rfl, ⟨rfl, ⟨rfl, trivial⟩⟩⟩ ?_
  exact kB_Row_fixes_182 hF
def y_World_noteFailure : ab_Y := (⟨"WorldEngine$World", "noteFailure", "(III)V"⟩, prog_12_method_17_code, 4, none, [])
theorem d_World_noteFailure_0 : decode y_World_noteFailure.2.1 0 = .ok (.aload_n 0, 1) := by decide +kernel
theorem d_World_noteFailure_1 : decode y_World_noteFailure.2.1 1 = .ok (.dup, 1) := by decide +kernel
theorem d_World_noteFailure_2 : decode y_World_noteFailure.2.1 2 = .ok (.getfield 40, 3) := by decide +kernel
theorem d_World_noteFailure_5 : decode y_World_noteFailure.2.1 5 = .ok (.iconst 1, 1) := by decide +kernel
theorem d_World_noteFailure_6 : decode y_World_noteFailure.2.1 6 = .ok (.iadd, 1) := by decide +kernel
theorem d_World_noteFailure_7 : decode y_World_noteFailure.2.1 7 = .ok (.putfield 40, 3) := by decide +kernel
theorem d_World_noteFailure_10 : decode y_World_noteFailure.2.1 10 = .ok (.aload_n 0, 1) := by decide +kernel
theorem d_World_noteFailure_11 : decode y_World_noteFailure.2.1 11 = .ok (.getfield 46, 3) := by decide +kernel
theorem d_World_noteFailure_14 : decode y_World_noteFailure.2.1 14 = .ok (.ifCond .ne 18, 3) := by decide +kernel
theorem d_World_noteFailure_17 : decode y_World_noteFailure.2.1 17 = .ok (.aload_n 0, 1) := by decide +kernel
theorem d_World_noteFailure_18 : decode y_World_noteFailure.2.1 18 = .ok (.iload_n 1, 1) := by decide +kernel
theorem d_World_noteFailure_19 : decode y_World_noteFailure.2.1 19 = .ok (.putfield 61, 3) := by decide +kernel
theorem d_World_noteFailure_22 : decode y_World_noteFailure.2.1 22 = .ok (.aload_n 0, 1) := by decide +kernel
theorem d_World_noteFailure_23 : decode y_World_noteFailure.2.1 23 = .ok (.iload_n 2, 1) := by decide +kernel
theorem d_World_noteFailure_24 : decode y_World_noteFailure.2.1 24 = .ok (.putfield 64, 3) := by decide +kernel
theorem d_World_noteFailure_27 : decode y_World_noteFailure.2.1 27 = .ok (.aload_n 0, 1) := by decide +kernel
theorem d_World_noteFailure_28 : decode y_World_noteFailure.2.1 28 = .ok (.iload_n 3, 1) := by decide +kernel
theorem d_World_noteFailure_29 : decode y_World_noteFailure.2.1 29 = .ok (.putfield 46, 3) := by decide +kernel
theorem d_World_noteFailure_32 : decode y_World_noteFailure.2.1 32 = .ok (.return_, 1) := by decide +kernel
theorem s_World_noteFailure : ab_Stat y_World_noteFailure 3 := ⟨(k7 81 rfl rfl), (k1 10 rfl rfl), ⟨by decide, by decide⟩, by decide +kernel⟩
theorem i_World_noteFailure : Cond.instanceMethod y_World_noteFailure.1 ∈ ab_T := (k7 79 rfl rfl)
theorem v_World_noteFailure : Cond.selects "WorldEngine$World" y_World_noteFailure.1 y_World_noteFailure.1 ∈ ab_T := (k7 80 rfl rfl)
def F_World_noteFailure (N : Nat) (p0 : Nat) (p1 : Int32) (p2 : Int32) (p3 : Int32) (H : Hp) : Option (Unit × Hp) :=
    ck (H.sh[p0]? = some (7, 0)) <|
    bnd ((H.D p0 2)) fun x2 =>
    bnd (H.sD p0 2 (x2 + (1 : Int32))) fun H3 =>
    bnd ((H3.D p0 6)) fun x4 =>
    if x4 = (0 : Int32) then
    bnd (H3.sD p0 4 p1) fun H6 =>
    bnd (H6.sD p0 5 p2) fun H7 =>
    bnd (H7.sD p0 6 p3) fun H8 =>
    some ((), H8)
    else
    some ((), H3)
set_option maxRecDepth 20000 in
set_option maxHeartbeats 2000000 in
theorem m_World_noteFailure {N : Nat} {p0 : Nat} {p1 : Int32} {p2 : Int32} {p3 : Int32} {H : Hp} {r : Unit × Hp} (hF : F_World_noteFailure N p0 p1 p2 p3 H = some r) : Sa H r.2 := by
  unfold F_World_noteFailure at hF
  have hm := Sa.rf H
  obtain ⟨q9, hG⟩ := ck_s hF; clear hF
  obtain ⟨x10, -, hF⟩ := bnd_g hG; clear hG
  obtain ⟨H11, eH11, hG⟩ := bnd_g hF; clear hF
  replace hm : Sa H H11 := by rw [eH11]; exact hm
  obtain ⟨x12, -, hF⟩ := bnd_g hG; clear hG
  rcases ite_s hF with ⟨q_6, hG⟩ | ⟨q_6, hG⟩
  · clear hF
    obtain ⟨H14, eH14, hF⟩ := bnd_g hG; clear hG
    replace hm : Sa H H14 := by rw [eH14]; exact hm
    obtain ⟨H15, eH15, hG⟩ := bnd_g hF; clear hF
    replace hm : Sa H H15 := by rw [eH15]; exact hm
    obtain ⟨H16, eH16, hF⟩ := bnd_g hG; clear hG
    replace hm : Sa H H16 := by rw [eH16]; exact hm
    have hr := Option.some.inj hF; subst hr
    exact hm
  · clear hF
    have hr := Option.some.inj hG; subst hr
    exact hm
set_option maxRecDepth 20000 in
set_option maxHeartbeats 2000000 in
theorem k_World_noteFailure {N : Nat} {p0 : Nat} {p1 : Int32} {p2 : Int32} {p3 : Int32} {H : Hp} {r : Unit × Hp} (hF : F_World_noteFailure N p0 p1 p2 p3 H = some r) : ab_M y_World_noteFailure { frames := 0, cells := 0, slots := 0, locals := 0 } [.ref p0, .int p1, .int p2, .int p3] (hpw H) (po (.returned none) r.2) := by
  unfold F_World_noteFailure at hF
  refine ab_of2 (lv := [some (.ref p0), some (.int p1), some (.int p2), some (.int p3)]) 0 rfl rfl (Nat.le_of_ble_eq_true rfl) ?_
  refine ab_aload_n d_World_noteFailure_0 rfl rfl rfl ?_
  refine ab_dup d_World_noteFailure_1 rfl ?_
  obtain ⟨q1, hG⟩ := ck_s hF; clear hF
  refine hp_getI (f := 2) d_World_noteFailure_2 q1 (by decide) rfl (by decide) (k1 213 rfl rfl) rfl ?_
  refine ab_topi (fun x2 ex2 => ?_)
  replace hG := bnd_s ex2 hG
  refine ab_iconst (v := 1) d_World_noteFailure_5 (by decide) ?_
  refine ab_iadd d_World_noteFailure_6 ?_
  refine hp_putI (v := x2 + (1 : Int32)) (f := 2) d_World_noteFailure_7 q1 (by decide) rfl (by decide) (k1 213 rfl rfl) rfl rfl (fun _ => rfl) (fun _ => rfl) rfl ?_
  refine hp_gen (fun H3 eH3 => ?_)
  replace hG := bnd_s eH3 hG
  have s_1 : Sa H H3 := by rw [eH3]; exact Sa.rf _
  refine ab_aload_n d_World_noteFailure_10 rfl rfl rfl ?_
  refine hp_getI (f := 6) d_World_noteFailure_11 (by rw [(s_1).1]; exact q1) (by decide) rfl (by decide) (k1 224 rfl rfl) rfl ?_
  refine ab_topi (fun x4 ex4 => ?_)
  replace hG := bnd_s ex4 hG
  refine ab_if_ne (tgt := 32) d_World_noteFailure_14 (by decide) (fun q5 => ?_) (fun q5 => ?_)
  · rw [if_neg q5] at hG
    exact ab_vret d_World_noteFailure_32 rfl (Nat.le_refl _) (Nat.le_refl _) (by have hr := Option.some.inj hG; subst hr; exact ⟨rfl, rfl⟩)
  · rw [if_pos q5] at hG
    refine ab_aload_n d_World_noteFailure_17 rfl rfl rfl ?_
    refine ab_iload_n d_World_noteFailure_18 rfl rfl ?_
    refine hp_putI (v := p1) (f := 4) d_World_noteFailure_19 (by rw [(s_1).1]; exact q1) (by decide) rfl (by decide) (k1 220 rfl rfl) rfl rfl (fun _ => rfl) (fun _ => rfl) rfl ?_
    refine hp_gen (fun H6 eH6 => ?_)
    replace hG := bnd_s eH6 hG
    have s_2 : Sa H H6 := by rw [eH6]; exact s_1
    refine ab_aload_n d_World_noteFailure_22 rfl rfl rfl ?_
    refine ab_iload_n d_World_noteFailure_23 rfl rfl ?_
    refine hp_putI (v := p2) (f := 5) d_World_noteFailure_24 (by rw [(s_2).1]; exact q1) (by decide) rfl (by decide) (k1 222 rfl rfl) rfl rfl (fun _ => rfl) (fun _ => rfl) rfl ?_
    refine hp_gen (fun H7 eH7 => ?_)
    replace hG := bnd_s eH7 hG
    have s_3 : Sa H H7 := by rw [eH7]; exact s_2
    refine ab_aload_n d_World_noteFailure_27 rfl rfl rfl ?_
    refine ab_iload_n d_World_noteFailure_28 rfl rfl ?_
    refine hp_putI (v := p3) (f := 6) d_World_noteFailure_29 (by rw [(s_3).1]; exact q1) (by decide) rfl (by decide) (k1 224 rfl rfl) rfl rfl (fun _ => rfl) (fun _ => rfl) rfl ?_
    refine hp_gen (fun H8 eH8 => ?_)
    replace hG := bnd_s eH8 hG
    have s_4 : Sa H H8 := by rw [eH8]; exact s_3
    exact ab_vret d_World_noteFailure_32 rfl (Nat.le_refl _) (Nat.le_refl _) (by have hr := Option.some.inj hG; subst hr; exact ⟨rfl, rfl⟩)
def y_Row_runRow : ab_Y := (⟨"WorldEngine$Row", "runRow", "(II)V"⟩, prog_8_method_3_code, 5, none, [])
theorem d_Row_runRow_0 : decode y_Row_runRow.2.1 0 = .ok (.aload_n 0, 1) := by decide +kernel
theorem d_Row_runRow_1 : decode y_Row_runRow.2.1 1 = .ok (.iload_n 1, 1) := by decide +kernel
theorem d_Row_runRow_2 : decode y_Row_runRow.2.1 2 = .ok (.putfield 46, 3) := by decide +kernel
theorem d_Row_runRow_5 : decode y_Row_runRow.2.1 5 = .ok (.aload_n 0, 1) := by decide +kernel
theorem d_Row_runRow_6 : decode y_Row_runRow.2.1 6 = .ok (.iload_n 2, 1) := by decide +kernel
theorem d_Row_runRow_7 : decode y_Row_runRow.2.1 7 = .ok (.putfield 50, 3) := by decide +kernel
theorem d_Row_runRow_10 : decode y_Row_runRow.2.1 10 = .ok (.aload_n 0, 1) := by decide +kernel
theorem d_Row_runRow_11 : decode y_Row_runRow.2.1 11 = .ok (.aload_n 0, 1) := by decide +kernel
theorem d_Row_runRow_12 : decode y_Row_runRow.2.1 12 = .ok (.getfield 35, 3) := by decide +kernel
theorem d_Row_runRow_15 : decode y_Row_runRow.2.1 15 = .ok (.getfield 53, 3) := by decide +kernel
theorem d_Row_runRow_18 : decode y_Row_runRow.2.1 18 = .ok (.aload_n 0, 1) := by decide +kernel
theorem d_Row_runRow_19 : decode y_Row_runRow.2.1 19 = .ok (.getfield 46, 3) := by decide +kernel
theorem d_Row_runRow_22 : decode y_Row_runRow.2.1 22 = .ok (.iaload, 1) := by decide +kernel
theorem d_Row_runRow_23 : decode y_Row_runRow.2.1 23 = .ok (.putfield 56, 3) := by decide +kernel
theorem d_Row_runRow_26 : decode y_Row_runRow.2.1 26 = .ok (.aload_n 0, 1) := by decide +kernel
theorem d_Row_runRow_27 : decode y_Row_runRow.2.1 27 = .ok (.iconst 0, 1) := by decide +kernel
theorem d_Row_runRow_28 : decode y_Row_runRow.2.1 28 = .ok (.putfield 59, 3) := by decide +kernel
theorem d_Row_runRow_31 : decode y_Row_runRow.2.1 31 = .ok (.aload_n 0, 1) := by decide +kernel
theorem d_Row_runRow_32 : decode y_Row_runRow.2.1 32 = .ok (.iconst 0, 1) := by decide +kernel
theorem d_Row_runRow_33 : decode y_Row_runRow.2.1 33 = .ok (.putfield 62, 3) := by decide +kernel
theorem d_Row_runRow_36 : decode y_Row_runRow.2.1 36 = .ok (.aload_n 0, 1) := by decide +kernel
theorem d_Row_runRow_37 : decode y_Row_runRow.2.1 37 = .ok (.iconst 0, 1) := by decide +kernel
theorem d_Row_runRow_38 : decode y_Row_runRow.2.1 38 = .ok (.putfield 65, 3) := by decide +kernel
theorem d_Row_runRow_41 : decode y_Row_runRow.2.1 41 = .ok (.aload_n 0, 1) := by decide +kernel
theorem d_Row_runRow_42 : decode y_Row_runRow.2.1 42 = .ok (.iconst 0, 1) := by decide +kernel
theorem d_Row_runRow_43 : decode y_Row_runRow.2.1 43 = .ok (.putfield 68, 3) := by decide +kernel
theorem d_Row_runRow_46 : decode y_Row_runRow.2.1 46 = .ok (.aload_n 0, 1) := by decide +kernel
theorem d_Row_runRow_47 : decode y_Row_runRow.2.1 47 = .ok (.iconst 0, 1) := by decide +kernel
theorem d_Row_runRow_48 : decode y_Row_runRow.2.1 48 = .ok (.putfield 71, 3) := by decide +kernel
theorem d_Row_runRow_51 : decode y_Row_runRow.2.1 51 = .ok (.aload_n 0, 1) := by decide +kernel
theorem d_Row_runRow_52 : decode y_Row_runRow.2.1 52 = .ok (.getfield 39, 3) := by decide +kernel
theorem d_Row_runRow_55 : decode y_Row_runRow.2.1 55 = .ok (.getfield 74, 3) := by decide +kernel
theorem d_Row_runRow_58 : decode y_Row_runRow.2.1 58 = .ok (.aload_n 0, 1) := by decide +kernel
theorem d_Row_runRow_59 : decode y_Row_runRow.2.1 59 = .ok (.getfield 50, 3) := by decide +kernel
theorem d_Row_runRow_62 : decode y_Row_runRow.2.1 62 = .ok (.aload_n 0, 1) := by decide +kernel
theorem d_Row_runRow_63 : decode y_Row_runRow.2.1 63 = .ok (.getfield 39, 3) := by decide +kernel
theorem d_Row_runRow_66 : decode y_Row_runRow.2.1 66 = .ok (.getfield 79, 3) := by decide +kernel
theorem d_Row_runRow_69 : decode y_Row_runRow.2.1 69 = .ok (.imul, 1) := by decide +kernel
theorem d_Row_runRow_70 : decode y_Row_runRow.2.1 70 = .ok (.aload_n 0, 1) := by decide +kernel
theorem d_Row_runRow_71 : decode y_Row_runRow.2.1 71 = .ok (.getfield 32, 3) := by decide +kernel
theorem d_Row_runRow_74 : decode y_Row_runRow.2.1 74 = .ok (.iconst 0, 1) := by decide +kernel
theorem d_Row_runRow_75 : decode y_Row_runRow.2.1 75 = .ok (.aload_n 0, 1) := by decide +kernel
theorem d_Row_runRow_76 : decode y_Row_runRow.2.1 76 = .ok (.getfield 39, 3) := by decide +kernel
theorem d_Row_runRow_79 : decode y_Row_runRow.2.1 79 = .ok (.getfield 79, 3) := by decide +kernel
theorem d_Row_runRow_82 : decode y_Row_runRow.2.1 82 = .ok (.invokestatic 82, 3) := by decide +kernel
theorem d_Row_runRow_85 : decode y_Row_runRow.2.1 85 = .ok (.aload_n 0, 1) := by decide +kernel
theorem d_Row_runRow_86 : decode y_Row_runRow.2.1 86 = .ok (.invokevirtual 88, 3) := by decide +kernel
theorem d_Row_runRow_89 : decode y_Row_runRow.2.1 89 = .ok (.istore_n 3, 1) := by decide +kernel
theorem d_Row_runRow_90 : decode y_Row_runRow.2.1 90 = .ok (.iconst 0, 1) := by decide +kernel
theorem d_Row_runRow_91 : decode y_Row_runRow.2.1 91 = .ok (.istore 4, 2) := by decide +kernel
theorem d_Row_runRow_93 : decode y_Row_runRow.2.1 93 = .ok (.iload 4, 2) := by decide +kernel
theorem d_Row_runRow_95 : decode y_Row_runRow.2.1 95 = .ok (.ldc 92, 2) := by decide +kernel
theorem d_Row_runRow_97 : decode y_Row_runRow.2.1 97 = .ok (.if_icmp .ge 86, 3) := by decide +kernel
theorem d_Row_runRow_100 : decode y_Row_runRow.2.1 100 = .ok (.iload_n 3, 1) := by decide +kernel
theorem d_Row_runRow_101 : decode y_Row_runRow.2.1 101 = .ok (.ifCond .eq 82, 3) := by decide +kernel
theorem d_Row_runRow_104 : decode y_Row_runRow.2.1 104 = .ok (.aload_n 0, 1) := by decide +kernel
theorem d_Row_runRow_105 : decode y_Row_runRow.2.1 105 = .ok (.getfield 71, 3) := by decide +kernel
theorem d_Row_runRow_108 : decode y_Row_runRow.2.1 108 = .ok (.ifCond .ne 75, 3) := by decide +kernel
theorem d_Row_runRow_111 : decode y_Row_runRow.2.1 111 = .ok (.iload_n 3, 1) := by decide +kernel
theorem d_Row_runRow_112 : decode y_Row_runRow.2.1 112 = .ok (.bipush 20, 2) := by decide +kernel
theorem d_Row_runRow_114 : decode y_Row_runRow.2.1 114 = .ok (.if_icmp .ge 11, 3) := by decide +kernel
theorem d_Row_runRow_117 : decode y_Row_runRow.2.1 117 = .ok (.aload_n 0, 1) := by decide +kernel
theorem d_Row_runRow_118 : decode y_Row_runRow.2.1 118 = .ok (.iload_n 3, 1) := by decide +kernel
theorem d_Row_runRow_119 : decode y_Row_runRow.2.1 119 = .ok (.invokevirtual 93, 3) := by decide +kernel
theorem d_Row_runRow_122 : decode y_Row_runRow.2.1 122 = .ok (.goto 50, 3) := by decide +kernel
theorem d_Row_runRow_125 : decode y_Row_runRow.2.1 125 = .ok (.iload_n 3, 1) := by decide +kernel
theorem d_Row_runRow_126 : decode y_Row_runRow.2.1 126 = .ok (.bipush 30, 2) := by decide +kernel
theorem d_Row_runRow_128 : decode y_Row_runRow.2.1 128 = .ok (.if_icmp .ge 11, 3) := by decide +kernel
theorem d_Row_runRow_131 : decode y_Row_runRow.2.1 131 = .ok (.aload_n 0, 1) := by decide +kernel
theorem d_Row_runRow_132 : decode y_Row_runRow.2.1 132 = .ok (.iload_n 3, 1) := by decide +kernel
theorem d_Row_runRow_133 : decode y_Row_runRow.2.1 133 = .ok (.invokevirtual 97, 3) := by decide +kernel
theorem d_Row_runRow_136 : decode y_Row_runRow.2.1 136 = .ok (.goto 36, 3) := by decide +kernel
theorem d_Row_runRow_139 : decode y_Row_runRow.2.1 139 = .ok (.iload_n 3, 1) := by decide +kernel
theorem d_Row_runRow_140 : decode y_Row_runRow.2.1 140 = .ok (.bipush 50, 2) := by decide +kernel
theorem d_Row_runRow_142 : decode y_Row_runRow.2.1 142 = .ok (.if_icmp .ge 11, 3) := by decide +kernel
theorem d_Row_runRow_145 : decode y_Row_runRow.2.1 145 = .ok (.aload_n 0, 1) := by decide +kernel
theorem d_Row_runRow_146 : decode y_Row_runRow.2.1 146 = .ok (.iload_n 3, 1) := by decide +kernel
theorem d_Row_runRow_147 : decode y_Row_runRow.2.1 147 = .ok (.invokevirtual 100, 3) := by decide +kernel
theorem d_Row_runRow_150 : decode y_Row_runRow.2.1 150 = .ok (.goto 22, 3) := by decide +kernel
theorem d_Row_runRow_153 : decode y_Row_runRow.2.1 153 = .ok (.iload_n 3, 1) := by decide +kernel
theorem d_Row_runRow_154 : decode y_Row_runRow.2.1 154 = .ok (.bipush 70, 2) := by decide +kernel
theorem d_Row_runRow_156 : decode y_Row_runRow.2.1 156 = .ok (.if_icmp .ge 11, 3) := by decide +kernel
theorem d_Row_runRow_159 : decode y_Row_runRow.2.1 159 = .ok (.aload_n 0, 1) := by decide +kernel
theorem d_Row_runRow_160 : decode y_Row_runRow.2.1 160 = .ok (.iload_n 3, 1) := by decide +kernel
theorem d_Row_runRow_161 : decode y_Row_runRow.2.1 161 = .ok (.invokevirtual 103, 3) := by decide +kernel
theorem d_Row_runRow_164 : decode y_Row_runRow.2.1 164 = .ok (.goto 8, 3) := by decide +kernel
theorem d_Row_runRow_167 : decode y_Row_runRow.2.1 167 = .ok (.aload_n 0, 1) := by decide +kernel
theorem d_Row_runRow_168 : decode y_Row_runRow.2.1 168 = .ok (.iload_n 3, 1) := by decide +kernel
theorem d_Row_runRow_169 : decode y_Row_runRow.2.1 169 = .ok (.invokevirtual 106, 3) := by decide +kernel
theorem d_Row_runRow_172 : decode y_Row_runRow.2.1 172 = .ok (.aload_n 0, 1) := by decide +kernel
theorem d_Row_runRow_173 : decode y_Row_runRow.2.1 173 = .ok (.invokevirtual 88, 3) := by decide +kernel
theorem d_Row_runRow_176 : decode y_Row_runRow.2.1 176 = .ok (.istore_n 3, 1) := by decide +kernel
theorem d_Row_runRow_177 : decode y_Row_runRow.2.1 177 = .ok (.iinc 4 1, 3) := by decide +kernel
theorem d_Row_runRow_180 : decode y_Row_runRow.2.1 180 = .ok (.goto (-87), 3) := by decide +kernel
theorem d_Row_runRow_183 : decode y_Row_runRow.2.1 183 = .ok (.aload_n 0, 1) := by decide +kernel
theorem d_Row_runRow_184 : decode y_Row_runRow.2.1 184 = .ok (.getfield 71, 3) := by decide +kernel
theorem d_Row_runRow_187 : decode y_Row_runRow.2.1 187 = .ok (.ifCond .eq 76, 3) := by decide +kernel
theorem d_Row_runRow_190 : decode y_Row_runRow.2.1 190 = .ok (.aload_n 0, 1) := by decide +kernel
theorem d_Row_runRow_191 : decode y_Row_runRow.2.1 191 = .ok (.getfield 32, 3) := by decide +kernel
theorem d_Row_runRow_194 : decode y_Row_runRow.2.1 194 = .ok (.iconst 0, 1) := by decide +kernel
theorem d_Row_runRow_195 : decode y_Row_runRow.2.1 195 = .ok (.aload_n 0, 1) := by decide +kernel
theorem d_Row_runRow_196 : decode y_Row_runRow.2.1 196 = .ok (.getfield 39, 3) := by decide +kernel
theorem d_Row_runRow_199 : decode y_Row_runRow.2.1 199 = .ok (.getfield 74, 3) := by decide +kernel
theorem d_Row_runRow_202 : decode y_Row_runRow.2.1 202 = .ok (.aload_n 0, 1) := by decide +kernel
theorem d_Row_runRow_203 : decode y_Row_runRow.2.1 203 = .ok (.getfield 50, 3) := by decide +kernel
theorem d_Row_runRow_206 : decode y_Row_runRow.2.1 206 = .ok (.aload_n 0, 1) := by decide +kernel
theorem d_Row_runRow_207 : decode y_Row_runRow.2.1 207 = .ok (.getfield 39, 3) := by decide +kernel
theorem d_Row_runRow_210 : decode y_Row_runRow.2.1 210 = .ok (.getfield 79, 3) := by decide +kernel
theorem d_Row_runRow_213 : decode y_Row_runRow.2.1 213 = .ok (.imul, 1) := by decide +kernel
theorem d_Row_runRow_214 : decode y_Row_runRow.2.1 214 = .ok (.aload_n 0, 1) := by decide +kernel
theorem d_Row_runRow_215 : decode y_Row_runRow.2.1 215 = .ok (.getfield 39, 3) := by decide +kernel
theorem d_Row_runRow_218 : decode y_Row_runRow.2.1 218 = .ok (.getfield 79, 3) := by decide +kernel
theorem d_Row_runRow_221 : decode y_Row_runRow.2.1 221 = .ok (.invokestatic 82, 3) := by decide +kernel
theorem d_Row_runRow_224 : decode y_Row_runRow.2.1 224 = .ok (.aload_n 0, 1) := by decide +kernel
theorem d_Row_runRow_225 : decode y_Row_runRow.2.1 225 = .ok (.dup, 1) := by decide +kernel
theorem d_Row_runRow_226 : decode y_Row_runRow.2.1 226 = .ok (.getfield 109, 3) := by decide +kernel
theorem d_Row_runRow_229 : decode y_Row_runRow.2.1 229 = .ok (.aload_n 0, 1) := by decide +kernel
theorem d_Row_runRow_230 : decode y_Row_runRow.2.1 230 = .ok (.getfield 68, 3) := by decide +kernel
theorem d_Row_runRow_233 : decode y_Row_runRow.2.1 233 = .ok (.isub, 1) := by decide +kernel
theorem d_Row_runRow_234 : decode y_Row_runRow.2.1 234 = .ok (.putfield 109, 3) := by decide +kernel
theorem d_Row_runRow_237 : decode y_Row_runRow.2.1 237 = .ok (.aload_n 0, 1) := by decide +kernel
theorem d_Row_runRow_238 : decode y_Row_runRow.2.1 238 = .ok (.getfield 39, 3) := by decide +kernel
theorem d_Row_runRow_241 : decode y_Row_runRow.2.1 241 = .ok (.aload_n 0, 1) := by decide +kernel
theorem d_Row_runRow_242 : decode y_Row_runRow.2.1 242 = .ok (.getfield 46, 3) := by decide +kernel
theorem d_Row_runRow_245 : decode y_Row_runRow.2.1 245 = .ok (.aload_n 0, 1) := by decide +kernel
theorem d_Row_runRow_246 : decode y_Row_runRow.2.1 246 = .ok (.getfield 39, 3) := by decide +kernel
theorem d_Row_runRow_249 : decode y_Row_runRow.2.1 249 = .ok (.aload_n 0, 1) := by decide +kernel
theorem d_Row_runRow_250 : decode y_Row_runRow.2.1 250 = .ok (.getfield 50, 3) := by decide +kernel
theorem d_Row_runRow_253 : decode y_Row_runRow.2.1 253 = .ok (.invokevirtual 112, 3) := by decide +kernel
theorem d_Row_runRow_256 : decode y_Row_runRow.2.1 256 = .ok (.aload_n 0, 1) := by decide +kernel
theorem d_Row_runRow_257 : decode y_Row_runRow.2.1 257 = .ok (.getfield 71, 3) := by decide +kernel
theorem d_Row_runRow_260 : decode y_Row_runRow.2.1 260 = .ok (.invokevirtual 116, 3) := by decide +kernel
theorem d_Row_runRow_263 : decode y_Row_runRow.2.1 263 = .ok (.return_, 1) := by decide +kernel
theorem s_Row_runRow : ab_Stat y_Row_runRow 2 := ⟨(k6 203 rfl rfl), (k1 13 rfl rfl), ⟨by decide, by decide⟩, by decide +kernel⟩
theorem i_Row_runRow : Cond.instanceMethod y_Row_runRow.1 ∈ ab_T := (k6 201 rfl rfl)
theorem v_Row_runRow : Cond.selects "WorldEngine$Row" y_Row_runRow.1 y_Row_runRow.1 ∈ ab_T := (k6 202 rfl rfl)
def B_Row_runRow_183 (N : Nat) (p0 : Nat) (p1 : Int32) (p2 : Int32)  (H : Hp) : Option (Unit × Hp) :=
    ck (H.sh[p0]? = some (8, 0)) <|
    bnd ((H.D p0 16)) fun x51 =>
    if x51 = (0 : Int32) then
    some ((), H)
    else
    rf (H.P p0 11) fun a53 =>
    rf (H.P p0 3) fun a55 =>
    ck (H.sh[a55]? = some (7, 0)) <|
    rf (H.P a55 11) fun a58 =>
    bnd ((H.D p0 18)) fun x60 =>
    rf (H.P p0 3) fun a61 =>
    ck (H.sh[a61]? = some (7, 0)) <|
    bnd ((H.D a61 10)) fun x64 =>
    rf (H.P p0 3) fun a65 =>
    ck (H.sh[a65]? = some (7, 0)) <|
    bnd ((H.D a65 10)) fun x68 =>
    ar H 100 a53 fun n69 =>
    ar H 100 a58 fun n71 =>
    ck (¬ (0 : Int32) < 0) <|
    ck (¬ (x60 * x64) < 0) <|
    ck (¬ x68 < 0) <|
    ck (((0 : Int32)).toNatClampNeg + (x68).toNatClampNeg ≤ n69) <|
    ck (((x60 * x64)).toNatClampNeg + (x68).toNatClampNeg ≤ n71) <|
    bnd (H.cpy a53 a58 ((0 : Int32)).toNatClampNeg ((x60 * x64)).toNatClampNeg (x68).toNatClampNeg) fun H78 =>
    bnd ((H78.D p0 1)) fun x79 =>
    bnd ((H78.D p0 15)) fun x80 =>
    bnd (H78.sD p0 1 (x79 - x80)) fun H81 =>
    rf (H81.P p0 3) fun a82 =>
    bnd ((H81.D p0 17)) fun x84 =>
    rf (H81.P p0 3) fun a85 =>
    bnd ((H81.D p0 18)) fun x87 =>
    ck (H81.sh[a85]? = some (7, 0)) <|
    bC (F_World_numberAt N a85 x87 H81) fun v90 H91 =>
    bnd ((H91.D p0 16)) fun x92 =>
    ck (H91.sh[a82]? = some (7, 0)) <|
    bC (F_World_noteFailure N a82 x84 v90 x92 H91) fun v95 H96 =>
    some ((), H96)
set_option maxRecDepth 20000 in
set_option maxHeartbeats 2000000 in
theorem mB_Row_runRow_183 {N : Nat} {p0 : Nat} {p1 : Int32} {p2 : Int32}  {H : Hp} {r : Unit × Hp} (hF : B_Row_runRow_183 N p0 p1 p2  H = some r) : Mo H r.2 := by
  unfold B_Row_runRow_183 at hF
  have hm := Mo.rf H
  obtain ⟨q97, hG⟩ := ck_s hF; clear hF
  obtain ⟨x98, -, hF⟩ := bnd_g hG; clear hG
  rcases ite_s hF with ⟨q_18, hG⟩ | ⟨q_18, hG⟩
  · clear hF
    have hr := Option.some.inj hG; subst hr
    exact hm
  · clear hF
    obtain ⟨a100, e101, hF⟩ := rf_s hG; clear hG
    obtain ⟨a102, e103, hG⟩ := rf_s hF; clear hF
    obtain ⟨q104, hF⟩ := ck_s hG; clear hG
    obtain ⟨a105, e106, hG⟩ := rf_s hF; clear hF
    obtain ⟨x107, -, hF⟩ := bnd_g hG; clear hG
    obtain ⟨a108, e109, hG⟩ := rf_s hF; clear hF
    obtain ⟨q110, hF⟩ := ck_s hG; clear hG
    obtain ⟨x111, -, hG⟩ := bnd_g hF; clear hF
    obtain ⟨a112, e113, hF⟩ := rf_s hG; clear hG
    obtain ⟨q114, hG⟩ := ck_s hF; clear hF
    obtain ⟨x115, -, hF⟩ := bnd_g hG; clear hG
    obtain ⟨n116, q117, hG⟩ := ar_s hF; clear hF
    obtain ⟨n118, q119, hF⟩ := ar_s hG; clear hG
    obtain ⟨q120, hG⟩ := ck_s hF; clear hF
    obtain ⟨q121, hF⟩ := ck_s hG; clear hG
    obtain ⟨q122, hG⟩ := ck_s hF; clear hF
    obtain ⟨q123, hF⟩ := ck_s hG; clear hG
    obtain ⟨q124, hG⟩ := ck_s hF; clear hF
    obtain ⟨H125, eH125, hF⟩ := bnd_g hG; clear hG
    replace hm : Mo H H125 := by rw [eH125]; exact hm
    obtain ⟨x126, -, hG⟩ := bnd_g hF; clear hF
    obtain ⟨x127, -, hF⟩ := bnd_g hG; clear hG
    obtain ⟨H128, eH128, hG⟩ := bnd_g hF; clear hF
    replace hm : Mo H H128 := by rw [eH128]; exact hm
    obtain ⟨a129, e130, hF⟩ := rf_s hG; clear hG
    obtain ⟨x131, -, hG⟩ := bnd_g hF; clear hF
    obtain ⟨a132, e133, hF⟩ := rf_s hG; clear hG
    obtain ⟨x134, -, hG⟩ := bnd_g hF; clear hF
    obtain ⟨q135, hF⟩ := ck_s hG; clear hG
    obtain ⟨v137, H138, z136, hG⟩ := bC_s hF; clear hF
    replace hm : Mo H H138 := hm.tr ((m_World_numberAt z136)).mo
    obtain ⟨x139, -, hF⟩ := bnd_g hG; clear hG
    obtain ⟨q140, hG⟩ := ck_s hF; clear hF
    obtain ⟨v142, H143, z141, hF⟩ := bC_s hG; clear hG
    replace hm : Mo H H143 := hm.tr ((m_World_noteFailure z141)).mo
    have hr := Option.some.inj hF; subst hr
    exact hm
set_option maxRecDepth 20000 in
set_option maxHeartbeats 2000000 in
theorem kB_Row_runRow_183 {N : Nat} {p0 : Nat} {p1 : Int32} {p2 : Int32} {c0 s0 C Sl : Nat}  {H : Hp} {r : Unit × Hp} (hF : B_Row_runRow_183 N p0 p1 p2  H = some r) (hc0 : c0 ≤ H.sh.length) (hs0 : s0 ≤ H.sl) (hcc : H.sh.length ≤ c0 + C) (hss : H.sl ≤ s0 + Sl) (hC : r.2.sh.length ≤ c0 + C) (hS : r.2.sl ≤ s0 + Sl) : ab_V y_Row_runRow { frames := 4, cells := C, slots := Sl, locals := 124 } (po (.returned none) r.2) C Sl (H.sh.length - c0) (H.sl - s0) 183 [some (.ref p0), some (.int p1), some (.int p2), none, none] [] (hpw H) := by
  unfold B_Row_runRow_183 at hF
  refine ab_aload_n d_Row_runRow_183 rfl rfl rfl ?_
  obtain ⟨q50, hG⟩ := ck_s hF; clear hF
  refine hp_getI (f := 16) d_Row_runRow_184 q50 (by decide) rfl (by decide) (k2 78 rfl rfl) rfl ?_
  refine ab_topi (fun x51 ex51 => ?_)
  replace hG := bnd_s ex51 hG
  refine ab_if_eq (tgt := 263) d_Row_runRow_187 (by decide) (fun q52 => ?_) (fun q52 => ?_)
  · rw [if_pos q52] at hG
    exact ab_vret d_Row_runRow_263 rfl (by show _ ≤ C; omega) (by show _ ≤ Sl; omega) (by have hr := Option.some.inj hG; subst hr; exact ⟨rfl, rfl⟩)
  · rw [if_neg q52] at hG
    refine ab_aload_n d_Row_runRow_190 rfl rfl rfl ?_
    obtain ⟨a53, e54, hF⟩ := rf_s hG; clear hG
    refine hp_getR (f := 11) d_Row_runRow_191 q50 (by decide) rfl (by decide) (k2 73 rfl rfl) rfl e54 ?_
    refine ab_iconst (v := 0) d_Row_runRow_194 (by decide) ?_
    refine ab_aload_n d_Row_runRow_195 rfl rfl rfl ?_
    obtain ⟨a55, e56, hG⟩ := rf_s hF; clear hF
    refine hp_getR (f := 3) d_Row_runRow_196 q50 (by decide) rfl (by decide) (k2 65 rfl rfl) rfl e56 ?_
    obtain ⟨q57, hF⟩ := ck_s hG; clear hG
    obtain ⟨a58, e59, hG⟩ := rf_s hF; clear hF
    refine hp_getR (f := 11) d_Row_runRow_199 q57 (by decide) rfl (by decide) (k1 237 rfl rfl) rfl e59 ?_
    refine ab_aload_n d_Row_runRow_202 rfl rfl rfl ?_
    refine hp_getI (f := 18) d_Row_runRow_203 q50 (by decide) rfl (by decide) (k2 80 rfl rfl) rfl ?_
    refine ab_topi (fun x60 ex60 => ?_)
    replace hG := bnd_s ex60 hG
    refine ab_aload_n d_Row_runRow_206 rfl rfl rfl ?_
    obtain ⟨a61, e62, hF⟩ := rf_s hG; clear hG
    refine hp_getR (f := 3) d_Row_runRow_207 q50 (by decide) rfl (by decide) (k2 65 rfl rfl) rfl e62 ?_
    obtain ⟨q63, hG⟩ := ck_s hF; clear hF
    refine hp_getI (f := 10) d_Row_runRow_210 q63 (by decide) rfl (by decide) (k1 235 rfl rfl) rfl ?_
    refine ab_topi (fun x64 ex64 => ?_)
    replace hG := bnd_s ex64 hG
    refine ab_imul d_Row_runRow_213 ?_
    refine ab_aload_n d_Row_runRow_214 rfl rfl rfl ?_
    obtain ⟨a65, e66, hF⟩ := rf_s hG; clear hG
    refine hp_getR (f := 3) d_Row_runRow_215 q50 (by decide) rfl (by decide) (k2 65 rfl rfl) rfl e66 ?_
    obtain ⟨q67, hG⟩ := ck_s hF; clear hF
    refine hp_getI (f := 10) d_Row_runRow_218 q67 (by decide) rfl (by decide) (k1 235 rfl rfl) rfl ?_
    refine ab_topi (fun x68 ex68 => ?_)
    replace hG := bnd_s ex68 hG
    obtain ⟨n69, q70, hF⟩ := ar_s hG; clear hG
    obtain ⟨n71, q72, hG⟩ := ar_s hF; clear hF
    obtain ⟨q73, hF⟩ := ck_s hG; clear hG
    obtain ⟨q74, hG⟩ := ck_s hF; clear hF
    obtain ⟨q75, hF⟩ := ck_s hG; clear hG
    obtain ⟨q76, hG⟩ := ck_s hF; clear hF
    obtain ⟨q77, hF⟩ := ck_s hG; clear hG
    refine hp_acopy d_Row_runRow_221 (k6 204 rfl rfl) (k6 113 rfl rfl) (k6 112 rfl rfl) (k1 29 rfl rfl) q70 q72 q73 q74 q75 q76 q77 (Nat.le_of_ble_eq_true rfl) (Nat.le_of_ble_eq_true rfl) ?_
    refine hp_gen (fun H78 eH78 => ?_)
    replace hF := bnd_s eH78 hF
    have s_12 : Sa H H78 := by rw [eH78]; exact Sa.rf _
    refine ab_aload_n d_Row_runRow_224 rfl rfl rfl ?_
    refine ab_dup d_Row_runRow_225 rfl ?_
    refine hp_getI (f := 1) d_Row_runRow_226 (by rw [(s_12).1]; exact q50) (by decide) rfl (by decide) (k2 63 rfl rfl) rfl ?_
    refine ab_topi (fun x79 ex79 => ?_)
    replace hF := bnd_s ex79 hF
    refine ab_aload_n d_Row_runRow_229 rfl rfl rfl ?_
    refine hp_getI (f := 15) d_Row_runRow_230 (by rw [(s_12).1]; exact q50) (by decide) rfl (by decide) (k2 77 rfl rfl) rfl ?_
    refine ab_topi (fun x80 ex80 => ?_)
    replace hF := bnd_s ex80 hF
    refine ab_isub d_Row_runRow_233 ?_
    refine hp_putI (v := x79 - x80) (f := 1) d_Row_runRow_234 (by rw [(s_12).1]; exact q50) (by decide) rfl (by decide) (k2 63 rfl rfl) rfl rfl (fun _ => rfl) (fun _ => rfl) rfl ?_
    refine hp_gen (fun H81 eH81 => ?_)
    replace hF := bnd_s eH81 hF
    have s_13 : Sa H H81 := by rw [eH81]; exact s_12
    refine ab_aload_n d_Row_runRow_237 rfl rfl rfl ?_
    obtain ⟨a82, e83, hG⟩ := rf_s hF; clear hF
    refine hp_getR (f := 3) d_Row_runRow_238 (by rw [(s_13).1]; exact q50) (by decide) rfl (by decide) (k2 65 rfl rfl) rfl e83 ?_
    refine ab_aload_n d_Row_runRow_241 rfl rfl rfl ?_
    refine hp_getI (f := 17) d_Row_runRow_242 (by rw [(s_13).1]; exact q50) (by decide) rfl (by decide) (k2 79 rfl rfl) rfl ?_
    refine ab_topi (fun x84 ex84 => ?_)
    replace hG := bnd_s ex84 hG
    refine ab_aload_n d_Row_runRow_245 rfl rfl rfl ?_
    obtain ⟨a85, e86, hF⟩ := rf_s hG; clear hG
    refine hp_getR (f := 3) d_Row_runRow_246 (by rw [(s_13).1]; exact q50) (by decide) rfl (by decide) (k2 65 rfl rfl) rfl e86 ?_
    refine ab_aload_n d_Row_runRow_249 rfl rfl rfl ?_
    refine hp_getI (f := 18) d_Row_runRow_250 (by rw [(s_13).1]; exact q50) (by decide) rfl (by decide) (k2 80 rfl rfl) rfl ?_
    refine ab_topi (fun x87 ex87 => ?_)
    replace hF := bnd_s ex87 hF
    obtain ⟨q88, hG⟩ := ck_s hF; clear hF
    rw [(s_13).1] at q88
    obtain ⟨v90, H91, z89, hF⟩ := bC_s hG; clear hG
    refine ab_widen (cells' := H81.sh.length - c0) (slots' := H81.sl - s0) (by rw [(s_13).1]; exact Nat.le_refl _) (by rw [(s_13).2]; exact Nat.le_refl _) ?_
    have b_14e := congrArg List.length (s_13).1
    have b_14f := (s_13).2
    refine hp_callV_a (v := .int v90) (H1 := H91) (As := [.int x87]) (rest := [.int x84, .ref a82]) d_Row_runRow_253 (k_World_numberAt z89) (ab_mkC s_World_numberAt (Nat.le_of_ble_eq_true rfl) (Nat.le_of_ble_eq_true rfl) (show (H81.sh.length - c0) + 0 ≤ C from by omega) (show (H81.sl - s0) + 0 ≤ Sl from by omega)) (k6 231 rfl rfl) i_World_numberAt v_World_numberAt (by rw [(s_13).1]; exact q88) (by decide) rfl rfl (Nat.le_of_ble_eq_true rfl) ?_
    have s_15 : Sa H H91 := (s_13).tr (m_World_numberAt z89)
    refine ab_widen (cells' := H.sh.length - c0) (slots' := H.sl - s0) (by show (H81.sh.length - c0) + 0 ≤ _; omega) (by show (H81.sl - s0) + 0 ≤ _; omega) ?_
    clear b_14e b_14f
    refine ab_aload_n d_Row_runRow_256 rfl rfl rfl ?_
    refine hp_getI (f := 16) d_Row_runRow_257 (by rw [(s_15).1]; exact q50) (by decide) rfl (by decide) (k2 78 rfl rfl) rfl ?_
    refine ab_topi (fun x92 ex92 => ?_)
    replace hF := bnd_s ex92 hF
    obtain ⟨q93, hG⟩ := ck_s hF; clear hF
    rw [(s_15).1] at q93
    obtain ⟨v95, H96, z94, hF⟩ := bC_s hG; clear hG
    refine ab_widen (cells' := H91.sh.length - c0) (slots' := H91.sl - s0) (by rw [(s_15).1]; exact Nat.le_refl _) (by rw [(s_15).2]; exact Nat.le_refl _) ?_
    have b_16e := congrArg List.length (s_15).1
    have b_16f := (s_15).2
    refine hp_callV_v (H1 := H96) (As := [.int x84, .int v90, .int x92]) (rest := []) d_Row_runRow_260 (k_World_noteFailure z94) (ab_mkC s_World_noteFailure (Nat.le_of_ble_eq_true rfl) (Nat.le_of_ble_eq_true rfl) (show (H91.sh.length - c0) + 0 ≤ C from by omega) (show (H91.sl - s0) + 0 ≤ Sl from by omega)) (k7 78 rfl rfl) i_World_noteFailure v_World_noteFailure (by rw [(s_15).1]; exact q93) (by decide) rfl rfl (Nat.le_of_ble_eq_true rfl) ?_
    have s_17 : Sa H H96 := (s_15).tr (m_World_noteFailure z94)
    refine ab_widen (cells' := H.sh.length - c0) (slots' := H.sl - s0) (by show (H91.sh.length - c0) + 0 ≤ _; omega) (by show (H91.sl - s0) + 0 ≤ _; omega) ?_
    clear b_16e b_16f
    exact ab_vret d_Row_runRow_263 rfl (by show _ ≤ C; omega) (by show _ ≤ Sl; omega) (by have hr := Option.some.inj hF; subst hr; exact ⟨rfl, rfl⟩)
def B_Row_runRow_172 (N : Nat) (p0 : Nat) (p1 : Int32) (p2 : Int32) (kq93 : Int32 → Int32 → Hp → Option (Unit × Hp)) (l4 : Int32) (H : Hp) : Option (Unit × Hp) :=
    ck (H.sh[p0]? = some (8, 0)) <|
    bC (F_Row_nextCode N p0 H) fun v157 H158 =>
    kq93 v157 (l4 + 1) H158
set_option maxRecDepth 20000 in
set_option maxHeartbeats 2000000 in
theorem mB_Row_runRow_172 {N : Nat} {p0 : Nat} {p1 : Int32} {p2 : Int32} {kq93 : Int32 → Int32 → Hp → Option (Unit × Hp)} (hm93 : ∀ (l3 : Int32) (l4 : Int32) (H : Hp) (r : Unit × Hp), kq93 l3 l4 H = some r → Mo H r.2) {l4 : Int32} {H : Hp} {r : Unit × Hp} (hF : B_Row_runRow_172 N p0 p1 p2 kq93 l4 H = some r) : Mo H r.2 := by
  unfold B_Row_runRow_172 at hF
  have hm := Mo.rf H
  obtain ⟨q159, hG⟩ := ck_s hF; clear hF
  obtain ⟨v161, H162, z160, hF⟩ := bC_s hG; clear hG
  replace hm : Mo H H162 := hm.tr ((m_Row_nextCode z160)).mo
  exact hm.tr (hm93 v161 (l4 + 1) H162 r hF)
set_option maxRecDepth 20000 in
set_option maxHeartbeats 2000000 in
theorem kB_Row_runRow_172 {N : Nat} {p0 : Nat} {p1 : Int32} {p2 : Int32} {kq93 : Int32 → Int32 → Hp → Option (Unit × Hp)} {c0 s0 C Sl : Nat} (hm93 : ∀ (l3 : Int32) (l4 : Int32) (H : Hp) (r : Unit × Hp), kq93 l3 l4 H = some r → Mo H r.2) (hk93 : ∀ (l3 : Int32) (l4 : Int32) (H : Hp) (r : Unit × Hp), kq93 l3 l4 H = some r → c0 ≤ H.sh.length → s0 ≤ H.sl → H.sh.length ≤ c0 + C → H.sl ≤ s0 + Sl → r.2.sh.length ≤ c0 + C → r.2.sl ≤ s0 + Sl → ab_V y_Row_runRow { frames := 4, cells := C, slots := Sl, locals := 124 } (po (.returned none) r.2) C Sl (H.sh.length - c0) (H.sl - s0) 93 [some (.ref p0), some (.int p1), some (.int p2), some (.int l3), some (.int l4)] [] (hpw H)) {l4 : Int32} {H : Hp} {r : Unit × Hp} (hF : B_Row_runRow_172 N p0 p1 p2 kq93 l4 H = some r) (hc0 : c0 ≤ H.sh.length) (hs0 : s0 ≤ H.sl) (hcc : H.sh.length ≤ c0 + C) (hss : H.sl ≤ s0 + Sl) (hC : r.2.sh.length ≤ c0 + C) (hS : r.2.sl ≤ s0 + Sl) : ab_V y_Row_runRow { frames := 4, cells := C, slots := Sl, locals := 124 } (po (.returned none) r.2) C Sl (H.sh.length - c0) (H.sl - s0) 172 [some (.ref p0), some (.int p1), some (.int p2), none, some (.int l4)] [] (hpw H) := by
  unfold B_Row_runRow_172 at hF
  refine ab_aload_n d_Row_runRow_172 rfl rfl rfl ?_
  obtain ⟨q155, hG⟩ := ck_s hF; clear hF
  obtain ⟨v157, H158, z156, hF⟩ := bC_s hG; clear hG
  refine hp_callV_a (v := .int v157) (H1 := H158) (As := []) (rest := []) d_Row_runRow_173 (k_Row_nextCode z156) (ab_mkC s_Row_nextCode (Nat.le_of_ble_eq_true rfl) (Nat.le_of_ble_eq_true rfl) (show (H.sh.length - c0) + 0 ≤ C from by omega) (show (H.sl - s0) + 0 ≤ Sl from by omega)) (k6 205 rfl rfl) i_Row_nextCode v_Row_nextCode q155 (by decide) rfl rfl (Nat.le_of_ble_eq_true rfl) ?_
  have s_24 : Sa H H158 := (m_Row_nextCode z156)
  refine ab_widen (cells' := H.sh.length - c0) (slots' := H.sl - s0) (by show (H.sh.length - c0) + 0 ≤ _; omega) (by show (H.sl - s0) + 0 ≤ _; omega) ?_
  refine ab_istore_n (lv' := [some (.ref p0), some (.int p1), some (.int p2), some (.int v157), some (.int l4)]) d_Row_runRow_176 rfl (by decide) rfl ?_
  refine ab_iinc (v := l4 + 1) (lv' := [some (.ref p0), some (.int p1), some (.int p2), some (.int v157), some (.int (l4 + 1))]) d_Row_runRow_177 rfl rfl (by decide) rfl ?_
  refine ab_goto (tgt := 93) d_Row_runRow_180 (by decide) ?_
  refine ab_widen (cells' := H158.sh.length - c0) (slots' := H158.sl - s0) (by rw [(s_24).1]; exact Nat.le_refl _) (by rw [(s_24).2]; exact Nat.le_refl _) ?_
  exact hk93 v157 (l4 + 1) H158 r hF (by rw [(s_24).1]; exact hc0) (by rw [(s_24).2]; exact hs0) (by rw [(s_24).1]; exact hcc) (by rw [(s_24).2]; exact hss) hC hS
def B_Row_runRow_93 (N : Nat) (p0 : Nat) (p1 : Int32) (p2 : Int32) : Nat → Int32 → Int32 → Hp → Option (Unit × Hp)
  | 0, _, _, _ => none
  | n + 1, l3, l4, H =>
    if (4000000 : Int32) ≤ l4 then
    B_Row_runRow_183 N p0 p1 p2  H
    else
    if l3 = (0 : Int32) then
    B_Row_runRow_183 N p0 p1 p2  H
    else
    ck (H.sh[p0]? = some (8, 0)) <|
    bnd ((H.D p0 16)) fun x146 =>
    if x146 = (0 : Int32) then
    if (20 : Int32) ≤ l3 then
    if (30 : Int32) ≤ l3 then
    if (50 : Int32) ≤ l3 then
    if (70 : Int32) ≤ l3 then
    bC (F_Row_fixes N p0 l3 H) fun v153 H154 =>
    B_Row_runRow_172 N p0 p1 p2 (fun l3 l4 H => B_Row_runRow_93 N p0 p1 p2 n l3 l4 H) l4 H154
    else
    bC (F_Row_ints N p0 l3 H) fun v164 H165 =>
    B_Row_runRow_172 N p0 p1 p2 (fun l3 l4 H => B_Row_runRow_93 N p0 p1 p2 n l3 l4 H) l4 H165
    else
    bC (F_Row_value N p0 l3 H) fun v167 H168 =>
    B_Row_runRow_172 N p0 p1 p2 (fun l3 l4 H => B_Row_runRow_93 N p0 p1 p2 n l3 l4 H) l4 H168
    else
    bC (F_Row_command N p0 l3 H) fun v170 H171 =>
    B_Row_runRow_172 N p0 p1 p2 (fun l3 l4 H => B_Row_runRow_93 N p0 p1 p2 n l3 l4 H) l4 H171
    else
    bC (F_Row_control N p0 l3 H) fun v173 H174 =>
    B_Row_runRow_172 N p0 p1 p2 (fun l3 l4 H => B_Row_runRow_93 N p0 p1 p2 n l3 l4 H) l4 H174
    else
    B_Row_runRow_183 N p0 p1 p2  H
termination_by structural n => n
set_option maxRecDepth 20000 in
set_option maxHeartbeats 2000000 in
theorem mB_Row_runRow_93 {N : Nat} {p0 : Nat} {p1 : Int32} {p2 : Int32} : ∀ (n : Nat) (l3 : Int32) (l4 : Int32) (H : Hp) (r : Unit × Hp), B_Row_runRow_93 N p0 p1 p2 n l3 l4 H = some r → Mo H r.2 := by
  intro n
  induction n with
  | zero => intro l3 l4 H r hF; rw [B_Row_runRow_93] at hF; cases hF
  | succ n ih =>
    intro l3 l4 H r hF
    rw [B_Row_runRow_93] at hF
    have hm := Mo.rf H
    rcases ite_s hF with ⟨q_34, hG⟩ | ⟨q_34, hG⟩
    · clear hF
      exact hm.tr (mB_Row_runRow_183 hG)
    · clear hF
      rcases ite_s hG with ⟨q_35, hF⟩ | ⟨q_35, hF⟩
      · clear hG
        exact hm.tr (mB_Row_runRow_183 hF)
      · clear hG
        obtain ⟨q177, hG⟩ := ck_s hF; clear hF
        obtain ⟨x178, -, hF⟩ := bnd_g hG; clear hG
        rcases ite_s hF with ⟨q_36, hG⟩ | ⟨q_36, hG⟩
        · clear hF
          rcases ite_s hG with ⟨q_37, hF⟩ | ⟨q_37, hF⟩
          · clear hG
            rcases ite_s hF with ⟨q_38, hG⟩ | ⟨q_38, hG⟩
            · clear hF
              rcases ite_s hG with ⟨q_39, hF⟩ | ⟨q_39, hF⟩
              · clear hG
                rcases ite_s hF with ⟨q_40, hG⟩ | ⟨q_40, hG⟩
                · clear hF
                  obtain ⟨v185, H186, z184, hF⟩ := bC_s hG; clear hG
                  replace hm : Mo H H186 := hm.tr ((m_Row_fixes z184)).mo
                  exact hm.tr (mB_Row_runRow_172 ih hF)
                · clear hF
                  obtain ⟨v188, H189, z187, hF⟩ := bC_s hG; clear hG
                  replace hm : Mo H H189 := hm.tr ((m_Row_ints z187)).mo
                  exact hm.tr (mB_Row_runRow_172 ih hF)
              · clear hG
                obtain ⟨v191, H192, z190, hG⟩ := bC_s hF; clear hF
                replace hm : Mo H H192 := hm.tr ((m_Row_value z190)).mo
                exact hm.tr (mB_Row_runRow_172 ih hG)
            · clear hF
              obtain ⟨v194, H195, z193, hF⟩ := bC_s hG; clear hG
              replace hm : Mo H H195 := hm.tr (m_Row_command z193)
              exact hm.tr (mB_Row_runRow_172 ih hF)
          · clear hG
            obtain ⟨v197, H198, z196, hG⟩ := bC_s hF; clear hF
            replace hm : Mo H H198 := hm.tr ((m_Row_control z196)).mo
            exact hm.tr (mB_Row_runRow_172 ih hG)
        · clear hF
          exact hm.tr (mB_Row_runRow_183 hG)
set_option maxRecDepth 20000 in
set_option maxHeartbeats 2000000 in
theorem kB_Row_runRow_93 {N : Nat} {p0 : Nat} {p1 : Int32} {p2 : Int32} {c0 s0 C Sl : Nat} : ∀ (n : Nat) (l3 : Int32) (l4 : Int32) (H : Hp) (r : Unit × Hp), B_Row_runRow_93 N p0 p1 p2 n l3 l4 H = some r → c0 ≤ H.sh.length → s0 ≤ H.sl → H.sh.length ≤ c0 + C → H.sl ≤ s0 + Sl → r.2.sh.length ≤ c0 + C → r.2.sl ≤ s0 + Sl → ab_V y_Row_runRow { frames := 4, cells := C, slots := Sl, locals := 124 } (po (.returned none) r.2) C Sl (H.sh.length - c0) (H.sl - s0) 93 [some (.ref p0), some (.int p1), some (.int p2), some (.int l3), some (.int l4)] [] (hpw H) := by
  intro n
  induction n with
  | zero => intro l3 l4 H r hF; rw [B_Row_runRow_93] at hF; cases hF
  | succ n ih =>
    intro l3 l4 H r hF hc0 hs0 hcc hss hC hS
    rw [B_Row_runRow_93] at hF
    refine ab_iload d_Row_runRow_93 rfl ?_
    refine ab_ldc d_Row_runRow_95 (k6 209 rfl rfl) ?_
    refine ab_icmp_ge (tgt := 183) d_Row_runRow_97 (by decide) (fun q49 => ?_) (fun q49 => ?_)
    · rw [if_pos q49] at hF
      refine ab_le (lv' := [some (.ref p0), some (.int p1), some (.int p2), none, none]) ⟨rfl, ⟨rfl, ⟨rfl, trivial⟩⟩⟩ ?_
      exact kB_Row_runRow_183 hF hc0 hs0 hcc hss hC hS
    · rw [if_neg q49] at hF
      refine ab_iload_n d_Row_runRow_100 rfl rfl ?_
      refine ab_if_eq (tgt := 183) d_Row_runRow_101 (by decide) (fun q144 => ?_) (fun q144 => ?_)
      · rw [if_pos q144] at hF
        refine ab_le (lv' := [some (.ref p0), some (.int p1), some (.int p2), none, none]) ⟨rfl, ⟨rfl, ⟨rfl, trivial⟩⟩⟩ ?_
        exact kB_Row_runRow_183 hF hc0 hs0 hcc hss hC hS
      · rw [if_neg q144] at hF
        refine ab_aload_n d_Row_runRow_104 rfl rfl rfl ?_
        obtain ⟨q145, hG⟩ := ck_s hF; clear hF
        refine hp_getI (f := 16) d_Row_runRow_105 q145 (by decide) rfl (by decide) (k2 78 rfl rfl) rfl ?_
        refine ab_topi (fun x146 ex146 => ?_)
        replace hG := bnd_s ex146 hG
        refine ab_if_ne (tgt := 183) d_Row_runRow_108 (by decide) (fun q147 => ?_) (fun q147 => ?_)
        · rw [if_neg q147] at hG
          refine ab_le (lv' := [some (.ref p0), some (.int p1), some (.int p2), none, none]) ⟨rfl, ⟨rfl, ⟨rfl, trivial⟩⟩⟩ ?_
          exact kB_Row_runRow_183 hG hc0 hs0 hcc hss hC hS
        · rw [if_pos q147] at hG
          refine ab_iload_n d_Row_runRow_111 rfl rfl ?_
          refine ab_bipush (v := 20) d_Row_runRow_112 (by decide) ?_
          refine ab_icmp_ge (tgt := 125) d_Row_runRow_114 (by decide) (fun q148 => ?_) (fun q148 => ?_)
          · rw [if_pos q148] at hG
            refine ab_iload_n d_Row_runRow_125 rfl rfl ?_
            refine ab_bipush (v := 30) d_Row_runRow_126 (by decide) ?_
            refine ab_icmp_ge (tgt := 139) d_Row_runRow_128 (by decide) (fun q149 => ?_) (fun q149 => ?_)
            · rw [if_pos q149] at hG
              refine ab_iload_n d_Row_runRow_139 rfl rfl ?_
              refine ab_bipush (v := 50) d_Row_runRow_140 (by decide) ?_
              refine ab_icmp_ge (tgt := 153) d_Row_runRow_142 (by decide) (fun q150 => ?_) (fun q150 => ?_)
              · rw [if_pos q150] at hG
                refine ab_iload_n d_Row_runRow_153 rfl rfl ?_
                refine ab_bipush (v := 70) d_Row_runRow_154 (by decide) ?_
                refine ab_icmp_ge (tgt := 167) d_Row_runRow_156 (by decide) (fun q151 => ?_) (fun q151 => ?_)
                · rw [if_pos q151] at hG
                  refine ab_aload_n d_Row_runRow_167 rfl rfl rfl ?_
                  refine ab_iload_n d_Row_runRow_168 rfl rfl ?_
                  obtain ⟨v153, H154, z152, hF⟩ := bC_s hG; clear hG
                  refine hp_callV_v (H1 := H154) (As := [.int l3]) (rest := []) d_Row_runRow_169 (k_Row_fixes z152) (ab_mkC s_Row_fixes (Nat.le_of_ble_eq_true rfl) (Nat.le_of_ble_eq_true rfl) (show (H.sh.length - c0) + 0 ≤ C from by omega) (show (H.sl - s0) + 0 ≤ Sl from by omega)) (k7 60 rfl rfl) i_Row_fixes v_Row_fixes q145 (by decide) rfl rfl (Nat.le_of_ble_eq_true rfl) ?_
                  have s_22 : Sa H H154 := (m_Row_fixes z152)
                  refine ab_widen (cells' := H.sh.length - c0) (slots' := H.sl - s0) (by show (H.sh.length - c0) + 0 ≤ _; omega) (by show (H.sl - s0) + 0 ≤ _; omega) ?_
                  refine ab_le (lv' := [some (.ref p0), some (.int p1), some (.int p2), none, some (.int l4)]) ⟨rfl, ⟨rfl, ⟨rfl, ⟨rfl, trivial⟩⟩⟩⟩ ?_
                  refine ab_widen (cells' := H154.sh.length - c0) (slots' := H154.sl - s0) (by rw [(s_22).1]; exact Nat.le_refl _) (by rw [(s_22).2]; exact Nat.le_refl _) ?_
                  exact kB_Row_runRow_172 (mB_Row_runRow_93 n) ih hF (by rw [(s_22).1]; exact hc0) (by rw [(s_22).2]; exact hs0) (by rw [(s_22).1]; exact hcc) (by rw [(s_22).2]; exact hss) hC hS
                · rw [if_neg q151] at hG
                  refine ab_aload_n d_Row_runRow_159 rfl rfl rfl ?_
                  refine ab_iload_n d_Row_runRow_160 rfl rfl ?_
                  obtain ⟨v164, H165, z163, hF⟩ := bC_s hG; clear hG
                  refine hp_callV_v (H1 := H165) (As := [.int l3]) (rest := []) d_Row_runRow_161 (k_Row_ints z163) (ab_mkC s_Row_ints (Nat.le_of_ble_eq_true rfl) (Nat.le_of_ble_eq_true rfl) (show (H.sh.length - c0) + 0 ≤ C from by omega) (show (H.sl - s0) + 0 ≤ Sl from by omega)) (k7 53 rfl rfl) i_Row_ints v_Row_ints q145 (by decide) rfl rfl (Nat.le_of_ble_eq_true rfl) ?_
                  have s_26 : Sa H H165 := (m_Row_ints z163)
                  refine ab_widen (cells' := H.sh.length - c0) (slots' := H.sl - s0) (by show (H.sh.length - c0) + 0 ≤ _; omega) (by show (H.sl - s0) + 0 ≤ _; omega) ?_
                  refine ab_goto (tgt := 172) d_Row_runRow_164 (by decide) ?_
                  refine ab_le (lv' := [some (.ref p0), some (.int p1), some (.int p2), none, some (.int l4)]) ⟨rfl, ⟨rfl, ⟨rfl, ⟨rfl, trivial⟩⟩⟩⟩ ?_
                  refine ab_widen (cells' := H165.sh.length - c0) (slots' := H165.sl - s0) (by rw [(s_26).1]; exact Nat.le_refl _) (by rw [(s_26).2]; exact Nat.le_refl _) ?_
                  exact kB_Row_runRow_172 (mB_Row_runRow_93 n) ih hF (by rw [(s_26).1]; exact hc0) (by rw [(s_26).2]; exact hs0) (by rw [(s_26).1]; exact hcc) (by rw [(s_26).2]; exact hss) hC hS
              · rw [if_neg q150] at hG
                refine ab_aload_n d_Row_runRow_145 rfl rfl rfl ?_
                refine ab_iload_n d_Row_runRow_146 rfl rfl ?_
                obtain ⟨v167, H168, z166, hF⟩ := bC_s hG; clear hG
                refine hp_callV_v (H1 := H168) (As := [.int l3]) (rest := []) d_Row_runRow_147 (k_Row_value z166) (ab_mkC s_Row_value (Nat.le_of_ble_eq_true rfl) (Nat.le_of_ble_eq_true rfl) (show (H.sh.length - c0) + 0 ≤ C from by omega) (show (H.sl - s0) + 0 ≤ Sl from by omega)) (k7 29 rfl rfl) i_Row_value v_Row_value q145 (by decide) rfl rfl (Nat.le_of_ble_eq_true rfl) ?_
                have s_28 : Sa H H168 := (m_Row_value z166)
                refine ab_widen (cells' := H.sh.length - c0) (slots' := H.sl - s0) (by show (H.sh.length - c0) + 0 ≤ _; omega) (by show (H.sl - s0) + 0 ≤ _; omega) ?_
                refine ab_goto (tgt := 172) d_Row_runRow_150 (by decide) ?_
                refine ab_le (lv' := [some (.ref p0), some (.int p1), some (.int p2), none, some (.int l4)]) ⟨rfl, ⟨rfl, ⟨rfl, ⟨rfl, trivial⟩⟩⟩⟩ ?_
                refine ab_widen (cells' := H168.sh.length - c0) (slots' := H168.sl - s0) (by rw [(s_28).1]; exact Nat.le_refl _) (by rw [(s_28).2]; exact Nat.le_refl _) ?_
                exact kB_Row_runRow_172 (mB_Row_runRow_93 n) ih hF (by rw [(s_28).1]; exact hc0) (by rw [(s_28).2]; exact hs0) (by rw [(s_28).1]; exact hcc) (by rw [(s_28).2]; exact hss) hC hS
            · rw [if_neg q149] at hG
              refine ab_aload_n d_Row_runRow_131 rfl rfl rfl ?_
              refine ab_iload_n d_Row_runRow_132 rfl rfl ?_
              obtain ⟨v170, H171, z169, hF⟩ := bC_s hG; clear hG
              have mz_29 : Mo H H171 := (m_Row_command z169)
              have b_30l := (mz_29).len
              have b_30s := (mz_29).2
              have b_30c : c0 ≤ H171.sh.length := by omega
              have b_30d : s0 ≤ H171.sl := by omega
              have q_31 := (mz_29).get q145
              have fH171 : Mo H171 r.2 := by
                have hm := Mo.rf H171
                exact hm.tr (mB_Row_runRow_172 (mB_Row_runRow_93 n) hF)
              have b_30m := (fH171).len
              have b_30n := (fH171).2
              have b_30p : H171.sh.length ≤ c0 + C := by omega
              have b_30q : H171.sl ≤ s0 + Sl := by omega
              refine hp_callV_v (H1 := H171) (As := [.int l3]) (rest := []) d_Row_runRow_133 (k_Row_command z169 (C := H171.sh.length - H.sh.length) (Sl := H171.sl - H.sl) (by show H171.sh.length ≤ _; omega) (by show H171.sl ≤ _; omega)) (ab_mkC s_Row_command (Nat.le_of_ble_eq_true rfl) (Nat.le_of_ble_eq_true rfl) (show (H.sh.length - c0) + (H171.sh.length - H.sh.length) ≤ C from by omega) (show (H.sl - s0) + (H171.sl - H.sl) ≤ Sl from by omega)) (k6 239 rfl rfl) i_Row_command v_Row_command q145 (by decide) rfl rfl (Nat.le_of_ble_eq_true rfl) ?_
              refine ab_widen (cells' := H171.sh.length - c0) (slots' := H171.sl - s0) (by show _ + (H171.sh.length - H.sh.length) ≤ _; omega) (by show _ + (H171.sl - H.sl) ≤ _; omega) ?_
              clear b_30l b_30s b_30m b_30n
              refine ab_goto (tgt := 172) d_Row_runRow_136 (by decide) ?_
              refine ab_le (lv' := [some (.ref p0), some (.int p1), some (.int p2), none, some (.int l4)]) ⟨rfl, ⟨rfl, ⟨rfl, ⟨rfl, trivial⟩⟩⟩⟩ ?_
              exact kB_Row_runRow_172 (mB_Row_runRow_93 n) ih hF b_30c b_30d b_30p b_30q hC hS
          · rw [if_neg q148] at hG
            refine ab_aload_n d_Row_runRow_117 rfl rfl rfl ?_
            refine ab_iload_n d_Row_runRow_118 rfl rfl ?_
            obtain ⟨v173, H174, z172, hF⟩ := bC_s hG; clear hG
            refine hp_callV_v (H1 := H174) (As := [.int l3]) (rest := []) d_Row_runRow_119 (k_Row_control z172) (ab_mkC s_Row_control (Nat.le_of_ble_eq_true rfl) (Nat.le_of_ble_eq_true rfl) (show (H.sh.length - c0) + 0 ≤ C from by omega) (show (H.sl - s0) + 0 ≤ Sl from by omega)) (k6 210 rfl rfl) i_Row_control v_Row_control q145 (by decide) rfl rfl (Nat.le_of_ble_eq_true rfl) ?_
            have s_33 : Sa H H174 := (m_Row_control z172)
            refine ab_widen (cells' := H.sh.length - c0) (slots' := H.sl - s0) (by show (H.sh.length - c0) + 0 ≤ _; omega) (by show (H.sl - s0) + 0 ≤ _; omega) ?_
            refine ab_goto (tgt := 172) d_Row_runRow_122 (by decide) ?_
            refine ab_le (lv' := [some (.ref p0), some (.int p1), some (.int p2), none, some (.int l4)]) ⟨rfl, ⟨rfl, ⟨rfl, ⟨rfl, trivial⟩⟩⟩⟩ ?_
            refine ab_widen (cells' := H174.sh.length - c0) (slots' := H174.sl - s0) (by rw [(s_33).1]; exact Nat.le_refl _) (by rw [(s_33).2]; exact Nat.le_refl _) ?_
            exact kB_Row_runRow_172 (mB_Row_runRow_93 n) ih hF (by rw [(s_33).1]; exact hc0) (by rw [(s_33).2]; exact hs0) (by rw [(s_33).1]; exact hcc) (by rw [(s_33).2]; exact hss) hC hS
def F_Row_runRow (N : Nat) (p0 : Nat) (p1 : Int32) (p2 : Int32) (H : Hp) : Option (Unit × Hp) :=
    ck (H.sh[p0]? = some (8, 0)) <|
    bnd (H.sD p0 17 p1) fun H2 =>
    bnd (H2.sD p0 18 p2) fun H3 =>
    rf (H3.P p0 2) fun a4 =>
    ck (H3.sh[a4]? = some (4, 0)) <|
    rf (H3.P a4 13) fun a7 =>
    bnd ((H3.D p0 17)) fun x9 =>
    ar H3 100 a7 fun n10 =>
    ck (inb x9 n10) <|
    bnd ((H3.D a7 (x9).toNatClampNeg)) fun x13 =>
    bnd (H3.sD p0 12 x13) fun H14 =>
    bnd (H14.sD p0 6 (0 : Int32)) fun H15 =>
    bnd (H15.sD p0 13 (0 : Int32)) fun H16 =>
    bnd (H16.sD p0 14 (0 : Int32)) fun H17 =>
    bnd (H17.sD p0 15 (0 : Int32)) fun H18 =>
    bnd (H18.sD p0 16 (0 : Int32)) fun H19 =>
    rf (H19.P p0 3) fun a20 =>
    ck (H19.sh[a20]? = some (7, 0)) <|
    rf (H19.P a20 11) fun a23 =>
    bnd ((H19.D p0 18)) fun x25 =>
    rf (H19.P p0 3) fun a26 =>
    ck (H19.sh[a26]? = some (7, 0)) <|
    bnd ((H19.D a26 10)) fun x29 =>
    rf (H19.P p0 11) fun a30 =>
    rf (H19.P p0 3) fun a32 =>
    ck (H19.sh[a32]? = some (7, 0)) <|
    bnd ((H19.D a32 10)) fun x35 =>
    ar H19 100 a23 fun n36 =>
    ar H19 100 a30 fun n38 =>
    ck (¬ (x25 * x29) < 0) <|
    ck (¬ (0 : Int32) < 0) <|
    ck (¬ x35 < 0) <|
    ck (((x25 * x29)).toNatClampNeg + (x35).toNatClampNeg ≤ n36) <|
    ck (((0 : Int32)).toNatClampNeg + (x35).toNatClampNeg ≤ n38) <|
    bnd (H19.cpy a23 a30 ((x25 * x29)).toNatClampNeg ((0 : Int32)).toNatClampNeg (x35).toNatClampNeg) fun H45 =>
    bC (F_Row_nextCode N p0 H45) fun v47 H48 =>
    B_Row_runRow_93 N p0 p1 p2 N v47 0 H48
set_option maxRecDepth 20000 in
set_option maxHeartbeats 2000000 in
theorem m_Row_runRow {N : Nat} {p0 : Nat} {p1 : Int32} {p2 : Int32} {H : Hp} {r : Unit × Hp} (hF : F_Row_runRow N p0 p1 p2 H = some r) : Mo H r.2 := by
  unfold F_Row_runRow at hF
  have hm := Mo.rf H
  obtain ⟨q199, hG⟩ := ck_s hF; clear hF
  obtain ⟨H200, eH200, hF⟩ := bnd_g hG; clear hG
  replace hm : Mo H H200 := by rw [eH200]; exact hm
  obtain ⟨H201, eH201, hG⟩ := bnd_g hF; clear hF
  replace hm : Mo H H201 := by rw [eH201]; exact hm
  obtain ⟨a202, e203, hF⟩ := rf_s hG; clear hG
  obtain ⟨q204, hG⟩ := ck_s hF; clear hF
  obtain ⟨a205, e206, hF⟩ := rf_s hG; clear hG
  obtain ⟨x207, -, hG⟩ := bnd_g hF; clear hF
  obtain ⟨n208, q209, hF⟩ := ar_s hG; clear hG
  obtain ⟨q210, hG⟩ := ck_s hF; clear hF
  obtain ⟨x211, -, hF⟩ := bnd_g hG; clear hG
  obtain ⟨H212, eH212, hG⟩ := bnd_g hF; clear hF
  replace hm : Mo H H212 := by rw [eH212]; exact hm
  obtain ⟨H213, eH213, hF⟩ := bnd_g hG; clear hG
  replace hm : Mo H H213 := by rw [eH213]; exact hm
  obtain ⟨H214, eH214, hG⟩ := bnd_g hF; clear hF
  replace hm : Mo H H214 := by rw [eH214]; exact hm
  obtain ⟨H215, eH215, hF⟩ := bnd_g hG; clear hG
  replace hm : Mo H H215 := by rw [eH215]; exact hm
  obtain ⟨H216, eH216, hG⟩ := bnd_g hF; clear hF
  replace hm : Mo H H216 := by rw [eH216]; exact hm
  obtain ⟨H217, eH217, hF⟩ := bnd_g hG; clear hG
  replace hm : Mo H H217 := by rw [eH217]; exact hm
  obtain ⟨a218, e219, hG⟩ := rf_s hF; clear hF
  obtain ⟨q220, hF⟩ := ck_s hG; clear hG
  obtain ⟨a221, e222, hG⟩ := rf_s hF; clear hF
  obtain ⟨x223, -, hF⟩ := bnd_g hG; clear hG
  obtain ⟨a224, e225, hG⟩ := rf_s hF; clear hF
  obtain ⟨q226, hF⟩ := ck_s hG; clear hG
  obtain ⟨x227, -, hG⟩ := bnd_g hF; clear hF
  obtain ⟨a228, e229, hF⟩ := rf_s hG; clear hG
  obtain ⟨a230, e231, hG⟩ := rf_s hF; clear hF
  obtain ⟨q232, hF⟩ := ck_s hG; clear hG
  obtain ⟨x233, -, hG⟩ := bnd_g hF; clear hF
  obtain ⟨n234, q235, hF⟩ := ar_s hG; clear hG
  obtain ⟨n236, q237, hG⟩ := ar_s hF; clear hF
  obtain ⟨q238, hF⟩ := ck_s hG; clear hG
  obtain ⟨q239, hG⟩ := ck_s hF; clear hF
  obtain ⟨q240, hF⟩ := ck_s hG; clear hG
  obtain ⟨q241, hG⟩ := ck_s hF; clear hF
  obtain ⟨q242, hF⟩ := ck_s hG; clear hG
  obtain ⟨H243, eH243, hG⟩ := bnd_g hF; clear hF
  replace hm : Mo H H243 := by rw [eH243]; exact hm
  obtain ⟨v245, H246, z244, hF⟩ := bC_s hG; clear hG
  replace hm : Mo H H246 := hm.tr ((m_Row_nextCode z244)).mo
  exact hm.tr (mB_Row_runRow_93 N v245 0 H246 r hF)
set_option maxRecDepth 20000 in
set_option maxHeartbeats 2000000 in
theorem k_Row_runRow {N : Nat} {p0 : Nat} {p1 : Int32} {p2 : Int32} {H : Hp} {r : Unit × Hp} {C Sl : Nat} (hF : F_Row_runRow N p0 p1 p2 H = some r) (hC : r.2.sh.length ≤ H.sh.length + C) (hS : r.2.sl ≤ H.sl + Sl) : ab_M y_Row_runRow { frames := 4, cells := C, slots := Sl, locals := 124 } [.ref p0, .int p1, .int p2] (hpw H) (po (.returned none) r.2) := by
  unfold F_Row_runRow at hF
  obtain ⟨c0, e0⟩ : ∃ q, q = H.sh.length := ⟨_, rfl⟩
  obtain ⟨s0, e1⟩ : ∃ q, q = H.sl := ⟨_, rfl⟩
  rw [← e0] at hC
  rw [← e1] at hS
  have hc0 : c0 ≤ H.sh.length := Nat.le_of_eq e0
  have hs0 : s0 ≤ H.sl := Nat.le_of_eq e1
  have hcc : H.sh.length ≤ c0 + C := by omega
  have hss : H.sl ≤ s0 + Sl := by omega
  refine ab_of2 (lv := [some (.ref p0), some (.int p1), some (.int p2), none, none]) 2 rfl rfl (Nat.le_of_ble_eq_true rfl) ?_
  refine ab_widen (cells' := H.sh.length - c0) (slots' := H.sl - s0) (Nat.zero_le _) (Nat.zero_le _) ?_
  refine ab_aload_n d_Row_runRow_0 rfl rfl rfl ?_
  refine ab_iload_n d_Row_runRow_1 rfl rfl ?_
  obtain ⟨q1, hG⟩ := ck_s hF; clear hF
  refine hp_putI (v := p1) (f := 17) d_Row_runRow_2 q1 (by decide) rfl (by decide) (k2 79 rfl rfl) rfl rfl (fun _ => rfl) (fun _ => rfl) rfl ?_
  refine hp_gen (fun H2 eH2 => ?_)
  replace hG := bnd_s eH2 hG
  have s_1 : Sa H H2 := by rw [eH2]; exact Sa.rf _
  refine ab_aload_n d_Row_runRow_5 rfl rfl rfl ?_
  refine ab_iload_n d_Row_runRow_6 rfl rfl ?_
  refine hp_putI (v := p2) (f := 18) d_Row_runRow_7 (by rw [(s_1).1]; exact q1) (by decide) rfl (by decide) (k2 80 rfl rfl) rfl rfl (fun _ => rfl) (fun _ => rfl) rfl ?_
  refine hp_gen (fun H3 eH3 => ?_)
  replace hG := bnd_s eH3 hG
  have s_2 : Sa H H3 := by rw [eH3]; exact s_1
  refine ab_aload_n d_Row_runRow_10 rfl rfl rfl ?_
  refine ab_aload_n d_Row_runRow_11 rfl rfl rfl ?_
  obtain ⟨a4, e5, hF⟩ := rf_s hG; clear hG
  refine hp_getR (f := 2) d_Row_runRow_12 (by rw [(s_2).1]; exact q1) (by decide) rfl (by decide) (k2 64 rfl rfl) rfl e5 ?_
  obtain ⟨q6, hG⟩ := ck_s hF; clear hF
  rw [(s_2).1] at q6
  obtain ⟨a7, e8, hF⟩ := rf_s hG; clear hG
  refine hp_getR (f := 13) d_Row_runRow_15 (by rw [(s_2).1]; exact q6) (by decide) rfl (by decide) (k3 102 rfl rfl) rfl e8 ?_
  refine ab_aload_n d_Row_runRow_18 rfl rfl rfl ?_
  refine hp_getI (f := 17) d_Row_runRow_19 (by rw [(s_2).1]; exact q1) (by decide) rfl (by decide) (k2 79 rfl rfl) rfl ?_
  refine ab_topi (fun x9 ex9 => ?_)
  replace hF := bnd_s ex9 hF
  obtain ⟨n10, q11, hG⟩ := ar_s hF; clear hF
  rw [(s_2).1] at q11
  obtain ⟨q12, hF⟩ := ck_s hG; clear hG
  refine hp_iald d_Row_runRow_22 tI (by rw [(s_2).1]; exact q11) q12 ?_
  refine ab_topi (fun x13 ex13 => ?_)
  replace hF := bnd_s ex13 hF
  refine hp_putI (v := x13) (f := 12) d_Row_runRow_23 (by rw [(s_2).1]; exact q1) (by decide) rfl (by decide) (k2 74 rfl rfl) rfl rfl (fun _ => rfl) (fun _ => rfl) rfl ?_
  refine hp_gen (fun H14 eH14 => ?_)
  replace hF := bnd_s eH14 hF
  have s_3 : Sa H H14 := by rw [eH14]; exact s_2
  refine ab_aload_n d_Row_runRow_26 rfl rfl rfl ?_
  refine ab_iconst (v := 0) d_Row_runRow_27 (by decide) ?_
  refine hp_putI (v := 0) (f := 6) d_Row_runRow_28 (by rw [(s_3).1]; exact q1) (by decide) rfl (by decide) (k2 68 rfl rfl) rfl rfl (fun _ => rfl) (fun _ => rfl) rfl ?_
  refine hp_gen (fun H15 eH15 => ?_)
  replace hF := bnd_s eH15 hF
  have s_4 : Sa H H15 := by rw [eH15]; exact s_3
  refine ab_aload_n d_Row_runRow_31 rfl rfl rfl ?_
  refine ab_iconst (v := 0) d_Row_runRow_32 (by decide) ?_
  refine hp_putI (v := 0) (f := 13) d_Row_runRow_33 (by rw [(s_4).1]; exact q1) (by decide) rfl (by decide) (k2 75 rfl rfl) rfl rfl (fun _ => rfl) (fun _ => rfl) rfl ?_
  refine hp_gen (fun H16 eH16 => ?_)
  replace hF := bnd_s eH16 hF
  have s_5 : Sa H H16 := by rw [eH16]; exact s_4
  refine ab_aload_n d_Row_runRow_36 rfl rfl rfl ?_
  refine ab_iconst (v := 0) d_Row_runRow_37 (by decide) ?_
  refine hp_putI (v := 0) (f := 14) d_Row_runRow_38 (by rw [(s_5).1]; exact q1) (by decide) rfl (by decide) (k2 76 rfl rfl) rfl rfl (fun _ => rfl) (fun _ => rfl) rfl ?_
  refine hp_gen (fun H17 eH17 => ?_)
  replace hF := bnd_s eH17 hF
  have s_6 : Sa H H17 := by rw [eH17]; exact s_5
  refine ab_aload_n d_Row_runRow_41 rfl rfl rfl ?_
  refine ab_iconst (v := 0) d_Row_runRow_42 (by decide) ?_
  refine hp_putI (v := 0) (f := 15) d_Row_runRow_43 (by rw [(s_6).1]; exact q1) (by decide) rfl (by decide) (k2 77 rfl rfl) rfl rfl (fun _ => rfl) (fun _ => rfl) rfl ?_
  refine hp_gen (fun H18 eH18 => ?_)
  replace hF := bnd_s eH18 hF
  have s_7 : Sa H H18 := by rw [eH18]; exact s_6
  refine ab_aload_n d_Row_runRow_46 rfl rfl rfl ?_
  refine ab_iconst (v := 0) d_Row_runRow_47 (by decide) ?_
  refine hp_putI (v := 0) (f := 16) d_Row_runRow_48 (by rw [(s_7).1]; exact q1) (by decide) rfl (by decide) (k2 78 rfl rfl) rfl rfl (fun _ => rfl) (fun _ => rfl) rfl ?_
  refine hp_gen (fun H19 eH19 => ?_)
  replace hF := bnd_s eH19 hF
  have s_8 : Sa H H19 := by rw [eH19]; exact s_7
  refine ab_aload_n d_Row_runRow_51 rfl rfl rfl ?_
  obtain ⟨a20, e21, hG⟩ := rf_s hF; clear hF
  refine hp_getR (f := 3) d_Row_runRow_52 (by rw [(s_8).1]; exact q1) (by decide) rfl (by decide) (k2 65 rfl rfl) rfl e21 ?_
  obtain ⟨q22, hF⟩ := ck_s hG; clear hG
  rw [(s_8).1] at q22
  obtain ⟨a23, e24, hG⟩ := rf_s hF; clear hF
  refine hp_getR (f := 11) d_Row_runRow_55 (by rw [(s_8).1]; exact q22) (by decide) rfl (by decide) (k1 237 rfl rfl) rfl e24 ?_
  refine ab_aload_n d_Row_runRow_58 rfl rfl rfl ?_
  refine hp_getI (f := 18) d_Row_runRow_59 (by rw [(s_8).1]; exact q1) (by decide) rfl (by decide) (k2 80 rfl rfl) rfl ?_
  refine ab_topi (fun x25 ex25 => ?_)
  replace hG := bnd_s ex25 hG
  refine ab_aload_n d_Row_runRow_62 rfl rfl rfl ?_
  obtain ⟨a26, e27, hF⟩ := rf_s hG; clear hG
  refine hp_getR (f := 3) d_Row_runRow_63 (by rw [(s_8).1]; exact q1) (by decide) rfl (by decide) (k2 65 rfl rfl) rfl e27 ?_
  obtain ⟨q28, hG⟩ := ck_s hF; clear hF
  rw [(s_8).1] at q28
  refine hp_getI (f := 10) d_Row_runRow_66 (by rw [(s_8).1]; exact q28) (by decide) rfl (by decide) (k1 235 rfl rfl) rfl ?_
  refine ab_topi (fun x29 ex29 => ?_)
  replace hG := bnd_s ex29 hG
  refine ab_imul d_Row_runRow_69 ?_
  refine ab_aload_n d_Row_runRow_70 rfl rfl rfl ?_
  obtain ⟨a30, e31, hF⟩ := rf_s hG; clear hG
  refine hp_getR (f := 11) d_Row_runRow_71 (by rw [(s_8).1]; exact q1) (by decide) rfl (by decide) (k2 73 rfl rfl) rfl e31 ?_
  refine ab_iconst (v := 0) d_Row_runRow_74 (by decide) ?_
  refine ab_aload_n d_Row_runRow_75 rfl rfl rfl ?_
  obtain ⟨a32, e33, hG⟩ := rf_s hF; clear hF
  refine hp_getR (f := 3) d_Row_runRow_76 (by rw [(s_8).1]; exact q1) (by decide) rfl (by decide) (k2 65 rfl rfl) rfl e33 ?_
  obtain ⟨q34, hF⟩ := ck_s hG; clear hG
  rw [(s_8).1] at q34
  refine hp_getI (f := 10) d_Row_runRow_79 (by rw [(s_8).1]; exact q34) (by decide) rfl (by decide) (k1 235 rfl rfl) rfl ?_
  refine ab_topi (fun x35 ex35 => ?_)
  replace hF := bnd_s ex35 hF
  obtain ⟨n36, q37, hG⟩ := ar_s hF; clear hF
  rw [(s_8).1] at q37
  obtain ⟨n38, q39, hF⟩ := ar_s hG; clear hG
  rw [(s_8).1] at q39
  obtain ⟨q40, hG⟩ := ck_s hF; clear hF
  obtain ⟨q41, hF⟩ := ck_s hG; clear hG
  obtain ⟨q42, hG⟩ := ck_s hF; clear hF
  obtain ⟨q43, hF⟩ := ck_s hG; clear hG
  obtain ⟨q44, hG⟩ := ck_s hF; clear hF
  refine hp_acopy d_Row_runRow_82 (k6 204 rfl rfl) (k6 113 rfl rfl) (k6 112 rfl rfl) (k1 29 rfl rfl) (by rw [(s_8).1]; exact q37) (by rw [(s_8).1]; exact q39) q40 q41 q42 q43 q44 (Nat.le_of_ble_eq_true rfl) (Nat.le_of_ble_eq_true rfl) ?_
  refine hp_gen (fun H45 eH45 => ?_)
  replace hG := bnd_s eH45 hG
  have s_9 : Sa H H45 := by rw [eH45]; exact s_8
  refine ab_aload_n d_Row_runRow_85 rfl rfl rfl ?_
  obtain ⟨v47, H48, z46, hF⟩ := bC_s hG; clear hG
  refine ab_widen (cells' := H45.sh.length - c0) (slots' := H45.sl - s0) (by rw [(s_9).1]; exact Nat.le_refl _) (by rw [(s_9).2]; exact Nat.le_refl _) ?_
  have b_10e := congrArg List.length (s_9).1
  have b_10f := (s_9).2
  refine hp_callV_a (v := .int v47) (H1 := H48) (As := []) (rest := []) d_Row_runRow_86 (k_Row_nextCode z46) (ab_mkC s_Row_nextCode (Nat.le_of_ble_eq_true rfl) (Nat.le_of_ble_eq_true rfl) (show (H45.sh.length - c0) + 0 ≤ C from by omega) (show (H45.sl - s0) + 0 ≤ Sl from by omega)) (k6 205 rfl rfl) i_Row_nextCode v_Row_nextCode (by rw [(s_9).1]; exact q1) (by decide) rfl rfl (Nat.le_of_ble_eq_true rfl) ?_
  have s_11 : Sa H H48 := (s_9).tr (m_Row_nextCode z46)
  refine ab_widen (cells' := H.sh.length - c0) (slots' := H.sl - s0) (by show (H45.sh.length - c0) + 0 ≤ _; omega) (by show (H45.sl - s0) + 0 ≤ _; omega) ?_
  clear b_10e b_10f
  refine ab_istore_n (lv' := [some (.ref p0), some (.int p1), some (.int p2), some (.int v47), none]) d_Row_runRow_89 rfl (by decide) rfl ?_
  refine ab_iconst (v := 0) d_Row_runRow_90 (by decide) ?_
  refine ab_istore (lv' := [some (.ref p0), some (.int p1), some (.int p2), some (.int v47), some (.int 0)]) d_Row_runRow_91 (by decide) rfl ?_
  refine ab_widen (cells' := H48.sh.length - c0) (slots' := H48.sl - s0) (by rw [(s_11).1]; exact Nat.le_refl _) (by rw [(s_11).2]; exact Nat.le_refl _) ?_
  exact kB_Row_runRow_93 N v47 0 H48 r hF (by rw [(s_11).1]; exact hc0) (by rw [(s_11).2]; exact hs0) (by rw [(s_11).1]; exact hcc) (by rw [(s_11).2]; exact hss) hC hS
def y_World_occupy : ab_Y := (⟨"WorldEngine$World", "occupy", "(II)V"⟩, prog_12_method_12_code, 3, none, [])
theorem d_World_occupy_0 : decode y_World_occupy.2.1 0 = .ok (.aload_n 0, 1) := by decide +kernel
theorem d_World_occupy_1 : decode y_World_occupy.2.1 1 = .ok (.getfield 13, 3) := by decide +kernel
theorem d_World_occupy_4 : decode y_World_occupy.2.1 4 = .ok (.iload_n 1, 1) := by decide +kernel
theorem d_World_occupy_5 : decode y_World_occupy.2.1 5 = .ok (.iload_n 2, 1) := by decide +kernel
theorem d_World_occupy_6 : decode y_World_occupy.2.1 6 = .ok (.iastore, 1) := by decide +kernel
theorem d_World_occupy_7 : decode y_World_occupy.2.1 7 = .ok (.aload_n 0, 1) := by decide +kernel
theorem d_World_occupy_8 : decode y_World_occupy.2.1 8 = .ok (.aload_n 0, 1) := by decide +kernel
theorem d_World_occupy_9 : decode y_World_occupy.2.1 9 = .ok (.getfield 49, 3) := by decide +kernel
theorem d_World_occupy_12 : decode y_World_occupy.2.1 12 = .ok (.iload_n 1, 1) := by decide +kernel
theorem d_World_occupy_13 : decode y_World_occupy.2.1 13 = .ok (.iconst 1, 1) := by decide +kernel
theorem d_World_occupy_14 : decode y_World_occupy.2.1 14 = .ok (.iadd, 1) := by decide +kernel
theorem d_World_occupy_15 : decode y_World_occupy.2.1 15 = .ok (.invokestatic 83, 3) := by decide +kernel
theorem d_World_occupy_18 : decode y_World_occupy.2.1 18 = .ok (.putfield 49, 3) := by decide +kernel
theorem d_World_occupy_21 : decode y_World_occupy.2.1 21 = .ok (.return_, 1) := by decide +kernel
theorem s_World_occupy : ab_Stat y_World_occupy 2 := ⟨(k7 97 rfl rfl), (k1 10 rfl rfl), ⟨by decide, by decide⟩, by decide +kernel⟩
theorem i_World_occupy : Cond.instanceMethod y_World_occupy.1 ∈ ab_T := (k7 95 rfl rfl)
theorem v_World_occupy : Cond.selects "WorldEngine$World" y_World_occupy.1 y_World_occupy.1 ∈ ab_T := (k7 96 rfl rfl)
def F_World_occupy (N : Nat) (p0 : Nat) (p1 : Int32) (p2 : Int32) (H : Hp) : Option (Unit × Hp) :=
    ck (H.sh[p0]? = some (7, 0)) <|
    rf (H.P p0 8) fun a2 =>
    ar H 100 a2 fun n4 =>
    ck (inb p1 n4) <|
    bnd (H.sD a2 (p1).toNatClampNeg p2) fun H7 =>
    bnd ((H7.D p0 9)) fun x8 =>
    bC (F_Math_max N x8 (p1 + (1 : Int32)) H7) fun v10 H11 =>
    bnd (H11.sD p0 9 v10) fun H12 =>
    some ((), H12)
set_option maxRecDepth 20000 in
set_option maxHeartbeats 2000000 in
theorem m_World_occupy {N : Nat} {p0 : Nat} {p1 : Int32} {p2 : Int32} {H : Hp} {r : Unit × Hp} (hF : F_World_occupy N p0 p1 p2 H = some r) : Sa H r.2 := by
  unfold F_World_occupy at hF
  have hm := Sa.rf H
  obtain ⟨q13, hG⟩ := ck_s hF; clear hF
  obtain ⟨a14, e15, hF⟩ := rf_s hG; clear hG
  obtain ⟨n16, q17, hG⟩ := ar_s hF; clear hF
  obtain ⟨q18, hF⟩ := ck_s hG; clear hG
  obtain ⟨H19, eH19, hG⟩ := bnd_g hF; clear hF
  replace hm : Sa H H19 := by rw [eH19]; exact hm
  obtain ⟨x20, -, hF⟩ := bnd_g hG; clear hG
  obtain ⟨v22, H23, z21, hG⟩ := bC_s hF; clear hF
  replace hm : Sa H H23 := hm.tr (m_Math_max z21)
  obtain ⟨H24, eH24, hF⟩ := bnd_g hG; clear hG
  replace hm : Sa H H24 := by rw [eH24]; exact hm
  have hr := Option.some.inj hF; subst hr
  exact hm
set_option maxRecDepth 20000 in
set_option maxHeartbeats 2000000 in
theorem k_World_occupy {N : Nat} {p0 : Nat} {p1 : Int32} {p2 : Int32} {H : Hp} {r : Unit × Hp} (hF : F_World_occupy N p0 p1 p2 H = some r) : ab_M y_World_occupy { frames := 1, cells := 0, slots := 0, locals := 21 } [.ref p0, .int p1, .int p2] (hpw H) (po (.returned none) r.2) := by
  unfold F_World_occupy at hF
  refine ab_of2 (lv := [some (.ref p0), some (.int p1), some (.int p2)]) 0 rfl rfl (Nat.le_of_ble_eq_true rfl) ?_
  refine ab_aload_n d_World_occupy_0 rfl rfl rfl ?_
  obtain ⟨q1, hG⟩ := ck_s hF; clear hF
  obtain ⟨a2, e3, hF⟩ := rf_s hG; clear hG
  refine hp_getR (f := 8) d_World_occupy_1 q1 (by decide) rfl (by decide) (k1 229 rfl rfl) rfl e3 ?_
  refine ab_iload_n d_World_occupy_4 rfl rfl ?_
  refine ab_iload_n d_World_occupy_5 rfl rfl ?_
  obtain ⟨n4, q5, hG⟩ := ar_s hF; clear hF
  obtain ⟨q6, hF⟩ := ck_s hG; clear hG
  refine hp_iast d_World_occupy_6 tI q5 q6 ?_
  refine hp_gen (fun H7 eH7 => ?_)
  replace hF := bnd_s eH7 hF
  have s_1 : Sa H H7 := by rw [eH7]; exact Sa.rf _
  refine ab_aload_n d_World_occupy_7 rfl rfl rfl ?_
  refine ab_aload_n d_World_occupy_8 rfl rfl rfl ?_
  refine hp_getI (f := 9) d_World_occupy_9 (by rw [(s_1).1]; exact q1) (by decide) rfl (by decide) (k1 231 rfl rfl) rfl ?_
  refine ab_topi (fun x8 ex8 => ?_)
  replace hF := bnd_s ex8 hF
  refine ab_iload_n d_World_occupy_12 rfl rfl ?_
  refine ab_iconst (v := 1) d_World_occupy_13 (by decide) ?_
  refine ab_iadd d_World_occupy_14 ?_
  obtain ⟨v10, H11, z9, hG⟩ := bC_s hF; clear hF
  refine hp_callS_a (v := .int v10) (H1 := H11) (As := [.int x8, .int (p1 + (1 : Int32))]) (rest := [.ref p0]) d_World_occupy_15 (k_Math_max z9) (ab_mkC s_Math_max (Nat.le_of_ble_eq_true rfl) (Nat.le_of_ble_eq_true rfl) (Nat.le_refl 0) (Nat.le_refl 0)) (k6 141 rfl rfl) t_Math_max rfl (Nat.le_of_ble_eq_true rfl) ?_
  have s_2 : Sa H H11 := (s_1).tr (m_Math_max z9)
  refine hp_putI (v := v10) (f := 9) d_World_occupy_18 (by rw [(s_2).1]; exact q1) (by decide) rfl (by decide) (k1 231 rfl rfl) rfl rfl (fun _ => rfl) (fun _ => rfl) rfl ?_
  refine hp_gen (fun H12 eH12 => ?_)
  replace hG := bnd_s eH12 hG
  have s_3 : Sa H H12 := by rw [eH12]; exact s_2
  exact ab_vret d_World_occupy_21 rfl (Nat.le_refl _) (Nat.le_refl _) (by have hr := Option.some.inj hG; subst hr; exact ⟨rfl, rfl⟩)
