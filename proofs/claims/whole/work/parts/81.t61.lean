def y_MRunner_root : ab_Y := (⟨"WorldEngineModel$Runner", "root", "(I)I"⟩, prog_15_method_33_code, 8, (some FieldType.int), [])
theorem d_MRunner_root_0 : decode y_MRunner_root.2.1 0 = .ok (.iload_n 1, 1) := by decide +kernel
theorem d_MRunner_root_1 : decode y_MRunner_root.2.1 1 = .ok (.ifCond .ge 10, 3) := by decide +kernel
theorem d_MRunner_root_4 : decode y_MRunner_root.2.1 4 = .ok (.aload_n 0, 1) := by decide +kernel
theorem d_MRunner_root_5 : decode y_MRunner_root.2.1 5 = .ok (.iconst 2, 1) := by decide +kernel
theorem d_MRunner_root_6 : decode y_MRunner_root.2.1 6 = .ok (.invokevirtual 118, 3) := by decide +kernel
theorem d_MRunner_root_9 : decode y_MRunner_root.2.1 9 = .ok (.iconst 0, 1) := by decide +kernel
theorem d_MRunner_root_10 : decode y_MRunner_root.2.1 10 = .ok (.ireturn, 1) := by decide +kernel
theorem d_MRunner_root_11 : decode y_MRunner_root.2.1 11 = .ok (.iload_n 1, 1) := by decide +kernel
theorem d_MRunner_root_12 : decode y_MRunner_root.2.1 12 = .ok (.i2l, 1) := by decide +kernel
theorem d_MRunner_root_13 : decode y_MRunner_root.2.1 13 = .ok (.bipush 16, 2) := by decide +kernel
theorem d_MRunner_root_15 : decode y_MRunner_root.2.1 15 = .ok (.lshl, 1) := by decide +kernel
theorem d_MRunner_root_16 : decode y_MRunner_root.2.1 16 = .ok (.lstore_n 2, 1) := by decide +kernel
theorem d_MRunner_root_17 : decode y_MRunner_root.2.1 17 = .ok (.lconst 0, 1) := by decide +kernel
theorem d_MRunner_root_18 : decode y_MRunner_root.2.1 18 = .ok (.lstore 4, 2) := by decide +kernel
theorem d_MRunner_root_20 : decode y_MRunner_root.2.1 20 = .ok (.ldc2_w 301, 3) := by decide +kernel
theorem d_MRunner_root_23 : decode y_MRunner_root.2.1 23 = .ok (.lstore 6, 2) := by decide +kernel
theorem d_MRunner_root_25 : decode y_MRunner_root.2.1 25 = .ok (.lload 6, 2) := by decide +kernel
theorem d_MRunner_root_27 : decode y_MRunner_root.2.1 27 = .ok (.lconst 0, 1) := by decide +kernel
theorem d_MRunner_root_28 : decode y_MRunner_root.2.1 28 = .ok (.lcmp, 1) := by decide +kernel
theorem d_MRunner_root_29 : decode y_MRunner_root.2.1 29 = .ok (.ifCond .le 40, 3) := by decide +kernel
theorem d_MRunner_root_32 : decode y_MRunner_root.2.1 32 = .ok (.lload 4, 2) := by decide +kernel
theorem d_MRunner_root_34 : decode y_MRunner_root.2.1 34 = .ok (.lload 6, 2) := by decide +kernel
theorem d_MRunner_root_36 : decode y_MRunner_root.2.1 36 = .ok (.ladd, 1) := by decide +kernel
theorem d_MRunner_root_37 : decode y_MRunner_root.2.1 37 = .ok (.lload 4, 2) := by decide +kernel
theorem d_MRunner_root_39 : decode y_MRunner_root.2.1 39 = .ok (.lload 6, 2) := by decide +kernel
theorem d_MRunner_root_41 : decode y_MRunner_root.2.1 41 = .ok (.ladd, 1) := by decide +kernel
theorem d_MRunner_root_42 : decode y_MRunner_root.2.1 42 = .ok (.lmul, 1) := by decide +kernel
theorem d_MRunner_root_43 : decode y_MRunner_root.2.1 43 = .ok (.lload_n 2, 1) := by decide +kernel
theorem d_MRunner_root_44 : decode y_MRunner_root.2.1 44 = .ok (.lcmp, 1) := by decide +kernel
theorem d_MRunner_root_45 : decode y_MRunner_root.2.1 45 = .ok (.ifCond .gt 11, 3) := by decide +kernel
theorem d_MRunner_root_48 : decode y_MRunner_root.2.1 48 = .ok (.lload 4, 2) := by decide +kernel
theorem d_MRunner_root_50 : decode y_MRunner_root.2.1 50 = .ok (.lload 6, 2) := by decide +kernel
theorem d_MRunner_root_52 : decode y_MRunner_root.2.1 52 = .ok (.ladd, 1) := by decide +kernel
theorem d_MRunner_root_53 : decode y_MRunner_root.2.1 53 = .ok (.goto 5, 3) := by decide +kernel
theorem d_MRunner_root_56 : decode y_MRunner_root.2.1 56 = .ok (.lload 4, 2) := by decide +kernel
theorem d_MRunner_root_58 : decode y_MRunner_root.2.1 58 = .ok (.lstore 4, 2) := by decide +kernel
theorem d_MRunner_root_60 : decode y_MRunner_root.2.1 60 = .ok (.lload 6, 2) := by decide +kernel
theorem d_MRunner_root_62 : decode y_MRunner_root.2.1 62 = .ok (.iconst 1, 1) := by decide +kernel
theorem d_MRunner_root_63 : decode y_MRunner_root.2.1 63 = .ok (.lshr, 1) := by decide +kernel
theorem d_MRunner_root_64 : decode y_MRunner_root.2.1 64 = .ok (.lstore 6, 2) := by decide +kernel
theorem d_MRunner_root_66 : decode y_MRunner_root.2.1 66 = .ok (.goto (-41), 3) := by decide +kernel
theorem d_MRunner_root_69 : decode y_MRunner_root.2.1 69 = .ok (.lload 4, 2) := by decide +kernel
theorem d_MRunner_root_71 : decode y_MRunner_root.2.1 71 = .ok (.l2i, 1) := by decide +kernel
theorem d_MRunner_root_72 : decode y_MRunner_root.2.1 72 = .ok (.ireturn, 1) := by decide +kernel
theorem s_MRunner_root : ab_Stat y_MRunner_root 1 := ⟨(k12 71 rfl rfl), (k1 22 rfl rfl), ⟨by decide, by decide⟩, by decide +kernel⟩
theorem i_MRunner_root : Cond.instanceMethod y_MRunner_root.1 ∈ ab_T := (k12 70 rfl rfl)
theorem v_MRunner_root : Cond.selects "WorldEngineModel$Runner" y_MRunner_root.1 y_MRunner_root.1 ∈ ab_T := ab_s (List.mem_of_getElem? (i := 192) rfl) rfl
def B_MRunner_root_58 (N : Nat) (p0 : Nat) (p1 : Int32) (kq25 : Int64 → Int64 → Int64 → Hp → Option (Int32 × Hp)) (l2 : Int64) (l6 : Int64) (w0 : Int64) (H : Hp) : Option (Int32 × Hp) :=
    bnd (l6 >>> (((1 : Int32) : Int32).toInt64 &&& 63)) fun x5 =>
    kq25 l2 w0 x5 H
set_option maxRecDepth 20000 in
set_option maxHeartbeats 2000000 in
theorem mB_MRunner_root_58 {N : Nat} {p0 : Nat} {p1 : Int32} {kq25 : Int64 → Int64 → Int64 → Hp → Option (Int32 × Hp)} (hm25 : ∀ (l2 : Int64) (l4 : Int64) (l6 : Int64) (H : Hp) (r : Int32 × Hp), kq25 l2 l4 l6 H = some r → Sa H r.2) {l2 : Int64} {l6 : Int64} {w0 : Int64} {H : Hp} {r : Int32 × Hp} (hF : B_MRunner_root_58 N p0 p1 kq25 l2 l6 w0 H = some r) : Sa H r.2 := by
  unfold B_MRunner_root_58 at hF
  have hm := Sa.rf H
  obtain ⟨x6, -, hG⟩ := bnd_g hF; clear hF
  exact hm.tr (hm25 l2 w0 x6 H r hG)
set_option maxRecDepth 20000 in
set_option maxHeartbeats 2000000 in
theorem kB_MRunner_root_58 {N : Nat} {p0 : Nat} {p1 : Int32} {kq25 : Int64 → Int64 → Int64 → Hp → Option (Int32 × Hp)} (hm25 : ∀ (l2 : Int64) (l4 : Int64) (l6 : Int64) (H : Hp) (r : Int32 × Hp), kq25 l2 l4 l6 H = some r → Sa H r.2) (hk25 : ∀ (l2 : Int64) (l4 : Int64) (l6 : Int64) (H : Hp) (r : Int32 × Hp), kq25 l2 l4 l6 H = some r → ab_V y_MRunner_root { frames := 1, cells := 0, slots := 0, locals := 21 } (po (.returned (some (.int r.1))) r.2) 0 0 0 0 25 [some (.ref p0), some (.int p1), some (.long l2), none, some (.long l4), none, some (.long l6), none] [] (hpw H)) {l2 : Int64} {l6 : Int64} {w0 : Int64} {H : Hp} {r : Int32 × Hp} (hF : B_MRunner_root_58 N p0 p1 kq25 l2 l6 w0 H = some r) : ab_V y_MRunner_root { frames := 1, cells := 0, slots := 0, locals := 21 } (po (.returned (some (.int r.1))) r.2) 0 0 0 0 58 [some (.ref p0), some (.int p1), some (.long l2), none, none, none, some (.long l6), none] [.long w0] (hpw H) := by
  unfold B_MRunner_root_58 at hF
  refine ab_lstore (lv' := [some (.ref p0), some (.int p1), some (.long l2), none, some (.long w0), none, some (.long l6), none]) d_MRunner_root_58 (by decide) rfl ?_
  refine ab_lload d_MRunner_root_60 rfl ?_
  refine ab_iconst (v := 1) d_MRunner_root_62 (by decide) ?_
  refine ab_lshr d_MRunner_root_63 ?_
  refine ab_topl (fun x5 ex5 => ?_)
  replace hF := bnd_s ex5 hF
  refine ab_lstore (lv' := [some (.ref p0), some (.int p1), some (.long l2), none, some (.long w0), none, some (.long x5), none]) d_MRunner_root_64 (by decide) rfl ?_
  refine ab_goto (tgt := 25) d_MRunner_root_66 (by decide) ?_
  exact hk25 l2 w0 x5 H r hF
def B_MRunner_root_25 (N : Nat) (p0 : Nat) (p1 : Int32) : Nat → Int64 → Int64 → Int64 → Hp → Option (Int32 × Hp)
  | 0, _, _, _, _ => none
  | n + 1, l2, l4, l6, H =>
    if (lg_cmp l6 (0 : Int64)) ≤ (0 : Int32) then
    some ((l4 : Int64).toInt32, H)
    else
    if (0 : Int32) < (lg_cmp ((l4 + l6) * (l4 + l6)) l2) then
    B_MRunner_root_58 N p0 p1 (fun l2 l4 l6 H => B_MRunner_root_25 N p0 p1 n l2 l4 l6 H) l2 l6 l4 H
    else
    B_MRunner_root_58 N p0 p1 (fun l2 l4 l6 H => B_MRunner_root_25 N p0 p1 n l2 l4 l6 H) l2 l6 (l4 + l6) H
termination_by structural n => n
set_option maxRecDepth 20000 in
set_option maxHeartbeats 2000000 in
theorem mB_MRunner_root_25 {N : Nat} {p0 : Nat} {p1 : Int32} : ∀ (n : Nat) (l2 : Int64) (l4 : Int64) (l6 : Int64) (H : Hp) (r : Int32 × Hp), B_MRunner_root_25 N p0 p1 n l2 l4 l6 H = some r → Sa H r.2 := by
  intro n
  induction n with
  | zero => intro l2 l4 l6 H r hF; rw [B_MRunner_root_25] at hF; cases hF
  | succ n ih =>
    intro l2 l4 l6 H r hF
    rw [B_MRunner_root_25] at hF
    have hm := Sa.rf H
    rcases ite_s hF with ⟨q_1, hG⟩ | ⟨q_1, hG⟩
    · clear hF
      have hr := Option.some.inj hG; subst hr
      exact hm
    · clear hF
      rcases ite_s hG with ⟨q_2, hF⟩ | ⟨q_2, hF⟩
      · clear hG
        exact hm.tr (mB_MRunner_root_58 ih hF)
      · clear hG
        exact hm.tr (mB_MRunner_root_58 ih hF)
set_option maxRecDepth 20000 in
set_option maxHeartbeats 2000000 in
theorem kB_MRunner_root_25 {N : Nat} {p0 : Nat} {p1 : Int32} : ∀ (n : Nat) (l2 : Int64) (l4 : Int64) (l6 : Int64) (H : Hp) (r : Int32 × Hp), B_MRunner_root_25 N p0 p1 n l2 l4 l6 H = some r → ab_V y_MRunner_root { frames := 1, cells := 0, slots := 0, locals := 21 } (po (.returned (some (.int r.1))) r.2) 0 0 0 0 25 [some (.ref p0), some (.int p1), some (.long l2), none, some (.long l4), none, some (.long l6), none] [] (hpw H) := by
  intro n
  induction n with
  | zero => intro l2 l4 l6 H r hF; rw [B_MRunner_root_25] at hF; cases hF
  | succ n ih =>
    intro l2 l4 l6 H r hF
    rw [B_MRunner_root_25] at hF
    refine ab_lload d_MRunner_root_25 rfl ?_
    refine ab_lconst (v := 0) d_MRunner_root_27 (by decide) ?_
    refine ab_lcmp d_MRunner_root_28 ?_
    refine ab_if_le (tgt := 69) d_MRunner_root_29 (by decide) (fun q3 => ?_) (fun q3 => ?_)
    · rw [if_pos q3] at hF
      refine ab_lload d_MRunner_root_69 rfl ?_
      refine ab_l2i d_MRunner_root_71 ?_
      exact ab_iret d_MRunner_root_72 rfl (Nat.le_refl _) (Nat.le_refl _) (by have hr := Option.some.inj hF; subst hr; exact ⟨rfl, rfl⟩)
    · rw [if_neg q3] at hF
      refine ab_lload d_MRunner_root_32 rfl ?_
      refine ab_lload d_MRunner_root_34 rfl ?_
      refine ab_ladd d_MRunner_root_36 ?_
      refine ab_lload d_MRunner_root_37 rfl ?_
      refine ab_lload d_MRunner_root_39 rfl ?_
      refine ab_ladd d_MRunner_root_41 ?_
      refine ab_lmul d_MRunner_root_42 ?_
      refine ab_lload_n d_MRunner_root_43 rfl rfl ?_
      refine ab_lcmp d_MRunner_root_44 ?_
      refine ab_if_gt (tgt := 56) d_MRunner_root_45 (by decide) (fun q4 => ?_) (fun q4 => ?_)
      · rw [if_pos q4] at hF
        refine ab_lload d_MRunner_root_56 rfl ?_
        refine ab_le (lv' := [some (.ref p0), some (.int p1), some (.long l2), none, none, none, some (.long l6), none]) ⟨rfl, ⟨rfl, ⟨rfl, ⟨rfl, trivial⟩⟩⟩⟩ ?_
        exact kB_MRunner_root_58 (mB_MRunner_root_25 n) ih hF
      · rw [if_neg q4] at hF
        refine ab_lload d_MRunner_root_48 rfl ?_
        refine ab_lload d_MRunner_root_50 rfl ?_
        refine ab_ladd d_MRunner_root_52 ?_
        refine ab_goto (tgt := 58) d_MRunner_root_53 (by decide) ?_
        refine ab_le (lv' := [some (.ref p0), some (.int p1), some (.long l2), none, none, none, some (.long l6), none]) ⟨rfl, ⟨rfl, ⟨rfl, ⟨rfl, trivial⟩⟩⟩⟩ ?_
        exact kB_MRunner_root_58 (mB_MRunner_root_25 n) ih hF
def F_MRunner_root (N : Nat) (p0 : Nat) (p1 : Int32) (H : Hp) : Option (Int32 × Hp) :=
    if (0 : Int32) ≤ p1 then
    bnd (((p1 : Int32).toInt64) <<< (((16 : Int32) : Int32).toInt64 &&& 63)) fun x2 =>
    B_MRunner_root_25 N p0 p1 N x2 0 16777216 H
    else
    ck (H.sh[p0]? = some (15, 0)) <|
    bC (F_MRunner_fails N p0 (2 : Int32) H) fun v11 H12 =>
    some (0, H12)
set_option maxRecDepth 20000 in
set_option maxHeartbeats 2000000 in
theorem m_MRunner_root {N : Nat} {p0 : Nat} {p1 : Int32} {H : Hp} {r : Int32 × Hp} (hF : F_MRunner_root N p0 p1 H = some r) : Sa H r.2 := by
  unfold F_MRunner_root at hF
  have hm := Sa.rf H
  rcases ite_s hF with ⟨q_4, hG⟩ | ⟨q_4, hG⟩
  · clear hF
    obtain ⟨x14, -, hF⟩ := bnd_g hG; clear hG
    exact hm.tr (mB_MRunner_root_25 N x14 0 16777216 H r hF)
  · clear hF
    obtain ⟨q15, hF⟩ := ck_s hG; clear hG
    obtain ⟨v17, H18, z16, hG⟩ := bC_s hF; clear hF
    replace hm : Sa H H18 := hm.tr (m_MRunner_fails z16)
    have hr := Option.some.inj hG; subst hr
    exact hm
set_option maxRecDepth 20000 in
set_option maxHeartbeats 2000000 in
theorem k_MRunner_root {N : Nat} {p0 : Nat} {p1 : Int32} {H : Hp} {r : Int32 × Hp} (hF : F_MRunner_root N p0 p1 H = some r) : ab_M y_MRunner_root { frames := 1, cells := 0, slots := 0, locals := 21 } [.ref p0, .int p1] (hpw H) (po (.returned (some (.int r.1))) r.2) := by
  unfold F_MRunner_root at hF
  refine ab_of2 (lv := [some (.ref p0), some (.int p1), none, none, none, none, none, none]) 6 rfl rfl (Nat.le_of_ble_eq_true rfl) ?_
  refine ab_iload_n d_MRunner_root_0 rfl rfl ?_
  refine ab_if_ge (tgt := 11) d_MRunner_root_1 (by decide) (fun q1 => ?_) (fun q1 => ?_)
  · rw [if_pos q1] at hF
    refine ab_iload_n d_MRunner_root_11 rfl rfl ?_
    refine ab_i2l d_MRunner_root_12 ?_
    refine ab_bipush (v := 16) d_MRunner_root_13 (by decide) ?_
    refine ab_lshl d_MRunner_root_15 ?_
    refine ab_topl (fun x2 ex2 => ?_)
    replace hF := bnd_s ex2 hF
    refine ab_lstore_n (lv' := [some (.ref p0), some (.int p1), some (.long x2), none, none, none, none, none]) d_MRunner_root_16 rfl (by decide) rfl ?_
    refine ab_lconst (v := 0) d_MRunner_root_17 (by decide) ?_
    refine ab_lstore (lv' := [some (.ref p0), some (.int p1), some (.long x2), none, some (.long 0), none, none, none]) d_MRunner_root_18 (by decide) rfl ?_
    refine ab_ldc2 d_MRunner_root_20 (k12 72 rfl rfl) ?_
    refine ab_lstore (lv' := [some (.ref p0), some (.int p1), some (.long x2), none, some (.long 0), none, some (.long 16777216), none]) d_MRunner_root_23 (by decide) rfl ?_
    exact kB_MRunner_root_25 N x2 0 16777216 H r hF
  · rw [if_neg q1] at hF
    refine ab_aload_n d_MRunner_root_4 rfl rfl rfl ?_
    refine ab_iconst (v := 2) d_MRunner_root_5 (by decide) ?_
    obtain ⟨q9, hG⟩ := ck_s hF; clear hF
    obtain ⟨v11, H12, z10, hF⟩ := bC_s hG; clear hG
    refine hp_callV_v (H1 := H12) (As := [.int 2]) (rest := []) d_MRunner_root_6 (k_MRunner_fails z10) (ab_mkC s_MRunner_fails (Nat.le_of_ble_eq_true rfl) (Nat.le_of_ble_eq_true rfl) (Nat.le_refl 0) (Nat.le_refl 0)) (k12 2 rfl rfl) i_MRunner_fails v_MRunner_fails q9 (by decide) rfl rfl (Nat.le_of_ble_eq_true rfl) ?_
    have s_3 : Sa H H12 := (m_MRunner_fails z10)
    refine ab_iconst (v := 0) d_MRunner_root_9 (by decide) ?_
    exact ab_iret d_MRunner_root_10 rfl (Nat.le_refl _) (Nat.le_refl _) (by have hr := Option.some.inj hF; subst hr; exact ⟨rfl, rfl⟩)
def y_MRunner_called : ab_Y := (⟨"WorldEngineModel$Runner", "called", "(II)I"⟩, prog_15_method_31_code, 3, (some FieldType.int), [])
theorem d_MRunner_called_0 : decode y_MRunner_called.2.1 0 = .ok (.iload_n 1, 1) := by decide +kernel
theorem d_MRunner_called_1 : decode y_MRunner_called.2.1 1 = .ok (.lookupswitch 108 #[(209, 103), (236, 51), (237, 74), (238, 80), (239, 97)], 51) := by decide +kernel
theorem d_MRunner_called_52 : decode y_MRunner_called.2.1 52 = .ok (.iload_n 2, 1) := by decide +kernel
theorem d_MRunner_called_53 : decode y_MRunner_called.2.1 53 = .ok (.i2l, 1) := by decide +kernel
theorem d_MRunner_called_54 : decode y_MRunner_called.2.1 54 = .ok (.lconst 0, 1) := by decide +kernel
theorem d_MRunner_called_55 : decode y_MRunner_called.2.1 55 = .ok (.ldc2_w 281, 3) := by decide +kernel
theorem d_MRunner_called_58 : decode y_MRunner_called.2.1 58 = .ok (.invokestatic 211, 3) := by decide +kernel
theorem d_MRunner_called_61 : decode y_MRunner_called.2.1 61 = .ok (.ifCond .eq 12, 3) := by decide +kernel
theorem d_MRunner_called_64 : decode y_MRunner_called.2.1 64 = .ok (.aload_n 0, 1) := by decide +kernel
theorem d_MRunner_called_65 : decode y_MRunner_called.2.1 65 = .ok (.getfield 33, 3) := by decide +kernel
theorem d_MRunner_called_68 : decode y_MRunner_called.2.1 68 = .ok (.iload_n 2, 1) := by decide +kernel
theorem d_MRunner_called_69 : decode y_MRunner_called.2.1 69 = .ok (.iaload, 1) := by decide +kernel
theorem d_MRunner_called_70 : decode y_MRunner_called.2.1 70 = .ok (.goto 4, 3) := by decide +kernel
theorem d_MRunner_called_73 : decode y_MRunner_called.2.1 73 = .ok (.iconst 0, 1) := by decide +kernel
theorem d_MRunner_called_74 : decode y_MRunner_called.2.1 74 = .ok (.ireturn, 1) := by decide +kernel
theorem d_MRunner_called_75 : decode y_MRunner_called.2.1 75 = .ok (.aload_n 0, 1) := by decide +kernel
theorem d_MRunner_called_76 : decode y_MRunner_called.2.1 76 = .ok (.iload_n 2, 1) := by decide +kernel
theorem d_MRunner_called_77 : decode y_MRunner_called.2.1 77 = .ok (.invokevirtual 283, 3) := by decide +kernel
theorem d_MRunner_called_80 : decode y_MRunner_called.2.1 80 = .ok (.ireturn, 1) := by decide +kernel
theorem d_MRunner_called_81 : decode y_MRunner_called.2.1 81 = .ok (.aload_n 0, 1) := by decide +kernel
theorem d_MRunner_called_82 : decode y_MRunner_called.2.1 82 = .ok (.getfield 29, 3) := by decide +kernel
theorem d_MRunner_called_85 : decode y_MRunner_called.2.1 85 = .ok (.iload_n 2, 1) := by decide +kernel
theorem d_MRunner_called_86 : decode y_MRunner_called.2.1 86 = .ok (.invokevirtual 286, 3) := by decide +kernel
theorem d_MRunner_called_89 : decode y_MRunner_called.2.1 89 = .ok (.ifCond .eq 7, 3) := by decide +kernel
theorem d_MRunner_called_92 : decode y_MRunner_called.2.1 92 = .ok (.iconst 1, 1) := by decide +kernel
theorem d_MRunner_called_93 : decode y_MRunner_called.2.1 93 = .ok (.goto 4, 3) := by decide +kernel
theorem d_MRunner_called_96 : decode y_MRunner_called.2.1 96 = .ok (.iconst 0, 1) := by decide +kernel
theorem d_MRunner_called_97 : decode y_MRunner_called.2.1 97 = .ok (.ireturn, 1) := by decide +kernel
theorem d_MRunner_called_98 : decode y_MRunner_called.2.1 98 = .ok (.aload_n 0, 1) := by decide +kernel
theorem d_MRunner_called_99 : decode y_MRunner_called.2.1 99 = .ok (.iload_n 2, 1) := by decide +kernel
theorem d_MRunner_called_100 : decode y_MRunner_called.2.1 100 = .ok (.invokevirtual 289, 3) := by decide +kernel
theorem d_MRunner_called_103 : decode y_MRunner_called.2.1 103 = .ok (.ireturn, 1) := by decide +kernel
theorem d_MRunner_called_104 : decode y_MRunner_called.2.1 104 = .ok (.iload_n 2, 1) := by decide +kernel
theorem d_MRunner_called_105 : decode y_MRunner_called.2.1 105 = .ok (.bipush 16, 2) := by decide +kernel
theorem d_MRunner_called_107 : decode y_MRunner_called.2.1 107 = .ok (.ishr, 1) := by decide +kernel
theorem d_MRunner_called_108 : decode y_MRunner_called.2.1 108 = .ok (.ireturn, 1) := by decide +kernel
theorem d_MRunner_called_109 : decode y_MRunner_called.2.1 109 = .ok (.iconst 2, 1) := by decide +kernel
theorem d_MRunner_called_110 : decode y_MRunner_called.2.1 110 = .ok (.ldc2_w 292, 3) := by decide +kernel
theorem d_MRunner_called_113 : decode y_MRunner_called.2.1 113 = .ok (.iload_n 2, 1) := by decide +kernel
theorem d_MRunner_called_114 : decode y_MRunner_called.2.1 114 = .ok (.i2l, 1) := by decide +kernel
theorem d_MRunner_called_115 : decode y_MRunner_called.2.1 115 = .ok (.lmul, 1) := by decide +kernel
theorem d_MRunner_called_116 : decode y_MRunner_called.2.1 116 = .ok (.invokestatic 167, 3) := by decide +kernel
theorem d_MRunner_called_119 : decode y_MRunner_called.2.1 119 = .ok (.ireturn, 1) := by decide +kernel
theorem s_MRunner_called : ab_Stat y_MRunner_called 2 := ⟨(k12 58 rfl rfl), (k1 22 rfl rfl), ⟨by decide, by decide⟩, by decide +kernel⟩
theorem i_MRunner_called : Cond.instanceMethod y_MRunner_called.1 ∈ ab_T := (k12 57 rfl rfl)
theorem v_MRunner_called : Cond.selects "WorldEngineModel$Runner" y_MRunner_called.1 y_MRunner_called.1 ∈ ab_T := ab_s (List.mem_of_getElem? (i := 190) rfl) rfl
def F_MRunner_called (N : Nat) (p0 : Nat) (p1 : Int32) (p2 : Int32) (H : Hp) : Option (Int32 × Hp) :=
    if p1 = 209 then
    some (p2 >>> ((16 : Int32) &&& 31), H)
    else if p1 = 236 then
    bC (F_M_in N ((p2 : Int32).toInt64) (0 : Int64) (3 : Int64) H) fun v4 H5 =>
    if v4 = (0 : Int32) then
    some (0, H5)
    else
    ck (H5.sh[p0]? = some (15, 0)) <|
    rf (H5.P p0 2) fun a8 =>
    ar H5 100 a8 fun n10 =>
    ck (inb p2 n10) <|
    bnd ((H5.D a8 (p2).toNatClampNeg)) fun x13 =>
    some (x13, H5)
    else if p1 = 237 then
    ck (H.sh[p0]? = some (15, 0)) <|
    bC (F_MRunner_drawn N p0 p2 H) fun v17 H18 =>
    some (v17, H18)
    else if p1 = 238 then
    ck (H.sh[p0]? = some (15, 0)) <|
    rf (H.P p0 1) fun a21 =>
    ck (H.sh[a21]? = some (13, 0)) <|
    bC (F_MWorld_isAlive N a21 p2 H) fun v25 H26 =>
    if v25 = (0 : Int32) then
    some (0, H26)
    else
    some (1, H26)
    else if p1 = 239 then
    ck (H.sh[p0]? = some (15, 0)) <|
    bC (F_MRunner_root N p0 p2 H) fun v31 H32 =>
    some (v31, H32)
    else bC (F_M_held N (2 : Int32) ((65536 : Int64) * ((p2 : Int32).toInt64)) H) fun v34 H35 =>
    some (v34, H35)
set_option maxRecDepth 20000 in
set_option maxHeartbeats 2000000 in
theorem m_MRunner_called {N : Nat} {p0 : Nat} {p1 : Int32} {p2 : Int32} {H : Hp} {r : Int32 × Hp} (hF : F_MRunner_called N p0 p1 p2 H = some r) : Sa H r.2 := by
  unfold F_MRunner_called at hF
  have hm := Sa.rf H
  rcases ite_s hF with ⟨q_6, hG⟩ | ⟨q_6, hG⟩
  · clear hF
    have hr := Option.some.inj hG; subst hr
    exact hm
  clear hF
  rcases ite_s hG with ⟨q_7, hF⟩ | ⟨q_7, hF⟩
  · clear hG
    obtain ⟨v39, H40, z38, hG⟩ := bC_s hF; clear hF
    replace hm : Sa H H40 := hm.tr (m_M_in z38)
    rcases ite_s hG with ⟨q_9, hF⟩ | ⟨q_9, hF⟩
    · clear hG
      have hr := Option.some.inj hF; subst hr
      exact hm
    · clear hG
      obtain ⟨q42, hG⟩ := ck_s hF; clear hF
      obtain ⟨a43, e44, hF⟩ := rf_s hG; clear hG
      obtain ⟨n45, q46, hG⟩ := ar_s hF; clear hF
      obtain ⟨q47, hF⟩ := ck_s hG; clear hG
      obtain ⟨x48, -, hG⟩ := bnd_g hF; clear hF
      have hr := Option.some.inj hG; subst hr
      exact hm
  clear hG
  rcases ite_s hF with ⟨q_10, hG⟩ | ⟨q_10, hG⟩
  · clear hF
    obtain ⟨q50, hF⟩ := ck_s hG; clear hG
    obtain ⟨v52, H53, z51, hG⟩ := bC_s hF; clear hF
    replace hm : Sa H H53 := hm.tr (m_MRunner_drawn z51)
    have hr := Option.some.inj hG; subst hr
    exact hm
  clear hF
  rcases ite_s hG with ⟨q_12, hF⟩ | ⟨q_12, hF⟩
  · clear hG
    obtain ⟨q55, hG⟩ := ck_s hF; clear hF
    obtain ⟨a56, e57, hF⟩ := rf_s hG; clear hG
    obtain ⟨q58, hG⟩ := ck_s hF; clear hF
    obtain ⟨v60, H61, z59, hF⟩ := bC_s hG; clear hG
    replace hm : Sa H H61 := hm.tr (m_MWorld_isAlive z59)
    rcases ite_s hF with ⟨q_14, hG⟩ | ⟨q_14, hG⟩
    · clear hF
      have hr := Option.some.inj hG; subst hr
      exact hm
    · clear hF
      have hr := Option.some.inj hG; subst hr
      exact hm
  clear hG
  rcases ite_s hF with ⟨q_15, hG⟩ | ⟨q_15, hG⟩
  · clear hF
    obtain ⟨q64, hF⟩ := ck_s hG; clear hG
    obtain ⟨v66, H67, z65, hG⟩ := bC_s hF; clear hF
    replace hm : Sa H H67 := hm.tr (m_MRunner_root z65)
    have hr := Option.some.inj hG; subst hr
    exact hm
  clear hF
  obtain ⟨v69, H70, z68, hF⟩ := bC_s hG; clear hG
  replace hm : Sa H H70 := hm.tr (m_M_held z68)
  have hr := Option.some.inj hF; subst hr
  exact hm
set_option maxRecDepth 20000 in
set_option maxHeartbeats 2000000 in
theorem k_MRunner_called {N : Nat} {p0 : Nat} {p1 : Int32} {p2 : Int32} {H : Hp} {r : Int32 × Hp} (hF : F_MRunner_called N p0 p1 p2 H = some r) : ab_M y_MRunner_called { frames := 2, cells := 0, slots := 0, locals := 48 } [.ref p0, .int p1, .int p2] (hpw H) (po (.returned (some (.int r.1))) r.2) := by
  unfold F_MRunner_called at hF
  refine ab_of2 (lv := [some (.ref p0), some (.int p1), some (.int p2)]) 0 rfl rfl (Nat.le_of_ble_eq_true rfl) ?_
  refine ab_iload_n d_MRunner_called_0 rfl rfl ?_
  by_cases t1 : p1 = 209
  · rw [if_pos t1] at hF
    refine ab_lookup (off := 103) (tgt := 104) d_MRunner_called_1 (by decide) (by rw [t1]; decide) (by decide) ?_
    refine ab_iload_n d_MRunner_called_104 rfl rfl ?_
    refine ab_bipush (v := 16) d_MRunner_called_105 (by decide) ?_
    refine ab_ishr d_MRunner_called_107 ?_
    exact ab_iret d_MRunner_called_108 rfl (Nat.le_refl _) (Nat.le_refl _) (by have hr := Option.some.inj hF; subst hr; exact ⟨rfl, rfl⟩)
  rw [if_neg t1] at hF
  have ut1 : ¬ (209 : Int) = (p1).toInt := fun z => t1 (Int32.toInt_inj.mp (z.symm.trans (by decide)))
  by_cases t2 : p1 = 236
  · rw [if_pos t2] at hF
    refine ab_lookup (off := 51) (tgt := 52) d_MRunner_called_1 (by decide) (by rw [t2]; decide) (by decide) ?_
    refine ab_iload_n d_MRunner_called_52 rfl rfl ?_
    refine ab_i2l d_MRunner_called_53 ?_
    refine ab_lconst (v := 0) d_MRunner_called_54 (by decide) ?_
    refine ab_ldc2 d_MRunner_called_55 (k12 59 rfl rfl) ?_
    obtain ⟨v4, H5, z3, hG⟩ := bC_s hF; clear hF
    refine hp_callSN_a (v := .int v4) (H1 := H5) (As := [.long ((p2 : Int32).toInt64), .long 0, .long 3]) (rest := []) d_MRunner_called_58 (k_M_in z3) (ab_mkC s_M_in (Nat.le_of_ble_eq_true rfl) (Nat.le_of_ble_eq_true rfl) (Nat.le_refl 0) (Nat.le_refl 0)) (k12 60 rfl rfl) t_M_in rfl (Nat.le_of_ble_eq_true rfl) ?_
    have s_1 : Sa H H5 := (m_M_in z3)
    refine ab_if_eq (tgt := 73) d_MRunner_called_61 (by decide) (fun q6 => ?_) (fun q6 => ?_)
    · rw [if_pos q6] at hG
      refine ab_iconst (v := 0) d_MRunner_called_73 (by decide) ?_
      exact ab_iret d_MRunner_called_74 rfl (Nat.le_refl _) (Nat.le_refl _) (by have hr := Option.some.inj hG; subst hr; exact ⟨rfl, rfl⟩)
    · rw [if_neg q6] at hG
      refine ab_aload_n d_MRunner_called_64 rfl rfl rfl ?_
      obtain ⟨q7, hF⟩ := ck_s hG; clear hG
      rw [(s_1).1] at q7
      obtain ⟨a8, e9, hG⟩ := rf_s hF; clear hF
      refine hp_getR (f := 2) d_MRunner_called_65 (by rw [(s_1).1]; exact q7) (by decide) rfl (by decide) (k9 185 rfl rfl) rfl e9 ?_
      refine ab_iload_n d_MRunner_called_68 rfl rfl ?_
      obtain ⟨n10, q11, hF⟩ := ar_s hG; clear hG
      rw [(s_1).1] at q11
      obtain ⟨q12, hG⟩ := ck_s hF; clear hF
      refine hp_iald d_MRunner_called_69 tI (by rw [(s_1).1]; exact q11) q12 ?_
      refine ab_topi (fun x13 ex13 => ?_)
      replace hG := bnd_s ex13 hG
      refine ab_goto (tgt := 74) d_MRunner_called_70 (by decide) ?_
      exact ab_iret d_MRunner_called_74 rfl (Nat.le_refl _) (Nat.le_refl _) (by have hr := Option.some.inj hG; subst hr; exact ⟨rfl, rfl⟩)
  rw [if_neg t2] at hF
  have ut2 : ¬ (236 : Int) = (p1).toInt := fun z => t2 (Int32.toInt_inj.mp (z.symm.trans (by decide)))
  by_cases t14 : p1 = 237
  · rw [if_pos t14] at hF
    refine ab_lookup (off := 74) (tgt := 75) d_MRunner_called_1 (by decide) (by rw [t14]; decide) (by decide) ?_
    refine ab_aload_n d_MRunner_called_75 rfl rfl rfl ?_
    refine ab_iload_n d_MRunner_called_76 rfl rfl ?_
    obtain ⟨q15, hG⟩ := ck_s hF; clear hF
    obtain ⟨v17, H18, z16, hF⟩ := bC_s hG; clear hG
    refine hp_callV_a (v := .int v17) (H1 := H18) (As := [.int p2]) (rest := []) d_MRunner_called_77 (k_MRunner_drawn z16) (ab_mkC s_MRunner_drawn (Nat.le_of_ble_eq_true rfl) (Nat.le_of_ble_eq_true rfl) (Nat.le_refl 0) (Nat.le_refl 0)) (k12 61 rfl rfl) i_MRunner_drawn v_MRunner_drawn q15 (by decide) rfl rfl (Nat.le_of_ble_eq_true rfl) ?_
    have s_2 : Sa H H18 := (m_MRunner_drawn z16)
    exact ab_iret d_MRunner_called_80 rfl (Nat.le_refl _) (Nat.le_refl _) (by have hr := Option.some.inj hF; subst hr; exact ⟨rfl, rfl⟩)
  rw [if_neg t14] at hF
  have ut14 : ¬ (237 : Int) = (p1).toInt := fun z => t14 (Int32.toInt_inj.mp (z.symm.trans (by decide)))
  by_cases t19 : p1 = 238
  · rw [if_pos t19] at hF
    refine ab_lookup (off := 80) (tgt := 81) d_MRunner_called_1 (by decide) (by rw [t19]; decide) (by decide) ?_
    refine ab_aload_n d_MRunner_called_81 rfl rfl rfl ?_
    obtain ⟨q20, hG⟩ := ck_s hF; clear hF
    obtain ⟨a21, e22, hF⟩ := rf_s hG; clear hG
    refine hp_getR (f := 1) d_MRunner_called_82 q20 (by decide) rfl (by decide) (k9 184 rfl rfl) rfl e22 ?_
    refine ab_iload_n d_MRunner_called_85 rfl rfl ?_
    obtain ⟨q23, hG⟩ := ck_s hF; clear hF
    obtain ⟨v25, H26, z24, hF⟩ := bC_s hG; clear hG
    refine hp_callV_a (v := .int v25) (H1 := H26) (As := [.int p2]) (rest := []) d_MRunner_called_86 (k_MWorld_isAlive z24) (ab_mkC s_MWorld_isAlive (Nat.le_of_ble_eq_true rfl) (Nat.le_of_ble_eq_true rfl) (Nat.le_refl 0) (Nat.le_refl 0)) (k12 67 rfl rfl) i_MWorld_isAlive v_MWorld_isAlive q23 (by decide) rfl rfl (Nat.le_of_ble_eq_true rfl) ?_
    have s_3 : Sa H H26 := (m_MWorld_isAlive z24)
    refine ab_if_eq (tgt := 96) d_MRunner_called_89 (by decide) (fun q27 => ?_) (fun q27 => ?_)
    · rw [if_pos q27] at hF
      refine ab_iconst (v := 0) d_MRunner_called_96 (by decide) ?_
      exact ab_iret d_MRunner_called_97 rfl (Nat.le_refl _) (Nat.le_refl _) (by have hr := Option.some.inj hF; subst hr; exact ⟨rfl, rfl⟩)
    · rw [if_neg q27] at hF
      refine ab_iconst (v := 1) d_MRunner_called_92 (by decide) ?_
      refine ab_goto (tgt := 97) d_MRunner_called_93 (by decide) ?_
      exact ab_iret d_MRunner_called_97 rfl (Nat.le_refl _) (Nat.le_refl _) (by have hr := Option.some.inj hF; subst hr; exact ⟨rfl, rfl⟩)
  rw [if_neg t19] at hF
  have ut19 : ¬ (238 : Int) = (p1).toInt := fun z => t19 (Int32.toInt_inj.mp (z.symm.trans (by decide)))
  by_cases t28 : p1 = 239
  · rw [if_pos t28] at hF
    refine ab_lookup (off := 97) (tgt := 98) d_MRunner_called_1 (by decide) (by rw [t28]; decide) (by decide) ?_
    refine ab_aload_n d_MRunner_called_98 rfl rfl rfl ?_
    refine ab_iload_n d_MRunner_called_99 rfl rfl ?_
    obtain ⟨q29, hG⟩ := ck_s hF; clear hF
    obtain ⟨v31, H32, z30, hF⟩ := bC_s hG; clear hG
    refine hp_callV_a (v := .int v31) (H1 := H32) (As := [.int p2]) (rest := []) d_MRunner_called_100 (k_MRunner_root z30) (ab_mkC s_MRunner_root (Nat.le_of_ble_eq_true rfl) (Nat.le_of_ble_eq_true rfl) (Nat.le_refl 0) (Nat.le_refl 0)) (k12 68 rfl rfl) i_MRunner_root v_MRunner_root q29 (by decide) rfl rfl (Nat.le_of_ble_eq_true rfl) ?_
    have s_4 : Sa H H32 := (m_MRunner_root z30)
    exact ab_iret d_MRunner_called_103 rfl (Nat.le_refl _) (Nat.le_refl _) (by have hr := Option.some.inj hF; subst hr; exact ⟨rfl, rfl⟩)
  rw [if_neg t28] at hF
  have ut28 : ¬ (239 : Int) = (p1).toInt := fun z => t28 (Int32.toInt_inj.mp (z.symm.trans (by decide)))
  refine ab_lookup (off := 108) (tgt := 109) d_MRunner_called_1 (by decide) (by simp [Op.lookupswitch.offset, ut1, ut2, ut14, ut19, ut28]) (by decide) ?_
  refine ab_iconst (v := 2) d_MRunner_called_109 (by decide) ?_
  refine ab_ldc2 d_MRunner_called_110 (k12 73 rfl rfl) ?_
  refine ab_iload_n d_MRunner_called_113 rfl rfl ?_
  refine ab_i2l d_MRunner_called_114 ?_
  refine ab_lmul d_MRunner_called_115 ?_
  obtain ⟨v34, H35, z33, hG⟩ := bC_s hF; clear hF
  refine hp_callSN_a (v := .int v34) (H1 := H35) (As := [.int 2, .long ((65536 : Int64) * ((p2 : Int32).toInt64))]) (rest := []) d_MRunner_called_116 (k_M_held z33) (ab_mkC s_M_held (Nat.le_of_ble_eq_true rfl) (Nat.le_of_ble_eq_true rfl) (Nat.le_refl 0) (Nat.le_refl 0)) (k12 74 rfl rfl) t_M_held rfl (Nat.le_of_ble_eq_true rfl) ?_
  have s_5 : Sa H H35 := (m_M_held z33)
  exact ab_iret d_MRunner_called_119 rfl (Nat.le_refl _) (Nat.le_refl _) (by have hr := Option.some.inj hG; subst hr; exact ⟨rfl, rfl⟩)
def y_MRunner_times : ab_Y := (⟨"WorldEngineModel$Runner", "times", "(III)I"⟩, prog_15_method_27_code, 9, (some FieldType.int), [])
theorem d_MRunner_times_0 : decode y_MRunner_times.2.1 0 = .ok (.iload_n 1, 1) := by decide +kernel
theorem d_MRunner_times_1 : decode y_MRunner_times.2.1 1 = .ok (.i2l, 1) := by decide +kernel
theorem d_MRunner_times_2 : decode y_MRunner_times.2.1 2 = .ok (.iload_n 2, 1) := by decide +kernel
theorem d_MRunner_times_3 : decode y_MRunner_times.2.1 3 = .ok (.i2l, 1) := by decide +kernel
theorem d_MRunner_times_4 : decode y_MRunner_times.2.1 4 = .ok (.lmul, 1) := by decide +kernel
theorem d_MRunner_times_5 : decode y_MRunner_times.2.1 5 = .ok (.lstore_n 3, 1) := by decide +kernel
theorem d_MRunner_times_6 : decode y_MRunner_times.2.1 6 = .ok (.iload_n 0, 1) := by decide +kernel
theorem d_MRunner_times_7 : decode y_MRunner_times.2.1 7 = .ok (.ifCond .ne 6, 3) := by decide +kernel
theorem d_MRunner_times_10 : decode y_MRunner_times.2.1 10 = .ok (.lload_n 3, 1) := by decide +kernel
theorem d_MRunner_times_11 : decode y_MRunner_times.2.1 11 = .ok (.l2i, 1) := by decide +kernel
theorem d_MRunner_times_12 : decode y_MRunner_times.2.1 12 = .ok (.ireturn, 1) := by decide +kernel
theorem d_MRunner_times_13 : decode y_MRunner_times.2.1 13 = .ok (.lload_n 3, 1) := by decide +kernel
theorem d_MRunner_times_14 : decode y_MRunner_times.2.1 14 = .ok (.ldc2_w 264, 3) := by decide +kernel
theorem d_MRunner_times_17 : decode y_MRunner_times.2.1 17 = .ok (.land, 1) := by decide +kernel
theorem d_MRunner_times_18 : decode y_MRunner_times.2.1 18 = .ok (.lstore 5, 2) := by decide +kernel
theorem d_MRunner_times_20 : decode y_MRunner_times.2.1 20 = .ok (.lload_n 3, 1) := by decide +kernel
theorem d_MRunner_times_21 : decode y_MRunner_times.2.1 21 = .ok (.bipush 16, 2) := by decide +kernel
theorem d_MRunner_times_23 : decode y_MRunner_times.2.1 23 = .ok (.lshr, 1) := by decide +kernel
theorem d_MRunner_times_24 : decode y_MRunner_times.2.1 24 = .ok (.lstore 7, 2) := by decide +kernel
theorem d_MRunner_times_26 : decode y_MRunner_times.2.1 26 = .ok (.iconst 2, 1) := by decide +kernel
theorem d_MRunner_times_27 : decode y_MRunner_times.2.1 27 = .ok (.lload 5, 2) := by decide +kernel
theorem d_MRunner_times_29 : decode y_MRunner_times.2.1 29 = .ok (.ldc2_w 266, 3) := by decide +kernel
theorem d_MRunner_times_32 : decode y_MRunner_times.2.1 32 = .ok (.lcmp, 1) := by decide +kernel
theorem d_MRunner_times_33 : decode y_MRunner_times.2.1 33 = .ok (.ifCond .gt 21, 3) := by decide +kernel
theorem d_MRunner_times_36 : decode y_MRunner_times.2.1 36 = .ok (.lload 5, 2) := by decide +kernel
theorem d_MRunner_times_38 : decode y_MRunner_times.2.1 38 = .ok (.ldc2_w 266, 3) := by decide +kernel
theorem d_MRunner_times_41 : decode y_MRunner_times.2.1 41 = .ok (.lcmp, 1) := by decide +kernel
theorem d_MRunner_times_42 : decode y_MRunner_times.2.1 42 = .ok (.ifCond .ne 19, 3) := by decide +kernel
theorem d_MRunner_times_45 : decode y_MRunner_times.2.1 45 = .ok (.lload 7, 2) := by decide +kernel
theorem d_MRunner_times_47 : decode y_MRunner_times.2.1 47 = .ok (.lconst 1, 1) := by decide +kernel
theorem d_MRunner_times_48 : decode y_MRunner_times.2.1 48 = .ok (.land, 1) := by decide +kernel
theorem d_MRunner_times_49 : decode y_MRunner_times.2.1 49 = .ok (.lconst 1, 1) := by decide +kernel
theorem d_MRunner_times_50 : decode y_MRunner_times.2.1 50 = .ok (.lcmp, 1) := by decide +kernel
theorem d_MRunner_times_51 : decode y_MRunner_times.2.1 51 = .ok (.ifCond .ne 10, 3) := by decide +kernel
theorem d_MRunner_times_54 : decode y_MRunner_times.2.1 54 = .ok (.lload 7, 2) := by decide +kernel
theorem d_MRunner_times_56 : decode y_MRunner_times.2.1 56 = .ok (.lconst 1, 1) := by decide +kernel
theorem d_MRunner_times_57 : decode y_MRunner_times.2.1 57 = .ok (.ladd, 1) := by decide +kernel
theorem d_MRunner_times_58 : decode y_MRunner_times.2.1 58 = .ok (.goto 5, 3) := by decide +kernel
theorem d_MRunner_times_61 : decode y_MRunner_times.2.1 61 = .ok (.lload 7, 2) := by decide +kernel
theorem d_MRunner_times_63 : decode y_MRunner_times.2.1 63 = .ok (.invokestatic 167, 3) := by decide +kernel
theorem d_MRunner_times_66 : decode y_MRunner_times.2.1 66 = .ok (.ireturn, 1) := by decide +kernel
theorem s_MRunner_times : ab_Stat y_MRunner_times 3 := ⟨(k12 77 rfl rfl), (k1 22 rfl rfl), ⟨by decide, by decide⟩, by decide +kernel⟩
theorem t_MRunner_times : Cond.static y_MRunner_times.1 ∈ ab_T := (k12 76 rfl rfl)
def B_MRunner_times_63 (N : Nat) (p0 : Int32) (p1 : Int32) (p2 : Int32) (w0 : Int32) (w1 : Int64) (H : Hp) : Option (Int32 × Hp) :=
    bC (F_M_held N w0 w1 H) fun v7 H8 =>
    some (v7, H8)
set_option maxRecDepth 20000 in
set_option maxHeartbeats 2000000 in
theorem mB_MRunner_times_63 {N : Nat} {p0 : Int32} {p1 : Int32} {p2 : Int32} {w0 : Int32} {w1 : Int64} {H : Hp} {r : Int32 × Hp} (hF : B_MRunner_times_63 N p0 p1 p2 w0 w1 H = some r) : Sa H r.2 := by
  unfold B_MRunner_times_63 at hF
  have hm := Sa.rf H
  obtain ⟨v10, H11, z9, hG⟩ := bC_s hF; clear hF
  replace hm : Sa H H11 := hm.tr (m_M_held z9)
  have hr := Option.some.inj hG; subst hr
  exact hm
set_option maxRecDepth 20000 in
set_option maxHeartbeats 2000000 in
theorem kB_MRunner_times_63 {N : Nat} {p0 : Int32} {p1 : Int32} {p2 : Int32} {w0 : Int32} {w1 : Int64} {H : Hp} {r : Int32 × Hp} (hF : B_MRunner_times_63 N p0 p1 p2 w0 w1 H = some r) : ab_V y_MRunner_times { frames := 1, cells := 0, slots := 0, locals := 22 } (po (.returned (some (.int r.1))) r.2) 0 0 0 0 63 [some (.int p0), some (.int p1), some (.int p2), none, none, none, none, none, none] [.long w1, .int w0] (hpw H) := by
  unfold B_MRunner_times_63 at hF
  obtain ⟨v7, H8, z6, hG⟩ := bC_s hF; clear hF
  refine hp_callSN_a (v := .int v7) (H1 := H8) (As := [.int w0, .long w1]) (rest := []) d_MRunner_times_63 (k_M_held z6) (ab_mkC s_M_held (Nat.le_of_ble_eq_true rfl) (Nat.le_of_ble_eq_true rfl) (Nat.le_refl 0) (Nat.le_refl 0)) (k12 74 rfl rfl) t_M_held rfl (Nat.le_of_ble_eq_true rfl) ?_
  have s_1 : Sa H H8 := (m_M_held z6)
  exact ab_iret d_MRunner_times_66 rfl (Nat.le_refl _) (Nat.le_refl _) (by have hr := Option.some.inj hG; subst hr; exact ⟨rfl, rfl⟩)
def B_MRunner_times_54 (N : Nat) (p0 : Int32) (p1 : Int32) (p2 : Int32) (l7 : Int64) (w0 : Int32) (H : Hp) : Option (Int32 × Hp) :=
    B_MRunner_times_63 N p0 p1 p2 w0 (l7 + (1 : Int64)) H
set_option maxRecDepth 20000 in
set_option maxHeartbeats 2000000 in
theorem mB_MRunner_times_54 {N : Nat} {p0 : Int32} {p1 : Int32} {p2 : Int32} {l7 : Int64} {w0 : Int32} {H : Hp} {r : Int32 × Hp} (hF : B_MRunner_times_54 N p0 p1 p2 l7 w0 H = some r) : Sa H r.2 := by
  unfold B_MRunner_times_54 at hF
  have hm := Sa.rf H
  exact hm.tr (mB_MRunner_times_63 hF)
set_option maxRecDepth 20000 in
set_option maxHeartbeats 2000000 in
theorem kB_MRunner_times_54 {N : Nat} {p0 : Int32} {p1 : Int32} {p2 : Int32} {l7 : Int64} {w0 : Int32} {H : Hp} {r : Int32 × Hp} (hF : B_MRunner_times_54 N p0 p1 p2 l7 w0 H = some r) : ab_V y_MRunner_times { frames := 1, cells := 0, slots := 0, locals := 22 } (po (.returned (some (.int r.1))) r.2) 0 0 0 0 54 [some (.int p0), some (.int p1), some (.int p2), none, none, none, none, some (.long l7), none] [.int w0] (hpw H) := by
  unfold B_MRunner_times_54 at hF
  refine ab_lload d_MRunner_times_54 rfl ?_
  refine ab_lconst (v := 1) d_MRunner_times_56 (by decide) ?_
  refine ab_ladd d_MRunner_times_57 ?_
  refine ab_goto (tgt := 63) d_MRunner_times_58 (by decide) ?_
  refine ab_le (lv' := [some (.int p0), some (.int p1), some (.int p2), none, none, none, none, none, none]) ⟨rfl, ⟨rfl, ⟨rfl, trivial⟩⟩⟩ ?_
  exact kB_MRunner_times_63 hF
def B_MRunner_times_61 (N : Nat) (p0 : Int32) (p1 : Int32) (p2 : Int32) (l7 : Int64) (w0 : Int32) (H : Hp) : Option (Int32 × Hp) :=
    B_MRunner_times_63 N p0 p1 p2 w0 l7 H
set_option maxRecDepth 20000 in
set_option maxHeartbeats 2000000 in
theorem mB_MRunner_times_61 {N : Nat} {p0 : Int32} {p1 : Int32} {p2 : Int32} {l7 : Int64} {w0 : Int32} {H : Hp} {r : Int32 × Hp} (hF : B_MRunner_times_61 N p0 p1 p2 l7 w0 H = some r) : Sa H r.2 := by
  unfold B_MRunner_times_61 at hF
  have hm := Sa.rf H
  exact hm.tr (mB_MRunner_times_63 hF)
set_option maxRecDepth 20000 in
set_option maxHeartbeats 2000000 in
theorem kB_MRunner_times_61 {N : Nat} {p0 : Int32} {p1 : Int32} {p2 : Int32} {l7 : Int64} {w0 : Int32} {H : Hp} {r : Int32 × Hp} (hF : B_MRunner_times_61 N p0 p1 p2 l7 w0 H = some r) : ab_V y_MRunner_times { frames := 1, cells := 0, slots := 0, locals := 22 } (po (.returned (some (.int r.1))) r.2) 0 0 0 0 61 [some (.int p0), some (.int p1), some (.int p2), none, none, none, none, some (.long l7), none] [.int w0] (hpw H) := by
  unfold B_MRunner_times_61 at hF
  refine ab_lload d_MRunner_times_61 rfl ?_
  refine ab_le (lv' := [some (.int p0), some (.int p1), some (.int p2), none, none, none, none, none, none]) ⟨rfl, ⟨rfl, ⟨rfl, trivial⟩⟩⟩ ?_
  exact kB_MRunner_times_63 hF
def F_MRunner_times (N : Nat) (p0 : Int32) (p1 : Int32) (p2 : Int32) (H : Hp) : Option (Int32 × Hp) :=
    bnd (((p1 : Int32).toInt64) * ((p2 : Int32).toInt64)) fun x1 =>
    if p0 = (0 : Int32) then
    some ((x1 : Int64).toInt32, H)
    else
    bnd (x1 &&& (65535 : Int64)) fun x3 =>
    bnd (x1 >>> (((16 : Int32) : Int32).toInt64 &&& 63)) fun x4 =>
    if (0 : Int32) < (lg_cmp x3 (32768 : Int64)) then
    B_MRunner_times_54 N p0 p1 p2 x4 2 H
    else
    if (lg_cmp x3 (32768 : Int64)) = (0 : Int32) then
    if (lg_cmp (x4 &&& (1 : Int64)) (1 : Int64)) = (0 : Int32) then
    B_MRunner_times_54 N p0 p1 p2 x4 2 H
    else
    B_MRunner_times_61 N p0 p1 p2 x4 2 H
    else
    B_MRunner_times_61 N p0 p1 p2 x4 2 H
set_option maxRecDepth 20000 in
set_option maxHeartbeats 2000000 in
theorem m_MRunner_times {N : Nat} {p0 : Int32} {p1 : Int32} {p2 : Int32} {H : Hp} {r : Int32 × Hp} (hF : F_MRunner_times N p0 p1 p2 H = some r) : Sa H r.2 := by
  unfold F_MRunner_times at hF
  have hm := Sa.rf H
  obtain ⟨x14, -, hG⟩ := bnd_g hF; clear hF
  rcases ite_s hG with ⟨q_3, hF⟩ | ⟨q_3, hF⟩
  · clear hG
    have hr := Option.some.inj hF; subst hr
    exact hm
  · clear hG
    obtain ⟨x16, -, hG⟩ := bnd_g hF; clear hF
    obtain ⟨x17, -, hF⟩ := bnd_g hG; clear hG
    rcases ite_s hF with ⟨q_4, hG⟩ | ⟨q_4, hG⟩
    · clear hF
      exact hm.tr (mB_MRunner_times_54 hG)
    · clear hF
      rcases ite_s hG with ⟨q_5, hF⟩ | ⟨q_5, hF⟩
      · clear hG
        rcases ite_s hF with ⟨q_6, hG⟩ | ⟨q_6, hG⟩
        · clear hF
          exact hm.tr (mB_MRunner_times_54 hG)
        · clear hF
          exact hm.tr (mB_MRunner_times_61 hG)
      · clear hG
        exact hm.tr (mB_MRunner_times_61 hF)
set_option maxRecDepth 20000 in
set_option maxHeartbeats 2000000 in
theorem k_MRunner_times {N : Nat} {p0 : Int32} {p1 : Int32} {p2 : Int32} {H : Hp} {r : Int32 × Hp} (hF : F_MRunner_times N p0 p1 p2 H = some r) : ab_M y_MRunner_times { frames := 1, cells := 0, slots := 0, locals := 22 } [.int p0, .int p1, .int p2] (hpw H) (po (.returned (some (.int r.1))) r.2) := by
  unfold F_MRunner_times at hF
  refine ab_of2 (lv := [some (.int p0), some (.int p1), some (.int p2), none, none, none, none, none, none]) 6 rfl rfl (Nat.le_of_ble_eq_true rfl) ?_
  refine ab_iload_n d_MRunner_times_0 rfl rfl ?_
  refine ab_i2l d_MRunner_times_1 ?_
  refine ab_iload_n d_MRunner_times_2 rfl rfl ?_
  refine ab_i2l d_MRunner_times_3 ?_
  refine ab_lmul d_MRunner_times_4 ?_
  refine ab_topl (fun x1 ex1 => ?_)
  replace hF := bnd_s ex1 hF
  refine ab_lstore_n (lv' := [some (.int p0), some (.int p1), some (.int p2), some (.long x1), none, none, none, none, none]) d_MRunner_times_5 rfl (by decide) rfl ?_
  refine ab_iload_n d_MRunner_times_6 rfl rfl ?_
  refine ab_if_ne (tgt := 13) d_MRunner_times_7 (by decide) (fun q2 => ?_) (fun q2 => ?_)
  · rw [if_neg q2] at hF
    refine ab_lload_n d_MRunner_times_13 rfl rfl ?_
    refine ab_ldc2 d_MRunner_times_14 (k12 78 rfl rfl) ?_
    refine ab_land d_MRunner_times_17 ?_
    refine ab_topl (fun x3 ex3 => ?_)
    replace hF := bnd_s ex3 hF
    refine ab_lstore (lv' := [some (.int p0), some (.int p1), some (.int p2), some (.long x1), none, some (.long x3), none, none, none]) d_MRunner_times_18 (by decide) rfl ?_
    refine ab_lload_n d_MRunner_times_20 rfl rfl ?_
    refine ab_bipush (v := 16) d_MRunner_times_21 (by decide) ?_
    refine ab_lshr d_MRunner_times_23 ?_
    refine ab_topl (fun x4 ex4 => ?_)
    replace hF := bnd_s ex4 hF
    refine ab_lstore (lv' := [some (.int p0), some (.int p1), some (.int p2), some (.long x1), none, some (.long x3), none, some (.long x4), none]) d_MRunner_times_24 (by decide) rfl ?_
    refine ab_iconst (v := 2) d_MRunner_times_26 (by decide) ?_
    refine ab_lload d_MRunner_times_27 rfl ?_
    refine ab_ldc2 d_MRunner_times_29 (k12 79 rfl rfl) ?_
    refine ab_lcmp d_MRunner_times_32 ?_
    refine ab_if_gt (tgt := 54) d_MRunner_times_33 (by decide) (fun q5 => ?_) (fun q5 => ?_)
    · rw [if_pos q5] at hF
      refine ab_le (lv' := [some (.int p0), some (.int p1), some (.int p2), none, none, none, none, some (.long x4), none]) ⟨rfl, ⟨rfl, ⟨rfl, ⟨rfl, trivial⟩⟩⟩⟩ ?_
      exact kB_MRunner_times_54 hF
    · rw [if_neg q5] at hF
      refine ab_lload d_MRunner_times_36 rfl ?_
      refine ab_ldc2 d_MRunner_times_38 (k12 79 rfl rfl) ?_
      refine ab_lcmp d_MRunner_times_41 ?_
      refine ab_if_ne (tgt := 61) d_MRunner_times_42 (by decide) (fun q12 => ?_) (fun q12 => ?_)
      · rw [if_neg q12] at hF
        refine ab_le (lv' := [some (.int p0), some (.int p1), some (.int p2), none, none, none, none, some (.long x4), none]) ⟨rfl, ⟨rfl, ⟨rfl, ⟨rfl, trivial⟩⟩⟩⟩ ?_
        exact kB_MRunner_times_61 hF
      · rw [if_pos q12] at hF
        refine ab_lload d_MRunner_times_45 rfl ?_
        refine ab_lconst (v := 1) d_MRunner_times_47 (by decide) ?_
        refine ab_land d_MRunner_times_48 ?_
        refine ab_lconst (v := 1) d_MRunner_times_49 (by decide) ?_
        refine ab_lcmp d_MRunner_times_50 ?_
        refine ab_if_ne (tgt := 61) d_MRunner_times_51 (by decide) (fun q13 => ?_) (fun q13 => ?_)
        · rw [if_neg q13] at hF
          refine ab_le (lv' := [some (.int p0), some (.int p1), some (.int p2), none, none, none, none, some (.long x4), none]) ⟨rfl, ⟨rfl, ⟨rfl, ⟨rfl, trivial⟩⟩⟩⟩ ?_
          exact kB_MRunner_times_61 hF
        · rw [if_pos q13] at hF
          refine ab_le (lv' := [some (.int p0), some (.int p1), some (.int p2), none, none, none, none, some (.long x4), none]) ⟨rfl, ⟨rfl, ⟨rfl, ⟨rfl, trivial⟩⟩⟩⟩ ?_
          exact kB_MRunner_times_54 hF
  · rw [if_pos q2] at hF
    refine ab_lload_n d_MRunner_times_10 rfl rfl ?_
    refine ab_l2i d_MRunner_times_11 ?_
    exact ab_iret d_MRunner_times_12 rfl (Nat.le_refl _) (Nat.le_refl _) (by have hr := Option.some.inj hF; subst hr; exact ⟨rfl, rfl⟩)
def y_MRunner_divided : ab_Y := (⟨"WorldEngineModel$Runner", "divided", "(III)I"⟩, prog_15_method_28_code, 12, (some FieldType.int), [])
theorem d_MRunner_divided_0 : decode y_MRunner_divided.2.1 0 = .ok (.iload_n 3, 1) := by decide +kernel
theorem d_MRunner_divided_1 : decode y_MRunner_divided.2.1 1 = .ok (.ifCond .ne 10, 3) := by decide +kernel
theorem d_MRunner_divided_4 : decode y_MRunner_divided.2.1 4 = .ok (.aload_n 0, 1) := by decide +kernel
theorem d_MRunner_divided_5 : decode y_MRunner_divided.2.1 5 = .ok (.iconst 1, 1) := by decide +kernel
theorem d_MRunner_divided_6 : decode y_MRunner_divided.2.1 6 = .ok (.invokevirtual 118, 3) := by decide +kernel
theorem d_MRunner_divided_9 : decode y_MRunner_divided.2.1 9 = .ok (.iconst 0, 1) := by decide +kernel
theorem d_MRunner_divided_10 : decode y_MRunner_divided.2.1 10 = .ok (.ireturn, 1) := by decide +kernel
theorem d_MRunner_divided_11 : decode y_MRunner_divided.2.1 11 = .ok (.aload_n 0, 1) := by decide +kernel
theorem d_MRunner_divided_12 : decode y_MRunner_divided.2.1 12 = .ok (.getfield 25, 3) := by decide +kernel
theorem d_MRunner_divided_15 : decode y_MRunner_divided.2.1 15 = .ok (.getfield 131, 3) := by decide +kernel
theorem d_MRunner_divided_18 : decode y_MRunner_divided.2.1 18 = .ok (.iload_n 1, 1) := by decide +kernel
theorem d_MRunner_divided_19 : decode y_MRunner_divided.2.1 19 = .ok (.iaload, 1) := by decide +kernel
theorem d_MRunner_divided_20 : decode y_MRunner_divided.2.1 20 = .ok (.bipush 37, 2) := by decide +kernel
theorem d_MRunner_divided_22 : decode y_MRunner_divided.2.1 22 = .ok (.if_icmp .ne 10, 3) := by decide +kernel
theorem d_MRunner_divided_25 : decode y_MRunner_divided.2.1 25 = .ok (.iload_n 2, 1) := by decide +kernel
theorem d_MRunner_divided_26 : decode y_MRunner_divided.2.1 26 = .ok (.i2l, 1) := by decide +kernel
theorem d_MRunner_divided_27 : decode y_MRunner_divided.2.1 27 = .ok (.iload_n 3, 1) := by decide +kernel
theorem d_MRunner_divided_28 : decode y_MRunner_divided.2.1 28 = .ok (.i2l, 1) := by decide +kernel
theorem d_MRunner_divided_29 : decode y_MRunner_divided.2.1 29 = .ok (.lrem, 1) := by decide +kernel
theorem d_MRunner_divided_30 : decode y_MRunner_divided.2.1 30 = .ok (.l2i, 1) := by decide +kernel
theorem d_MRunner_divided_31 : decode y_MRunner_divided.2.1 31 = .ok (.ireturn, 1) := by decide +kernel
theorem d_MRunner_divided_32 : decode y_MRunner_divided.2.1 32 = .ok (.aload_n 0, 1) := by decide +kernel
theorem d_MRunner_divided_33 : decode y_MRunner_divided.2.1 33 = .ok (.getfield 25, 3) := by decide +kernel
theorem d_MRunner_divided_36 : decode y_MRunner_divided.2.1 36 = .ok (.getfield 122, 3) := by decide +kernel
theorem d_MRunner_divided_39 : decode y_MRunner_divided.2.1 39 = .ok (.iload_n 1, 1) := by decide +kernel
theorem d_MRunner_divided_40 : decode y_MRunner_divided.2.1 40 = .ok (.iaload, 1) := by decide +kernel
theorem d_MRunner_divided_41 : decode y_MRunner_divided.2.1 41 = .ok (.ifCond .ne 10, 3) := by decide +kernel
theorem d_MRunner_divided_44 : decode y_MRunner_divided.2.1 44 = .ok (.iload_n 2, 1) := by decide +kernel
theorem d_MRunner_divided_45 : decode y_MRunner_divided.2.1 45 = .ok (.i2l, 1) := by decide +kernel
theorem d_MRunner_divided_46 : decode y_MRunner_divided.2.1 46 = .ok (.iload_n 3, 1) := by decide +kernel
theorem d_MRunner_divided_47 : decode y_MRunner_divided.2.1 47 = .ok (.i2l, 1) := by decide +kernel
theorem d_MRunner_divided_48 : decode y_MRunner_divided.2.1 48 = .ok (.ldiv, 1) := by decide +kernel
theorem d_MRunner_divided_49 : decode y_MRunner_divided.2.1 49 = .ok (.l2i, 1) := by decide +kernel
theorem d_MRunner_divided_50 : decode y_MRunner_divided.2.1 50 = .ok (.ireturn, 1) := by decide +kernel
theorem d_MRunner_divided_51 : decode y_MRunner_divided.2.1 51 = .ok (.iload_n 2, 1) := by decide +kernel
theorem d_MRunner_divided_52 : decode y_MRunner_divided.2.1 52 = .ok (.i2l, 1) := by decide +kernel
theorem d_MRunner_divided_53 : decode y_MRunner_divided.2.1 53 = .ok (.lconst 0, 1) := by decide +kernel
theorem d_MRunner_divided_54 : decode y_MRunner_divided.2.1 54 = .ok (.lcmp, 1) := by decide +kernel
theorem d_MRunner_divided_55 : decode y_MRunner_divided.2.1 55 = .ok (.ifCond .ge 9, 3) := by decide +kernel
theorem d_MRunner_divided_58 : decode y_MRunner_divided.2.1 58 = .ok (.iload_n 2, 1) := by decide +kernel
theorem d_MRunner_divided_59 : decode y_MRunner_divided.2.1 59 = .ok (.i2l, 1) := by decide +kernel
theorem d_MRunner_divided_60 : decode y_MRunner_divided.2.1 60 = .ok (.lneg, 1) := by decide +kernel
theorem d_MRunner_divided_61 : decode y_MRunner_divided.2.1 61 = .ok (.goto 5, 3) := by decide +kernel
theorem d_MRunner_divided_64 : decode y_MRunner_divided.2.1 64 = .ok (.iload_n 2, 1) := by decide +kernel
theorem d_MRunner_divided_65 : decode y_MRunner_divided.2.1 65 = .ok (.i2l, 1) := by decide +kernel
theorem d_MRunner_divided_66 : decode y_MRunner_divided.2.1 66 = .ok (.bipush 16, 2) := by decide +kernel
theorem d_MRunner_divided_68 : decode y_MRunner_divided.2.1 68 = .ok (.lshl, 1) := by decide +kernel
theorem d_MRunner_divided_69 : decode y_MRunner_divided.2.1 69 = .ok (.lstore 4, 2) := by decide +kernel
theorem d_MRunner_divided_71 : decode y_MRunner_divided.2.1 71 = .ok (.iload_n 3, 1) := by decide +kernel
theorem d_MRunner_divided_72 : decode y_MRunner_divided.2.1 72 = .ok (.i2l, 1) := by decide +kernel
theorem d_MRunner_divided_73 : decode y_MRunner_divided.2.1 73 = .ok (.lconst 0, 1) := by decide +kernel
theorem d_MRunner_divided_74 : decode y_MRunner_divided.2.1 74 = .ok (.lcmp, 1) := by decide +kernel
theorem d_MRunner_divided_75 : decode y_MRunner_divided.2.1 75 = .ok (.ifCond .ge 9, 3) := by decide +kernel
theorem d_MRunner_divided_78 : decode y_MRunner_divided.2.1 78 = .ok (.iload_n 3, 1) := by decide +kernel
theorem d_MRunner_divided_79 : decode y_MRunner_divided.2.1 79 = .ok (.i2l, 1) := by decide +kernel
theorem d_MRunner_divided_80 : decode y_MRunner_divided.2.1 80 = .ok (.lneg, 1) := by decide +kernel
theorem d_MRunner_divided_81 : decode y_MRunner_divided.2.1 81 = .ok (.goto 5, 3) := by decide +kernel
theorem d_MRunner_divided_84 : decode y_MRunner_divided.2.1 84 = .ok (.iload_n 3, 1) := by decide +kernel
theorem d_MRunner_divided_85 : decode y_MRunner_divided.2.1 85 = .ok (.i2l, 1) := by decide +kernel
theorem d_MRunner_divided_86 : decode y_MRunner_divided.2.1 86 = .ok (.lstore 6, 2) := by decide +kernel
theorem d_MRunner_divided_88 : decode y_MRunner_divided.2.1 88 = .ok (.lload 4, 2) := by decide +kernel
theorem d_MRunner_divided_90 : decode y_MRunner_divided.2.1 90 = .ok (.lload 6, 2) := by decide +kernel
theorem d_MRunner_divided_92 : decode y_MRunner_divided.2.1 92 = .ok (.ldiv, 1) := by decide +kernel
theorem d_MRunner_divided_93 : decode y_MRunner_divided.2.1 93 = .ok (.lstore 8, 2) := by decide +kernel
theorem d_MRunner_divided_95 : decode y_MRunner_divided.2.1 95 = .ok (.ldc2_w 268, 3) := by decide +kernel
theorem d_MRunner_divided_98 : decode y_MRunner_divided.2.1 98 = .ok (.lload 4, 2) := by decide +kernel
theorem d_MRunner_divided_100 : decode y_MRunner_divided.2.1 100 = .ok (.lload 8, 2) := by decide +kernel
theorem d_MRunner_divided_102 : decode y_MRunner_divided.2.1 102 = .ok (.lload 6, 2) := by decide +kernel
theorem d_MRunner_divided_104 : decode y_MRunner_divided.2.1 104 = .ok (.lmul, 1) := by decide +kernel
theorem d_MRunner_divided_105 : decode y_MRunner_divided.2.1 105 = .ok (.lsub, 1) := by decide +kernel
theorem d_MRunner_divided_106 : decode y_MRunner_divided.2.1 106 = .ok (.lmul, 1) := by decide +kernel
theorem d_MRunner_divided_107 : decode y_MRunner_divided.2.1 107 = .ok (.lstore 10, 2) := by decide +kernel
theorem d_MRunner_divided_109 : decode y_MRunner_divided.2.1 109 = .ok (.lload 8, 2) := by decide +kernel
theorem d_MRunner_divided_111 : decode y_MRunner_divided.2.1 111 = .ok (.lload 10, 2) := by decide +kernel
theorem d_MRunner_divided_113 : decode y_MRunner_divided.2.1 113 = .ok (.lload 6, 2) := by decide +kernel
theorem d_MRunner_divided_115 : decode y_MRunner_divided.2.1 115 = .ok (.lcmp, 1) := by decide +kernel
theorem d_MRunner_divided_116 : decode y_MRunner_divided.2.1 116 = .ok (.ifCond .gt 20, 3) := by decide +kernel
theorem d_MRunner_divided_119 : decode y_MRunner_divided.2.1 119 = .ok (.lload 10, 2) := by decide +kernel
theorem d_MRunner_divided_121 : decode y_MRunner_divided.2.1 121 = .ok (.lload 6, 2) := by decide +kernel
theorem d_MRunner_divided_123 : decode y_MRunner_divided.2.1 123 = .ok (.lcmp, 1) := by decide +kernel
theorem d_MRunner_divided_124 : decode y_MRunner_divided.2.1 124 = .ok (.ifCond .ne 16, 3) := by decide +kernel
theorem d_MRunner_divided_127 : decode y_MRunner_divided.2.1 127 = .ok (.lload 8, 2) := by decide +kernel
theorem d_MRunner_divided_129 : decode y_MRunner_divided.2.1 129 = .ok (.lconst 1, 1) := by decide +kernel
theorem d_MRunner_divided_130 : decode y_MRunner_divided.2.1 130 = .ok (.land, 1) := by decide +kernel
theorem d_MRunner_divided_131 : decode y_MRunner_divided.2.1 131 = .ok (.lconst 1, 1) := by decide +kernel
theorem d_MRunner_divided_132 : decode y_MRunner_divided.2.1 132 = .ok (.lcmp, 1) := by decide +kernel
theorem d_MRunner_divided_133 : decode y_MRunner_divided.2.1 133 = .ok (.ifCond .ne 7, 3) := by decide +kernel
theorem d_MRunner_divided_136 : decode y_MRunner_divided.2.1 136 = .ok (.lconst 1, 1) := by decide +kernel
theorem d_MRunner_divided_137 : decode y_MRunner_divided.2.1 137 = .ok (.goto 4, 3) := by decide +kernel
theorem d_MRunner_divided_140 : decode y_MRunner_divided.2.1 140 = .ok (.lconst 0, 1) := by decide +kernel
theorem d_MRunner_divided_141 : decode y_MRunner_divided.2.1 141 = .ok (.ladd, 1) := by decide +kernel
theorem d_MRunner_divided_142 : decode y_MRunner_divided.2.1 142 = .ok (.lstore 8, 2) := by decide +kernel
theorem d_MRunner_divided_144 : decode y_MRunner_divided.2.1 144 = .ok (.iconst 2, 1) := by decide +kernel
theorem d_MRunner_divided_145 : decode y_MRunner_divided.2.1 145 = .ok (.iload_n 2, 1) := by decide +kernel
theorem d_MRunner_divided_146 : decode y_MRunner_divided.2.1 146 = .ok (.ifCond .ge 7, 3) := by decide +kernel
theorem d_MRunner_divided_149 : decode y_MRunner_divided.2.1 149 = .ok (.iconst 1, 1) := by decide +kernel
theorem d_MRunner_divided_150 : decode y_MRunner_divided.2.1 150 = .ok (.goto 4, 3) := by decide +kernel
theorem d_MRunner_divided_153 : decode y_MRunner_divided.2.1 153 = .ok (.iconst 0, 1) := by decide +kernel
theorem d_MRunner_divided_154 : decode y_MRunner_divided.2.1 154 = .ok (.iload_n 3, 1) := by decide +kernel
theorem d_MRunner_divided_155 : decode y_MRunner_divided.2.1 155 = .ok (.ifCond .ge 7, 3) := by decide +kernel
theorem d_MRunner_divided_158 : decode y_MRunner_divided.2.1 158 = .ok (.iconst 1, 1) := by decide +kernel
theorem d_MRunner_divided_159 : decode y_MRunner_divided.2.1 159 = .ok (.goto 4, 3) := by decide +kernel
theorem d_MRunner_divided_162 : decode y_MRunner_divided.2.1 162 = .ok (.iconst 0, 1) := by decide +kernel
theorem d_MRunner_divided_163 : decode y_MRunner_divided.2.1 163 = .ok (.if_icmp .ne 8, 3) := by decide +kernel
theorem d_MRunner_divided_166 : decode y_MRunner_divided.2.1 166 = .ok (.lload 8, 2) := by decide +kernel
theorem d_MRunner_divided_168 : decode y_MRunner_divided.2.1 168 = .ok (.goto 6, 3) := by decide +kernel
theorem d_MRunner_divided_171 : decode y_MRunner_divided.2.1 171 = .ok (.lload 8, 2) := by decide +kernel
theorem d_MRunner_divided_173 : decode y_MRunner_divided.2.1 173 = .ok (.lneg, 1) := by decide +kernel
theorem d_MRunner_divided_174 : decode y_MRunner_divided.2.1 174 = .ok (.invokestatic 167, 3) := by decide +kernel
theorem d_MRunner_divided_177 : decode y_MRunner_divided.2.1 177 = .ok (.ireturn, 1) := by decide +kernel
theorem s_MRunner_divided : ab_Stat y_MRunner_divided 3 := ⟨(k12 83 rfl rfl), (k1 22 rfl rfl), ⟨by decide, by decide⟩, by decide +kernel⟩
theorem i_MRunner_divided : Cond.instanceMethod y_MRunner_divided.1 ∈ ab_T := (k12 82 rfl rfl)
theorem v_MRunner_divided : Cond.selects "WorldEngineModel$Runner" y_MRunner_divided.1 y_MRunner_divided.1 ∈ ab_T := ab_s (List.mem_of_getElem? (i := 193) rfl) rfl
def B_MRunner_divided_174 (N : Nat) (p0 : Nat) (p1 : Int32) (p2 : Int32) (p3 : Int32) (w0 : Int32) (w1 : Int64) (H : Hp) : Option (Int32 × Hp) :=
    bC (F_M_held N w0 w1 H) fun v33 H34 =>
    some (v33, H34)
set_option maxRecDepth 20000 in
set_option maxHeartbeats 2000000 in
theorem mB_MRunner_divided_174 {N : Nat} {p0 : Nat} {p1 : Int32} {p2 : Int32} {p3 : Int32} {w0 : Int32} {w1 : Int64} {H : Hp} {r : Int32 × Hp} (hF : B_MRunner_divided_174 N p0 p1 p2 p3 w0 w1 H = some r) : Sa H r.2 := by
  unfold B_MRunner_divided_174 at hF
  have hm := Sa.rf H
  obtain ⟨v36, H37, z35, hG⟩ := bC_s hF; clear hF
  replace hm : Sa H H37 := hm.tr (m_M_held z35)
  have hr := Option.some.inj hG; subst hr
  exact hm
set_option maxRecDepth 20000 in
set_option maxHeartbeats 2000000 in
theorem kB_MRunner_divided_174 {N : Nat} {p0 : Nat} {p1 : Int32} {p2 : Int32} {p3 : Int32} {w0 : Int32} {w1 : Int64} {H : Hp} {r : Int32 × Hp} (hF : B_MRunner_divided_174 N p0 p1 p2 p3 w0 w1 H = some r) : ab_V y_MRunner_divided { frames := 1, cells := 0, slots := 0, locals := 22 } (po (.returned (some (.int r.1))) r.2) 0 0 0 0 174 [some (.ref p0), some (.int p1), some (.int p2), some (.int p3), none, none, none, none, none, none, none, none] [.long w1, .int w0] (hpw H) := by
  unfold B_MRunner_divided_174 at hF
  obtain ⟨v33, H34, z32, hG⟩ := bC_s hF; clear hF
  refine hp_callSN_a (v := .int v33) (H1 := H34) (As := [.int w0, .long w1]) (rest := []) d_MRunner_divided_174 (k_M_held z32) (ab_mkC s_M_held (Nat.le_of_ble_eq_true rfl) (Nat.le_of_ble_eq_true rfl) (Nat.le_refl 0) (Nat.le_refl 0)) (k12 74 rfl rfl) t_M_held rfl (Nat.le_of_ble_eq_true rfl) ?_
  have s_1 : Sa H H34 := (m_M_held z32)
  exact ab_iret d_MRunner_divided_177 rfl (Nat.le_refl _) (Nat.le_refl _) (by have hr := Option.some.inj hG; subst hr; exact ⟨rfl, rfl⟩)
def B_MRunner_divided_163 (N : Nat) (p0 : Nat) (p1 : Int32) (p2 : Int32) (p3 : Int32) (l8 : Int64) (w0 : Int32) (w1 : Int32) (w2 : Int32) (H : Hp) : Option (Int32 × Hp) :=
    if w1 = w2 then
    B_MRunner_divided_174 N p0 p1 p2 p3 w0 l8 H
    else
    B_MRunner_divided_174 N p0 p1 p2 p3 w0 (-l8) H
set_option maxRecDepth 20000 in
set_option maxHeartbeats 2000000 in
theorem mB_MRunner_divided_163 {N : Nat} {p0 : Nat} {p1 : Int32} {p2 : Int32} {p3 : Int32} {l8 : Int64} {w0 : Int32} {w1 : Int32} {w2 : Int32} {H : Hp} {r : Int32 × Hp} (hF : B_MRunner_divided_163 N p0 p1 p2 p3 l8 w0 w1 w2 H = some r) : Sa H r.2 := by
  unfold B_MRunner_divided_163 at hF
  have hm := Sa.rf H
  rcases ite_s hF with ⟨q_3, hG⟩ | ⟨q_3, hG⟩
  · clear hF
    exact hm.tr (mB_MRunner_divided_174 hG)
  · clear hF
    exact hm.tr (mB_MRunner_divided_174 hG)
set_option maxRecDepth 20000 in
set_option maxHeartbeats 2000000 in
theorem kB_MRunner_divided_163 {N : Nat} {p0 : Nat} {p1 : Int32} {p2 : Int32} {p3 : Int32} {l8 : Int64} {w0 : Int32} {w1 : Int32} {w2 : Int32} {H : Hp} {r : Int32 × Hp} (hF : B_MRunner_divided_163 N p0 p1 p2 p3 l8 w0 w1 w2 H = some r) : ab_V y_MRunner_divided { frames := 1, cells := 0, slots := 0, locals := 22 } (po (.returned (some (.int r.1))) r.2) 0 0 0 0 163 [some (.ref p0), some (.int p1), some (.int p2), some (.int p3), none, none, none, none, some (.long l8), none, none, none] [.int w2, .int w1, .int w0] (hpw H) := by
  unfold B_MRunner_divided_163 at hF
  refine ab_icmp_ne (tgt := 171) d_MRunner_divided_163 (by decide) (fun q31 => ?_) (fun q31 => ?_)
  · rw [if_neg q31] at hF
    refine ab_lload d_MRunner_divided_171 rfl ?_
    refine ab_lneg d_MRunner_divided_173 ?_
    refine ab_le (lv' := [some (.ref p0), some (.int p1), some (.int p2), some (.int p3), none, none, none, none, none, none, none, none]) ⟨rfl, ⟨rfl, ⟨rfl, ⟨rfl, trivial⟩⟩⟩⟩ ?_
    exact kB_MRunner_divided_174 hF
  · rw [if_pos q31] at hF
    refine ab_lload d_MRunner_divided_166 rfl ?_
    refine ab_goto (tgt := 174) d_MRunner_divided_168 (by decide) ?_
    refine ab_le (lv' := [some (.ref p0), some (.int p1), some (.int p2), some (.int p3), none, none, none, none, none, none, none, none]) ⟨rfl, ⟨rfl, ⟨rfl, ⟨rfl, trivial⟩⟩⟩⟩ ?_
    exact kB_MRunner_divided_174 hF
def B_MRunner_divided_154 (N : Nat) (p0 : Nat) (p1 : Int32) (p2 : Int32) (p3 : Int32) (l8 : Int64) (w0 : Int32) (w1 : Int32) (H : Hp) : Option (Int32 × Hp) :=
    if (0 : Int32) ≤ p3 then
    B_MRunner_divided_163 N p0 p1 p2 p3 l8 w0 w1 0 H
    else
    B_MRunner_divided_163 N p0 p1 p2 p3 l8 w0 w1 1 H
set_option maxRecDepth 20000 in
set_option maxHeartbeats 2000000 in
theorem mB_MRunner_divided_154 {N : Nat} {p0 : Nat} {p1 : Int32} {p2 : Int32} {p3 : Int32} {l8 : Int64} {w0 : Int32} {w1 : Int32} {H : Hp} {r : Int32 × Hp} (hF : B_MRunner_divided_154 N p0 p1 p2 p3 l8 w0 w1 H = some r) : Sa H r.2 := by
  unfold B_MRunner_divided_154 at hF
  have hm := Sa.rf H
  rcases ite_s hF with ⟨q_4, hG⟩ | ⟨q_4, hG⟩
  · clear hF
    exact hm.tr (mB_MRunner_divided_163 hG)
  · clear hF
    exact hm.tr (mB_MRunner_divided_163 hG)
set_option maxRecDepth 20000 in
set_option maxHeartbeats 2000000 in
theorem kB_MRunner_divided_154 {N : Nat} {p0 : Nat} {p1 : Int32} {p2 : Int32} {p3 : Int32} {l8 : Int64} {w0 : Int32} {w1 : Int32} {H : Hp} {r : Int32 × Hp} (hF : B_MRunner_divided_154 N p0 p1 p2 p3 l8 w0 w1 H = some r) : ab_V y_MRunner_divided { frames := 1, cells := 0, slots := 0, locals := 22 } (po (.returned (some (.int r.1))) r.2) 0 0 0 0 154 [some (.ref p0), some (.int p1), some (.int p2), some (.int p3), none, none, none, none, some (.long l8), none, none, none] [.int w1, .int w0] (hpw H) := by
  unfold B_MRunner_divided_154 at hF
  refine ab_iload_n d_MRunner_divided_154 rfl rfl ?_
  refine ab_if_ge (tgt := 162) d_MRunner_divided_155 (by decide) (fun q30 => ?_) (fun q30 => ?_)
  · rw [if_pos q30] at hF
    refine ab_iconst (v := 0) d_MRunner_divided_162 (by decide) ?_
    exact kB_MRunner_divided_163 hF
  · rw [if_neg q30] at hF
    refine ab_iconst (v := 1) d_MRunner_divided_158 (by decide) ?_
    refine ab_goto (tgt := 163) d_MRunner_divided_159 (by decide) ?_
    exact kB_MRunner_divided_163 hF
def B_MRunner_divided_141 (N : Nat) (p0 : Nat) (p1 : Int32) (p2 : Int32) (p3 : Int32) (w0 : Int64) (w1 : Int64) (H : Hp) : Option (Int32 × Hp) :=
    if (0 : Int32) ≤ p2 then
    B_MRunner_divided_154 N p0 p1 p2 p3 (w0 + w1) 2 0 H
    else
    B_MRunner_divided_154 N p0 p1 p2 p3 (w0 + w1) 2 1 H
set_option maxRecDepth 20000 in
set_option maxHeartbeats 2000000 in
theorem mB_MRunner_divided_141 {N : Nat} {p0 : Nat} {p1 : Int32} {p2 : Int32} {p3 : Int32} {w0 : Int64} {w1 : Int64} {H : Hp} {r : Int32 × Hp} (hF : B_MRunner_divided_141 N p0 p1 p2 p3 w0 w1 H = some r) : Sa H r.2 := by
  unfold B_MRunner_divided_141 at hF
  have hm := Sa.rf H
  rcases ite_s hF with ⟨q_5, hG⟩ | ⟨q_5, hG⟩
  · clear hF
    exact hm.tr (mB_MRunner_divided_154 hG)
  · clear hF
    exact hm.tr (mB_MRunner_divided_154 hG)
set_option maxRecDepth 20000 in
set_option maxHeartbeats 2000000 in
theorem kB_MRunner_divided_141 {N : Nat} {p0 : Nat} {p1 : Int32} {p2 : Int32} {p3 : Int32} {w0 : Int64} {w1 : Int64} {H : Hp} {r : Int32 × Hp} (hF : B_MRunner_divided_141 N p0 p1 p2 p3 w0 w1 H = some r) : ab_V y_MRunner_divided { frames := 1, cells := 0, slots := 0, locals := 22 } (po (.returned (some (.int r.1))) r.2) 0 0 0 0 141 [some (.ref p0), some (.int p1), some (.int p2), some (.int p3), none, none, none, none, none, none, none, none] [.long w1, .long w0] (hpw H) := by
  unfold B_MRunner_divided_141 at hF
  refine ab_ladd d_MRunner_divided_141 ?_
  refine ab_lstore (lv' := [some (.ref p0), some (.int p1), some (.int p2), some (.int p3), none, none, none, none, some (.long (w0 + w1)), none, none, none]) d_MRunner_divided_142 (by decide) rfl ?_
  refine ab_iconst (v := 2) d_MRunner_divided_144 (by decide) ?_
  refine ab_iload_n d_MRunner_divided_145 rfl rfl ?_
  refine ab_if_ge (tgt := 153) d_MRunner_divided_146 (by decide) (fun q29 => ?_) (fun q29 => ?_)
  · rw [if_pos q29] at hF
    refine ab_iconst (v := 0) d_MRunner_divided_153 (by decide) ?_
    exact kB_MRunner_divided_154 hF
  · rw [if_neg q29] at hF
    refine ab_iconst (v := 1) d_MRunner_divided_149 (by decide) ?_
    refine ab_goto (tgt := 154) d_MRunner_divided_150 (by decide) ?_
    exact kB_MRunner_divided_154 hF
def B_MRunner_divided_136 (N : Nat) (p0 : Nat) (p1 : Int32) (p2 : Int32) (p3 : Int32) (w0 : Int64) (H : Hp) : Option (Int32 × Hp) :=
    B_MRunner_divided_141 N p0 p1 p2 p3 w0 1 H
set_option maxRecDepth 20000 in
set_option maxHeartbeats 2000000 in
theorem mB_MRunner_divided_136 {N : Nat} {p0 : Nat} {p1 : Int32} {p2 : Int32} {p3 : Int32} {w0 : Int64} {H : Hp} {r : Int32 × Hp} (hF : B_MRunner_divided_136 N p0 p1 p2 p3 w0 H = some r) : Sa H r.2 := by
  unfold B_MRunner_divided_136 at hF
  have hm := Sa.rf H
  exact hm.tr (mB_MRunner_divided_141 hF)
set_option maxRecDepth 20000 in
set_option maxHeartbeats 2000000 in
theorem kB_MRunner_divided_136 {N : Nat} {p0 : Nat} {p1 : Int32} {p2 : Int32} {p3 : Int32} {w0 : Int64} {H : Hp} {r : Int32 × Hp} (hF : B_MRunner_divided_136 N p0 p1 p2 p3 w0 H = some r) : ab_V y_MRunner_divided { frames := 1, cells := 0, slots := 0, locals := 22 } (po (.returned (some (.int r.1))) r.2) 0 0 0 0 136 [some (.ref p0), some (.int p1), some (.int p2), some (.int p3), none, none, none, none, none, none, none, none] [.long w0] (hpw H) := by
  unfold B_MRunner_divided_136 at hF
  refine ab_lconst (v := 1) d_MRunner_divided_136 (by decide) ?_
  refine ab_goto (tgt := 141) d_MRunner_divided_137 (by decide) ?_
  exact kB_MRunner_divided_141 hF
def B_MRunner_divided_140 (N : Nat) (p0 : Nat) (p1 : Int32) (p2 : Int32) (p3 : Int32) (w0 : Int64) (H : Hp) : Option (Int32 × Hp) :=
    B_MRunner_divided_141 N p0 p1 p2 p3 w0 0 H
set_option maxRecDepth 20000 in
set_option maxHeartbeats 2000000 in
theorem mB_MRunner_divided_140 {N : Nat} {p0 : Nat} {p1 : Int32} {p2 : Int32} {p3 : Int32} {w0 : Int64} {H : Hp} {r : Int32 × Hp} (hF : B_MRunner_divided_140 N p0 p1 p2 p3 w0 H = some r) : Sa H r.2 := by
  unfold B_MRunner_divided_140 at hF
  have hm := Sa.rf H
  exact hm.tr (mB_MRunner_divided_141 hF)
set_option maxRecDepth 20000 in
set_option maxHeartbeats 2000000 in
theorem kB_MRunner_divided_140 {N : Nat} {p0 : Nat} {p1 : Int32} {p2 : Int32} {p3 : Int32} {w0 : Int64} {H : Hp} {r : Int32 × Hp} (hF : B_MRunner_divided_140 N p0 p1 p2 p3 w0 H = some r) : ab_V y_MRunner_divided { frames := 1, cells := 0, slots := 0, locals := 22 } (po (.returned (some (.int r.1))) r.2) 0 0 0 0 140 [some (.ref p0), some (.int p1), some (.int p2), some (.int p3), none, none, none, none, none, none, none, none] [.long w0] (hpw H) := by
  unfold B_MRunner_divided_140 at hF
  refine ab_lconst (v := 0) d_MRunner_divided_140 (by decide) ?_
  exact kB_MRunner_divided_141 hF
def B_MRunner_divided_86 (N : Nat) (p0 : Nat) (p1 : Int32) (p2 : Int32) (p3 : Int32) (l4 : Int64) (w0 : Int64) (H : Hp) : Option (Int32 × Hp) :=
    ck (¬ w0 = 0) <|
    bnd ((2 : Int64) * (l4 - ((l4 / w0) * w0))) fun x27 =>
    if (0 : Int32) < (lg_cmp x27 w0) then
    B_MRunner_divided_136 N p0 p1 p2 p3 (l4 / w0) H
    else
    if (lg_cmp x27 w0) = (0 : Int32) then
    if (lg_cmp ((l4 / w0) &&& (1 : Int64)) (1 : Int64)) = (0 : Int32) then
    B_MRunner_divided_136 N p0 p1 p2 p3 (l4 / w0) H
    else
    B_MRunner_divided_140 N p0 p1 p2 p3 (l4 / w0) H
    else
    B_MRunner_divided_140 N p0 p1 p2 p3 (l4 / w0) H
set_option maxRecDepth 20000 in
set_option maxHeartbeats 2000000 in
theorem mB_MRunner_divided_86 {N : Nat} {p0 : Nat} {p1 : Int32} {p2 : Int32} {p3 : Int32} {l4 : Int64} {w0 : Int64} {H : Hp} {r : Int32 × Hp} (hF : B_MRunner_divided_86 N p0 p1 p2 p3 l4 w0 H = some r) : Sa H r.2 := by
  unfold B_MRunner_divided_86 at hF
  have hm := Sa.rf H
  obtain ⟨q43, hG⟩ := ck_s hF; clear hF
  obtain ⟨x44, -, hF⟩ := bnd_g hG; clear hG
  rcases ite_s hF with ⟨q_6, hG⟩ | ⟨q_6, hG⟩
  · clear hF
    exact hm.tr (mB_MRunner_divided_136 hG)
  · clear hF
    rcases ite_s hG with ⟨q_7, hF⟩ | ⟨q_7, hF⟩
    · clear hG
      rcases ite_s hF with ⟨q_8, hG⟩ | ⟨q_8, hG⟩
      · clear hF
        exact hm.tr (mB_MRunner_divided_136 hG)
      · clear hF
        exact hm.tr (mB_MRunner_divided_140 hG)
    · clear hG
      exact hm.tr (mB_MRunner_divided_140 hF)
set_option maxRecDepth 20000 in
set_option maxHeartbeats 2000000 in
theorem kB_MRunner_divided_86 {N : Nat} {p0 : Nat} {p1 : Int32} {p2 : Int32} {p3 : Int32} {l4 : Int64} {w0 : Int64} {H : Hp} {r : Int32 × Hp} (hF : B_MRunner_divided_86 N p0 p1 p2 p3 l4 w0 H = some r) : ab_V y_MRunner_divided { frames := 1, cells := 0, slots := 0, locals := 22 } (po (.returned (some (.int r.1))) r.2) 0 0 0 0 86 [some (.ref p0), some (.int p1), some (.int p2), some (.int p3), some (.long l4), none, none, none, none, none, none, none] [.long w0] (hpw H) := by
  unfold B_MRunner_divided_86 at hF
  refine ab_lstore (lv' := [some (.ref p0), some (.int p1), some (.int p2), some (.int p3), some (.long l4), none, some (.long w0), none, none, none, none, none]) d_MRunner_divided_86 (by decide) rfl ?_
  refine ab_lload d_MRunner_divided_88 rfl ?_
  refine ab_lload d_MRunner_divided_90 rfl ?_
  obtain ⟨q26, hG⟩ := ck_s hF; clear hF
  refine ab_ldiv d_MRunner_divided_92 q26 ?_
  refine ab_lstore (lv' := [some (.ref p0), some (.int p1), some (.int p2), some (.int p3), some (.long l4), none, some (.long w0), none, some (.long (l4 / w0)), none, none, none]) d_MRunner_divided_93 (by decide) rfl ?_
  refine ab_ldc2 d_MRunner_divided_95 (k12 84 rfl rfl) ?_
  refine ab_lload d_MRunner_divided_98 rfl ?_
  refine ab_lload d_MRunner_divided_100 rfl ?_
  refine ab_lload d_MRunner_divided_102 rfl ?_
  refine ab_lmul d_MRunner_divided_104 ?_
  refine ab_lsub d_MRunner_divided_105 ?_
  refine ab_lmul d_MRunner_divided_106 ?_
  refine ab_topl (fun x27 ex27 => ?_)
  replace hG := bnd_s ex27 hG
  refine ab_lstore (lv' := [some (.ref p0), some (.int p1), some (.int p2), some (.int p3), some (.long l4), none, some (.long w0), none, some (.long (l4 / w0)), none, some (.long x27), none]) d_MRunner_divided_107 (by decide) rfl ?_
  refine ab_lload d_MRunner_divided_109 rfl ?_
  refine ab_lload d_MRunner_divided_111 rfl ?_
  refine ab_lload d_MRunner_divided_113 rfl ?_
  refine ab_lcmp d_MRunner_divided_115 ?_
  refine ab_if_gt (tgt := 136) d_MRunner_divided_116 (by decide) (fun q28 => ?_) (fun q28 => ?_)
  · rw [if_pos q28] at hG
    refine ab_le (lv' := [some (.ref p0), some (.int p1), some (.int p2), some (.int p3), none, none, none, none, none, none, none, none]) ⟨rfl, ⟨rfl, ⟨rfl, ⟨rfl, trivial⟩⟩⟩⟩ ?_
    exact kB_MRunner_divided_136 hG
  · rw [if_neg q28] at hG
    refine ab_lload d_MRunner_divided_119 rfl ?_
    refine ab_lload d_MRunner_divided_121 rfl ?_
    refine ab_lcmp d_MRunner_divided_123 ?_
    refine ab_if_ne (tgt := 140) d_MRunner_divided_124 (by decide) (fun q41 => ?_) (fun q41 => ?_)
    · rw [if_neg q41] at hG
      refine ab_le (lv' := [some (.ref p0), some (.int p1), some (.int p2), some (.int p3), none, none, none, none, none, none, none, none]) ⟨rfl, ⟨rfl, ⟨rfl, ⟨rfl, trivial⟩⟩⟩⟩ ?_
      exact kB_MRunner_divided_140 hG
    · rw [if_pos q41] at hG
      refine ab_lload d_MRunner_divided_127 rfl ?_
      refine ab_lconst (v := 1) d_MRunner_divided_129 (by decide) ?_
      refine ab_land d_MRunner_divided_130 ?_
      refine ab_lconst (v := 1) d_MRunner_divided_131 (by decide) ?_
      refine ab_lcmp d_MRunner_divided_132 ?_
      refine ab_if_ne (tgt := 140) d_MRunner_divided_133 (by decide) (fun q42 => ?_) (fun q42 => ?_)
      · rw [if_neg q42] at hG
        refine ab_le (lv' := [some (.ref p0), some (.int p1), some (.int p2), some (.int p3), none, none, none, none, none, none, none, none]) ⟨rfl, ⟨rfl, ⟨rfl, ⟨rfl, trivial⟩⟩⟩⟩ ?_
        exact kB_MRunner_divided_140 hG
      · rw [if_pos q42] at hG
        refine ab_le (lv' := [some (.ref p0), some (.int p1), some (.int p2), some (.int p3), none, none, none, none, none, none, none, none]) ⟨rfl, ⟨rfl, ⟨rfl, ⟨rfl, trivial⟩⟩⟩⟩ ?_
        exact kB_MRunner_divided_136 hG
def B_MRunner_divided_66 (N : Nat) (p0 : Nat) (p1 : Int32) (p2 : Int32) (p3 : Int32) (w0 : Int64) (H : Hp) : Option (Int32 × Hp) :=
    bnd (w0 <<< (((16 : Int32) : Int32).toInt64 &&& 63)) fun x24 =>
    if (0 : Int32) ≤ (lg_cmp ((p3 : Int32).toInt64) (0 : Int64)) then
    B_MRunner_divided_86 N p0 p1 p2 p3 x24 ((p3 : Int32).toInt64) H
    else
    B_MRunner_divided_86 N p0 p1 p2 p3 x24 (-((p3 : Int32).toInt64)) H
set_option maxRecDepth 20000 in
set_option maxHeartbeats 2000000 in
theorem mB_MRunner_divided_66 {N : Nat} {p0 : Nat} {p1 : Int32} {p2 : Int32} {p3 : Int32} {w0 : Int64} {H : Hp} {r : Int32 × Hp} (hF : B_MRunner_divided_66 N p0 p1 p2 p3 w0 H = some r) : Sa H r.2 := by
  unfold B_MRunner_divided_66 at hF
  have hm := Sa.rf H
  obtain ⟨x48, -, hG⟩ := bnd_g hF; clear hF
  rcases ite_s hG with ⟨q_9, hF⟩ | ⟨q_9, hF⟩
  · clear hG
    exact hm.tr (mB_MRunner_divided_86 hF)
  · clear hG
    exact hm.tr (mB_MRunner_divided_86 hF)
set_option maxRecDepth 20000 in
set_option maxHeartbeats 2000000 in
theorem kB_MRunner_divided_66 {N : Nat} {p0 : Nat} {p1 : Int32} {p2 : Int32} {p3 : Int32} {w0 : Int64} {H : Hp} {r : Int32 × Hp} (hF : B_MRunner_divided_66 N p0 p1 p2 p3 w0 H = some r) : ab_V y_MRunner_divided { frames := 1, cells := 0, slots := 0, locals := 22 } (po (.returned (some (.int r.1))) r.2) 0 0 0 0 66 [some (.ref p0), some (.int p1), some (.int p2), some (.int p3), none, none, none, none, none, none, none, none] [.long w0] (hpw H) := by
  unfold B_MRunner_divided_66 at hF
  refine ab_bipush (v := 16) d_MRunner_divided_66 (by decide) ?_
  refine ab_lshl d_MRunner_divided_68 ?_
  refine ab_topl (fun x24 ex24 => ?_)
  replace hF := bnd_s ex24 hF
  refine ab_lstore (lv' := [some (.ref p0), some (.int p1), some (.int p2), some (.int p3), some (.long x24), none, none, none, none, none, none, none]) d_MRunner_divided_69 (by decide) rfl ?_
  refine ab_iload_n d_MRunner_divided_71 rfl rfl ?_
  refine ab_i2l d_MRunner_divided_72 ?_
  refine ab_lconst (v := 0) d_MRunner_divided_73 (by decide) ?_
  refine ab_lcmp d_MRunner_divided_74 ?_
  refine ab_if_ge (tgt := 84) d_MRunner_divided_75 (by decide) (fun q25 => ?_) (fun q25 => ?_)
  · rw [if_pos q25] at hF
    refine ab_iload_n d_MRunner_divided_84 rfl rfl ?_
    refine ab_i2l d_MRunner_divided_85 ?_
    exact kB_MRunner_divided_86 hF
  · rw [if_neg q25] at hF
    refine ab_iload_n d_MRunner_divided_78 rfl rfl ?_
    refine ab_i2l d_MRunner_divided_79 ?_
    refine ab_lneg d_MRunner_divided_80 ?_
    refine ab_goto (tgt := 86) d_MRunner_divided_81 (by decide) ?_
    exact kB_MRunner_divided_86 hF
def F_MRunner_divided (N : Nat) (p0 : Nat) (p1 : Int32) (p2 : Int32) (p3 : Int32) (H : Hp) : Option (Int32 × Hp) :=
    if p3 = (0 : Int32) then
    ck (H.sh[p0]? = some (15, 0)) <|
    bC (F_MRunner_fails N p0 (1 : Int32) H) fun v55 H56 =>
    some (0, H56)
    else
    ck (H.sh[p0]? = some (15, 0)) <|
    rf (H.P p0 0) fun a3 =>
    ck (H.sh[a3]? = some (14, 0)) <|
    rf (H.P a3 3) fun a6 =>
    ar H 100 a6 fun n8 =>
    ck (inb p1 n8) <|
    bnd ((H.D a6 (p1).toNatClampNeg)) fun x11 =>
    if x11 = (37 : Int32) then
    ck (¬ ((p3 : Int32).toInt64) = 0) <|
    bnd (((p2 : Int32).toInt64) - ((p2 : Int32).toInt64) / ((p3 : Int32).toInt64) * ((p3 : Int32).toInt64)) fun x52 =>
    some ((x52 : Int64).toInt32, H)
    else
    rf (H.P p0 0) fun a13 =>
    ck (H.sh[a13]? = some (14, 0)) <|
    rf (H.P a13 8) fun a16 =>
    ar H 100 a16 fun n18 =>
    ck (inb p1 n18) <|
    bnd ((H.D a16 (p1).toNatClampNeg)) fun x21 =>
    if x21 = (0 : Int32) then
    ck (¬ ((p3 : Int32).toInt64) = 0) <|
    some (((((p2 : Int32).toInt64) / ((p3 : Int32).toInt64)) : Int64).toInt32, H)
    else
    if (0 : Int32) ≤ (lg_cmp ((p2 : Int32).toInt64) (0 : Int64)) then
    B_MRunner_divided_66 N p0 p1 p2 p3 ((p2 : Int32).toInt64) H
    else
    B_MRunner_divided_66 N p0 p1 p2 p3 (-((p2 : Int32).toInt64)) H
set_option maxRecDepth 20000 in
set_option maxHeartbeats 2000000 in
theorem m_MRunner_divided {N : Nat} {p0 : Nat} {p1 : Int32} {p2 : Int32} {p3 : Int32} {H : Hp} {r : Int32 × Hp} (hF : F_MRunner_divided N p0 p1 p2 p3 H = some r) : Sa H r.2 := by
  unfold F_MRunner_divided at hF
  have hm := Sa.rf H
  rcases ite_s hF with ⟨q_11, hG⟩ | ⟨q_11, hG⟩
  · clear hF
    obtain ⟨q58, hF⟩ := ck_s hG; clear hG
    obtain ⟨v60, H61, z59, hG⟩ := bC_s hF; clear hF
    replace hm : Sa H H61 := hm.tr (m_MRunner_fails z59)
    have hr := Option.some.inj hG; subst hr
    exact hm
  · clear hF
    obtain ⟨q62, hF⟩ := ck_s hG; clear hG
    obtain ⟨a63, e64, hG⟩ := rf_s hF; clear hF
    obtain ⟨q65, hF⟩ := ck_s hG; clear hG
    obtain ⟨a66, e67, hG⟩ := rf_s hF; clear hF
    obtain ⟨n68, q69, hF⟩ := ar_s hG; clear hG
    obtain ⟨q70, hG⟩ := ck_s hF; clear hF
    obtain ⟨x71, -, hF⟩ := bnd_g hG; clear hG
    rcases ite_s hF with ⟨q_13, hG⟩ | ⟨q_13, hG⟩
    · clear hF
      obtain ⟨q73, hF⟩ := ck_s hG; clear hG
      obtain ⟨x74, -, hG⟩ := bnd_g hF; clear hF
      have hr := Option.some.inj hG; subst hr
      exact hm
    · clear hF
      obtain ⟨a75, e76, hF⟩ := rf_s hG; clear hG
      obtain ⟨q77, hG⟩ := ck_s hF; clear hF
      obtain ⟨a78, e79, hF⟩ := rf_s hG; clear hG
      obtain ⟨n80, q81, hG⟩ := ar_s hF; clear hF
      obtain ⟨q82, hF⟩ := ck_s hG; clear hG
      obtain ⟨x83, -, hG⟩ := bnd_g hF; clear hF
      rcases ite_s hG with ⟨q_14, hF⟩ | ⟨q_14, hF⟩
      · clear hG
        obtain ⟨q85, hG⟩ := ck_s hF; clear hF
        have hr := Option.some.inj hG; subst hr
        exact hm
      · clear hG
        rcases ite_s hF with ⟨q_15, hG⟩ | ⟨q_15, hG⟩
        · clear hF
          exact hm.tr (mB_MRunner_divided_66 hG)
        · clear hF
          exact hm.tr (mB_MRunner_divided_66 hG)
set_option maxRecDepth 20000 in
set_option maxHeartbeats 2000000 in
theorem k_MRunner_divided {N : Nat} {p0 : Nat} {p1 : Int32} {p2 : Int32} {p3 : Int32} {H : Hp} {r : Int32 × Hp} (hF : F_MRunner_divided N p0 p1 p2 p3 H = some r) : ab_M y_MRunner_divided { frames := 1, cells := 0, slots := 0, locals := 22 } [.ref p0, .int p1, .int p2, .int p3] (hpw H) (po (.returned (some (.int r.1))) r.2) := by
  unfold F_MRunner_divided at hF
  refine ab_of2 (lv := [some (.ref p0), some (.int p1), some (.int p2), some (.int p3), none, none, none, none, none, none, none, none]) 8 rfl rfl (Nat.le_of_ble_eq_true rfl) ?_
  refine ab_iload_n d_MRunner_divided_0 rfl rfl ?_
  refine ab_if_ne (tgt := 11) d_MRunner_divided_1 (by decide) (fun q1 => ?_) (fun q1 => ?_)
  · rw [if_neg q1] at hF
    refine ab_aload_n d_MRunner_divided_11 rfl rfl rfl ?_
    obtain ⟨q2, hG⟩ := ck_s hF; clear hF
    obtain ⟨a3, e4, hF⟩ := rf_s hG; clear hG
    refine hp_getR (f := 0) d_MRunner_divided_12 q2 (by decide) rfl (by decide) (k9 183 rfl rfl) rfl e4 ?_
    obtain ⟨q5, hG⟩ := ck_s hF; clear hF
    obtain ⟨a6, e7, hF⟩ := rf_s hG; clear hG
    refine hp_getRN (f := 3) d_MRunner_divided_15 q5 (by decide) rfl (by decide) (k8 163 rfl rfl) rfl e7 ?_
    refine ab_iload_n d_MRunner_divided_18 rfl rfl ?_
    obtain ⟨n8, q9, hG⟩ := ar_s hF; clear hF
    obtain ⟨q10, hF⟩ := ck_s hG; clear hG
    refine hp_iald d_MRunner_divided_19 tI q9 q10 ?_
    refine ab_topi (fun x11 ex11 => ?_)
    replace hF := bnd_s ex11 hF
    refine ab_bipush (v := 37) d_MRunner_divided_20 (by decide) ?_
    refine ab_icmp_ne (tgt := 32) d_MRunner_divided_22 (by decide) (fun q12 => ?_) (fun q12 => ?_)
    · rw [if_neg q12] at hF
      refine ab_aload_n d_MRunner_divided_32 rfl rfl rfl ?_
      obtain ⟨a13, e14, hG⟩ := rf_s hF; clear hF
      refine hp_getR (f := 0) d_MRunner_divided_33 q2 (by decide) rfl (by decide) (k9 183 rfl rfl) rfl e14 ?_
      obtain ⟨q15, hF⟩ := ck_s hG; clear hG
      obtain ⟨a16, e17, hG⟩ := rf_s hF; clear hF
      refine hp_getRN (f := 8) d_MRunner_divided_36 q15 (by decide) rfl (by decide) (k8 170 rfl rfl) rfl e17 ?_
      refine ab_iload_n d_MRunner_divided_39 rfl rfl ?_
      obtain ⟨n18, q19, hF⟩ := ar_s hG; clear hG
      obtain ⟨q20, hG⟩ := ck_s hF; clear hF
      refine hp_iald d_MRunner_divided_40 tI q19 q20 ?_
      refine ab_topi (fun x21 ex21 => ?_)
      replace hG := bnd_s ex21 hG
      refine ab_if_ne (tgt := 51) d_MRunner_divided_41 (by decide) (fun q22 => ?_) (fun q22 => ?_)
      · rw [if_neg q22] at hG
        refine ab_iload_n d_MRunner_divided_51 rfl rfl ?_
        refine ab_i2l d_MRunner_divided_52 ?_
        refine ab_lconst (v := 0) d_MRunner_divided_53 (by decide) ?_
        refine ab_lcmp d_MRunner_divided_54 ?_
        refine ab_if_ge (tgt := 64) d_MRunner_divided_55 (by decide) (fun q23 => ?_) (fun q23 => ?_)
        · rw [if_pos q23] at hG
          refine ab_iload_n d_MRunner_divided_64 rfl rfl ?_
          refine ab_i2l d_MRunner_divided_65 ?_
          exact kB_MRunner_divided_66 hG
        · rw [if_neg q23] at hG
          refine ab_iload_n d_MRunner_divided_58 rfl rfl ?_
          refine ab_i2l d_MRunner_divided_59 ?_
          refine ab_lneg d_MRunner_divided_60 ?_
          refine ab_goto (tgt := 66) d_MRunner_divided_61 (by decide) ?_
          exact kB_MRunner_divided_66 hG
      · rw [if_pos q22] at hG
        refine ab_iload_n d_MRunner_divided_44 rfl rfl ?_
        refine ab_i2l d_MRunner_divided_45 ?_
        refine ab_iload_n d_MRunner_divided_46 rfl rfl ?_
        refine ab_i2l d_MRunner_divided_47 ?_
        obtain ⟨q50, hF⟩ := ck_s hG; clear hG
        refine ab_ldiv d_MRunner_divided_48 q50 ?_
        refine ab_l2i d_MRunner_divided_49 ?_
        exact ab_iret d_MRunner_divided_50 rfl (Nat.le_refl _) (Nat.le_refl _) (by have hr := Option.some.inj hF; subst hr; exact ⟨rfl, rfl⟩)
    · rw [if_pos q12] at hF
      refine ab_iload_n d_MRunner_divided_25 rfl rfl ?_
      refine ab_i2l d_MRunner_divided_26 ?_
      refine ab_iload_n d_MRunner_divided_27 rfl rfl ?_
      refine ab_i2l d_MRunner_divided_28 ?_
      obtain ⟨q51, hG⟩ := ck_s hF; clear hF
      refine ab_lrem d_MRunner_divided_29 q51 ?_
      refine ab_topl (fun x52 ex52 => ?_)
      replace hG := bnd_s ex52 hG
      refine ab_l2i d_MRunner_divided_30 ?_
      exact ab_iret d_MRunner_divided_31 rfl (Nat.le_refl _) (Nat.le_refl _) (by have hr := Option.some.inj hG; subst hr; exact ⟨rfl, rfl⟩)
  · rw [if_pos q1] at hF
    refine ab_aload_n d_MRunner_divided_4 rfl rfl rfl ?_
    refine ab_iconst (v := 1) d_MRunner_divided_5 (by decide) ?_
    obtain ⟨q53, hG⟩ := ck_s hF; clear hF
    obtain ⟨v55, H56, z54, hF⟩ := bC_s hG; clear hG
    refine hp_callV_v (H1 := H56) (As := [.int 1]) (rest := []) d_MRunner_divided_6 (k_MRunner_fails z54) (ab_mkC s_MRunner_fails (Nat.le_of_ble_eq_true rfl) (Nat.le_of_ble_eq_true rfl) (Nat.le_refl 0) (Nat.le_refl 0)) (k12 2 rfl rfl) i_MRunner_fails v_MRunner_fails q53 (by decide) rfl rfl (Nat.le_of_ble_eq_true rfl) ?_
    have s_10 : Sa H H56 := (m_MRunner_fails z54)
    refine ab_iconst (v := 0) d_MRunner_divided_9 (by decide) ?_
    exact ab_iret d_MRunner_divided_10 rfl (Nat.le_refl _) (Nat.le_refl _) (by have hr := Option.some.inj hF; subst hr; exact ⟨rfl, rfl⟩)
