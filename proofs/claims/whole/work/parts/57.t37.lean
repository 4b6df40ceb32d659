def y_Store_writeEvents : ab_Y := (⟨"WorldEngine$Store", "writeEvents", "(LWorldEngine$Shapes;LWorldEngine$World;)V"⟩, prog_10_method_7_code, 7, none, [])
theorem d_Store_writeEvents_0 : decode y_Store_writeEvents.2.1 0 = .ok (.aload_n 0, 1) := by decide +kernel
theorem d_Store_writeEvents_1 : decode y_Store_writeEvents.2.1 1 = .ok (.aload_n 2, 1) := by decide +kernel
theorem d_Store_writeEvents_2 : decode y_Store_writeEvents.2.1 2 = .ok (.getfield 105, 3) := by decide +kernel
theorem d_Store_writeEvents_5 : decode y_Store_writeEvents.2.1 5 = .ok (.bipush 8, 2) := by decide +kernel
theorem d_Store_writeEvents_7 : decode y_Store_writeEvents.2.1 7 = .ok (.ishr, 1) := by decide +kernel
theorem d_Store_writeEvents_8 : decode y_Store_writeEvents.2.1 8 = .ok (.invokevirtual 27, 3) := by decide +kernel
theorem d_Store_writeEvents_11 : decode y_Store_writeEvents.2.1 11 = .ok (.aload_n 0, 1) := by decide +kernel
theorem d_Store_writeEvents_12 : decode y_Store_writeEvents.2.1 12 = .ok (.aload_n 2, 1) := by decide +kernel
theorem d_Store_writeEvents_13 : decode y_Store_writeEvents.2.1 13 = .ok (.getfield 105, 3) := by decide +kernel
theorem d_Store_writeEvents_16 : decode y_Store_writeEvents.2.1 16 = .ok (.invokevirtual 27, 3) := by decide +kernel
theorem d_Store_writeEvents_19 : decode y_Store_writeEvents.2.1 19 = .ok (.iconst 0, 1) := by decide +kernel
theorem d_Store_writeEvents_20 : decode y_Store_writeEvents.2.1 20 = .ok (.istore_n 3, 1) := by decide +kernel
theorem d_Store_writeEvents_21 : decode y_Store_writeEvents.2.1 21 = .ok (.iload_n 3, 1) := by decide +kernel
theorem d_Store_writeEvents_22 : decode y_Store_writeEvents.2.1 22 = .ok (.aload_n 2, 1) := by decide +kernel
theorem d_Store_writeEvents_23 : decode y_Store_writeEvents.2.1 23 = .ok (.getfield 105, 3) := by decide +kernel
theorem d_Store_writeEvents_26 : decode y_Store_writeEvents.2.1 26 = .ok (.if_icmp .ge 71, 3) := by decide +kernel
theorem d_Store_writeEvents_29 : decode y_Store_writeEvents.2.1 29 = .ok (.iload_n 3, 1) := by decide +kernel
theorem d_Store_writeEvents_30 : decode y_Store_writeEvents.2.1 30 = .ok (.bipush 7, 2) := by decide +kernel
theorem d_Store_writeEvents_32 : decode y_Store_writeEvents.2.1 32 = .ok (.imul, 1) := by decide +kernel
theorem d_Store_writeEvents_33 : decode y_Store_writeEvents.2.1 33 = .ok (.istore 4, 2) := by decide +kernel
theorem d_Store_writeEvents_35 : decode y_Store_writeEvents.2.1 35 = .ok (.aload_n 0, 1) := by decide +kernel
theorem d_Store_writeEvents_36 : decode y_Store_writeEvents.2.1 36 = .ok (.aload_n 2, 1) := by decide +kernel
theorem d_Store_writeEvents_37 : decode y_Store_writeEvents.2.1 37 = .ok (.getfield 108, 3) := by decide +kernel
theorem d_Store_writeEvents_40 : decode y_Store_writeEvents.2.1 40 = .ok (.iload 4, 2) := by decide +kernel
theorem d_Store_writeEvents_42 : decode y_Store_writeEvents.2.1 42 = .ok (.iaload, 1) := by decide +kernel
theorem d_Store_writeEvents_43 : decode y_Store_writeEvents.2.1 43 = .ok (.invokevirtual 27, 3) := by decide +kernel
theorem d_Store_writeEvents_46 : decode y_Store_writeEvents.2.1 46 = .ok (.iconst 2, 1) := by decide +kernel
theorem d_Store_writeEvents_47 : decode y_Store_writeEvents.2.1 47 = .ok (.aload_n 1, 1) := by decide +kernel
theorem d_Store_writeEvents_48 : decode y_Store_writeEvents.2.1 48 = .ok (.aload_n 2, 1) := by decide +kernel
theorem d_Store_writeEvents_49 : decode y_Store_writeEvents.2.1 49 = .ok (.getfield 108, 3) := by decide +kernel
theorem d_Store_writeEvents_52 : decode y_Store_writeEvents.2.1 52 = .ok (.iload 4, 2) := by decide +kernel
theorem d_Store_writeEvents_54 : decode y_Store_writeEvents.2.1 54 = .ok (.iaload, 1) := by decide +kernel
theorem d_Store_writeEvents_55 : decode y_Store_writeEvents.2.1 55 = .ok (.invokevirtual 81, 3) := by decide +kernel
theorem d_Store_writeEvents_58 : decode y_Store_writeEvents.2.1 58 = .ok (.iadd, 1) := by decide +kernel
theorem d_Store_writeEvents_59 : decode y_Store_writeEvents.2.1 59 = .ok (.istore 5, 2) := by decide +kernel
theorem d_Store_writeEvents_61 : decode y_Store_writeEvents.2.1 61 = .ok (.iconst 1, 1) := by decide +kernel
theorem d_Store_writeEvents_62 : decode y_Store_writeEvents.2.1 62 = .ok (.istore 6, 2) := by decide +kernel
theorem d_Store_writeEvents_64 : decode y_Store_writeEvents.2.1 64 = .ok (.iload 6, 2) := by decide +kernel
theorem d_Store_writeEvents_66 : decode y_Store_writeEvents.2.1 66 = .ok (.iload 5, 2) := by decide +kernel
theorem d_Store_writeEvents_68 : decode y_Store_writeEvents.2.1 68 = .ok (.if_icmp .gt 23, 3) := by decide +kernel
theorem d_Store_writeEvents_71 : decode y_Store_writeEvents.2.1 71 = .ok (.aload_n 0, 1) := by decide +kernel
theorem d_Store_writeEvents_72 : decode y_Store_writeEvents.2.1 72 = .ok (.aload_n 2, 1) := by decide +kernel
theorem d_Store_writeEvents_73 : decode y_Store_writeEvents.2.1 73 = .ok (.getfield 108, 3) := by decide +kernel
theorem d_Store_writeEvents_76 : decode y_Store_writeEvents.2.1 76 = .ok (.iload 4, 2) := by decide +kernel
theorem d_Store_writeEvents_78 : decode y_Store_writeEvents.2.1 78 = .ok (.iload 6, 2) := by decide +kernel
theorem d_Store_writeEvents_80 : decode y_Store_writeEvents.2.1 80 = .ok (.iadd, 1) := by decide +kernel
theorem d_Store_writeEvents_81 : decode y_Store_writeEvents.2.1 81 = .ok (.iaload, 1) := by decide +kernel
theorem d_Store_writeEvents_82 : decode y_Store_writeEvents.2.1 82 = .ok (.invokevirtual 49, 3) := by decide +kernel
theorem d_Store_writeEvents_85 : decode y_Store_writeEvents.2.1 85 = .ok (.iinc 6 1, 3) := by decide +kernel
theorem d_Store_writeEvents_88 : decode y_Store_writeEvents.2.1 88 = .ok (.goto (-24), 3) := by decide +kernel
theorem d_Store_writeEvents_91 : decode y_Store_writeEvents.2.1 91 = .ok (.iinc 3 1, 3) := by decide +kernel
theorem d_Store_writeEvents_94 : decode y_Store_writeEvents.2.1 94 = .ok (.goto (-73), 3) := by decide +kernel
theorem d_Store_writeEvents_97 : decode y_Store_writeEvents.2.1 97 = .ok (.return_, 1) := by decide +kernel
theorem s_Store_writeEvents : ab_Stat y_Store_writeEvents 2 := ⟨(k8 22 rfl rfl), (k1 14 rfl rfl), ⟨by decide, by decide⟩, by decide +kernel⟩
theorem i_Store_writeEvents : Cond.instanceMethod y_Store_writeEvents.1 ∈ ab_T := (k8 21 rfl rfl)
theorem v_Store_writeEvents : Cond.selects "WorldEngine$Store" y_Store_writeEvents.1 y_Store_writeEvents.1 ∈ ab_T := ab_s (List.mem_of_getElem? (i := 97) rfl) rfl
def B_Store_writeEvents_64 (N : Nat) (p0 : Nat) (p1 : Nat) (p2 : Nat) (kq21 : Int32 → Hp → Option (Unit × Hp)) : Nat → Int32 → Int32 → Int32 → Int32 → Hp → Option (Unit × Hp)
  | 0, _, _, _, _, _ => none
  | n + 1, l3, l4, l5, l6, H =>
    if l5 < l6 then
    kq21 (l3 + 1) H
    else
    ck (H.sh[p2]? = some (7, 0)) <|
    rf (H.P p2 12) fun a38 =>
    ar H 100 a38 fun n40 =>
    ck (inb (l4 + l6) n40) <|
    bnd ((H.D a38 ((l4 + l6)).toNatClampNeg)) fun x43 =>
    ck (H.sh[p0]? = some (11, 0)) <|
    bC (F_Store_writeInt N p0 x43 H) fun v46 H47 =>
    B_Store_writeEvents_64 N p0 p1 p2 kq21 n l3 l4 l5 (l6 + 1) H47
termination_by structural n => n
set_option maxRecDepth 20000 in
set_option maxHeartbeats 2000000 in
theorem mB_Store_writeEvents_64 {N : Nat} {p0 : Nat} {p1 : Nat} {p2 : Nat} {kq21 : Int32 → Hp → Option (Unit × Hp)} (hm21 : ∀ (l3 : Int32) (H : Hp) (r : Unit × Hp), kq21 l3 H = some r → Sa H r.2) : ∀ (n : Nat) (l3 : Int32) (l4 : Int32) (l5 : Int32) (l6 : Int32) (H : Hp) (r : Unit × Hp), B_Store_writeEvents_64 N p0 p1 p2 kq21 n l3 l4 l5 l6 H = some r → Sa H r.2 := by
  intro n
  induction n with
  | zero => intro l3 l4 l5 l6 H r hF; rw [B_Store_writeEvents_64] at hF; cases hF
  | succ n ih =>
    intro l3 l4 l5 l6 H r hF
    rw [B_Store_writeEvents_64] at hF
    have hm := Sa.rf H
    rcases ite_s hF with ⟨q_6, hG⟩ | ⟨q_6, hG⟩
    · clear hF
      exact hm.tr (hm21 (l3 + 1) H r hG)
    · clear hF
      obtain ⟨q49, hF⟩ := ck_s hG; clear hG
      obtain ⟨a50, e51, hG⟩ := rf_s hF; clear hF
      obtain ⟨n52, q53, hF⟩ := ar_s hG; clear hG
      obtain ⟨q54, hG⟩ := ck_s hF; clear hF
      obtain ⟨x55, -, hF⟩ := bnd_g hG; clear hG
      obtain ⟨q56, hG⟩ := ck_s hF; clear hF
      obtain ⟨v58, H59, z57, hF⟩ := bC_s hG; clear hG
      replace hm : Sa H H59 := hm.tr (m_Store_writeInt z57)
      exact hm.tr (ih l3 l4 l5 (l6 + 1) H59 r hF)
set_option maxRecDepth 20000 in
set_option maxHeartbeats 2000000 in
theorem kB_Store_writeEvents_64 {N : Nat} {p0 : Nat} {p1 : Nat} {p2 : Nat} {kq21 : Int32 → Hp → Option (Unit × Hp)} (hm21 : ∀ (l3 : Int32) (H : Hp) (r : Unit × Hp), kq21 l3 H = some r → Sa H r.2) (hk21 : ∀ (l3 : Int32) (H : Hp) (r : Unit × Hp), kq21 l3 H = some r → ab_V y_Store_writeEvents { frames := 2, cells := 0, slots := 0, locals := 43 } (po (.returned none) r.2) 0 0 0 0 21 [some (.ref p0), some (.ref p1), some (.ref p2), some (.int l3), none, none, none] [] (hpw H)) : ∀ (n : Nat) (l3 : Int32) (l4 : Int32) (l5 : Int32) (l6 : Int32) (H : Hp) (r : Unit × Hp), B_Store_writeEvents_64 N p0 p1 p2 kq21 n l3 l4 l5 l6 H = some r → ab_V y_Store_writeEvents { frames := 2, cells := 0, slots := 0, locals := 43 } (po (.returned none) r.2) 0 0 0 0 64 [some (.ref p0), some (.ref p1), some (.ref p2), some (.int l3), some (.int l4), some (.int l5), some (.int l6)] [] (hpw H) := by
  intro n
  induction n with
  | zero => intro l3 l4 l5 l6 H r hF; rw [B_Store_writeEvents_64] at hF; cases hF
  | succ n ih =>
    intro l3 l4 l5 l6 H r hF
    rw [B_Store_writeEvents_64] at hF
    refine ab_iload d_Store_writeEvents_64 rfl ?_
    refine ab_iload d_Store_writeEvents_66 rfl ?_
    refine ab_icmp_gt (tgt := 91) d_Store_writeEvents_68 (by decide) (fun q36 => ?_) (fun q36 => ?_)
    · rw [if_pos q36] at hF
      refine ab_iinc (v := l3 + 1) (lv' := [some (.ref p0), some (.ref p1), some (.ref p2), some (.int (l3 + 1)), some (.int l4), some (.int l5), some (.int l6)]) d_Store_writeEvents_91 rfl rfl (by decide) rfl ?_
      refine ab_goto (tgt := 21) d_Store_writeEvents_94 (by decide) ?_
      refine ab_le (lv' := [some (.ref p0), some (.ref p1), some (.ref p2), some (.int (l3 + 1)), none, none, none]) ⟨rfl, ⟨rfl, ⟨rfl, ⟨rfl, trivial⟩⟩⟩⟩ ?_
      exact hk21 (l3 + 1) H r hF
    · rw [if_neg q36] at hF
      refine ab_aload_n d_Store_writeEvents_71 rfl rfl rfl ?_
      refine ab_aload_n d_Store_writeEvents_72 rfl rfl rfl ?_
      obtain ⟨q37, hG⟩ := ck_s hF; clear hF
      obtain ⟨a38, e39, hF⟩ := rf_s hG; clear hG
      refine hp_getR (f := 12) d_Store_writeEvents_73 q37 (by decide) rfl (by decide) (k2 0 rfl rfl) rfl e39 ?_
      refine ab_iload d_Store_writeEvents_76 rfl ?_
      refine ab_iload d_Store_writeEvents_78 rfl ?_
      refine ab_iadd d_Store_writeEvents_80 ?_
      obtain ⟨n40, q41, hG⟩ := ar_s hF; clear hF
      obtain ⟨q42, hF⟩ := ck_s hG; clear hG
      refine hp_iald d_Store_writeEvents_81 tI q41 q42 ?_
      refine ab_topi (fun x43 ex43 => ?_)
      replace hF := bnd_s ex43 hF
      obtain ⟨q44, hG⟩ := ck_s hF; clear hF
      obtain ⟨v46, H47, z45, hF⟩ := bC_s hG; clear hG
      refine hp_callV_v (H1 := H47) (As := [.int x43]) (rest := []) d_Store_writeEvents_82 (k_Store_writeInt z45) (ab_mkC s_Store_writeInt (Nat.le_of_ble_eq_true rfl) (Nat.le_of_ble_eq_true rfl) (Nat.le_refl 0) (Nat.le_refl 0)) (k8 9 rfl rfl) i_Store_writeInt v_Store_writeInt q44 (by decide) rfl rfl (Nat.le_of_ble_eq_true rfl) ?_
      have s_5 : Sa H H47 := (m_Store_writeInt z45)
      refine ab_iinc (v := l6 + 1) (lv' := [some (.ref p0), some (.ref p1), some (.ref p2), some (.int l3), some (.int l4), some (.int l5), some (.int (l6 + 1))]) d_Store_writeEvents_85 rfl rfl (by decide) rfl ?_
      refine ab_goto (tgt := 64) d_Store_writeEvents_88 (by decide) ?_
      exact ih l3 l4 l5 (l6 + 1) H47 r hF
def B_Store_writeEvents_21 (N : Nat) (p0 : Nat) (p1 : Nat) (p2 : Nat) : Nat → Int32 → Hp → Option (Unit × Hp)
  | 0, _, _ => none
  | n + 1, l3, H =>
    ck (H.sh[p2]? = some (7, 0)) <|
    bnd ((H.D p2 13)) fun x12 =>
    if x12 ≤ l3 then
    some ((), H)
    else
    bnd ((l3 * (7 : Int32))) fun x14 =>
    rf (H.P p2 12) fun a15 =>
    ar H 100 a15 fun n17 =>
    ck (inb x14 n17) <|
    bnd ((H.D a15 (x14).toNatClampNeg)) fun x20 =>
    ck (H.sh[p0]? = some (11, 0)) <|
    bC (F_Store_writeByte N p0 x20 H) fun v23 H24 =>
    rf (H24.P p2 12) fun a25 =>
    ar H24 100 a25 fun n27 =>
    ck (inb x14 n27) <|
    bnd ((H24.D a25 (x14).toNatClampNeg)) fun x30 =>
    ck (H24.sh[p1]? = some (3, 0)) <|
    bC (F_Shapes_sizeOf N p1 x30 H24) fun v33 H34 =>
    bnd (((2 : Int32) + v33)) fun x35 =>
    B_Store_writeEvents_64 N p0 p1 p2 (fun l3 H => B_Store_writeEvents_21 N p0 p1 p2 n l3 H) N l3 x14 x35 1 H34
termination_by structural n => n
set_option maxRecDepth 20000 in
set_option maxHeartbeats 2000000 in
theorem mB_Store_writeEvents_21 {N : Nat} {p0 : Nat} {p1 : Nat} {p2 : Nat} : ∀ (n : Nat) (l3 : Int32) (H : Hp) (r : Unit × Hp), B_Store_writeEvents_21 N p0 p1 p2 n l3 H = some r → Sa H r.2 := by
  intro n
  induction n with
  | zero => intro l3 H r hF; rw [B_Store_writeEvents_21] at hF; cases hF
  | succ n ih =>
    intro l3 H r hF
    rw [B_Store_writeEvents_21] at hF
    have hm := Sa.rf H
    obtain ⟨q60, hG⟩ := ck_s hF; clear hF
    obtain ⟨x61, -, hF⟩ := bnd_g hG; clear hG
    rcases ite_s hF with ⟨q_8, hG⟩ | ⟨q_8, hG⟩
    · clear hF
      have hr := Option.some.inj hG; subst hr
      exact hm
    · clear hF
      obtain ⟨x63, -, hF⟩ := bnd_g hG; clear hG
      obtain ⟨a64, e65, hG⟩ := rf_s hF; clear hF
      obtain ⟨n66, q67, hF⟩ := ar_s hG; clear hG
      obtain ⟨q68, hG⟩ := ck_s hF; clear hF
      obtain ⟨x69, -, hF⟩ := bnd_g hG; clear hG
      obtain ⟨q70, hG⟩ := ck_s hF; clear hF
      obtain ⟨v72, H73, z71, hF⟩ := bC_s hG; clear hG
      replace hm : Sa H H73 := hm.tr (m_Store_writeByte z71)
      obtain ⟨a74, e75, hG⟩ := rf_s hF; clear hF
      obtain ⟨n76, q77, hF⟩ := ar_s hG; clear hG
      obtain ⟨q78, hG⟩ := ck_s hF; clear hF
      obtain ⟨x79, -, hF⟩ := bnd_g hG; clear hG
      obtain ⟨q80, hG⟩ := ck_s hF; clear hF
      obtain ⟨v82, H83, z81, hF⟩ := bC_s hG; clear hG
      replace hm : Sa H H83 := hm.tr (m_Shapes_sizeOf z81)
      obtain ⟨x84, -, hG⟩ := bnd_g hF; clear hF
      exact hm.tr (mB_Store_writeEvents_64 ih N l3 x63 x84 1 H83 r hG)
set_option maxRecDepth 20000 in
set_option maxHeartbeats 2000000 in
theorem kB_Store_writeEvents_21 {N : Nat} {p0 : Nat} {p1 : Nat} {p2 : Nat} : ∀ (n : Nat) (l3 : Int32) (H : Hp) (r : Unit × Hp), B_Store_writeEvents_21 N p0 p1 p2 n l3 H = some r → ab_V y_Store_writeEvents { frames := 2, cells := 0, slots := 0, locals := 43 } (po (.returned none) r.2) 0 0 0 0 21 [some (.ref p0), some (.ref p1), some (.ref p2), some (.int l3), none, none, none] [] (hpw H) := by
  intro n
  induction n with
  | zero => intro l3 H r hF; rw [B_Store_writeEvents_21] at hF; cases hF
  | succ n ih =>
    intro l3 H r hF
    rw [B_Store_writeEvents_21] at hF
    refine ab_iload_n d_Store_writeEvents_21 rfl rfl ?_
    refine ab_aload_n d_Store_writeEvents_22 rfl rfl rfl ?_
    obtain ⟨q11, hG⟩ := ck_s hF; clear hF
    refine hp_getI (f := 13) d_Store_writeEvents_23 q11 (by decide) rfl (by decide) (k2 5 rfl rfl) rfl ?_
    refine ab_topi (fun x12 ex12 => ?_)
    replace hG := bnd_s ex12 hG
    refine ab_icmp_ge (tgt := 97) d_Store_writeEvents_26 (by decide) (fun q13 => ?_) (fun q13 => ?_)
    · rw [if_pos q13] at hG
      exact ab_vret d_Store_writeEvents_97 rfl (Nat.le_refl _) (Nat.le_refl _) (by have hr := Option.some.inj hG; subst hr; exact ⟨rfl, rfl⟩)
    · rw [if_neg q13] at hG
      refine ab_iload_n d_Store_writeEvents_29 rfl rfl ?_
      refine ab_bipush (v := 7) d_Store_writeEvents_30 (by decide) ?_
      refine ab_imul d_Store_writeEvents_32 ?_
      refine ab_topi (fun x14 ex14 => ?_)
      replace hG := bnd_s ex14 hG
      refine ab_istore (lv' := [some (.ref p0), some (.ref p1), some (.ref p2), some (.int l3), some (.int x14), none, none]) d_Store_writeEvents_33 (by decide) rfl ?_
      refine ab_aload_n d_Store_writeEvents_35 rfl rfl rfl ?_
      refine ab_aload_n d_Store_writeEvents_36 rfl rfl rfl ?_
      obtain ⟨a15, e16, hF⟩ := rf_s hG; clear hG
      refine hp_getR (f := 12) d_Store_writeEvents_37 q11 (by decide) rfl (by decide) (k2 0 rfl rfl) rfl e16 ?_
      refine ab_iload d_Store_writeEvents_40 rfl ?_
      obtain ⟨n17, q18, hG⟩ := ar_s hF; clear hF
      obtain ⟨q19, hF⟩ := ck_s hG; clear hG
      refine hp_iald d_Store_writeEvents_42 tI q18 q19 ?_
      refine ab_topi (fun x20 ex20 => ?_)
      replace hF := bnd_s ex20 hF
      obtain ⟨q21, hG⟩ := ck_s hF; clear hF
      obtain ⟨v23, H24, z22, hF⟩ := bC_s hG; clear hG
      refine hp_callV_v (H1 := H24) (As := [.int x20]) (rest := []) d_Store_writeEvents_43 (k_Store_writeByte z22) (ab_mkC s_Store_writeByte (Nat.le_of_ble_eq_true rfl) (Nat.le_of_ble_eq_true rfl) (Nat.le_refl 0) (Nat.le_refl 0)) (k8 0 rfl rfl) i_Store_writeByte v_Store_writeByte q21 (by decide) rfl rfl (Nat.le_of_ble_eq_true rfl) ?_
      have s_3 : Sa H H24 := (m_Store_writeByte z22)
      refine ab_iconst (v := 2) d_Store_writeEvents_46 (by decide) ?_
      refine ab_aload_n d_Store_writeEvents_47 rfl rfl rfl ?_
      refine ab_aload_n d_Store_writeEvents_48 rfl rfl rfl ?_
      obtain ⟨a25, e26, hG⟩ := rf_s hF; clear hF
      refine hp_getR (f := 12) d_Store_writeEvents_49 (by rw [(s_3).1]; exact q11) (by decide) rfl (by decide) (k2 0 rfl rfl) rfl e26 ?_
      refine ab_iload d_Store_writeEvents_52 rfl ?_
      obtain ⟨n27, q28, hF⟩ := ar_s hG; clear hG
      rw [(s_3).1] at q28
      obtain ⟨q29, hG⟩ := ck_s hF; clear hF
      refine hp_iald d_Store_writeEvents_54 tI (by rw [(s_3).1]; exact q28) q29 ?_
      refine ab_topi (fun x30 ex30 => ?_)
      replace hG := bnd_s ex30 hG
      obtain ⟨q31, hF⟩ := ck_s hG; clear hG
      rw [(s_3).1] at q31
      obtain ⟨v33, H34, z32, hG⟩ := bC_s hF; clear hF
      refine hp_callV_a (v := .int v33) (H1 := H34) (As := [.int x30]) (rest := [.int 2]) d_Store_writeEvents_55 (k_Shapes_sizeOf z32) (ab_mkC s_Shapes_sizeOf (Nat.le_of_ble_eq_true rfl) (Nat.le_of_ble_eq_true rfl) (Nat.le_refl 0) (Nat.le_refl 0)) (k8 8 rfl rfl) i_Shapes_sizeOf v_Shapes_sizeOf (by rw [(s_3).1]; exact q31) (by decide) rfl rfl (Nat.le_of_ble_eq_true rfl) ?_
      have s_4 : Sa H H34 := (s_3).tr (m_Shapes_sizeOf z32)
      refine ab_iadd d_Store_writeEvents_58 ?_
      refine ab_topi (fun x35 ex35 => ?_)
      replace hG := bnd_s ex35 hG
      refine ab_istore (lv' := [some (.ref p0), some (.ref p1), some (.ref p2), some (.int l3), some (.int x14), some (.int x35), none]) d_Store_writeEvents_59 (by decide) rfl ?_
      refine ab_iconst (v := 1) d_Store_writeEvents_61 (by decide) ?_
      refine ab_istore (lv' := [some (.ref p0), some (.ref p1), some (.ref p2), some (.int l3), some (.int x14), some (.int x35), some (.int 1)]) d_Store_writeEvents_62 (by decide) rfl ?_
      exact kB_Store_writeEvents_64 (mB_Store_writeEvents_21 n) ih N l3 x14 x35 1 H34 r hG
def F_Store_writeEvents (N : Nat) (p0 : Nat) (p1 : Nat) (p2 : Nat) (H : Hp) : Option (Unit × Hp) :=
    ck (H.sh[p2]? = some (7, 0)) <|
    bnd ((H.D p2 13)) fun x2 =>
    ck (H.sh[p0]? = some (11, 0)) <|
    bC (F_Store_writeByte N p0 (x2 >>> ((8 : Int32) &&& 31)) H) fun v5 H6 =>
    bnd ((H6.D p2 13)) fun x7 =>
    bC (F_Store_writeByte N p0 x7 H6) fun v9 H10 =>
    B_Store_writeEvents_21 N p0 p1 p2 N 0 H10
set_option maxRecDepth 20000 in
set_option maxHeartbeats 2000000 in
theorem m_Store_writeEvents {N : Nat} {p0 : Nat} {p1 : Nat} {p2 : Nat} {H : Hp} {r : Unit × Hp} (hF : F_Store_writeEvents N p0 p1 p2 H = some r) : Sa H r.2 := by
  unfold F_Store_writeEvents at hF
  have hm := Sa.rf H
  obtain ⟨q85, hG⟩ := ck_s hF; clear hF
  obtain ⟨x86, -, hF⟩ := bnd_g hG; clear hG
  obtain ⟨q87, hG⟩ := ck_s hF; clear hF
  obtain ⟨v89, H90, z88, hF⟩ := bC_s hG; clear hG
  replace hm : Sa H H90 := hm.tr (m_Store_writeByte z88)
  obtain ⟨x91, -, hG⟩ := bnd_g hF; clear hF
  obtain ⟨v93, H94, z92, hF⟩ := bC_s hG; clear hG
  replace hm : Sa H H94 := hm.tr (m_Store_writeByte z92)
  exact hm.tr (mB_Store_writeEvents_21 N 0 H94 r hF)
set_option maxRecDepth 20000 in
set_option maxHeartbeats 2000000 in
theorem k_Store_writeEvents {N : Nat} {p0 : Nat} {p1 : Nat} {p2 : Nat} {H : Hp} {r : Unit × Hp} (hF : F_Store_writeEvents N p0 p1 p2 H = some r) : ab_M y_Store_writeEvents { frames := 2, cells := 0, slots := 0, locals := 43 } [.ref p0, .ref p1, .ref p2] (hpw H) (po (.returned none) r.2) := by
  unfold F_Store_writeEvents at hF
  refine ab_of2 (lv := [some (.ref p0), some (.ref p1), some (.ref p2), none, none, none, none]) 4 rfl rfl (Nat.le_of_ble_eq_true rfl) ?_
  refine ab_aload_n d_Store_writeEvents_0 rfl rfl rfl ?_
  refine ab_aload_n d_Store_writeEvents_1 rfl rfl rfl ?_
  obtain ⟨q1, hG⟩ := ck_s hF; clear hF
  refine hp_getI (f := 13) d_Store_writeEvents_2 q1 (by decide) rfl (by decide) (k2 5 rfl rfl) rfl ?_
  refine ab_topi (fun x2 ex2 => ?_)
  replace hG := bnd_s ex2 hG
  refine ab_bipush (v := 8) d_Store_writeEvents_5 (by decide) ?_
  refine ab_ishr d_Store_writeEvents_7 ?_
  obtain ⟨q3, hF⟩ := ck_s hG; clear hG
  obtain ⟨v5, H6, z4, hG⟩ := bC_s hF; clear hF
  refine hp_callV_v (H1 := H6) (As := [.int (x2 >>> ((8 : Int32) &&& 31))]) (rest := []) d_Store_writeEvents_8 (k_Store_writeByte z4) (ab_mkC s_Store_writeByte (Nat.le_of_ble_eq_true rfl) (Nat.le_of_ble_eq_true rfl) (Nat.le_refl 0) (Nat.le_refl 0)) (k8 0 rfl rfl) i_Store_writeByte v_Store_writeByte q3 (by decide) rfl rfl (Nat.le_of_ble_eq_true rfl) ?_
  have s_1 : Sa H H6 := (m_Store_writeByte z4)
  refine ab_aload_n d_Store_writeEvents_11 rfl rfl rfl ?_
  refine ab_aload_n d_Store_writeEvents_12 rfl rfl rfl ?_
  refine hp_getI (f := 13) d_Store_writeEvents_13 (by rw [(s_1).1]; exact q1) (by decide) rfl (by decide) (k2 5 rfl rfl) rfl ?_
  refine ab_topi (fun x7 ex7 => ?_)
  replace hG := bnd_s ex7 hG
  obtain ⟨v9, H10, z8, hF⟩ := bC_s hG; clear hG
  refine hp_callV_v (H1 := H10) (As := [.int x7]) (rest := []) d_Store_writeEvents_16 (k_Store_writeByte z8) (ab_mkC s_Store_writeByte (Nat.le_of_ble_eq_true rfl) (Nat.le_of_ble_eq_true rfl) (Nat.le_refl 0) (Nat.le_refl 0)) (k8 0 rfl rfl) i_Store_writeByte v_Store_writeByte (by rw [(s_1).1]; exact q3) (by decide) rfl rfl (Nat.le_of_ble_eq_true rfl) ?_
  have s_2 : Sa H H10 := (s_1).tr (m_Store_writeByte z8)
  refine ab_iconst (v := 0) d_Store_writeEvents_19 (by decide) ?_
  refine ab_istore_n (lv' := [some (.ref p0), some (.ref p1), some (.ref p2), some (.int 0), none, none, none]) d_Store_writeEvents_20 rfl (by decide) rfl ?_
  exact kB_Store_writeEvents_21 N 0 H10 r hF
def y_Store_write : ab_Y := (⟨"WorldEngine$Store", "write", "(LWorldEngine$Program;LWorldEngine$World;Z)I"⟩, prog_10_method_2_code, 5, (some FieldType.int), [])
theorem d_Store_write_0 : decode y_Store_write.2.1 0 = .ok (.aload_n 0, 1) := by decide +kernel
theorem d_Store_write_1 : decode y_Store_write.2.1 1 = .ok (.iload_n 3, 1) := by decide +kernel
theorem d_Store_write_2 : decode y_Store_write.2.1 2 = .ok (.putfield 16, 3) := by decide +kernel
theorem d_Store_write_5 : decode y_Store_write.2.1 5 = .ok (.aload_n 0, 1) := by decide +kernel
theorem d_Store_write_6 : decode y_Store_write.2.1 6 = .ok (.iconst 0, 1) := by decide +kernel
theorem d_Store_write_7 : decode y_Store_write.2.1 7 = .ok (.putfield 20, 3) := by decide +kernel
theorem d_Store_write_10 : decode y_Store_write.2.1 10 = .ok (.aload_n 0, 1) := by decide +kernel
theorem d_Store_write_11 : decode y_Store_write.2.1 11 = .ok (.iload_n 3, 1) := by decide +kernel
theorem d_Store_write_12 : decode y_Store_write.2.1 12 = .ok (.ifCond .eq 7, 3) := by decide +kernel
theorem d_Store_write_15 : decode y_Store_write.2.1 15 = .ok (.iconst 0, 1) := by decide +kernel
theorem d_Store_write_16 : decode y_Store_write.2.1 16 = .ok (.goto 7, 3) := by decide +kernel
theorem d_Store_write_19 : decode y_Store_write.2.1 19 = .ok (.aload_n 0, 1) := by decide +kernel
theorem d_Store_write_20 : decode y_Store_write.2.1 20 = .ok (.getfield 24, 3) := by decide +kernel
theorem d_Store_write_23 : decode y_Store_write.2.1 23 = .ok (.putfield 24, 3) := by decide +kernel
theorem d_Store_write_26 : decode y_Store_write.2.1 26 = .ok (.aload_n 0, 1) := by decide +kernel
theorem d_Store_write_27 : decode y_Store_write.2.1 27 = .ok (.bipush 87, 2) := by decide +kernel
theorem d_Store_write_29 : decode y_Store_write.2.1 29 = .ok (.invokevirtual 27, 3) := by decide +kernel
theorem d_Store_write_32 : decode y_Store_write.2.1 32 = .ok (.aload_n 0, 1) := by decide +kernel
theorem d_Store_write_33 : decode y_Store_write.2.1 33 = .ok (.bipush 69, 2) := by decide +kernel
theorem d_Store_write_35 : decode y_Store_write.2.1 35 = .ok (.invokevirtual 27, 3) := by decide +kernel
theorem d_Store_write_38 : decode y_Store_write.2.1 38 = .ok (.aload_n 0, 1) := by decide +kernel
theorem d_Store_write_39 : decode y_Store_write.2.1 39 = .ok (.aload_n 1, 1) := by decide +kernel
theorem d_Store_write_40 : decode y_Store_write.2.1 40 = .ok (.getfield 31, 3) := by decide +kernel
theorem d_Store_write_43 : decode y_Store_write.2.1 43 = .ok (.invokevirtual 37, 3) := by decide +kernel
theorem d_Store_write_46 : decode y_Store_write.2.1 46 = .ok (.aload_n 0, 1) := by decide +kernel
theorem d_Store_write_47 : decode y_Store_write.2.1 47 = .ok (.aload_n 1, 1) := by decide +kernel
theorem d_Store_write_48 : decode y_Store_write.2.1 48 = .ok (.getfield 41, 3) := by decide +kernel
theorem d_Store_write_51 : decode y_Store_write.2.1 51 = .ok (.invokevirtual 37, 3) := by decide +kernel
theorem d_Store_write_54 : decode y_Store_write.2.1 54 = .ok (.aload_n 0, 1) := by decide +kernel
theorem d_Store_write_55 : decode y_Store_write.2.1 55 = .ok (.aload_n 2, 1) := by decide +kernel
theorem d_Store_write_56 : decode y_Store_write.2.1 56 = .ok (.getfield 44, 3) := by decide +kernel
theorem d_Store_write_59 : decode y_Store_write.2.1 59 = .ok (.invokevirtual 49, 3) := by decide +kernel
theorem d_Store_write_62 : decode y_Store_write.2.1 62 = .ok (.aload_n 0, 1) := by decide +kernel
theorem d_Store_write_63 : decode y_Store_write.2.1 63 = .ok (.aload_n 2, 1) := by decide +kernel
theorem d_Store_write_64 : decode y_Store_write.2.1 64 = .ok (.getfield 52, 3) := by decide +kernel
theorem d_Store_write_67 : decode y_Store_write.2.1 67 = .ok (.invokevirtual 49, 3) := by decide +kernel
theorem d_Store_write_70 : decode y_Store_write.2.1 70 = .ok (.aload_n 0, 1) := by decide +kernel
theorem d_Store_write_71 : decode y_Store_write.2.1 71 = .ok (.aload_n 2, 1) := by decide +kernel
theorem d_Store_write_72 : decode y_Store_write.2.1 72 = .ok (.getfield 55, 3) := by decide +kernel
theorem d_Store_write_75 : decode y_Store_write.2.1 75 = .ok (.invokevirtual 49, 3) := by decide +kernel
theorem d_Store_write_78 : decode y_Store_write.2.1 78 = .ok (.aload_n 0, 1) := by decide +kernel
theorem d_Store_write_79 : decode y_Store_write.2.1 79 = .ok (.aload_n 2, 1) := by decide +kernel
theorem d_Store_write_80 : decode y_Store_write.2.1 80 = .ok (.getfield 58, 3) := by decide +kernel
theorem d_Store_write_83 : decode y_Store_write.2.1 83 = .ok (.invokevirtual 49, 3) := by decide +kernel
theorem d_Store_write_86 : decode y_Store_write.2.1 86 = .ok (.iconst 0, 1) := by decide +kernel
theorem d_Store_write_87 : decode y_Store_write.2.1 87 = .ok (.istore 4, 2) := by decide +kernel
theorem d_Store_write_89 : decode y_Store_write.2.1 89 = .ok (.iload 4, 2) := by decide +kernel
theorem d_Store_write_91 : decode y_Store_write.2.1 91 = .ok (.sipush 256, 3) := by decide +kernel
theorem d_Store_write_94 : decode y_Store_write.2.1 94 = .ok (.if_icmp .ge 60, 3) := by decide +kernel
theorem d_Store_write_97 : decode y_Store_write.2.1 97 = .ok (.aload_n 0, 1) := by decide +kernel
theorem d_Store_write_98 : decode y_Store_write.2.1 98 = .ok (.aload_n 2, 1) := by decide +kernel
theorem d_Store_write_99 : decode y_Store_write.2.1 99 = .ok (.getfield 61, 3) := by decide +kernel
theorem d_Store_write_102 : decode y_Store_write.2.1 102 = .ok (.iload 4, 2) := by decide +kernel
theorem d_Store_write_104 : decode y_Store_write.2.1 104 = .ok (.iaload, 1) := by decide +kernel
theorem d_Store_write_105 : decode y_Store_write.2.1 105 = .ok (.invokevirtual 49, 3) := by decide +kernel
theorem d_Store_write_108 : decode y_Store_write.2.1 108 = .ok (.aload_n 0, 1) := by decide +kernel
theorem d_Store_write_109 : decode y_Store_write.2.1 109 = .ok (.aload_n 2, 1) := by decide +kernel
theorem d_Store_write_110 : decode y_Store_write.2.1 110 = .ok (.getfield 65, 3) := by decide +kernel
theorem d_Store_write_113 : decode y_Store_write.2.1 113 = .ok (.iload 4, 2) := by decide +kernel
theorem d_Store_write_115 : decode y_Store_write.2.1 115 = .ok (.iaload, 1) := by decide +kernel
theorem d_Store_write_116 : decode y_Store_write.2.1 116 = .ok (.ifCond .lt 7, 3) := by decide +kernel
theorem d_Store_write_119 : decode y_Store_write.2.1 119 = .ok (.iconst 1, 1) := by decide +kernel
theorem d_Store_write_120 : decode y_Store_write.2.1 120 = .ok (.goto 4, 3) := by decide +kernel
theorem d_Store_write_123 : decode y_Store_write.2.1 123 = .ok (.iconst 0, 1) := by decide +kernel
theorem d_Store_write_124 : decode y_Store_write.2.1 124 = .ok (.invokevirtual 27, 3) := by decide +kernel
theorem d_Store_write_127 : decode y_Store_write.2.1 127 = .ok (.aload_n 2, 1) := by decide +kernel
theorem d_Store_write_128 : decode y_Store_write.2.1 128 = .ok (.getfield 65, 3) := by decide +kernel
theorem d_Store_write_131 : decode y_Store_write.2.1 131 = .ok (.iload 4, 2) := by decide +kernel
theorem d_Store_write_133 : decode y_Store_write.2.1 133 = .ok (.iaload, 1) := by decide +kernel
theorem d_Store_write_134 : decode y_Store_write.2.1 134 = .ok (.ifCond .lt 14, 3) := by decide +kernel
theorem d_Store_write_137 : decode y_Store_write.2.1 137 = .ok (.aload_n 0, 1) := by decide +kernel
theorem d_Store_write_138 : decode y_Store_write.2.1 138 = .ok (.aload_n 1, 1) := by decide +kernel
theorem d_Store_write_139 : decode y_Store_write.2.1 139 = .ok (.getfield 31, 3) := by decide +kernel
theorem d_Store_write_142 : decode y_Store_write.2.1 142 = .ok (.aload_n 2, 1) := by decide +kernel
theorem d_Store_write_143 : decode y_Store_write.2.1 143 = .ok (.iload 4, 2) := by decide +kernel
theorem d_Store_write_145 : decode y_Store_write.2.1 145 = .ok (.invokevirtual 68, 3) := by decide +kernel
theorem d_Store_write_148 : decode y_Store_write.2.1 148 = .ok (.iinc 4 1, 3) := by decide +kernel
theorem d_Store_write_151 : decode y_Store_write.2.1 151 = .ok (.goto (-62), 3) := by decide +kernel
theorem d_Store_write_154 : decode y_Store_write.2.1 154 = .ok (.aload_n 0, 1) := by decide +kernel
theorem d_Store_write_155 : decode y_Store_write.2.1 155 = .ok (.aload_n 1, 1) := by decide +kernel
theorem d_Store_write_156 : decode y_Store_write.2.1 156 = .ok (.getfield 41, 3) := by decide +kernel
theorem d_Store_write_159 : decode y_Store_write.2.1 159 = .ok (.aload_n 2, 1) := by decide +kernel
theorem d_Store_write_160 : decode y_Store_write.2.1 160 = .ok (.invokevirtual 72, 3) := by decide +kernel
theorem d_Store_write_163 : decode y_Store_write.2.1 163 = .ok (.aload_n 0, 1) := by decide +kernel
theorem d_Store_write_164 : decode y_Store_write.2.1 164 = .ok (.getfield 20, 3) := by decide +kernel
theorem d_Store_write_167 : decode y_Store_write.2.1 167 = .ok (.ireturn, 1) := by decide +kernel
theorem s_Store_write : ab_Stat y_Store_write 3 := ⟨(k7 239 rfl rfl), (k1 14 rfl rfl), ⟨by decide, by decide⟩, by decide +kernel⟩
theorem i_Store_write : Cond.instanceMethod y_Store_write.1 ∈ ab_T := (k7 237 rfl rfl)
theorem v_Store_write : Cond.selects "WorldEngine$Store" y_Store_write.1 y_Store_write.1 ∈ ab_T := (k7 238 rfl rfl)
def B_Store_write_148 (N : Nat) (p0 : Nat) (p1 : Nat) (p2 : Nat) (p3 : Int32) (kq89 : Int32 → Hp → Option (Int32 × Hp)) (l4 : Int32) (H : Hp) : Option (Int32 × Hp) :=
    kq89 (l4 + 1) H
set_option maxRecDepth 20000 in
set_option maxHeartbeats 2000000 in
theorem mB_Store_write_148 {N : Nat} {p0 : Nat} {p1 : Nat} {p2 : Nat} {p3 : Int32} {kq89 : Int32 → Hp → Option (Int32 × Hp)} (hm89 : ∀ (l4 : Int32) (H : Hp) (r : Int32 × Hp), kq89 l4 H = some r → Sa H r.2) {l4 : Int32} {H : Hp} {r : Int32 × Hp} (hF : B_Store_write_148 N p0 p1 p2 p3 kq89 l4 H = some r) : Sa H r.2 := by
  unfold B_Store_write_148 at hF
  have hm := Sa.rf H
  exact hm.tr (hm89 (l4 + 1) H r hF)
set_option maxRecDepth 20000 in
set_option maxHeartbeats 2000000 in
theorem kB_Store_write_148 {N : Nat} {p0 : Nat} {p1 : Nat} {p2 : Nat} {p3 : Int32} {kq89 : Int32 → Hp → Option (Int32 × Hp)} (hm89 : ∀ (l4 : Int32) (H : Hp) (r : Int32 × Hp), kq89 l4 H = some r → Sa H r.2) (hk89 : ∀ (l4 : Int32) (H : Hp) (r : Int32 × Hp), kq89 l4 H = some r → ab_V y_Store_write { frames := 3, cells := 0, slots := 0, locals := 69 } (po (.returned (some (.int r.1))) r.2) 0 0 0 0 89 [some (.ref p0), some (.ref p1), some (.ref p2), some (.int p3), some (.int l4)] [] (hpw H)) {l4 : Int32} {H : Hp} {r : Int32 × Hp} (hF : B_Store_write_148 N p0 p1 p2 p3 kq89 l4 H = some r) : ab_V y_Store_write { frames := 3, cells := 0, slots := 0, locals := 69 } (po (.returned (some (.int r.1))) r.2) 0 0 0 0 148 [some (.ref p0), some (.ref p1), some (.ref p2), some (.int p3), some (.int l4)] [] (hpw H) := by
  unfold B_Store_write_148 at hF
  refine ab_iinc (v := l4 + 1) (lv' := [some (.ref p0), some (.ref p1), some (.ref p2), some (.int p3), some (.int (l4 + 1))]) d_Store_write_148 rfl rfl (by decide) rfl ?_
  refine ab_goto (tgt := 89) d_Store_write_151 (by decide) ?_
  exact hk89 (l4 + 1) H r hF
def B_Store_write_124 (N : Nat) (p0 : Nat) (p1 : Nat) (p2 : Nat) (p3 : Int32) (kq89 : Int32 → Hp → Option (Int32 × Hp)) (l4 : Int32) (w0 : Nat) (w1 : Int32) (H : Hp) : Option (Int32 × Hp) :=
    ck (H.sh[w0]? = some (11, 0)) <|
    bC (F_Store_writeByte N w0 w1 H) fun v73 H74 =>
    ck (H74.sh[p2]? = some (7, 0)) <|
    rf (H74.P p2 8) fun a76 =>
    ar H74 100 a76 fun n78 =>
    ck (inb l4 n78) <|
    bnd ((H74.D a76 (l4).toNatClampNeg)) fun x81 =>
    if x81 < (0 : Int32) then
    B_Store_write_148 N p0 p1 p2 p3 kq89 l4 H74
    else
    ck (H74.sh[p1]? = some (4, 0)) <|
    rf (H74.P p1 2) fun a84 =>
    ck (H74.sh[p0]? = some (11, 0)) <|
    bC (F_Store_writeEntity N p0 a84 p2 l4 H74) fun v88 H89 =>
    B_Store_write_148 N p0 p1 p2 p3 kq89 l4 H89
set_option maxRecDepth 20000 in
set_option maxHeartbeats 2000000 in
theorem mB_Store_write_124 {N : Nat} {p0 : Nat} {p1 : Nat} {p2 : Nat} {p3 : Int32} {kq89 : Int32 → Hp → Option (Int32 × Hp)} (hm89 : ∀ (l4 : Int32) (H : Hp) (r : Int32 × Hp), kq89 l4 H = some r → Sa H r.2) {l4 : Int32} {w0 : Nat} {w1 : Int32} {H : Hp} {r : Int32 × Hp} (hF : B_Store_write_124 N p0 p1 p2 p3 kq89 l4 w0 w1 H = some r) : Sa H r.2 := by
  unfold B_Store_write_124 at hF
  have hm := Sa.rf H
  obtain ⟨q90, hG⟩ := ck_s hF; clear hF
  obtain ⟨v92, H93, z91, hF⟩ := bC_s hG; clear hG
  replace hm : Sa H H93 := hm.tr (m_Store_writeByte z91)
  obtain ⟨q94, hG⟩ := ck_s hF; clear hF
  obtain ⟨a95, e96, hF⟩ := rf_s hG; clear hG
  obtain ⟨n97, q98, hG⟩ := ar_s hF; clear hF
  obtain ⟨q99, hF⟩ := ck_s hG; clear hG
  obtain ⟨x100, -, hG⟩ := bnd_g hF; clear hF
  rcases ite_s hG with ⟨q_17, hF⟩ | ⟨q_17, hF⟩
  · clear hG
    exact hm.tr (mB_Store_write_148 hm89 hF)
  · clear hG
    obtain ⟨q102, hG⟩ := ck_s hF; clear hF
    obtain ⟨a103, e104, hF⟩ := rf_s hG; clear hG
    obtain ⟨q105, hG⟩ := ck_s hF; clear hF
    obtain ⟨v107, H108, z106, hF⟩ := bC_s hG; clear hG
    replace hm : Sa H H108 := hm.tr (m_Store_writeEntity z106)
    exact hm.tr (mB_Store_write_148 hm89 hF)
set_option maxRecDepth 20000 in
set_option maxHeartbeats 2000000 in
theorem kB_Store_write_124 {N : Nat} {p0 : Nat} {p1 : Nat} {p2 : Nat} {p3 : Int32} {kq89 : Int32 → Hp → Option (Int32 × Hp)} (hm89 : ∀ (l4 : Int32) (H : Hp) (r : Int32 × Hp), kq89 l4 H = some r → Sa H r.2) (hk89 : ∀ (l4 : Int32) (H : Hp) (r : Int32 × Hp), kq89 l4 H = some r → ab_V y_Store_write { frames := 3, cells := 0, slots := 0, locals := 69 } (po (.returned (some (.int r.1))) r.2) 0 0 0 0 89 [some (.ref p0), some (.ref p1), some (.ref p2), some (.int p3), some (.int l4)] [] (hpw H)) {l4 : Int32} {w0 : Nat} {w1 : Int32} {H : Hp} {r : Int32 × Hp} (hF : B_Store_write_124 N p0 p1 p2 p3 kq89 l4 w0 w1 H = some r) : ab_V y_Store_write { frames := 3, cells := 0, slots := 0, locals := 69 } (po (.returned (some (.int r.1))) r.2) 0 0 0 0 124 [some (.ref p0), some (.ref p1), some (.ref p2), some (.int p3), some (.int l4)] [.int w1, .ref w0] (hpw H) := by
  unfold B_Store_write_124 at hF
  obtain ⟨q71, hG⟩ := ck_s hF; clear hF
  obtain ⟨v73, H74, z72, hF⟩ := bC_s hG; clear hG
  refine hp_callV_v (H1 := H74) (As := [.int w1]) (rest := []) d_Store_write_124 (k_Store_writeByte z72) (ab_mkC s_Store_writeByte (Nat.le_of_ble_eq_true rfl) (Nat.le_of_ble_eq_true rfl) (Nat.le_refl 0) (Nat.le_refl 0)) (k8 0 rfl rfl) i_Store_writeByte v_Store_writeByte q71 (by decide) rfl rfl (Nat.le_of_ble_eq_true rfl) ?_
  have s_14 : Sa H H74 := (m_Store_writeByte z72)
  refine ab_aload_n d_Store_write_127 rfl rfl rfl ?_
  obtain ⟨q75, hG⟩ := ck_s hF; clear hF
  rw [(s_14).1] at q75
  obtain ⟨a76, e77, hF⟩ := rf_s hG; clear hG
  refine hp_getR (f := 8) d_Store_write_128 (by rw [(s_14).1]; exact q75) (by decide) rfl (by decide) (k1 230 rfl rfl) rfl e77 ?_
  refine ab_iload d_Store_write_131 rfl ?_
  obtain ⟨n78, q79, hG⟩ := ar_s hF; clear hF
  rw [(s_14).1] at q79
  obtain ⟨q80, hF⟩ := ck_s hG; clear hG
  refine hp_iald d_Store_write_133 tI (by rw [(s_14).1]; exact q79) q80 ?_
  refine ab_topi (fun x81 ex81 => ?_)
  replace hF := bnd_s ex81 hF
  refine ab_if_lt (tgt := 148) d_Store_write_134 (by decide) (fun q82 => ?_) (fun q82 => ?_)
  · rw [if_pos q82] at hF
    exact kB_Store_write_148 hm89 hk89 hF
  · rw [if_neg q82] at hF
    refine ab_aload_n d_Store_write_137 rfl rfl rfl ?_
    refine ab_aload_n d_Store_write_138 rfl rfl rfl ?_
    obtain ⟨q83, hG⟩ := ck_s hF; clear hF
    rw [(s_14).1] at q83
    obtain ⟨a84, e85, hF⟩ := rf_s hG; clear hG
    refine hp_getR (f := 2) d_Store_write_139 (by rw [(s_14).1]; exact q83) (by decide) rfl (by decide) (k3 56 rfl rfl) rfl e85 ?_
    refine ab_aload_n d_Store_write_142 rfl rfl rfl ?_
    refine ab_iload d_Store_write_143 rfl ?_
    obtain ⟨q86, hG⟩ := ck_s hF; clear hF
    rw [(s_14).1] at q86
    obtain ⟨v88, H89, z87, hF⟩ := bC_s hG; clear hG
    refine hp_callV_v (H1 := H89) (As := [.ref a84, .ref p2, .int l4]) (rest := []) d_Store_write_145 (k_Store_writeEntity z87) (ab_mkC s_Store_writeEntity (Nat.le_of_ble_eq_true rfl) (Nat.le_of_ble_eq_true rfl) (Nat.le_refl 0) (Nat.le_refl 0)) (k8 13 rfl rfl) i_Store_writeEntity v_Store_writeEntity (by rw [(s_14).1]; exact q86) (by decide) rfl rfl (Nat.le_of_ble_eq_true rfl) ?_
    have s_15 : Sa H H89 := (s_14).tr (m_Store_writeEntity z87)
    exact kB_Store_write_148 hm89 hk89 hF
def B_Store_write_89 (N : Nat) (p0 : Nat) (p1 : Nat) (p2 : Nat) (p3 : Int32) : Nat → Int32 → Hp → Option (Int32 × Hp)
  | 0, _, _ => none
  | n + 1, l4, H =>
    if (256 : Int32) ≤ l4 then
    ck (H.sh[p1]? = some (4, 0)) <|
    rf (H.P p1 3) fun a46 =>
    ck (H.sh[p0]? = some (11, 0)) <|
    bC (F_Store_writeEvents N p0 a46 p2 H) fun v50 H51 =>
    bnd ((H51.D p0 4)) fun x52 =>
    some (x52, H51)
    else
    ck (H.sh[p2]? = some (7, 0)) <|
    rf (H.P p2 7) fun a54 =>
    ar H 100 a54 fun n56 =>
    ck (inb l4 n56) <|
    bnd ((H.D a54 (l4).toNatClampNeg)) fun x59 =>
    ck (H.sh[p0]? = some (11, 0)) <|
    bC (F_Store_writeInt N p0 x59 H) fun v62 H63 =>
    rf (H63.P p2 8) fun a64 =>
    ar H63 100 a64 fun n66 =>
    ck (inb l4 n66) <|
    bnd ((H63.D a64 (l4).toNatClampNeg)) fun x69 =>
    if x69 < (0 : Int32) then
    B_Store_write_124 N p0 p1 p2 p3 (fun l4 H => B_Store_write_89 N p0 p1 p2 p3 n l4 H) l4 p0 0 H63
    else
    B_Store_write_124 N p0 p1 p2 p3 (fun l4 H => B_Store_write_89 N p0 p1 p2 p3 n l4 H) l4 p0 1 H63
termination_by structural n => n
set_option maxRecDepth 20000 in
set_option maxHeartbeats 2000000 in
theorem mB_Store_write_89 {N : Nat} {p0 : Nat} {p1 : Nat} {p2 : Nat} {p3 : Int32} : ∀ (n : Nat) (l4 : Int32) (H : Hp) (r : Int32 × Hp), B_Store_write_89 N p0 p1 p2 p3 n l4 H = some r → Sa H r.2 := by
  intro n
  induction n with
  | zero => intro l4 H r hF; rw [B_Store_write_89] at hF; cases hF
  | succ n ih =>
    intro l4 H r hF
    rw [B_Store_write_89] at hF
    have hm := Sa.rf H
    rcases ite_s hF with ⟨q_19, hG⟩ | ⟨q_19, hG⟩
    · clear hF
      obtain ⟨q110, hF⟩ := ck_s hG; clear hG
      obtain ⟨a111, e112, hG⟩ := rf_s hF; clear hF
      obtain ⟨q113, hF⟩ := ck_s hG; clear hG
      obtain ⟨v115, H116, z114, hG⟩ := bC_s hF; clear hF
      replace hm : Sa H H116 := hm.tr (m_Store_writeEvents z114)
      obtain ⟨x117, -, hF⟩ := bnd_g hG; clear hG
      have hr := Option.some.inj hF; subst hr
      exact hm
    · clear hF
      obtain ⟨q118, hF⟩ := ck_s hG; clear hG
      obtain ⟨a119, e120, hG⟩ := rf_s hF; clear hF
      obtain ⟨n121, q122, hF⟩ := ar_s hG; clear hG
      obtain ⟨q123, hG⟩ := ck_s hF; clear hF
      obtain ⟨x124, -, hF⟩ := bnd_g hG; clear hG
      obtain ⟨q125, hG⟩ := ck_s hF; clear hF
      obtain ⟨v127, H128, z126, hF⟩ := bC_s hG; clear hG
      replace hm : Sa H H128 := hm.tr (m_Store_writeInt z126)
      obtain ⟨a129, e130, hG⟩ := rf_s hF; clear hF
      obtain ⟨n131, q132, hF⟩ := ar_s hG; clear hG
      obtain ⟨q133, hG⟩ := ck_s hF; clear hF
      obtain ⟨x134, -, hF⟩ := bnd_g hG; clear hG
      rcases ite_s hF with ⟨q_22, hG⟩ | ⟨q_22, hG⟩
      · clear hF
        exact hm.tr (mB_Store_write_124 ih hG)
      · clear hF
        exact hm.tr (mB_Store_write_124 ih hG)
set_option maxRecDepth 20000 in
set_option maxHeartbeats 2000000 in
theorem kB_Store_write_89 {N : Nat} {p0 : Nat} {p1 : Nat} {p2 : Nat} {p3 : Int32} : ∀ (n : Nat) (l4 : Int32) (H : Hp) (r : Int32 × Hp), B_Store_write_89 N p0 p1 p2 p3 n l4 H = some r → ab_V y_Store_write { frames := 3, cells := 0, slots := 0, locals := 69 } (po (.returned (some (.int r.1))) r.2) 0 0 0 0 89 [some (.ref p0), some (.ref p1), some (.ref p2), some (.int p3), some (.int l4)] [] (hpw H) := by
  intro n
  induction n with
  | zero => intro l4 H r hF; rw [B_Store_write_89] at hF; cases hF
  | succ n ih =>
    intro l4 H r hF
    rw [B_Store_write_89] at hF
    refine ab_iload d_Store_write_89 rfl ?_
    refine ab_sipush (v := 256) d_Store_write_91 (by decide) ?_
    refine ab_icmp_ge (tgt := 154) d_Store_write_94 (by decide) (fun q44 => ?_) (fun q44 => ?_)
    · rw [if_pos q44] at hF
      refine ab_aload_n d_Store_write_154 rfl rfl rfl ?_
      refine ab_aload_n d_Store_write_155 rfl rfl rfl ?_
      obtain ⟨q45, hG⟩ := ck_s hF; clear hF
      obtain ⟨a46, e47, hF⟩ := rf_s hG; clear hG
      refine hp_getR (f := 3) d_Store_write_156 q45 (by decide) rfl (by decide) (k3 63 rfl rfl) rfl e47 ?_
      refine ab_aload_n d_Store_write_159 rfl rfl rfl ?_
      obtain ⟨q48, hG⟩ := ck_s hF; clear hF
      obtain ⟨v50, H51, z49, hF⟩ := bC_s hG; clear hG
      refine hp_callV_v (H1 := H51) (As := [.ref a46, .ref p2]) (rest := []) d_Store_write_160 (k_Store_writeEvents z49) (ab_mkC s_Store_writeEvents (Nat.le_of_ble_eq_true rfl) (Nat.le_of_ble_eq_true rfl) (Nat.le_refl 0) (Nat.le_refl 0)) (k8 19 rfl rfl) i_Store_writeEvents v_Store_writeEvents q48 (by decide) rfl rfl (Nat.le_of_ble_eq_true rfl) ?_
      have s_12 : Sa H H51 := (m_Store_writeEvents z49)
      refine ab_aload_n d_Store_write_163 rfl rfl rfl ?_
      refine hp_getI (f := 4) d_Store_write_164 (by rw [(s_12).1]; exact q48) (by decide) rfl (by decide) (k2 193 rfl rfl) rfl ?_
      refine ab_topi (fun x52 ex52 => ?_)
      replace hF := bnd_s ex52 hF
      exact ab_iret d_Store_write_167 rfl (Nat.le_refl _) (Nat.le_refl _) (by have hr := Option.some.inj hF; subst hr; exact ⟨rfl, rfl⟩)
    · rw [if_neg q44] at hF
      refine ab_aload_n d_Store_write_97 rfl rfl rfl ?_
      refine ab_aload_n d_Store_write_98 rfl rfl rfl ?_
      obtain ⟨q53, hG⟩ := ck_s hF; clear hF
      obtain ⟨a54, e55, hF⟩ := rf_s hG; clear hG
      refine hp_getR (f := 7) d_Store_write_99 q53 (by decide) rfl (by decide) (k1 228 rfl rfl) rfl e55 ?_
      refine ab_iload d_Store_write_102 rfl ?_
      obtain ⟨n56, q57, hG⟩ := ar_s hF; clear hF
      obtain ⟨q58, hF⟩ := ck_s hG; clear hG
      refine hp_iald d_Store_write_104 tI q57 q58 ?_
      refine ab_topi (fun x59 ex59 => ?_)
      replace hF := bnd_s ex59 hF
      obtain ⟨q60, hG⟩ := ck_s hF; clear hF
      obtain ⟨v62, H63, z61, hF⟩ := bC_s hG; clear hG
      refine hp_callV_v (H1 := H63) (As := [.int x59]) (rest := []) d_Store_write_105 (k_Store_writeInt z61) (ab_mkC s_Store_writeInt (Nat.le_of_ble_eq_true rfl) (Nat.le_of_ble_eq_true rfl) (Nat.le_refl 0) (Nat.le_refl 0)) (k8 9 rfl rfl) i_Store_writeInt v_Store_writeInt q60 (by decide) rfl rfl (Nat.le_of_ble_eq_true rfl) ?_
      have s_13 : Sa H H63 := (m_Store_writeInt z61)
      refine ab_aload_n d_Store_write_108 rfl rfl rfl ?_
      refine ab_aload_n d_Store_write_109 rfl rfl rfl ?_
      obtain ⟨a64, e65, hG⟩ := rf_s hF; clear hF
      refine hp_getR (f := 8) d_Store_write_110 (by rw [(s_13).1]; exact q53) (by decide) rfl (by decide) (k1 230 rfl rfl) rfl e65 ?_
      refine ab_iload d_Store_write_113 rfl ?_
      obtain ⟨n66, q67, hF⟩ := ar_s hG; clear hG
      rw [(s_13).1] at q67
      obtain ⟨q68, hG⟩ := ck_s hF; clear hF
      refine hp_iald d_Store_write_115 tI (by rw [(s_13).1]; exact q67) q68 ?_
      refine ab_topi (fun x69 ex69 => ?_)
      replace hG := bnd_s ex69 hG
      refine ab_if_lt (tgt := 123) d_Store_write_116 (by decide) (fun q70 => ?_) (fun q70 => ?_)
      · rw [if_pos q70] at hG
        refine ab_iconst (v := 0) d_Store_write_123 (by decide) ?_
        exact kB_Store_write_124 (mB_Store_write_89 n) ih hG
      · rw [if_neg q70] at hG
        refine ab_iconst (v := 1) d_Store_write_119 (by decide) ?_
        refine ab_goto (tgt := 124) d_Store_write_120 (by decide) ?_
        exact kB_Store_write_124 (mB_Store_write_89 n) ih hG
def B_Store_write_23 (N : Nat) (p0 : Nat) (p1 : Nat) (p2 : Nat) (p3 : Int32) (w0 : Nat) (w1 : Int32) (H : Hp) : Option (Int32 × Hp) :=
    ck (H.sh[w0]? = some (11, 0)) <|
    bnd (H.sD w0 1 w1) fun H8 =>
    ck (H8.sh[p0]? = some (11, 0)) <|
    bC (F_Store_writeByte N p0 (87 : Int32) H8) fun v11 H12 =>
    bC (F_Store_writeByte N p0 (69 : Int32) H12) fun v14 H15 =>
    ck (H15.sh[p1]? = some (4, 0)) <|
    rf (H15.P p1 2) fun a17 =>
    bC (F_Store_writeShapes N p0 a17 H15) fun v20 H21 =>
    rf (H21.P p1 3) fun a22 =>
    bC (F_Store_writeShapes N p0 a22 H21) fun v25 H26 =>
    ck (H26.sh[p2]? = some (7, 0)) <|
    bnd ((H26.D p2 0)) fun x28 =>
    bC (F_Store_writeInt N p0 x28 H26) fun v30 H31 =>
    bnd ((H31.D p2 1)) fun x32 =>
    bC (F_Store_writeInt N p0 x32 H31) fun v34 H35 =>
    bnd ((H35.D p2 2)) fun x36 =>
    bC (F_Store_writeInt N p0 x36 H35) fun v38 H39 =>
    bnd ((H39.D p2 3)) fun x40 =>
    bC (F_Store_writeInt N p0 x40 H39) fun v42 H43 =>
    B_Store_write_89 N p0 p1 p2 p3 N 0 H43
set_option maxRecDepth 20000 in
set_option maxHeartbeats 2000000 in
theorem mB_Store_write_23 {N : Nat} {p0 : Nat} {p1 : Nat} {p2 : Nat} {p3 : Int32} {w0 : Nat} {w1 : Int32} {H : Hp} {r : Int32 × Hp} (hF : B_Store_write_23 N p0 p1 p2 p3 w0 w1 H = some r) : Sa H r.2 := by
  unfold B_Store_write_23 at hF
  have hm := Sa.rf H
  obtain ⟨q136, hG⟩ := ck_s hF; clear hF
  obtain ⟨H137, eH137, hF⟩ := bnd_g hG; clear hG
  replace hm : Sa H H137 := by rw [eH137]; exact hm
  obtain ⟨q138, hG⟩ := ck_s hF; clear hF
  obtain ⟨v140, H141, z139, hF⟩ := bC_s hG; clear hG
  replace hm : Sa H H141 := hm.tr (m_Store_writeByte z139)
  obtain ⟨v143, H144, z142, hG⟩ := bC_s hF; clear hF
  replace hm : Sa H H144 := hm.tr (m_Store_writeByte z142)
  obtain ⟨q145, hF⟩ := ck_s hG; clear hG
  obtain ⟨a146, e147, hG⟩ := rf_s hF; clear hF
  obtain ⟨v149, H150, z148, hF⟩ := bC_s hG; clear hG
  replace hm : Sa H H150 := hm.tr (m_Store_writeShapes z148)
  obtain ⟨a151, e152, hG⟩ := rf_s hF; clear hF
  obtain ⟨v154, H155, z153, hF⟩ := bC_s hG; clear hG
  replace hm : Sa H H155 := hm.tr (m_Store_writeShapes z153)
  obtain ⟨q156, hG⟩ := ck_s hF; clear hF
  obtain ⟨x157, -, hF⟩ := bnd_g hG; clear hG
  obtain ⟨v159, H160, z158, hG⟩ := bC_s hF; clear hF
  replace hm : Sa H H160 := hm.tr (m_Store_writeInt z158)
  obtain ⟨x161, -, hF⟩ := bnd_g hG; clear hG
  obtain ⟨v163, H164, z162, hG⟩ := bC_s hF; clear hF
  replace hm : Sa H H164 := hm.tr (m_Store_writeInt z162)
  obtain ⟨x165, -, hF⟩ := bnd_g hG; clear hG
  obtain ⟨v167, H168, z166, hG⟩ := bC_s hF; clear hF
  replace hm : Sa H H168 := hm.tr (m_Store_writeInt z166)
  obtain ⟨x169, -, hF⟩ := bnd_g hG; clear hG
  obtain ⟨v171, H172, z170, hG⟩ := bC_s hF; clear hF
  replace hm : Sa H H172 := hm.tr (m_Store_writeInt z170)
  exact hm.tr (mB_Store_write_89 N 0 H172 r hG)
set_option maxRecDepth 20000 in
set_option maxHeartbeats 2000000 in
theorem kB_Store_write_23 {N : Nat} {p0 : Nat} {p1 : Nat} {p2 : Nat} {p3 : Int32} {w0 : Nat} {w1 : Int32} {H : Hp} {r : Int32 × Hp} (hF : B_Store_write_23 N p0 p1 p2 p3 w0 w1 H = some r) : ab_V y_Store_write { frames := 3, cells := 0, slots := 0, locals := 69 } (po (.returned (some (.int r.1))) r.2) 0 0 0 0 23 [some (.ref p0), some (.ref p1), some (.ref p2), some (.int p3), none] [.int w1, .ref w0] (hpw H) := by
  unfold B_Store_write_23 at hF
  obtain ⟨q7, hG⟩ := ck_s hF; clear hF
  refine hp_putI (v := w1) (f := 1) d_Store_write_23 q7 (by decide) rfl (by decide) (k2 188 rfl rfl) rfl rfl (fun _ => rfl) (fun _ => rfl) rfl ?_
  refine hp_gen (fun H8 eH8 => ?_)
  replace hG := bnd_s eH8 hG
  have s_3 : Sa H H8 := by rw [eH8]; exact Sa.rf _
  refine ab_aload_n d_Store_write_26 rfl rfl rfl ?_
  refine ab_bipush (v := 87) d_Store_write_27 (by decide) ?_
  obtain ⟨q9, hF⟩ := ck_s hG; clear hG
  rw [(s_3).1] at q9
  obtain ⟨v11, H12, z10, hG⟩ := bC_s hF; clear hF
  refine hp_callV_v (H1 := H12) (As := [.int 87]) (rest := []) d_Store_write_29 (k_Store_writeByte z10) (ab_mkC s_Store_writeByte (Nat.le_of_ble_eq_true rfl) (Nat.le_of_ble_eq_true rfl) (Nat.le_refl 0) (Nat.le_refl 0)) (k8 0 rfl rfl) i_Store_writeByte v_Store_writeByte (by rw [(s_3).1]; exact q9) (by decide) rfl rfl (Nat.le_of_ble_eq_true rfl) ?_
  have s_4 : Sa H H12 := (s_3).tr (m_Store_writeByte z10)
  refine ab_aload_n d_Store_write_32 rfl rfl rfl ?_
  refine ab_bipush (v := 69) d_Store_write_33 (by decide) ?_
  obtain ⟨v14, H15, z13, hF⟩ := bC_s hG; clear hG
  refine hp_callV_v (H1 := H15) (As := [.int 69]) (rest := []) d_Store_write_35 (k_Store_writeByte z13) (ab_mkC s_Store_writeByte (Nat.le_of_ble_eq_true rfl) (Nat.le_of_ble_eq_true rfl) (Nat.le_refl 0) (Nat.le_refl 0)) (k8 0 rfl rfl) i_Store_writeByte v_Store_writeByte (by rw [(s_4).1]; exact q9) (by decide) rfl rfl (Nat.le_of_ble_eq_true rfl) ?_
  have s_5 : Sa H H15 := (s_4).tr (m_Store_writeByte z13)
  refine ab_aload_n d_Store_write_38 rfl rfl rfl ?_
  refine ab_aload_n d_Store_write_39 rfl rfl rfl ?_
  obtain ⟨q16, hG⟩ := ck_s hF; clear hF
  rw [(s_5).1] at q16
  obtain ⟨a17, e18, hF⟩ := rf_s hG; clear hG
  refine hp_getR (f := 2) d_Store_write_40 (by rw [(s_5).1]; exact q16) (by decide) rfl (by decide) (k3 56 rfl rfl) rfl e18 ?_
  obtain ⟨v20, H21, z19, hG⟩ := bC_s hF; clear hF
  refine hp_callV_v (H1 := H21) (As := [.ref a17]) (rest := []) d_Store_write_43 (k_Store_writeShapes z19) (ab_mkC s_Store_writeShapes (Nat.le_of_ble_eq_true rfl) (Nat.le_of_ble_eq_true rfl) (Nat.le_refl 0) (Nat.le_refl 0)) (k8 4 rfl rfl) i_Store_writeShapes v_Store_writeShapes (by rw [(s_5).1]; exact q9) (by decide) rfl rfl (Nat.le_of_ble_eq_true rfl) ?_
  have s_6 : Sa H H21 := (s_5).tr (m_Store_writeShapes z19)
  refine ab_aload_n d_Store_write_46 rfl rfl rfl ?_
  refine ab_aload_n d_Store_write_47 rfl rfl rfl ?_
  obtain ⟨a22, e23, hF⟩ := rf_s hG; clear hG
  refine hp_getR (f := 3) d_Store_write_48 (by rw [(s_6).1]; exact q16) (by decide) rfl (by decide) (k3 63 rfl rfl) rfl e23 ?_
  obtain ⟨v25, H26, z24, hG⟩ := bC_s hF; clear hF
  refine hp_callV_v (H1 := H26) (As := [.ref a22]) (rest := []) d_Store_write_51 (k_Store_writeShapes z24) (ab_mkC s_Store_writeShapes (Nat.le_of_ble_eq_true rfl) (Nat.le_of_ble_eq_true rfl) (Nat.le_refl 0) (Nat.le_refl 0)) (k8 4 rfl rfl) i_Store_writeShapes v_Store_writeShapes (by rw [(s_6).1]; exact q9) (by decide) rfl rfl (Nat.le_of_ble_eq_true rfl) ?_
  have s_7 : Sa H H26 := (s_6).tr (m_Store_writeShapes z24)
  refine ab_aload_n d_Store_write_54 rfl rfl rfl ?_
  refine ab_aload_n d_Store_write_55 rfl rfl rfl ?_
  obtain ⟨q27, hF⟩ := ck_s hG; clear hG
  rw [(s_7).1] at q27
  refine hp_getI (f := 0) d_Store_write_56 (by rw [(s_7).1]; exact q27) (by decide) rfl (by decide) (k1 207 rfl rfl) rfl ?_
  refine ab_topi (fun x28 ex28 => ?_)
  replace hF := bnd_s ex28 hF
  obtain ⟨v30, H31, z29, hG⟩ := bC_s hF; clear hF
  refine hp_callV_v (H1 := H31) (As := [.int x28]) (rest := []) d_Store_write_59 (k_Store_writeInt z29) (ab_mkC s_Store_writeInt (Nat.le_of_ble_eq_true rfl) (Nat.le_of_ble_eq_true rfl) (Nat.le_refl 0) (Nat.le_refl 0)) (k8 9 rfl rfl) i_Store_writeInt v_Store_writeInt (by rw [(s_7).1]; exact q9) (by decide) rfl rfl (Nat.le_of_ble_eq_true rfl) ?_
  have s_8 : Sa H H31 := (s_7).tr (m_Store_writeInt z29)
  refine ab_aload_n d_Store_write_62 rfl rfl rfl ?_
  refine ab_aload_n d_Store_write_63 rfl rfl rfl ?_
  refine hp_getI (f := 1) d_Store_write_64 (by rw [(s_8).1]; exact q27) (by decide) rfl (by decide) (k1 211 rfl rfl) rfl ?_
  refine ab_topi (fun x32 ex32 => ?_)
  replace hG := bnd_s ex32 hG
  obtain ⟨v34, H35, z33, hF⟩ := bC_s hG; clear hG
  refine hp_callV_v (H1 := H35) (As := [.int x32]) (rest := []) d_Store_write_67 (k_Store_writeInt z33) (ab_mkC s_Store_writeInt (Nat.le_of_ble_eq_true rfl) (Nat.le_of_ble_eq_true rfl) (Nat.le_refl 0) (Nat.le_refl 0)) (k8 9 rfl rfl) i_Store_writeInt v_Store_writeInt (by rw [(s_8).1]; exact q9) (by decide) rfl rfl (Nat.le_of_ble_eq_true rfl) ?_
  have s_9 : Sa H H35 := (s_8).tr (m_Store_writeInt z33)
  refine ab_aload_n d_Store_write_70 rfl rfl rfl ?_
  refine ab_aload_n d_Store_write_71 rfl rfl rfl ?_
  refine hp_getI (f := 2) d_Store_write_72 (by rw [(s_9).1]; exact q27) (by decide) rfl (by decide) (k1 214 rfl rfl) rfl ?_
  refine ab_topi (fun x36 ex36 => ?_)
  replace hF := bnd_s ex36 hF
  obtain ⟨v38, H39, z37, hG⟩ := bC_s hF; clear hF
  refine hp_callV_v (H1 := H39) (As := [.int x36]) (rest := []) d_Store_write_75 (k_Store_writeInt z37) (ab_mkC s_Store_writeInt (Nat.le_of_ble_eq_true rfl) (Nat.le_of_ble_eq_true rfl) (Nat.le_refl 0) (Nat.le_refl 0)) (k8 9 rfl rfl) i_Store_writeInt v_Store_writeInt (by rw [(s_9).1]; exact q9) (by decide) rfl rfl (Nat.le_of_ble_eq_true rfl) ?_
  have s_10 : Sa H H39 := (s_9).tr (m_Store_writeInt z37)
  refine ab_aload_n d_Store_write_78 rfl rfl rfl ?_
  refine ab_aload_n d_Store_write_79 rfl rfl rfl ?_
  refine hp_getI (f := 3) d_Store_write_80 (by rw [(s_10).1]; exact q27) (by decide) rfl (by decide) (k1 217 rfl rfl) rfl ?_
  refine ab_topi (fun x40 ex40 => ?_)
  replace hG := bnd_s ex40 hG
  obtain ⟨v42, H43, z41, hF⟩ := bC_s hG; clear hG
  refine hp_callV_v (H1 := H43) (As := [.int x40]) (rest := []) d_Store_write_83 (k_Store_writeInt z41) (ab_mkC s_Store_writeInt (Nat.le_of_ble_eq_true rfl) (Nat.le_of_ble_eq_true rfl) (Nat.le_refl 0) (Nat.le_refl 0)) (k8 9 rfl rfl) i_Store_writeInt v_Store_writeInt (by rw [(s_10).1]; exact q9) (by decide) rfl rfl (Nat.le_of_ble_eq_true rfl) ?_
  have s_11 : Sa H H43 := (s_10).tr (m_Store_writeInt z41)
  refine ab_iconst (v := 0) d_Store_write_86 (by decide) ?_
  refine ab_istore (lv' := [some (.ref p0), some (.ref p1), some (.ref p2), some (.int p3), some (.int 0)]) d_Store_write_87 (by decide) rfl ?_
  exact kB_Store_write_89 N 0 H43 r hF
def F_Store_write (N : Nat) (p0 : Nat) (p1 : Nat) (p2 : Nat) (p3 : Int32) (H : Hp) : Option (Int32 × Hp) :=
    ck (H.sh[p0]? = some (11, 0)) <|
    ck (p3 = 0 ∨ p3 = 1) <|
    bnd (H.sD p0 3 p3) fun H3 =>
    bnd (H3.sD p0 4 (0 : Int32)) fun H4 =>
    if p3 = (0 : Int32) then
    bnd ((H4.D p0 1)) fun x6 =>
    B_Store_write_23 N p0 p1 p2 p3 p0 x6 H4
    else
    B_Store_write_23 N p0 p1 p2 p3 p0 0 H4
set_option maxRecDepth 20000 in
set_option maxHeartbeats 2000000 in
theorem m_Store_write {N : Nat} {p0 : Nat} {p1 : Nat} {p2 : Nat} {p3 : Int32} {H : Hp} {r : Int32 × Hp} (hF : F_Store_write N p0 p1 p2 p3 H = some r) : Sa H r.2 := by
  unfold F_Store_write at hF
  have hm := Sa.rf H
  obtain ⟨q173, hG⟩ := ck_s hF; clear hF
  obtain ⟨q174, hF⟩ := ck_s hG; clear hG
  obtain ⟨H175, eH175, hG⟩ := bnd_g hF; clear hF
  replace hm : Sa H H175 := by rw [eH175]; exact hm
  obtain ⟨H176, eH176, hF⟩ := bnd_g hG; clear hG
  replace hm : Sa H H176 := by rw [eH176]; exact hm
  rcases ite_s hF with ⟨q_34, hG⟩ | ⟨q_34, hG⟩
  · clear hF
    obtain ⟨x178, -, hF⟩ := bnd_g hG; clear hG
    exact hm.tr (mB_Store_write_23 hF)
  · clear hF
    exact hm.tr (mB_Store_write_23 hG)
set_option maxRecDepth 20000 in
set_option maxHeartbeats 2000000 in
theorem k_Store_write {N : Nat} {p0 : Nat} {p1 : Nat} {p2 : Nat} {p3 : Int32} {H : Hp} {r : Int32 × Hp} (hF : F_Store_write N p0 p1 p2 p3 H = some r) : ab_M y_Store_write { frames := 3, cells := 0, slots := 0, locals := 69 } [.ref p0, .ref p1, .ref p2, .int p3] (hpw H) (po (.returned (some (.int r.1))) r.2) := by
  unfold F_Store_write at hF
  refine ab_of2 (lv := [some (.ref p0), some (.ref p1), some (.ref p2), some (.int p3), none]) 1 rfl rfl (Nat.le_of_ble_eq_true rfl) ?_
  refine ab_aload_n d_Store_write_0 rfl rfl rfl ?_
  refine ab_iload_n d_Store_write_1 rfl rfl ?_
  obtain ⟨q1, hG⟩ := ck_s hF; clear hF
  obtain ⟨q2, hF⟩ := ck_s hG; clear hG
  refine hp_putI (v := p3) (f := 3) (ty := .boolean) d_Store_write_2 q1 (by decide) rfl (by decide) (k2 192 rfl rfl) rfl rfl (fun _ => zn q2) (fun _ => zf q2) rfl ?_
  refine hp_gen (fun H3 eH3 => ?_)
  replace hF := bnd_s eH3 hF
  have s_1 : Sa H H3 := by rw [eH3]; exact Sa.rf _
  refine ab_aload_n d_Store_write_5 rfl rfl rfl ?_
  refine ab_iconst (v := 0) d_Store_write_6 (by decide) ?_
  refine hp_putI (v := 0) (f := 4) d_Store_write_7 (by rw [(s_1).1]; exact q1) (by decide) rfl (by decide) (k2 193 rfl rfl) rfl rfl (fun _ => rfl) (fun _ => rfl) rfl ?_
  refine hp_gen (fun H4 eH4 => ?_)
  replace hF := bnd_s eH4 hF
  have s_2 : Sa H H4 := by rw [eH4]; exact s_1
  refine ab_aload_n d_Store_write_10 rfl rfl rfl ?_
  refine ab_iload_n d_Store_write_11 rfl rfl ?_
  refine ab_if_eq (tgt := 19) d_Store_write_12 (by decide) (fun q5 => ?_) (fun q5 => ?_)
  · rw [if_pos q5] at hF
    refine ab_aload_n d_Store_write_19 rfl rfl rfl ?_
    refine hp_getI (f := 1) d_Store_write_20 (by rw [(s_2).1]; exact q1) (by decide) rfl (by decide) (k2 188 rfl rfl) rfl ?_
    refine ab_topi (fun x6 ex6 => ?_)
    replace hF := bnd_s ex6 hF
    exact kB_Store_write_23 hF
  · rw [if_neg q5] at hF
    refine ab_iconst (v := 0) d_Store_write_15 (by decide) ?_
    refine ab_goto (tgt := 23) d_Store_write_16 (by decide) ?_
    exact kB_Store_write_23 hF
def y_W_sum : ab_Y := (⟨"WorldEngine", "sum", "()I"⟩, prog_1_method_24_code, 1, (some FieldType.int), [])
theorem d_W_sum_0 : decode y_W_sum.2.1 0 = .ok (.aload_n 0, 1) := by decide +kernel
theorem d_W_sum_1 : decode y_W_sum.2.1 1 = .ok (.getfield 35, 3) := by decide +kernel
theorem d_W_sum_4 : decode y_W_sum.2.1 4 = .ok (.aload_n 0, 1) := by decide +kernel
theorem d_W_sum_5 : decode y_W_sum.2.1 5 = .ok (.getfield 42, 3) := by decide +kernel
theorem d_W_sum_8 : decode y_W_sum.2.1 8 = .ok (.aload_n 0, 1) := by decide +kernel
theorem d_W_sum_9 : decode y_W_sum.2.1 9 = .ok (.getfield 28, 3) := by decide +kernel
theorem d_W_sum_12 : decode y_W_sum.2.1 12 = .ok (.getfield 121, 3) := by decide +kernel
theorem d_W_sum_15 : decode y_W_sum.2.1 15 = .ok (.iconst 0, 1) := by decide +kernel
theorem d_W_sum_16 : decode y_W_sum.2.1 16 = .ok (.invokevirtual 279, 3) := by decide +kernel
theorem d_W_sum_19 : decode y_W_sum.2.1 19 = .ok (.ireturn, 1) := by decide +kernel
theorem s_W_sum : ab_Stat y_W_sum 0 := ⟨(k7 235 rfl rfl), (k1 1 rfl rfl), ⟨by decide, by decide⟩, by decide +kernel⟩
theorem i_W_sum : Cond.instanceMethod y_W_sum.1 ∈ ab_T := (k7 233 rfl rfl)
theorem v_W_sum : Cond.selects "WorldEngine" y_W_sum.1 y_W_sum.1 ∈ ab_T := (k7 234 rfl rfl)
def F_W_sum (N : Nat) (p0 : Nat) (H : Hp) : Option (Int32 × Hp) :=
    ck (H.sh[p0]? = some (0, 0)) <|
    rf (H.P p0 3) fun a2 =>
    rf (H.P p0 4) fun a4 =>
    rf (H.P p0 2) fun a6 =>
    ck (H.sh[a6]? = some (10, 0)) <|
    rf (H.P a6 0) fun a9 =>
    ck (H.sh[a2]? = some (11, 0)) <|
    bC (F_Store_write N a2 a4 a9 (0 : Int32) H) fun v13 H14 =>
    some (v13, H14)
set_option maxRecDepth 20000 in
set_option maxHeartbeats 2000000 in
theorem m_W_sum {N : Nat} {p0 : Nat} {H : Hp} {r : Int32 × Hp} (hF : F_W_sum N p0 H = some r) : Sa H r.2 := by
  unfold F_W_sum at hF
  have hm := Sa.rf H
  obtain ⟨q15, hG⟩ := ck_s hF; clear hF
  obtain ⟨a16, e17, hF⟩ := rf_s hG; clear hG
  obtain ⟨a18, e19, hG⟩ := rf_s hF; clear hF
  obtain ⟨a20, e21, hF⟩ := rf_s hG; clear hG
  obtain ⟨q22, hG⟩ := ck_s hF; clear hF
  obtain ⟨a23, e24, hF⟩ := rf_s hG; clear hG
  obtain ⟨q25, hG⟩ := ck_s hF; clear hF
  obtain ⟨v27, H28, z26, hF⟩ := bC_s hG; clear hG
  replace hm : Sa H H28 := hm.tr (m_Store_write z26)
  have hr := Option.some.inj hF; subst hr
  exact hm
set_option maxRecDepth 20000 in
set_option maxHeartbeats 2000000 in
theorem k_W_sum {N : Nat} {p0 : Nat} {H : Hp} {r : Int32 × Hp} (hF : F_W_sum N p0 H = some r) : ab_M y_W_sum { frames := 4, cells := 0, slots := 0, locals := 93 } [.ref p0] (hpw H) (po (.returned (some (.int r.1))) r.2) := by
  unfold F_W_sum at hF
  refine ab_of2 (lv := [some (.ref p0)]) 0 rfl rfl (Nat.le_of_ble_eq_true rfl) ?_
  refine ab_aload_n d_W_sum_0 rfl rfl rfl ?_
  obtain ⟨q1, hG⟩ := ck_s hF; clear hF
  obtain ⟨a2, e3, hF⟩ := rf_s hG; clear hG
  refine hp_getR (f := 3) d_W_sum_1 q1 (by decide) rfl (by decide) (k3 160 rfl rfl) rfl e3 ?_
  refine ab_aload_n d_W_sum_4 rfl rfl rfl ?_
  obtain ⟨a4, e5, hG⟩ := rf_s hF; clear hF
  refine hp_getR (f := 4) d_W_sum_5 q1 (by decide) rfl (by decide) (k3 161 rfl rfl) rfl e5 ?_
  refine ab_aload_n d_W_sum_8 rfl rfl rfl ?_
  obtain ⟨a6, e7, hF⟩ := rf_s hG; clear hG
  refine hp_getR (f := 2) d_W_sum_9 q1 (by decide) rfl (by decide) (k3 159 rfl rfl) rfl e7 ?_
  obtain ⟨q8, hG⟩ := ck_s hF; clear hF
  obtain ⟨a9, e10, hF⟩ := rf_s hG; clear hG
  refine hp_getR (f := 0) d_W_sum_12 q8 (by decide) rfl (by decide) (k2 131 rfl rfl) rfl e10 ?_
  refine ab_iconst (v := 0) d_W_sum_15 (by decide) ?_
  obtain ⟨q11, hG⟩ := ck_s hF; clear hF
  obtain ⟨v13, H14, z12, hF⟩ := bC_s hG; clear hG
  refine hp_callV_a (v := .int v13) (H1 := H14) (As := [.ref a4, .ref a9, .int 0]) (rest := []) d_W_sum_16 (k_Store_write z12) (ab_mkC s_Store_write (Nat.le_of_ble_eq_true rfl) (Nat.le_of_ble_eq_true rfl) (Nat.le_refl 0) (Nat.le_refl 0)) (k7 236 rfl rfl) i_Store_write v_Store_write q11 (by decide) rfl rfl (Nat.le_of_ble_eq_true rfl) ?_
  have s_1 : Sa H H14 := (m_Store_write z12)
  exact ab_iret d_W_sum_19 rfl (Nat.le_refl _) (Nat.le_refl _) (by have hr := Option.some.inj hF; subst hr; exact ⟨rfl, rfl⟩)
def y_W_save : ab_Y := (⟨"WorldEngine", "save", "()I"⟩, prog_1_method_25_code, 1, (some FieldType.int), [])
theorem d_W_save_0 : decode y_W_save.2.1 0 = .ok (.aload_n 0, 1) := by decide +kernel
theorem d_W_save_1 : decode y_W_save.2.1 1 = .ok (.getfield 28, 3) := by decide +kernel
theorem d_W_save_4 : decode y_W_save.2.1 4 = .ok (.invokevirtual 110, 3) := by decide +kernel
theorem d_W_save_7 : decode y_W_save.2.1 7 = .ok (.ifCond .ne 6, 3) := by decide +kernel
theorem d_W_save_10 : decode y_W_save.2.1 10 = .ok (.bipush (-10), 2) := by decide +kernel
theorem d_W_save_12 : decode y_W_save.2.1 12 = .ok (.ireturn, 1) := by decide +kernel
theorem d_W_save_13 : decode y_W_save.2.1 13 = .ok (.aload_n 0, 1) := by decide +kernel
theorem d_W_save_14 : decode y_W_save.2.1 14 = .ok (.getfield 35, 3) := by decide +kernel
theorem d_W_save_17 : decode y_W_save.2.1 17 = .ok (.aload_n 0, 1) := by decide +kernel
theorem d_W_save_18 : decode y_W_save.2.1 18 = .ok (.getfield 42, 3) := by decide +kernel
theorem d_W_save_21 : decode y_W_save.2.1 21 = .ok (.aload_n 0, 1) := by decide +kernel
theorem d_W_save_22 : decode y_W_save.2.1 22 = .ok (.getfield 28, 3) := by decide +kernel
theorem d_W_save_25 : decode y_W_save.2.1 25 = .ok (.getfield 121, 3) := by decide +kernel
theorem d_W_save_28 : decode y_W_save.2.1 28 = .ok (.iconst 1, 1) := by decide +kernel
theorem d_W_save_29 : decode y_W_save.2.1 29 = .ok (.invokevirtual 279, 3) := by decide +kernel
theorem d_W_save_32 : decode y_W_save.2.1 32 = .ok (.pop, 1) := by decide +kernel
theorem d_W_save_33 : decode y_W_save.2.1 33 = .ok (.aload_n 0, 1) := by decide +kernel
theorem d_W_save_34 : decode y_W_save.2.1 34 = .ok (.getfield 35, 3) := by decide +kernel
theorem d_W_save_37 : decode y_W_save.2.1 37 = .ok (.getfield 264, 3) := by decide +kernel
theorem d_W_save_40 : decode y_W_save.2.1 40 = .ok (.ireturn, 1) := by decide +kernel
theorem s_W_save : ab_Stat y_W_save 0 := ⟨(k8 26 rfl rfl), (k1 1 rfl rfl), ⟨by decide, by decide⟩, by decide +kernel⟩
theorem i_W_save : Cond.instanceMethod y_W_save.1 ∈ ab_T := (k8 24 rfl rfl)
theorem v_W_save : Cond.selects "WorldEngine" y_W_save.1 y_W_save.1 ∈ ab_T := (k8 25 rfl rfl)
def F_W_save (N : Nat) (p0 : Nat) (H : Hp) : Option (Int32 × Hp) :=
    ck (H.sh[p0]? = some (0, 0)) <|
    rf (H.P p0 2) fun a2 =>
    ck (H.sh[a2]? = some (10, 0)) <|
    bC (F_Play_isQuiet N a2 H) fun v6 H7 =>
    if v6 = (0 : Int32) then
    some ((-10), H7)
    else
    rf (H7.P p0 3) fun a9 =>
    rf (H7.P p0 4) fun a11 =>
    rf (H7.P p0 2) fun a13 =>
    ck (H7.sh[a13]? = some (10, 0)) <|
    rf (H7.P a13 0) fun a16 =>
    ck (H7.sh[a9]? = some (11, 0)) <|
    bC (F_Store_write N a9 a11 a16 (1 : Int32) H7) fun v20 H21 =>
    rf (H21.P p0 3) fun a22 =>
    ck (H21.sh[a22]? = some (11, 0)) <|
    bnd ((H21.D a22 1)) fun x25 =>
    some (x25, H21)
set_option maxRecDepth 20000 in
set_option maxHeartbeats 2000000 in
theorem m_W_save {N : Nat} {p0 : Nat} {H : Hp} {r : Int32 × Hp} (hF : F_W_save N p0 H = some r) : Sa H r.2 := by
  unfold F_W_save at hF
  have hm := Sa.rf H
  obtain ⟨q26, hG⟩ := ck_s hF; clear hF
  obtain ⟨a27, e28, hF⟩ := rf_s hG; clear hG
  obtain ⟨q29, hG⟩ := ck_s hF; clear hF
  obtain ⟨v31, H32, z30, hF⟩ := bC_s hG; clear hG
  replace hm : Sa H H32 := hm.tr (m_Play_isQuiet z30)
  rcases ite_s hF with ⟨q_4, hG⟩ | ⟨q_4, hG⟩
  · clear hF
    have hr := Option.some.inj hG; subst hr
    exact hm
  · clear hF
    obtain ⟨a34, e35, hF⟩ := rf_s hG; clear hG
    obtain ⟨a36, e37, hG⟩ := rf_s hF; clear hF
    obtain ⟨a38, e39, hF⟩ := rf_s hG; clear hG
    obtain ⟨q40, hG⟩ := ck_s hF; clear hF
    obtain ⟨a41, e42, hF⟩ := rf_s hG; clear hG
    obtain ⟨q43, hG⟩ := ck_s hF; clear hF
    obtain ⟨v45, H46, z44, hF⟩ := bC_s hG; clear hG
    replace hm : Sa H H46 := hm.tr (m_Store_write z44)
    obtain ⟨a47, e48, hG⟩ := rf_s hF; clear hF
    obtain ⟨q49, hF⟩ := ck_s hG; clear hG
    obtain ⟨x50, -, hG⟩ := bnd_g hF; clear hF
    have hr := Option.some.inj hG; subst hr
    exact hm
set_option maxRecDepth 20000 in
set_option maxHeartbeats 2000000 in
theorem k_W_save {N : Nat} {p0 : Nat} {H : Hp} {r : Int32 × Hp} (hF : F_W_save N p0 H = some r) : ab_M y_W_save { frames := 4, cells := 0, slots := 0, locals := 93 } [.ref p0] (hpw H) (po (.returned (some (.int r.1))) r.2) := by
  unfold F_W_save at hF
  refine ab_of2 (lv := [some (.ref p0)]) 0 rfl rfl (Nat.le_of_ble_eq_true rfl) ?_
  refine ab_aload_n d_W_save_0 rfl rfl rfl ?_
  obtain ⟨q1, hG⟩ := ck_s hF; clear hF
  obtain ⟨a2, e3, hF⟩ := rf_s hG; clear hG
  refine hp_getR (f := 2) d_W_save_1 q1 (by decide) rfl (by decide) (k3 159 rfl rfl) rfl e3 ?_
  obtain ⟨q4, hG⟩ := ck_s hF; clear hF
  obtain ⟨v6, H7, z5, hF⟩ := bC_s hG; clear hG
  refine hp_callV_a (v := .int v6) (H1 := H7) (As := []) (rest := []) d_W_save_4 (k_Play_isQuiet z5) (ab_mkC s_Play_isQuiet (Nat.le_of_ble_eq_true rfl) (Nat.le_of_ble_eq_true rfl) (Nat.le_refl 0) (Nat.le_refl 0)) (k6 95 rfl rfl) i_Play_isQuiet v_Play_isQuiet q4 (by decide) rfl rfl (Nat.le_of_ble_eq_true rfl) ?_
  have s_1 : Sa H H7 := (m_Play_isQuiet z5)
  refine ab_if_ne (tgt := 13) d_W_save_7 (by decide) (fun q8 => ?_) (fun q8 => ?_)
  · rw [if_neg q8] at hF
    refine ab_aload_n d_W_save_13 rfl rfl rfl ?_
    obtain ⟨a9, e10, hG⟩ := rf_s hF; clear hF
    refine hp_getR (f := 3) d_W_save_14 (by rw [(s_1).1]; exact q1) (by decide) rfl (by decide) (k3 160 rfl rfl) rfl e10 ?_
    refine ab_aload_n d_W_save_17 rfl rfl rfl ?_
    obtain ⟨a11, e12, hF⟩ := rf_s hG; clear hG
    refine hp_getR (f := 4) d_W_save_18 (by rw [(s_1).1]; exact q1) (by decide) rfl (by decide) (k3 161 rfl rfl) rfl e12 ?_
    refine ab_aload_n d_W_save_21 rfl rfl rfl ?_
    obtain ⟨a13, e14, hG⟩ := rf_s hF; clear hF
    refine hp_getR (f := 2) d_W_save_22 (by rw [(s_1).1]; exact q1) (by decide) rfl (by decide) (k3 159 rfl rfl) rfl e14 ?_
    obtain ⟨q15, hF⟩ := ck_s hG; clear hG
    rw [(s_1).1] at q15
    obtain ⟨a16, e17, hG⟩ := rf_s hF; clear hF
    refine hp_getR (f := 0) d_W_save_25 (by rw [(s_1).1]; exact q15) (by decide) rfl (by decide) (k2 131 rfl rfl) rfl e17 ?_
    refine ab_iconst (v := 1) d_W_save_28 (by decide) ?_
    obtain ⟨q18, hF⟩ := ck_s hG; clear hG
    rw [(s_1).1] at q18
    obtain ⟨v20, H21, z19, hG⟩ := bC_s hF; clear hF
    refine hp_callV_a (v := .int v20) (H1 := H21) (As := [.ref a11, .ref a16, .int 1]) (rest := []) d_W_save_29 (k_Store_write z19) (ab_mkC s_Store_write (Nat.le_of_ble_eq_true rfl) (Nat.le_of_ble_eq_true rfl) (Nat.le_refl 0) (Nat.le_refl 0)) (k7 236 rfl rfl) i_Store_write v_Store_write (by rw [(s_1).1]; exact q18) (by decide) rfl rfl (Nat.le_of_ble_eq_true rfl) ?_
    have s_2 : Sa H H21 := (s_1).tr (m_Store_write z19)
    refine ab_pop d_W_save_32 rfl ?_
    refine ab_aload_n d_W_save_33 rfl rfl rfl ?_
    obtain ⟨a22, e23, hF⟩ := rf_s hG; clear hG
    refine hp_getR (f := 3) d_W_save_34 (by rw [(s_2).1]; exact q1) (by decide) rfl (by decide) (k3 160 rfl rfl) rfl e23 ?_
    obtain ⟨q24, hG⟩ := ck_s hF; clear hF
    rw [(s_2).1] at q24
    refine hp_getI (f := 1) d_W_save_37 (by rw [(s_2).1]; exact q24) (by decide) rfl (by decide) (k2 189 rfl rfl) rfl ?_
    refine ab_topi (fun x25 ex25 => ?_)
    replace hG := bnd_s ex25 hG
    exact ab_iret d_W_save_40 rfl (Nat.le_refl _) (Nat.le_refl _) (by have hr := Option.some.inj hG; subst hr; exact ⟨rfl, rfl⟩)
  · rw [if_pos q8] at hF
    refine ab_bipush (v := (-10)) d_W_save_10 (by decide) ?_
    exact ab_iret d_W_save_12 rfl (Nat.le_refl _) (Nat.le_refl _) (by have hr := Option.some.inj hF; subst hr; exact ⟨rfl, rfl⟩)
def y_W_bend : ab_Y := (⟨"WorldEngine", "bend", "(II)Z"⟩, prog_1_method_26_code, 3, (some FieldType.boolean), [])
theorem d_W_bend_0 : decode y_W_bend.2.1 0 = .ok (.iload_n 1, 1) := by decide +kernel
theorem d_W_bend_1 : decode y_W_bend.2.1 1 = .ok (.ifCond .lt 14, 3) := by decide +kernel
theorem d_W_bend_4 : decode y_W_bend.2.1 4 = .ok (.iload_n 1, 1) := by decide +kernel
theorem d_W_bend_5 : decode y_W_bend.2.1 5 = .ok (.aload_n 0, 1) := by decide +kernel
theorem d_W_bend_6 : decode y_W_bend.2.1 6 = .ok (.getfield 35, 3) := by decide +kernel
theorem d_W_bend_9 : decode y_W_bend.2.1 9 = .ok (.getfield 264, 3) := by decide +kernel
theorem d_W_bend_12 : decode y_W_bend.2.1 12 = .ok (.if_icmp .lt 5, 3) := by decide +kernel
theorem d_W_bend_15 : decode y_W_bend.2.1 15 = .ok (.iconst 0, 1) := by decide +kernel
theorem d_W_bend_16 : decode y_W_bend.2.1 16 = .ok (.ireturn, 1) := by decide +kernel
theorem d_W_bend_17 : decode y_W_bend.2.1 17 = .ok (.aload_n 0, 1) := by decide +kernel
theorem d_W_bend_18 : decode y_W_bend.2.1 18 = .ok (.getfield 35, 3) := by decide +kernel
theorem d_W_bend_21 : decode y_W_bend.2.1 21 = .ok (.getfield 282, 3) := by decide +kernel
theorem d_W_bend_24 : decode y_W_bend.2.1 24 = .ok (.iload_n 1, 1) := by decide +kernel
theorem d_W_bend_25 : decode y_W_bend.2.1 25 = .ok (.dup2, 1) := by decide +kernel
theorem d_W_bend_26 : decode y_W_bend.2.1 26 = .ok (.baload, 1) := by decide +kernel
theorem d_W_bend_27 : decode y_W_bend.2.1 27 = .ok (.iload_n 2, 1) := by decide +kernel
theorem d_W_bend_28 : decode y_W_bend.2.1 28 = .ok (.i2b, 1) := by decide +kernel
theorem d_W_bend_29 : decode y_W_bend.2.1 29 = .ok (.ixor, 1) := by decide +kernel
theorem d_W_bend_30 : decode y_W_bend.2.1 30 = .ok (.i2b, 1) := by decide +kernel
theorem d_W_bend_31 : decode y_W_bend.2.1 31 = .ok (.bastore, 1) := by decide +kernel
theorem d_W_bend_32 : decode y_W_bend.2.1 32 = .ok (.iconst 1, 1) := by decide +kernel
theorem d_W_bend_33 : decode y_W_bend.2.1 33 = .ok (.ireturn, 1) := by decide +kernel
theorem s_W_bend : ab_Stat y_W_bend 2 := ⟨(k8 30 rfl rfl), (k1 1 rfl rfl), ⟨by decide, by decide⟩, by decide +kernel⟩
theorem i_W_bend : Cond.instanceMethod y_W_bend.1 ∈ ab_T := (k8 28 rfl rfl)
theorem v_W_bend : Cond.selects "WorldEngine" y_W_bend.1 y_W_bend.1 ∈ ab_T := (k8 29 rfl rfl)
def F_W_bend (N : Nat) (p0 : Nat) (p1 : Int32) (p2 : Int32) (H : Hp) : Option (Int32 × Hp) :=
    if p1 < (0 : Int32) then
    some (0, H)
    else
    ck (H.sh[p0]? = some (0, 0)) <|
    rf (H.P p0 3) fun a3 =>
    ck (H.sh[a3]? = some (11, 0)) <|
    bnd ((H.D a3 1)) fun x6 =>
    if p1 < x6 then
    rf (H.P p0 3) fun a8 =>
    ck (H.sh[a8]? = some (11, 0)) <|
    rf (H.P a8 0) fun a11 =>
    ar H 101 a11 fun n13 =>
    ck (inb p1 n13) <|
    bnd ((H.D a11 (p1).toNatClampNeg)) fun x16 =>
    ck (inb p1 n13) <|
    bnd (H.sD a11 (p1).toNatClampNeg (vp_nar .byte (((x16 ^^^ ((p2 : Int32).toInt8.toInt32)) : Int32).toInt8.toInt32))) fun H18 =>
    some (1, H18)
    else
    some (0, H)
set_option maxRecDepth 20000 in
set_option maxHeartbeats 2000000 in
theorem m_W_bend {N : Nat} {p0 : Nat} {p1 : Int32} {p2 : Int32} {H : Hp} {r : Int32 × Hp} (hF : F_W_bend N p0 p1 p2 H = some r) : Sa H r.2 := by
  unfold F_W_bend at hF
  have hm := Sa.rf H
  rcases ite_s hF with ⟨q_2, hG⟩ | ⟨q_2, hG⟩
  · clear hF
    have hr := Option.some.inj hG; subst hr
    exact hm
  · clear hF
    obtain ⟨q20, hF⟩ := ck_s hG; clear hG
    obtain ⟨a21, e22, hG⟩ := rf_s hF; clear hF
    obtain ⟨q23, hF⟩ := ck_s hG; clear hG
    obtain ⟨x24, -, hG⟩ := bnd_g hF; clear hF
    rcases ite_s hG with ⟨q_3, hF⟩ | ⟨q_3, hF⟩
    · clear hG
      obtain ⟨a26, e27, hG⟩ := rf_s hF; clear hF
      obtain ⟨q28, hF⟩ := ck_s hG; clear hG
      obtain ⟨a29, e30, hG⟩ := rf_s hF; clear hF
      obtain ⟨n31, q32, hF⟩ := ar_s hG; clear hG
      obtain ⟨q33, hG⟩ := ck_s hF; clear hF
      obtain ⟨x34, -, hF⟩ := bnd_g hG; clear hG
      obtain ⟨q35, hG⟩ := ck_s hF; clear hF
      obtain ⟨H36, eH36, hF⟩ := bnd_g hG; clear hG
      replace hm : Sa H H36 := by rw [eH36]; exact hm
      have hr := Option.some.inj hF; subst hr
      exact hm
    · clear hG
      have hr := Option.some.inj hF; subst hr
      exact hm
set_option maxRecDepth 20000 in
set_option maxHeartbeats 2000000 in
theorem k_W_bend {N : Nat} {p0 : Nat} {p1 : Int32} {p2 : Int32} {H : Hp} {r : Int32 × Hp} (hF : F_W_bend N p0 p1 p2 H = some r) : ab_M y_W_bend { frames := 0, cells := 0, slots := 0, locals := 0 } [.ref p0, .int p1, .int p2] (hpw H) (po (.returned (some (.int r.1))) r.2) := by
  unfold F_W_bend at hF
  refine ab_of2 (lv := [some (.ref p0), some (.int p1), some (.int p2)]) 0 rfl rfl (Nat.le_of_ble_eq_true rfl) ?_
  refine ab_iload_n d_W_bend_0 rfl rfl ?_
  refine ab_if_lt (tgt := 15) d_W_bend_1 (by decide) (fun q1 => ?_) (fun q1 => ?_)
  · rw [if_pos q1] at hF
    refine ab_iconst (v := 0) d_W_bend_15 (by decide) ?_
    exact ab_zret d_W_bend_16 rfl rfl (Nat.le_refl _) (Nat.le_refl _) (by have hr := Option.some.inj hF; subst hr; exact ⟨rfl, rfl⟩)
  · rw [if_neg q1] at hF
    refine ab_iload_n d_W_bend_4 rfl rfl ?_
    refine ab_aload_n d_W_bend_5 rfl rfl rfl ?_
    obtain ⟨q2, hG⟩ := ck_s hF; clear hF
    obtain ⟨a3, e4, hF⟩ := rf_s hG; clear hG
    refine hp_getR (f := 3) d_W_bend_6 q2 (by decide) rfl (by decide) (k3 160 rfl rfl) rfl e4 ?_
    obtain ⟨q5, hG⟩ := ck_s hF; clear hF
    refine hp_getI (f := 1) d_W_bend_9 q5 (by decide) rfl (by decide) (k2 189 rfl rfl) rfl ?_
    refine ab_topi (fun x6 ex6 => ?_)
    replace hG := bnd_s ex6 hG
    refine ab_icmp_lt (tgt := 17) d_W_bend_12 (by decide) (fun q7 => ?_) (fun q7 => ?_)
    · rw [if_pos q7] at hG
      refine ab_aload_n d_W_bend_17 rfl rfl rfl ?_
      obtain ⟨a8, e9, hF⟩ := rf_s hG; clear hG
      refine hp_getR (f := 3) d_W_bend_18 q2 (by decide) rfl (by decide) (k3 160 rfl rfl) rfl e9 ?_
      obtain ⟨q10, hG⟩ := ck_s hF; clear hF
      obtain ⟨a11, e12, hF⟩ := rf_s hG; clear hG
      refine hp_getR (f := 0) d_W_bend_21 q10 (by decide) rfl (by decide) (k2 187 rfl rfl) rfl e12 ?_
      refine ab_iload_n d_W_bend_24 rfl rfl ?_
      refine ab_dup2_11 d_W_bend_25 rfl rfl ?_
      obtain ⟨n13, q14, hG⟩ := ar_s hF; clear hF
      obtain ⟨q15, hF⟩ := ck_s hG; clear hG
      refine hp_bald d_W_bend_26 tB q14 q15 ?_
      refine ab_topi (fun x16 ex16 => ?_)
      replace hF := bnd_s ex16 hF
      refine ab_iload_n d_W_bend_27 rfl rfl ?_
      refine ab_i2b d_W_bend_28 ?_
      refine ab_ixor d_W_bend_29 ?_
      refine ab_i2b d_W_bend_30 ?_
      obtain ⟨q17, hG⟩ := ck_s hF; clear hF
      refine hp_bast d_W_bend_31 tB q14 q17 ?_
      refine hp_gen (fun H18 eH18 => ?_)
      replace hG := bnd_s eH18 hG
      have s_1 : Sa H H18 := by rw [eH18]; exact Sa.rf _
      refine ab_iconst (v := 1) d_W_bend_32 (by decide) ?_
      exact ab_zret d_W_bend_33 rfl rfl (Nat.le_refl _) (Nat.le_refl _) (by have hr := Option.some.inj hG; subst hr; exact ⟨rfl, rfl⟩)
    · rw [if_neg q7] at hG
      refine ab_iconst (v := 0) d_W_bend_15 (by decide) ?_
      exact ab_zret d_W_bend_16 rfl rfl (Nat.le_refl _) (Nat.le_refl _) (by have hr := Option.some.inj hG; subst hr; exact ⟨rfl, rfl⟩)
def y_W_cut : ab_Y := (⟨"WorldEngine", "cut", "(I)Z"⟩, prog_1_method_27_code, 2, (some FieldType.boolean), [])
theorem d_W_cut_0 : decode y_W_cut.2.1 0 = .ok (.iload_n 1, 1) := by decide +kernel
theorem d_W_cut_1 : decode y_W_cut.2.1 1 = .ok (.ifCond .lt 14, 3) := by decide +kernel
theorem d_W_cut_4 : decode y_W_cut.2.1 4 = .ok (.iload_n 1, 1) := by decide +kernel
theorem d_W_cut_5 : decode y_W_cut.2.1 5 = .ok (.aload_n 0, 1) := by decide +kernel
theorem d_W_cut_6 : decode y_W_cut.2.1 6 = .ok (.getfield 35, 3) := by decide +kernel
theorem d_W_cut_9 : decode y_W_cut.2.1 9 = .ok (.getfield 264, 3) := by decide +kernel
theorem d_W_cut_12 : decode y_W_cut.2.1 12 = .ok (.if_icmp .le 5, 3) := by decide +kernel
theorem d_W_cut_15 : decode y_W_cut.2.1 15 = .ok (.iconst 0, 1) := by decide +kernel
theorem d_W_cut_16 : decode y_W_cut.2.1 16 = .ok (.ireturn, 1) := by decide +kernel
theorem d_W_cut_17 : decode y_W_cut.2.1 17 = .ok (.aload_n 0, 1) := by decide +kernel
theorem d_W_cut_18 : decode y_W_cut.2.1 18 = .ok (.getfield 35, 3) := by decide +kernel
theorem d_W_cut_21 : decode y_W_cut.2.1 21 = .ok (.iload_n 1, 1) := by decide +kernel
theorem d_W_cut_22 : decode y_W_cut.2.1 22 = .ok (.putfield 264, 3) := by decide +kernel
theorem d_W_cut_25 : decode y_W_cut.2.1 25 = .ok (.iconst 1, 1) := by decide +kernel
theorem d_W_cut_26 : decode y_W_cut.2.1 26 = .ok (.ireturn, 1) := by decide +kernel
theorem s_W_cut : ab_Stat y_W_cut 1 := ⟨(k8 34 rfl rfl), (k1 1 rfl rfl), ⟨by decide, by decide⟩, by decide +kernel⟩
theorem i_W_cut : Cond.instanceMethod y_W_cut.1 ∈ ab_T := (k8 32 rfl rfl)
theorem v_W_cut : Cond.selects "WorldEngine" y_W_cut.1 y_W_cut.1 ∈ ab_T := (k8 33 rfl rfl)
def F_W_cut (N : Nat) (p0 : Nat) (p1 : Int32) (H : Hp) : Option (Int32 × Hp) :=
    if p1 < (0 : Int32) then
    some (0, H)
    else
    ck (H.sh[p0]? = some (0, 0)) <|
    rf (H.P p0 3) fun a3 =>
    ck (H.sh[a3]? = some (11, 0)) <|
    bnd ((H.D a3 1)) fun x6 =>
    if p1 ≤ x6 then
    rf (H.P p0 3) fun a8 =>
    ck (H.sh[a8]? = some (11, 0)) <|
    bnd (H.sD a8 1 p1) fun H11 =>
    some (1, H11)
    else
    some (0, H)
set_option maxRecDepth 20000 in
set_option maxHeartbeats 2000000 in
theorem m_W_cut {N : Nat} {p0 : Nat} {p1 : Int32} {H : Hp} {r : Int32 × Hp} (hF : F_W_cut N p0 p1 H = some r) : Sa H r.2 := by
  unfold F_W_cut at hF
  have hm := Sa.rf H
  rcases ite_s hF with ⟨q_2, hG⟩ | ⟨q_2, hG⟩
  · clear hF
    have hr := Option.some.inj hG; subst hr
    exact hm
  · clear hF
    obtain ⟨q13, hF⟩ := ck_s hG; clear hG
    obtain ⟨a14, e15, hG⟩ := rf_s hF; clear hF
    obtain ⟨q16, hF⟩ := ck_s hG; clear hG
    obtain ⟨x17, -, hG⟩ := bnd_g hF; clear hF
    rcases ite_s hG with ⟨q_3, hF⟩ | ⟨q_3, hF⟩
    · clear hG
      obtain ⟨a19, e20, hG⟩ := rf_s hF; clear hF
      obtain ⟨q21, hF⟩ := ck_s hG; clear hG
      obtain ⟨H22, eH22, hG⟩ := bnd_g hF; clear hF
      replace hm : Sa H H22 := by rw [eH22]; exact hm
      have hr := Option.some.inj hG; subst hr
      exact hm
    · clear hG
      have hr := Option.some.inj hF; subst hr
      exact hm
set_option maxRecDepth 20000 in
set_option maxHeartbeats 2000000 in
theorem k_W_cut {N : Nat} {p0 : Nat} {p1 : Int32} {H : Hp} {r : Int32 × Hp} (hF : F_W_cut N p0 p1 H = some r) : ab_M y_W_cut { frames := 0, cells := 0, slots := 0, locals := 0 } [.ref p0, .int p1] (hpw H) (po (.returned (some (.int r.1))) r.2) := by
  unfold F_W_cut at hF
  refine ab_of2 (lv := [some (.ref p0), some (.int p1)]) 0 rfl rfl (Nat.le_of_ble_eq_true rfl) ?_
  refine ab_iload_n d_W_cut_0 rfl rfl ?_
  refine ab_if_lt (tgt := 15) d_W_cut_1 (by decide) (fun q1 => ?_) (fun q1 => ?_)
  · rw [if_pos q1] at hF
    refine ab_iconst (v := 0) d_W_cut_15 (by decide) ?_
    exact ab_zret d_W_cut_16 rfl rfl (Nat.le_refl _) (Nat.le_refl _) (by have hr := Option.some.inj hF; subst hr; exact ⟨rfl, rfl⟩)
  · rw [if_neg q1] at hF
    refine ab_iload_n d_W_cut_4 rfl rfl ?_
    refine ab_aload_n d_W_cut_5 rfl rfl rfl ?_
    obtain ⟨q2, hG⟩ := ck_s hF; clear hF
    obtain ⟨a3, e4, hF⟩ := rf_s hG; clear hG
    refine hp_getR (f := 3) d_W_cut_6 q2 (by decide) rfl (by decide) (k3 160 rfl rfl) rfl e4 ?_
    obtain ⟨q5, hG⟩ := ck_s hF; clear hF
    refine hp_getI (f := 1) d_W_cut_9 q5 (by decide) rfl (by decide) (k2 189 rfl rfl) rfl ?_
    refine ab_topi (fun x6 ex6 => ?_)
    replace hG := bnd_s ex6 hG
    refine ab_icmp_le (tgt := 17) d_W_cut_12 (by decide) (fun q7 => ?_) (fun q7 => ?_)
    · rw [if_pos q7] at hG
      refine ab_aload_n d_W_cut_17 rfl rfl rfl ?_
      obtain ⟨a8, e9, hF⟩ := rf_s hG; clear hG
      refine hp_getR (f := 3) d_W_cut_18 q2 (by decide) rfl (by decide) (k3 160 rfl rfl) rfl e9 ?_
      refine ab_iload_n d_W_cut_21 rfl rfl ?_
      obtain ⟨q10, hG⟩ := ck_s hF; clear hF
      refine hp_putI (v := p1) (f := 1) d_W_cut_22 q10 (by decide) rfl (by decide) (k2 189 rfl rfl) rfl rfl (fun _ => rfl) (fun _ => rfl) rfl ?_
      refine hp_gen (fun H11 eH11 => ?_)
      replace hG := bnd_s eH11 hG
      have s_1 : Sa H H11 := by rw [eH11]; exact Sa.rf _
      refine ab_iconst (v := 1) d_W_cut_25 (by decide) ?_
      exact ab_zret d_W_cut_26 rfl rfl (Nat.le_refl _) (Nat.le_refl _) (by have hr := Option.some.inj hG; subst hr; exact ⟨rfl, rfl⟩)
    · rw [if_neg q7] at hG
      refine ab_iconst (v := 0) d_W_cut_15 (by decide) ?_
      exact ab_zret d_W_cut_16 rfl rfl (Nat.le_refl _) (Nat.le_refl _) (by have hr := Option.some.inj hG; subst hr; exact ⟨rfl, rfl⟩)
def y_W_byteOut : ab_Y := (⟨"WorldEngine", "byteOut", "(I)I"⟩, prog_1_method_28_code, 2, (some FieldType.int), [])
theorem d_W_byteOut_0 : decode y_W_byteOut.2.1 0 = .ok (.iload_n 1, 1) := by decide +kernel
theorem d_W_byteOut_1 : decode y_W_byteOut.2.1 1 = .ok (.ifCond .lt 14, 3) := by decide +kernel
theorem d_W_byteOut_4 : decode y_W_byteOut.2.1 4 = .ok (.iload_n 1, 1) := by decide +kernel
theorem d_W_byteOut_5 : decode y_W_byteOut.2.1 5 = .ok (.aload_n 0, 1) := by decide +kernel
theorem d_W_byteOut_6 : decode y_W_byteOut.2.1 6 = .ok (.getfield 35, 3) := by decide +kernel
theorem d_W_byteOut_9 : decode y_W_byteOut.2.1 9 = .ok (.getfield 264, 3) := by decide +kernel
theorem d_W_byteOut_12 : decode y_W_byteOut.2.1 12 = .ok (.if_icmp .lt 5, 3) := by decide +kernel
theorem d_W_byteOut_15 : decode y_W_byteOut.2.1 15 = .ok (.iconst (-1), 1) := by decide +kernel
theorem d_W_byteOut_16 : decode y_W_byteOut.2.1 16 = .ok (.ireturn, 1) := by decide +kernel
theorem d_W_byteOut_17 : decode y_W_byteOut.2.1 17 = .ok (.aload_n 0, 1) := by decide +kernel
theorem d_W_byteOut_18 : decode y_W_byteOut.2.1 18 = .ok (.getfield 35, 3) := by decide +kernel
theorem d_W_byteOut_21 : decode y_W_byteOut.2.1 21 = .ok (.getfield 282, 3) := by decide +kernel
theorem d_W_byteOut_24 : decode y_W_byteOut.2.1 24 = .ok (.iload_n 1, 1) := by decide +kernel
theorem d_W_byteOut_25 : decode y_W_byteOut.2.1 25 = .ok (.baload, 1) := by decide +kernel
theorem d_W_byteOut_26 : decode y_W_byteOut.2.1 26 = .ok (.sipush 255, 3) := by decide +kernel
theorem d_W_byteOut_29 : decode y_W_byteOut.2.1 29 = .ok (.iand, 1) := by decide +kernel
theorem d_W_byteOut_30 : decode y_W_byteOut.2.1 30 = .ok (.ireturn, 1) := by decide +kernel
theorem s_W_byteOut : ab_Stat y_W_byteOut 1 := ⟨(k8 38 rfl rfl), (k1 1 rfl rfl), ⟨by decide, by decide⟩, by decide +kernel⟩
theorem i_W_byteOut : Cond.instanceMethod y_W_byteOut.1 ∈ ab_T := (k8 36 rfl rfl)
theorem v_W_byteOut : Cond.selects "WorldEngine" y_W_byteOut.1 y_W_byteOut.1 ∈ ab_T := (k8 37 rfl rfl)
def F_W_byteOut (N : Nat) (p0 : Nat) (p1 : Int32) (H : Hp) : Option (Int32 × Hp) :=
    if p1 < (0 : Int32) then
    some ((-1), H)
    else
    ck (H.sh[p0]? = some (0, 0)) <|
    rf (H.P p0 3) fun a3 =>
    ck (H.sh[a3]? = some (11, 0)) <|
    bnd ((H.D a3 1)) fun x6 =>
    if p1 < x6 then
    rf (H.P p0 3) fun a8 =>
    ck (H.sh[a8]? = some (11, 0)) <|
    rf (H.P a8 0) fun a11 =>
    ar H 101 a11 fun n13 =>
    ck (inb p1 n13) <|
    bnd ((H.D a11 (p1).toNatClampNeg)) fun x16 =>
    some (x16 &&& (255 : Int32), H)
    else
    some ((-1), H)
set_option maxRecDepth 20000 in
set_option maxHeartbeats 2000000 in
theorem m_W_byteOut {N : Nat} {p0 : Nat} {p1 : Int32} {H : Hp} {r : Int32 × Hp} (hF : F_W_byteOut N p0 p1 H = some r) : Sa H r.2 := by
  unfold F_W_byteOut at hF
  have hm := Sa.rf H
  rcases ite_s hF with ⟨q_1, hG⟩ | ⟨q_1, hG⟩
  · clear hF
    have hr := Option.some.inj hG; subst hr
    exact hm
  · clear hF
    obtain ⟨q18, hF⟩ := ck_s hG; clear hG
    obtain ⟨a19, e20, hG⟩ := rf_s hF; clear hF
    obtain ⟨q21, hF⟩ := ck_s hG; clear hG
    obtain ⟨x22, -, hG⟩ := bnd_g hF; clear hF
    rcases ite_s hG with ⟨q_2, hF⟩ | ⟨q_2, hF⟩
    · clear hG
      obtain ⟨a24, e25, hG⟩ := rf_s hF; clear hF
      obtain ⟨q26, hF⟩ := ck_s hG; clear hG
      obtain ⟨a27, e28, hG⟩ := rf_s hF; clear hF
      obtain ⟨n29, q30, hF⟩ := ar_s hG; clear hG
      obtain ⟨q31, hG⟩ := ck_s hF; clear hF
      obtain ⟨x32, -, hF⟩ := bnd_g hG; clear hG
      have hr := Option.some.inj hF; subst hr
      exact hm
    · clear hG
      have hr := Option.some.inj hF; subst hr
      exact hm
set_option maxRecDepth 20000 in
set_option maxHeartbeats 2000000 in
theorem k_W_byteOut {N : Nat} {p0 : Nat} {p1 : Int32} {H : Hp} {r : Int32 × Hp} (hF : F_W_byteOut N p0 p1 H = some r) : ab_M y_W_byteOut { frames := 0, cells := 0, slots := 0, locals := 0 } [.ref p0, .int p1] (hpw H) (po (.returned (some (.int r.1))) r.2) := by
  unfold F_W_byteOut at hF
  refine ab_of2 (lv := [some (.ref p0), some (.int p1)]) 0 rfl rfl (Nat.le_of_ble_eq_true rfl) ?_
  refine ab_iload_n d_W_byteOut_0 rfl rfl ?_
  refine ab_if_lt (tgt := 15) d_W_byteOut_1 (by decide) (fun q1 => ?_) (fun q1 => ?_)
  · rw [if_pos q1] at hF
    refine ab_iconst (v := (-1)) d_W_byteOut_15 (by decide) ?_
    exact ab_iret d_W_byteOut_16 rfl (Nat.le_refl _) (Nat.le_refl _) (by have hr := Option.some.inj hF; subst hr; exact ⟨rfl, rfl⟩)
  · rw [if_neg q1] at hF
    refine ab_iload_n d_W_byteOut_4 rfl rfl ?_
    refine ab_aload_n d_W_byteOut_5 rfl rfl rfl ?_
    obtain ⟨q2, hG⟩ := ck_s hF; clear hF
    obtain ⟨a3, e4, hF⟩ := rf_s hG; clear hG
    refine hp_getR (f := 3) d_W_byteOut_6 q2 (by decide) rfl (by decide) (k3 160 rfl rfl) rfl e4 ?_
    obtain ⟨q5, hG⟩ := ck_s hF; clear hF
    refine hp_getI (f := 1) d_W_byteOut_9 q5 (by decide) rfl (by decide) (k2 189 rfl rfl) rfl ?_
    refine ab_topi (fun x6 ex6 => ?_)
    replace hG := bnd_s ex6 hG
    refine ab_icmp_lt (tgt := 17) d_W_byteOut_12 (by decide) (fun q7 => ?_) (fun q7 => ?_)
    · rw [if_pos q7] at hG
      refine ab_aload_n d_W_byteOut_17 rfl rfl rfl ?_
      obtain ⟨a8, e9, hF⟩ := rf_s hG; clear hG
      refine hp_getR (f := 3) d_W_byteOut_18 q2 (by decide) rfl (by decide) (k3 160 rfl rfl) rfl e9 ?_
      obtain ⟨q10, hG⟩ := ck_s hF; clear hF
      obtain ⟨a11, e12, hF⟩ := rf_s hG; clear hG
      refine hp_getR (f := 0) d_W_byteOut_21 q10 (by decide) rfl (by decide) (k2 187 rfl rfl) rfl e12 ?_
      refine ab_iload_n d_W_byteOut_24 rfl rfl ?_
      obtain ⟨n13, q14, hG⟩ := ar_s hF; clear hF
      obtain ⟨q15, hF⟩ := ck_s hG; clear hG
      refine hp_bald d_W_byteOut_25 tB q14 q15 ?_
      refine ab_topi (fun x16 ex16 => ?_)
      replace hF := bnd_s ex16 hF
      refine ab_sipush (v := 255) d_W_byteOut_26 (by decide) ?_
      refine ab_iand d_W_byteOut_29 ?_
      exact ab_iret d_W_byteOut_30 rfl (Nat.le_refl _) (Nat.le_refl _) (by have hr := Option.some.inj hF; subst hr; exact ⟨rfl, rfl⟩)
    · rw [if_neg q7] at hG
      refine ab_iconst (v := (-1)) d_W_byteOut_15 (by decide) ?_
      exact ab_iret d_W_byteOut_16 rfl (Nat.le_refl _) (Nat.le_refl _) (by have hr := Option.some.inj hG; subst hr; exact ⟨rfl, rfl⟩)
def y_Store_readNumber : ab_Y := (⟨"WorldEngine$Store", "readNumber", "(III)I"⟩, prog_10_method_9_code, 6, (some FieldType.int), [])
theorem d_Store_readNumber_0 : decode y_Store_readNumber.2.1 0 = .ok (.iload_n 1, 1) := by decide +kernel
theorem d_Store_readNumber_1 : decode y_Store_readNumber.2.1 1 = .ok (.aload_n 0, 1) := by decide +kernel
theorem d_Store_readNumber_2 : decode y_Store_readNumber.2.1 2 = .ok (.getfield 24, 3) := by decide +kernel
theorem d_Store_readNumber_5 : decode y_Store_readNumber.2.1 5 = .ok (.aload_n 0, 1) := by decide +kernel
theorem d_Store_readNumber_6 : decode y_Store_readNumber.2.1 6 = .ok (.getfield 111, 3) := by decide +kernel
theorem d_Store_readNumber_9 : decode y_Store_readNumber.2.1 9 = .ok (.isub, 1) := by decide +kernel
theorem d_Store_readNumber_10 : decode y_Store_readNumber.2.1 10 = .ok (.if_icmp .le 21, 3) := by decide +kernel
theorem d_Store_readNumber_13 : decode y_Store_readNumber.2.1 13 = .ok (.aload_n 0, 1) := by decide +kernel
theorem d_Store_readNumber_14 : decode y_Store_readNumber.2.1 14 = .ok (.aload_n 0, 1) := by decide +kernel
theorem d_Store_readNumber_15 : decode y_Store_readNumber.2.1 15 = .ok (.getfield 24, 3) := by decide +kernel
theorem d_Store_readNumber_18 : decode y_Store_readNumber.2.1 18 = .ok (.putfield 143, 3) := by decide +kernel
theorem d_Store_readNumber_21 : decode y_Store_readNumber.2.1 21 = .ok (.new 141, 3) := by decide +kernel
theorem d_Store_readNumber_24 : decode y_Store_readNumber.2.1 24 = .ok (.dup, 1) := by decide +kernel
theorem d_Store_readNumber_25 : decode y_Store_readNumber.2.1 25 = .ok (.ldc 146, 2) := by decide +kernel
theorem d_Store_readNumber_27 : decode y_Store_readNumber.2.1 27 = .ok (.invokespecial 148, 3) := by decide +kernel
theorem d_Store_readNumber_30 : decode y_Store_readNumber.2.1 30 = .ok (.athrow, 1) := by decide +kernel
theorem d_Store_readNumber_31 : decode y_Store_readNumber.2.1 31 = .ok (.iconst 0, 1) := by decide +kernel
theorem d_Store_readNumber_32 : decode y_Store_readNumber.2.1 32 = .ok (.istore 4, 2) := by decide +kernel
theorem d_Store_readNumber_34 : decode y_Store_readNumber.2.1 34 = .ok (.iconst 0, 1) := by decide +kernel
theorem d_Store_readNumber_35 : decode y_Store_readNumber.2.1 35 = .ok (.istore 5, 2) := by decide +kernel
theorem d_Store_readNumber_37 : decode y_Store_readNumber.2.1 37 = .ok (.iload 5, 2) := by decide +kernel
theorem d_Store_readNumber_39 : decode y_Store_readNumber.2.1 39 = .ok (.iload_n 1, 1) := by decide +kernel
theorem d_Store_readNumber_40 : decode y_Store_readNumber.2.1 40 = .ok (.if_icmp .ge 33, 3) := by decide +kernel
theorem d_Store_readNumber_43 : decode y_Store_readNumber.2.1 43 = .ok (.iload 4, 2) := by decide +kernel
theorem d_Store_readNumber_45 : decode y_Store_readNumber.2.1 45 = .ok (.bipush 8, 2) := by decide +kernel
theorem d_Store_readNumber_47 : decode y_Store_readNumber.2.1 47 = .ok (.ishl, 1) := by decide +kernel
theorem d_Store_readNumber_48 : decode y_Store_readNumber.2.1 48 = .ok (.aload_n 0, 1) := by decide +kernel
theorem d_Store_readNumber_49 : decode y_Store_readNumber.2.1 49 = .ok (.getfield 12, 3) := by decide +kernel
theorem d_Store_readNumber_52 : decode y_Store_readNumber.2.1 52 = .ok (.aload_n 0, 1) := by decide +kernel
theorem d_Store_readNumber_53 : decode y_Store_readNumber.2.1 53 = .ok (.getfield 111, 3) := by decide +kernel
theorem d_Store_readNumber_56 : decode y_Store_readNumber.2.1 56 = .ok (.iload 5, 2) := by decide +kernel
theorem d_Store_readNumber_58 : decode y_Store_readNumber.2.1 58 = .ok (.iadd, 1) := by decide +kernel
theorem d_Store_readNumber_59 : decode y_Store_readNumber.2.1 59 = .ok (.baload, 1) := by decide +kernel
theorem d_Store_readNumber_60 : decode y_Store_readNumber.2.1 60 = .ok (.sipush 255, 3) := by decide +kernel
theorem d_Store_readNumber_63 : decode y_Store_readNumber.2.1 63 = .ok (.iand, 1) := by decide +kernel
theorem d_Store_readNumber_64 : decode y_Store_readNumber.2.1 64 = .ok (.ior, 1) := by decide +kernel
theorem d_Store_readNumber_65 : decode y_Store_readNumber.2.1 65 = .ok (.istore 4, 2) := by decide +kernel
theorem d_Store_readNumber_67 : decode y_Store_readNumber.2.1 67 = .ok (.iinc 5 1, 3) := by decide +kernel
theorem d_Store_readNumber_70 : decode y_Store_readNumber.2.1 70 = .ok (.goto (-33), 3) := by decide +kernel
theorem d_Store_readNumber_73 : decode y_Store_readNumber.2.1 73 = .ok (.iload 4, 2) := by decide +kernel
theorem d_Store_readNumber_75 : decode y_Store_readNumber.2.1 75 = .ok (.iload_n 2, 1) := by decide +kernel
theorem d_Store_readNumber_76 : decode y_Store_readNumber.2.1 76 = .ok (.if_icmp .lt 9, 3) := by decide +kernel
theorem d_Store_readNumber_79 : decode y_Store_readNumber.2.1 79 = .ok (.iload 4, 2) := by decide +kernel
theorem d_Store_readNumber_81 : decode y_Store_readNumber.2.1 81 = .ok (.iload_n 3, 1) := by decide +kernel
theorem d_Store_readNumber_82 : decode y_Store_readNumber.2.1 82 = .ok (.if_icmp .le 21, 3) := by decide +kernel
theorem d_Store_readNumber_85 : decode y_Store_readNumber.2.1 85 = .ok (.aload_n 0, 1) := by decide +kernel
theorem d_Store_readNumber_86 : decode y_Store_readNumber.2.1 86 = .ok (.aload_n 0, 1) := by decide +kernel
theorem d_Store_readNumber_87 : decode y_Store_readNumber.2.1 87 = .ok (.getfield 111, 3) := by decide +kernel
theorem d_Store_readNumber_90 : decode y_Store_readNumber.2.1 90 = .ok (.putfield 143, 3) := by decide +kernel
theorem d_Store_readNumber_93 : decode y_Store_readNumber.2.1 93 = .ok (.new 141, 3) := by decide +kernel
theorem d_Store_readNumber_96 : decode y_Store_readNumber.2.1 96 = .ok (.dup, 1) := by decide +kernel
theorem d_Store_readNumber_97 : decode y_Store_readNumber.2.1 97 = .ok (.ldc 151, 2) := by decide +kernel
theorem d_Store_readNumber_99 : decode y_Store_readNumber.2.1 99 = .ok (.invokespecial 148, 3) := by decide +kernel
theorem d_Store_readNumber_102 : decode y_Store_readNumber.2.1 102 = .ok (.athrow, 1) := by decide +kernel
theorem d_Store_readNumber_103 : decode y_Store_readNumber.2.1 103 = .ok (.aload_n 0, 1) := by decide +kernel
theorem d_Store_readNumber_104 : decode y_Store_readNumber.2.1 104 = .ok (.dup, 1) := by decide +kernel
theorem d_Store_readNumber_105 : decode y_Store_readNumber.2.1 105 = .ok (.getfield 111, 3) := by decide +kernel
theorem d_Store_readNumber_108 : decode y_Store_readNumber.2.1 108 = .ok (.iload_n 1, 1) := by decide +kernel
theorem d_Store_readNumber_109 : decode y_Store_readNumber.2.1 109 = .ok (.iadd, 1) := by decide +kernel
theorem d_Store_readNumber_110 : decode y_Store_readNumber.2.1 110 = .ok (.putfield 111, 3) := by decide +kernel
theorem d_Store_readNumber_113 : decode y_Store_readNumber.2.1 113 = .ok (.iload 4, 2) := by decide +kernel
theorem d_Store_readNumber_115 : decode y_Store_readNumber.2.1 115 = .ok (.ireturn, 1) := by decide +kernel
theorem s_Store_readNumber : ab_Stat y_Store_readNumber 3 := ⟨(k8 56 rfl rfl), (k1 14 rfl rfl), ⟨by decide, by decide⟩, by decide +kernel⟩
theorem i_Store_readNumber : Cond.instanceMethod y_Store_readNumber.1 ∈ ab_T := (k8 55 rfl rfl)
theorem v_Store_readNumber : Cond.selects "WorldEngine$Store" y_Store_readNumber.1 y_Store_readNumber.1 ∈ ab_T := ab_s (List.mem_of_getElem? (i := 98) rfl) rfl
set_option maxRecDepth 20000 in
theorem ow_Store_148 : ∀ a ∈ Bundle.ownAtoms "WorldEngine$Store" 148 "java/lang/IllegalStateException" ["java/lang/RuntimeException", "java/lang/Exception"], a ∈ ab_T ∨ a = .laysStatic Bundle.tN "UNASSIGNED_STACK" Bundle.steD ∨ a = .laysStatic Bundle.tN "SUPPRESSED_SENTINEL" Bundle.listD ∨ a = .isRef (.static Bundle.tN "UNASSIGNED_STACK" Bundle.steD) ∨ a = .isRef (.static Bundle.tN "SUPPRESSED_SENTINEL" Bundle.listD) := List.forall_mem_cons.mpr ⟨Or.inl (k1 24 rfl rfl), List.forall_mem_cons.mpr ⟨Or.inl (k4 123 rfl rfl), List.forall_mem_cons.mpr ⟨Or.inl (k4 132 rfl rfl), List.forall_mem_cons.mpr ⟨Or.inl (k4 135 rfl rfl), List.forall_mem_cons.mpr ⟨Or.inl (k4 138 rfl rfl), List.forall_mem_cons.mpr ⟨Or.inl (k4 140 rfl rfl), List.forall_mem_cons.mpr ⟨Or.inl (k4 124 rfl rfl), List.forall_mem_cons.mpr ⟨Or.inl (k4 125 rfl rfl), List.forall_mem_cons.mpr ⟨Or.inl (k1 37 rfl rfl), List.forall_mem_cons.mpr ⟨Or.inl (k1 38 rfl rfl), List.forall_mem_cons.mpr ⟨Or.inl (k4 126 rfl rfl), List.forall_mem_cons.mpr ⟨Or.inl (k4 131 rfl rfl), List.forall_mem_cons.mpr ⟨Or.inl (k4 136 rfl rfl), List.forall_mem_cons.mpr ⟨Or.inl (k4 156 rfl rfl), List.forall_mem_cons.mpr ⟨Or.inl (k4 113 rfl rfl), List.forall_mem_cons.mpr ⟨Or.inl (k4 157 rfl rfl), List.forall_mem_cons.mpr ⟨Or.inl (k4 115 rfl rfl), List.forall_mem_cons.mpr ⟨Or.inl (k4 158 rfl rfl), List.forall_mem_cons.mpr ⟨Or.inl (k4 117 rfl rfl), List.forall_mem_cons.mpr ⟨Or.inl (k4 127 rfl rfl), List.forall_mem_cons.mpr ⟨Or.inr (Or.inl rfl), List.forall_mem_cons.mpr ⟨Or.inl (k4 129 rfl rfl), List.forall_mem_cons.mpr ⟨Or.inr (Or.inr (Or.inl rfl)), List.forall_mem_cons.mpr ⟨Or.inl (k4 119 rfl rfl), List.forall_mem_cons.mpr ⟨Or.inl (k4 152 rfl rfl), List.forall_mem_cons.mpr ⟨Or.inl (k4 153 rfl rfl), List.forall_mem_cons.mpr ⟨Or.inl (k4 155 rfl rfl), List.forall_mem_cons.mpr ⟨Or.inl (k4 119 rfl rfl), List.forall_mem_cons.mpr ⟨Or.inl (k4 143 rfl rfl), List.forall_mem_cons.mpr ⟨Or.inl (k4 144 rfl rfl), List.forall_mem_cons.mpr ⟨Or.inl (k4 145 rfl rfl), List.forall_mem_cons.mpr ⟨Or.inl (k4 146 rfl rfl), List.forall_mem_cons.mpr ⟨Or.inl (k4 105 rfl rfl), List.forall_mem_cons.mpr ⟨Or.inl (k4 146 rfl rfl), List.forall_mem_cons.mpr ⟨Or.inl (k4 147 rfl rfl), List.forall_mem_cons.mpr ⟨Or.inl (k4 148 rfl rfl), List.forall_mem_cons.mpr ⟨Or.inl (k4 149 rfl rfl), List.forall_mem_cons.mpr ⟨Or.inl (k4 107 rfl rfl), List.forall_mem_cons.mpr ⟨Or.inl (k4 149 rfl rfl), List.forall_mem_cons.mpr ⟨Or.inl (k4 150 rfl rfl), List.forall_mem_cons.mpr ⟨Or.inl (k4 151 rfl rfl), List.forall_mem_cons.mpr ⟨Or.inl (k4 152 rfl rfl), List.forall_mem_cons.mpr ⟨Or.inl (k4 109 rfl rfl), List.forall_mem_cons.mpr ⟨Or.inl (k8 58 rfl rfl), List.forall_mem_cons.mpr ⟨Or.inl (k4 102 rfl rfl), List.forall_mem_cons.mpr ⟨Or.inl (k4 103 rfl rfl), List.forall_mem_cons.mpr ⟨Or.inl (k4 110 rfl rfl), List.forall_mem_cons.mpr ⟨Or.inl (k4 111 rfl rfl), List.forall_mem_cons.mpr ⟨Or.inl (k4 112 rfl rfl), List.forall_mem_cons.mpr ⟨Or.inl (k4 114 rfl rfl), List.forall_mem_cons.mpr ⟨Or.inl (k4 116 rfl rfl), List.forall_mem_cons.mpr ⟨Or.inl (k4 118 rfl rfl), List.forall_mem_cons.mpr ⟨Or.inr (Or.inr (Or.inr (Or.inl rfl))), List.forall_mem_cons.mpr ⟨Or.inr (Or.inr (Or.inr (Or.inr rfl))), List.forall_mem_cons.mpr ⟨Or.inl (k4 122 rfl rfl), List.forall_mem_cons.mpr ⟨Or.inl (k4 121 rfl rfl), List.forall_mem_cons.mpr ⟨Or.inl (k4 120 rfl rfl), fun _ h => absurd h List.not_mem_nil⟩⟩⟩⟩⟩⟩⟩⟩⟩⟩⟩⟩⟩⟩⟩⟩⟩⟩⟩⟩⟩⟩⟩⟩⟩⟩⟩⟩⟩⟩⟩⟩⟩⟩⟩⟩⟩⟩⟩⟩⟩⟩⟩⟩⟩⟩⟩⟩⟩⟩⟩⟩⟩⟩⟩⟩⟩
def B_Store_readNumber_85 (N : Nat) (p0 : Nat) (p1 : Int32) (p2 : Int32) (p3 : Int32)  (H : Hp) : Option ((Ot Int32) × Hp) :=
    ck (H.sh[p0]? = some (11, 0)) <|
    bnd ((H.D p0 5)) fun x8 =>
    bnd (H.sD p0 2 x8) fun H9 =>
    some (.inr H9.sh.length, H9.nx (17, 0) 6)
set_option maxRecDepth 20000 in
set_option maxHeartbeats 2000000 in
theorem mB_Store_readNumber_85 {N : Nat} {p0 : Nat} {p1 : Int32} {p2 : Int32} {p3 : Int32}  {H : Hp} {r : (Ot Int32) × Hp} (hF : B_Store_readNumber_85 N p0 p1 p2 p3  H = some r) : Mo H r.2 := by
  unfold B_Store_readNumber_85 at hF
  have hm := Mo.rf H
  obtain ⟨q11, hG⟩ := ck_s hF; clear hF
  obtain ⟨x12, -, hF⟩ := bnd_g hG; clear hG
  obtain ⟨H13, eH13, hG⟩ := bnd_g hF; clear hF
  replace hm : Mo H H13 := by rw [eH13]; exact hm
  cases hG
  exact hm.tr (Mo.nx _ _ _)
set_option maxRecDepth 20000 in
set_option maxHeartbeats 2000000 in
theorem kB_Store_readNumber_85 {N : Nat} {p0 : Nat} {p1 : Int32} {p2 : Int32} {p3 : Int32} {c0 s0 C Sl : Nat}  {H : Hp} {r : (Ot Int32) × Hp} (hF : B_Store_readNumber_85 N p0 p1 p2 p3  H = some r) (hc0 : c0 ≤ H.sh.length) (hs0 : s0 ≤ H.sl) (hcc : H.sh.length ≤ c0 + C) (hss : H.sl ≤ s0 + Sl) (hC : r.2.sh.length ≤ c0 + C) (hS : r.2.sl ≤ s0 + Sl) : ab_V y_Store_readNumber { frames := 6, cells := C, slots := Sl, locals := 100 } (po (oI r.1) r.2) C Sl (H.sh.length - c0) (H.sl - s0) 85 [some (.ref p0), some (.int p1), some (.int p2), some (.int p3), none, none] [] (hpw H) := by
  unfold B_Store_readNumber_85 at hF
  refine ab_aload_n d_Store_readNumber_85 rfl rfl rfl ?_
  refine ab_aload_n d_Store_readNumber_86 rfl rfl rfl ?_
  obtain ⟨q7, hG⟩ := ck_s hF; clear hF
  refine hp_getI (f := 5) d_Store_readNumber_87 q7 (by decide) rfl (by decide) (k2 194 rfl rfl) rfl ?_
  refine ab_topi (fun x8 ex8 => ?_)
  replace hG := bnd_s ex8 hG
  refine hp_putI (v := x8) (f := 2) d_Store_readNumber_90 q7 (by decide) rfl (by decide) (k2 190 rfl rfl) rfl rfl (fun _ => rfl) (fun _ => rfl) rfl ?_
  refine hp_gen (fun H9 eH9 => ?_)
  replace hG := bnd_s eH9 hG
  have s_1 : Sa H H9 := by rw [eH9]; exact Sa.rf _
  obtain ⟨H10, eH10⟩ : ∃ K, K = H9.nx (17, 0) 6 := ⟨_, rfl⟩
  rw [← eH10] at hG
  cases hG
  have bx : H10.sh.length = H9.sh.length + 1 := by rw [eH10]; simp [Hp.nx, mkH_sh]
  have by_ : H10.sl = H9.sl + 6 := by rw [eH10]; rfl
  have hC9 : H10.sh.length ≤ c0 + C := hC
  have hS9 : H10.sl ≤ s0 + Sl := hS
  have be := congrArg List.length (s_1).1
  have bfx := (s_1).2
  exact hp_throw (ci := 17) (names := ["java/lang/RuntimeException", "java/lang/Exception"]) (k0 := 6) d_Store_readNumber_93 d_Store_readNumber_96 d_Store_readNumber_97 d_Store_readNumber_99 d_Store_readNumber_102 rfl (k8 50 rfl rfl) (k4 102 rfl rfl) (k1 27 rfl rfl) (by decide +kernel) (by decide +kernel) ow_Store_148 (List.mem_of_getElem? (i := 7) rfl) rfl rfl rfl rfl (by show _ ≤ C; omega) (by show _ ≤ Sl; omega) (by show _ ≤ C; omega) (by show _ ≤ Sl; omega) (Nat.le_of_ble_eq_true rfl) (Nat.le_of_ble_eq_true rfl) (by decide) rfl (by rw [← eH10]; exact ⟨rfl, rfl⟩)
def B_Store_readNumber_37 (N : Nat) (p0 : Nat) (p1 : Int32) (p2 : Int32) (p3 : Int32) : Nat → Int32 → Int32 → Hp → Option ((Ot Int32) × Hp)
  | 0, _, _, _ => none
  | n + 1, l4, l5, H =>
    if p1 ≤ l5 then
    if l4 < p2 then
    B_Store_readNumber_85 N p0 p1 p2 p3  H
    else
    if l4 ≤ p3 then
    ck (H.sh[p0]? = some (11, 0)) <|
    bnd ((H.D p0 5)) fun x17 =>
    bnd (H.sD p0 5 (x17 + p1)) fun H18 =>
    some (.inl l4, H18)
    else
    B_Store_readNumber_85 N p0 p1 p2 p3  H
    else
    ck (H.sh[p0]? = some (11, 0)) <|
    rf (H.P p0 0) fun a20 =>
    bnd ((H.D p0 5)) fun x22 =>
    ar H 101 a20 fun n23 =>
    ck (inb (x22 + l5) n23) <|
    bnd ((H.D a20 ((x22 + l5)).toNatClampNeg)) fun x26 =>
    bnd (((l4 <<< ((8 : Int32) &&& 31)) ||| (x26 &&& (255 : Int32)))) fun x27 =>
    B_Store_readNumber_37 N p0 p1 p2 p3 n x27 (l5 + 1) H
termination_by structural n => n
set_option maxRecDepth 20000 in
set_option maxHeartbeats 2000000 in
theorem mB_Store_readNumber_37 {N : Nat} {p0 : Nat} {p1 : Int32} {p2 : Int32} {p3 : Int32} : ∀ (n : Nat) (l4 : Int32) (l5 : Int32) (H : Hp) (r : (Ot Int32) × Hp), B_Store_readNumber_37 N p0 p1 p2 p3 n l4 l5 H = some r → Mo H r.2 := by
  intro n
  induction n with
  | zero => intro l4 l5 H r hF; rw [B_Store_readNumber_37] at hF; cases hF
  | succ n ih =>
    intro l4 l5 H r hF
    rw [B_Store_readNumber_37] at hF
    have hm := Mo.rf H
    rcases ite_s hF with ⟨q_4, hG⟩ | ⟨q_4, hG⟩
    · clear hF
      rcases ite_s hG with ⟨q_5, hF⟩ | ⟨q_5, hF⟩
      · clear hG
        exact hm.tr (mB_Store_readNumber_85 hF)
      · clear hG
        rcases ite_s hF with ⟨q_6, hG⟩ | ⟨q_6, hG⟩
        · clear hF
          obtain ⟨q31, hF⟩ := ck_s hG; clear hG
          obtain ⟨x32, -, hG⟩ := bnd_g hF; clear hF
          obtain ⟨H33, eH33, hF⟩ := bnd_g hG; clear hG
          replace hm : Mo H H33 := by rw [eH33]; exact hm
          have hr := Option.some.inj hF; subst hr
          exact hm
        · clear hF
          exact hm.tr (mB_Store_readNumber_85 hG)
    · clear hF
      obtain ⟨q34, hF⟩ := ck_s hG; clear hG
      obtain ⟨a35, e36, hG⟩ := rf_s hF; clear hF
      obtain ⟨x37, -, hF⟩ := bnd_g hG; clear hG
      obtain ⟨n38, q39, hG⟩ := ar_s hF; clear hF
      obtain ⟨q40, hF⟩ := ck_s hG; clear hG
      obtain ⟨x41, -, hG⟩ := bnd_g hF; clear hF
      obtain ⟨x42, -, hF⟩ := bnd_g hG; clear hG
      exact hm.tr (ih x42 (l5 + 1) H r hF)
set_option maxRecDepth 20000 in
set_option maxHeartbeats 2000000 in
theorem kB_Store_readNumber_37 {N : Nat} {p0 : Nat} {p1 : Int32} {p2 : Int32} {p3 : Int32} {c0 s0 C Sl : Nat} : ∀ (n : Nat) (l4 : Int32) (l5 : Int32) (H : Hp) (r : (Ot Int32) × Hp), B_Store_readNumber_37 N p0 p1 p2 p3 n l4 l5 H = some r → c0 ≤ H.sh.length → s0 ≤ H.sl → H.sh.length ≤ c0 + C → H.sl ≤ s0 + Sl → r.2.sh.length ≤ c0 + C → r.2.sl ≤ s0 + Sl → ab_V y_Store_readNumber { frames := 6, cells := C, slots := Sl, locals := 100 } (po (oI r.1) r.2) C Sl (H.sh.length - c0) (H.sl - s0) 37 [some (.ref p0), some (.int p1), some (.int p2), some (.int p3), some (.int l4), some (.int l5)] [] (hpw H) := by
  intro n
  induction n with
  | zero => intro l4 l5 H r hF; rw [B_Store_readNumber_37] at hF; cases hF
  | succ n ih =>
    intro l4 l5 H r hF hc0 hs0 hcc hss hC hS
    rw [B_Store_readNumber_37] at hF
    refine ab_iload d_Store_readNumber_37 rfl ?_
    refine ab_iload_n d_Store_readNumber_39 rfl rfl ?_
    refine ab_icmp_ge (tgt := 73) d_Store_readNumber_40 (by decide) (fun q5 => ?_) (fun q5 => ?_)
    · rw [if_pos q5] at hF
      refine ab_iload d_Store_readNumber_73 rfl ?_
      refine ab_iload_n d_Store_readNumber_75 rfl rfl ?_
      refine ab_icmp_lt (tgt := 85) d_Store_readNumber_76 (by decide) (fun q6 => ?_) (fun q6 => ?_)
      · rw [if_pos q6] at hF
        refine ab_le (lv' := [some (.ref p0), some (.int p1), some (.int p2), some (.int p3), none, none]) ⟨rfl, ⟨rfl, ⟨rfl, ⟨rfl, trivial⟩⟩⟩⟩ ?_
        exact kB_Store_readNumber_85 hF hc0 hs0 hcc hss hC hS
      · rw [if_neg q6] at hF
        refine ab_iload d_Store_readNumber_79 rfl ?_
        refine ab_iload_n d_Store_readNumber_81 rfl rfl ?_
        refine ab_icmp_le (tgt := 103) d_Store_readNumber_82 (by decide) (fun q15 => ?_) (fun q15 => ?_)
        · rw [if_pos q15] at hF
          refine ab_aload_n d_Store_readNumber_103 rfl rfl rfl ?_
          refine ab_dup d_Store_readNumber_104 rfl ?_
          obtain ⟨q16, hG⟩ := ck_s hF; clear hF
          refine hp_getI (f := 5) d_Store_readNumber_105 q16 (by decide) rfl (by decide) (k2 194 rfl rfl) rfl ?_
          refine ab_topi (fun x17 ex17 => ?_)
          replace hG := bnd_s ex17 hG
          refine ab_iload_n d_Store_readNumber_108 rfl rfl ?_
          refine ab_iadd d_Store_readNumber_109 ?_
          refine hp_putI (v := x17 + p1) (f := 5) d_Store_readNumber_110 q16 (by decide) rfl (by decide) (k2 194 rfl rfl) rfl rfl (fun _ => rfl) (fun _ => rfl) rfl ?_
          refine hp_gen (fun H18 eH18 => ?_)
          replace hG := bnd_s eH18 hG
          have s_3 : Sa H H18 := by rw [eH18]; exact Sa.rf _
          refine ab_iload d_Store_readNumber_113 rfl ?_
          exact ab_iret d_Store_readNumber_115 rfl (by show _ ≤ C; omega) (by show _ ≤ Sl; omega) (by have hr := Option.some.inj hG; subst hr; exact ⟨rfl, rfl⟩)
        · rw [if_neg q15] at hF
          refine ab_le (lv' := [some (.ref p0), some (.int p1), some (.int p2), some (.int p3), none, none]) ⟨rfl, ⟨rfl, ⟨rfl, ⟨rfl, trivial⟩⟩⟩⟩ ?_
          exact kB_Store_readNumber_85 hF hc0 hs0 hcc hss hC hS
    · rw [if_neg q5] at hF
      refine ab_iload d_Store_readNumber_43 rfl ?_
      refine ab_bipush (v := 8) d_Store_readNumber_45 (by decide) ?_
      refine ab_ishl d_Store_readNumber_47 ?_
      refine ab_aload_n d_Store_readNumber_48 rfl rfl rfl ?_
      obtain ⟨q19, hG⟩ := ck_s hF; clear hF
      obtain ⟨a20, e21, hF⟩ := rf_s hG; clear hG
      refine hp_getR (f := 0) d_Store_readNumber_49 q19 (by decide) rfl (by decide) (k2 186 rfl rfl) rfl e21 ?_
      refine ab_aload_n d_Store_readNumber_52 rfl rfl rfl ?_
      refine hp_getI (f := 5) d_Store_readNumber_53 q19 (by decide) rfl (by decide) (k2 194 rfl rfl) rfl ?_
      refine ab_topi (fun x22 ex22 => ?_)
      replace hF := bnd_s ex22 hF
      refine ab_iload d_Store_readNumber_56 rfl ?_
      refine ab_iadd d_Store_readNumber_58 ?_
      obtain ⟨n23, q24, hG⟩ := ar_s hF; clear hF
      obtain ⟨q25, hF⟩ := ck_s hG; clear hG
      refine hp_bald d_Store_readNumber_59 tB q24 q25 ?_
      refine ab_topi (fun x26 ex26 => ?_)
      replace hF := bnd_s ex26 hF
      refine ab_sipush (v := 255) d_Store_readNumber_60 (by decide) ?_
      refine ab_iand d_Store_readNumber_63 ?_
      refine ab_ior d_Store_readNumber_64 ?_
      refine ab_topi (fun x27 ex27 => ?_)
      replace hF := bnd_s ex27 hF
      refine ab_istore (lv' := [some (.ref p0), some (.int p1), some (.int p2), some (.int p3), some (.int x27), some (.int l5)]) d_Store_readNumber_65 (by decide) rfl ?_
      refine ab_iinc (v := l5 + 1) (lv' := [some (.ref p0), some (.int p1), some (.int p2), some (.int p3), some (.int x27), some (.int (l5 + 1))]) d_Store_readNumber_67 rfl rfl (by decide) rfl ?_
      refine ab_goto (tgt := 37) d_Store_readNumber_70 (by decide) ?_
      exact ih x27 (l5 + 1) H r hF hc0 hs0 hcc hss hC hS
def F_Store_readNumber (N : Nat) (p0 : Nat) (p1 : Int32) (p2 : Int32) (p3 : Int32) (H : Hp) : Option ((Ot Int32) × Hp) :=
    ck (H.sh[p0]? = some (11, 0)) <|
    bnd ((H.D p0 1)) fun x2 =>
    bnd ((H.D p0 5)) fun x3 =>
    if p1 ≤ (x2 - x3) then
    B_Store_readNumber_37 N p0 p1 p2 p3 N 0 0 H
    else
    bnd ((H.D p0 1)) fun x43 =>
    bnd (H.sD p0 2 x43) fun H44 =>
    some (.inr H44.sh.length, H44.nx (17, 0) 6)
set_option maxRecDepth 20000 in
set_option maxHeartbeats 2000000 in
theorem m_Store_readNumber {N : Nat} {p0 : Nat} {p1 : Int32} {p2 : Int32} {p3 : Int32} {H : Hp} {r : (Ot Int32) × Hp} (hF : F_Store_readNumber N p0 p1 p2 p3 H = some r) : Mo H r.2 := by
  unfold F_Store_readNumber at hF
  have hm := Mo.rf H
  obtain ⟨q46, hG⟩ := ck_s hF; clear hF
  obtain ⟨x47, -, hF⟩ := bnd_g hG; clear hG
  obtain ⟨x48, -, hG⟩ := bnd_g hF; clear hF
  rcases ite_s hG with ⟨q_9, hF⟩ | ⟨q_9, hF⟩
  · clear hG
    exact hm.tr (mB_Store_readNumber_37 N 0 0 H r hF)
  · clear hG
    obtain ⟨x50, -, hG⟩ := bnd_g hF; clear hF
    obtain ⟨H51, eH51, hF⟩ := bnd_g hG; clear hG
    replace hm : Mo H H51 := by rw [eH51]; exact hm
    cases hF
    exact hm.tr (Mo.nx _ _ _)
set_option maxRecDepth 20000 in
set_option maxHeartbeats 2000000 in
theorem k_Store_readNumber {N : Nat} {p0 : Nat} {p1 : Int32} {p2 : Int32} {p3 : Int32} {H : Hp} {r : (Ot Int32) × Hp} {C Sl : Nat} (hF : F_Store_readNumber N p0 p1 p2 p3 H = some r) (hC : r.2.sh.length ≤ H.sh.length + C) (hS : r.2.sl ≤ H.sl + Sl) : ab_M y_Store_readNumber { frames := 6, cells := C, slots := Sl, locals := 100 } [.ref p0, .int p1, .int p2, .int p3] (hpw H) (po (oI r.1) r.2) := by
  unfold F_Store_readNumber at hF
  obtain ⟨c0, e0⟩ : ∃ q, q = H.sh.length := ⟨_, rfl⟩
  obtain ⟨s0, e1⟩ : ∃ q, q = H.sl := ⟨_, rfl⟩
  rw [← e0] at hC
  rw [← e1] at hS
  have hc0 : c0 ≤ H.sh.length := Nat.le_of_eq e0
  have hs0 : s0 ≤ H.sl := Nat.le_of_eq e1
  have hcc : H.sh.length ≤ c0 + C := by omega
  have hss : H.sl ≤ s0 + Sl := by omega
  refine ab_of2 (lv := [some (.ref p0), some (.int p1), some (.int p2), some (.int p3), none, none]) 2 rfl rfl (Nat.le_of_ble_eq_true rfl) ?_
  refine ab_widen (cells' := H.sh.length - c0) (slots' := H.sl - s0) (Nat.zero_le _) (Nat.zero_le _) ?_
  refine ab_iload_n d_Store_readNumber_0 rfl rfl ?_
  refine ab_aload_n d_Store_readNumber_1 rfl rfl rfl ?_
  obtain ⟨q1, hG⟩ := ck_s hF; clear hF
  refine hp_getI (f := 1) d_Store_readNumber_2 q1 (by decide) rfl (by decide) (k2 188 rfl rfl) rfl ?_
  refine ab_topi (fun x2 ex2 => ?_)
  replace hG := bnd_s ex2 hG
  refine ab_aload_n d_Store_readNumber_5 rfl rfl rfl ?_
  refine hp_getI (f := 5) d_Store_readNumber_6 q1 (by decide) rfl (by decide) (k2 194 rfl rfl) rfl ?_
  refine ab_topi (fun x3 ex3 => ?_)
  replace hG := bnd_s ex3 hG
  refine ab_isub d_Store_readNumber_9 ?_
  refine ab_icmp_le (tgt := 31) d_Store_readNumber_10 (by decide) (fun q4 => ?_) (fun q4 => ?_)
  · rw [if_pos q4] at hG
    refine ab_iconst (v := 0) d_Store_readNumber_31 (by decide) ?_
    refine ab_istore (lv' := [some (.ref p0), some (.int p1), some (.int p2), some (.int p3), some (.int 0), none]) d_Store_readNumber_32 (by decide) rfl ?_
    refine ab_iconst (v := 0) d_Store_readNumber_34 (by decide) ?_
    refine ab_istore (lv' := [some (.ref p0), some (.int p1), some (.int p2), some (.int p3), some (.int 0), some (.int 0)]) d_Store_readNumber_35 (by decide) rfl ?_
    exact kB_Store_readNumber_37 N 0 0 H r hG hc0 hs0 hcc hss hC hS
  · rw [if_neg q4] at hG
    refine ab_aload_n d_Store_readNumber_13 rfl rfl rfl ?_
    refine ab_aload_n d_Store_readNumber_14 rfl rfl rfl ?_
    refine hp_getI (f := 1) d_Store_readNumber_15 q1 (by decide) rfl (by decide) (k2 188 rfl rfl) rfl ?_
    refine ab_topi (fun x43 ex43 => ?_)
    replace hG := bnd_s ex43 hG
    refine hp_putI (v := x43) (f := 2) d_Store_readNumber_18 q1 (by decide) rfl (by decide) (k2 190 rfl rfl) rfl rfl (fun _ => rfl) (fun _ => rfl) rfl ?_
    refine hp_gen (fun H44 eH44 => ?_)
    replace hG := bnd_s eH44 hG
    have s_8 : Sa H H44 := by rw [eH44]; exact Sa.rf _
    obtain ⟨H45, eH45⟩ : ∃ K, K = H44.nx (17, 0) 6 := ⟨_, rfl⟩
    rw [← eH45] at hG
    cases hG
    have bx : H45.sh.length = H44.sh.length + 1 := by rw [eH45]; simp [Hp.nx, mkH_sh]
    have by_ : H45.sl = H44.sl + 6 := by rw [eH45]; rfl
    have hC9 : H45.sh.length ≤ c0 + C := hC
    have hS9 : H45.sl ≤ s0 + Sl := hS
    have be := congrArg List.length (s_8).1
    have bfx := (s_8).2
    exact hp_throw (ci := 17) (names := ["java/lang/RuntimeException", "java/lang/Exception"]) (k0 := 5) d_Store_readNumber_21 d_Store_readNumber_24 d_Store_readNumber_25 d_Store_readNumber_27 d_Store_readNumber_30 rfl (k8 50 rfl rfl) (k4 102 rfl rfl) (k1 27 rfl rfl) (by decide +kernel) (by decide +kernel) ow_Store_148 (List.mem_of_getElem? (i := 6) rfl) rfl rfl rfl rfl (by show _ ≤ C; omega) (by show _ ≤ Sl; omega) (by show _ ≤ C; omega) (by show _ ≤ Sl; omega) (Nat.le_of_ble_eq_true rfl) (Nat.le_of_ble_eq_true rfl) (by decide) rfl (by rw [← eH45]; exact ⟨rfl, rfl⟩)
