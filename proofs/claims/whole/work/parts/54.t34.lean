def y_Play_confirm : ab_Y := (⟨"WorldEngine$Play", "confirm", "()V"⟩, prog_5_method_17_code, 4, none, [])
theorem d_Play_confirm_0 : decode y_Play_confirm.2.1 0 = .ok (.iconst 0, 1) := by decide +kernel
theorem d_Play_confirm_1 : decode y_Play_confirm.2.1 1 = .ok (.istore_n 1, 1) := by decide +kernel
theorem d_Play_confirm_2 : decode y_Play_confirm.2.1 2 = .ok (.iload_n 1, 1) := by decide +kernel
theorem d_Play_confirm_3 : decode y_Play_confirm.2.1 3 = .ok (.bipush 16, 2) := by decide +kernel
theorem d_Play_confirm_5 : decode y_Play_confirm.2.1 5 = .ok (.if_icmp .ge 133, 3) := by decide +kernel
theorem d_Play_confirm_8 : decode y_Play_confirm.2.1 8 = .ok (.aload_n 0, 1) := by decide +kernel
theorem d_Play_confirm_9 : decode y_Play_confirm.2.1 9 = .ok (.getfield 57, 3) := by decide +kernel
theorem d_Play_confirm_12 : decode y_Play_confirm.2.1 12 = .ok (.aload_n 0, 1) := by decide +kernel
theorem d_Play_confirm_13 : decode y_Play_confirm.2.1 13 = .ok (.getfield 10, 3) := by decide +kernel
theorem d_Play_confirm_16 : decode y_Play_confirm.2.1 16 = .ok (.getfield 54, 3) := by decide +kernel
theorem d_Play_confirm_19 : decode y_Play_confirm.2.1 19 = .ok (.if_icmp .ge 119, 3) := by decide +kernel
theorem d_Play_confirm_22 : decode y_Play_confirm.2.1 22 = .ok (.aload_n 0, 1) := by decide +kernel
theorem d_Play_confirm_23 : decode y_Play_confirm.2.1 23 = .ok (.aload_n 0, 1) := by decide +kernel
theorem d_Play_confirm_24 : decode y_Play_confirm.2.1 24 = .ok (.getfield 57, 3) := by decide +kernel
theorem d_Play_confirm_27 : decode y_Play_confirm.2.1 27 = .ok (.iconst 1, 1) := by decide +kernel
theorem d_Play_confirm_28 : decode y_Play_confirm.2.1 28 = .ok (.iadd, 1) := by decide +kernel
theorem d_Play_confirm_29 : decode y_Play_confirm.2.1 29 = .ok (.invokevirtual 116, 3) := by decide +kernel
theorem d_Play_confirm_32 : decode y_Play_confirm.2.1 32 = .ok (.ifCond .eq 106, 3) := by decide +kernel
theorem d_Play_confirm_35 : decode y_Play_confirm.2.1 35 = .ok (.aload_n 0, 1) := by decide +kernel
theorem d_Play_confirm_36 : decode y_Play_confirm.2.1 36 = .ok (.dup, 1) := by decide +kernel
theorem d_Play_confirm_37 : decode y_Play_confirm.2.1 37 = .ok (.getfield 57, 3) := by decide +kernel
theorem d_Play_confirm_40 : decode y_Play_confirm.2.1 40 = .ok (.iconst 1, 1) := by decide +kernel
theorem d_Play_confirm_41 : decode y_Play_confirm.2.1 41 = .ok (.iadd, 1) := by decide +kernel
theorem d_Play_confirm_42 : decode y_Play_confirm.2.1 42 = .ok (.putfield 57, 3) := by decide +kernel
theorem d_Play_confirm_45 : decode y_Play_confirm.2.1 45 = .ok (.iconst 0, 1) := by decide +kernel
theorem d_Play_confirm_46 : decode y_Play_confirm.2.1 46 = .ok (.istore_n 2, 1) := by decide +kernel
theorem d_Play_confirm_47 : decode y_Play_confirm.2.1 47 = .ok (.iload_n 2, 1) := by decide +kernel
theorem d_Play_confirm_48 : decode y_Play_confirm.2.1 48 = .ok (.iconst 4, 1) := by decide +kernel
theorem d_Play_confirm_49 : decode y_Play_confirm.2.1 49 = .ok (.if_icmp .ge 46, 3) := by decide +kernel
theorem d_Play_confirm_52 : decode y_Play_confirm.2.1 52 = .ok (.iload_n 2, 1) := by decide +kernel
theorem d_Play_confirm_53 : decode y_Play_confirm.2.1 53 = .ok (.aload_n 0, 1) := by decide +kernel
theorem d_Play_confirm_54 : decode y_Play_confirm.2.1 54 = .ok (.getfield 57, 3) := by decide +kernel
theorem d_Play_confirm_57 : decode y_Play_confirm.2.1 57 = .ok (.invokestatic 91, 3) := by decide +kernel
theorem d_Play_confirm_60 : decode y_Play_confirm.2.1 60 = .ok (.istore_n 3, 1) := by decide +kernel
theorem d_Play_confirm_61 : decode y_Play_confirm.2.1 61 = .ok (.aload_n 0, 1) := by decide +kernel
theorem d_Play_confirm_62 : decode y_Play_confirm.2.1 62 = .ok (.getfield 35, 3) := by decide +kernel
theorem d_Play_confirm_65 : decode y_Play_confirm.2.1 65 = .ok (.iload_n 3, 1) := by decide +kernel
theorem d_Play_confirm_66 : decode y_Play_confirm.2.1 66 = .ok (.baload, 1) := by decide +kernel
theorem d_Play_confirm_67 : decode y_Play_confirm.2.1 67 = .ok (.ifCond .eq 22, 3) := by decide +kernel
theorem d_Play_confirm_70 : decode y_Play_confirm.2.1 70 = .ok (.aload_n 0, 1) := by decide +kernel
theorem d_Play_confirm_71 : decode y_Play_confirm.2.1 71 = .ok (.getfield 42, 3) := by decide +kernel
theorem d_Play_confirm_74 : decode y_Play_confirm.2.1 74 = .ok (.iload_n 2, 1) := by decide +kernel
theorem d_Play_confirm_75 : decode y_Play_confirm.2.1 75 = .ok (.aload_n 0, 1) := by decide +kernel
theorem d_Play_confirm_76 : decode y_Play_confirm.2.1 76 = .ok (.getfield 39, 3) := by decide +kernel
theorem d_Play_confirm_79 : decode y_Play_confirm.2.1 79 = .ok (.iload_n 3, 1) := by decide +kernel
theorem d_Play_confirm_80 : decode y_Play_confirm.2.1 80 = .ok (.iaload, 1) := by decide +kernel
theorem d_Play_confirm_81 : decode y_Play_confirm.2.1 81 = .ok (.iastore, 1) := by decide +kernel
theorem d_Play_confirm_82 : decode y_Play_confirm.2.1 82 = .ok (.aload_n 0, 1) := by decide +kernel
theorem d_Play_confirm_83 : decode y_Play_confirm.2.1 83 = .ok (.getfield 35, 3) := by decide +kernel
theorem d_Play_confirm_86 : decode y_Play_confirm.2.1 86 = .ok (.iload_n 3, 1) := by decide +kernel
theorem d_Play_confirm_87 : decode y_Play_confirm.2.1 87 = .ok (.iconst 0, 1) := by decide +kernel
theorem d_Play_confirm_88 : decode y_Play_confirm.2.1 88 = .ok (.bastore, 1) := by decide +kernel
theorem d_Play_confirm_89 : decode y_Play_confirm.2.1 89 = .ok (.iinc 2 1, 3) := by decide +kernel
theorem d_Play_confirm_92 : decode y_Play_confirm.2.1 92 = .ok (.goto (-45), 3) := by decide +kernel
theorem d_Play_confirm_95 : decode y_Play_confirm.2.1 95 = .ok (.aload_n 0, 1) := by decide +kernel
theorem d_Play_confirm_96 : decode y_Play_confirm.2.1 96 = .ok (.aload_n 0, 1) := by decide +kernel
theorem d_Play_confirm_97 : decode y_Play_confirm.2.1 97 = .ok (.getfield 57, 3) := by decide +kernel
theorem d_Play_confirm_100 : decode y_Play_confirm.2.1 100 = .ok (.aload_n 0, 1) := by decide +kernel
theorem d_Play_confirm_101 : decode y_Play_confirm.2.1 101 = .ok (.getfield 10, 3) := by decide +kernel
theorem d_Play_confirm_104 : decode y_Play_confirm.2.1 104 = .ok (.getfield 54, 3) := by decide +kernel
theorem d_Play_confirm_107 : decode y_Play_confirm.2.1 107 = .ok (.if_icmp .ne 10, 3) := by decide +kernel
theorem d_Play_confirm_110 : decode y_Play_confirm.2.1 110 = .ok (.aload_n 0, 1) := by decide +kernel
theorem d_Play_confirm_111 : decode y_Play_confirm.2.1 111 = .ok (.getfield 10, 3) := by decide +kernel
theorem d_Play_confirm_114 : decode y_Play_confirm.2.1 114 = .ok (.goto 15, 3) := by decide +kernel
theorem d_Play_confirm_117 : decode y_Play_confirm.2.1 117 = .ok (.aload_n 0, 1) := by decide +kernel
theorem d_Play_confirm_118 : decode y_Play_confirm.2.1 118 = .ok (.getfield 16, 3) := by decide +kernel
theorem d_Play_confirm_121 : decode y_Play_confirm.2.1 121 = .ok (.aload_n 0, 1) := by decide +kernel
theorem d_Play_confirm_122 : decode y_Play_confirm.2.1 122 = .ok (.getfield 57, 3) := by decide +kernel
theorem d_Play_confirm_125 : decode y_Play_confirm.2.1 125 = .ok (.bipush 15, 2) := by decide +kernel
theorem d_Play_confirm_127 : decode y_Play_confirm.2.1 127 = .ok (.iand, 1) := by decide +kernel
theorem d_Play_confirm_128 : decode y_Play_confirm.2.1 128 = .ok (.aaload, 1) := by decide +kernel
theorem d_Play_confirm_129 : decode y_Play_confirm.2.1 129 = .ok (.invokevirtual 120, 3) := by decide +kernel
theorem d_Play_confirm_132 : decode y_Play_confirm.2.1 132 = .ok (.iinc 1 1, 3) := by decide +kernel
theorem d_Play_confirm_135 : decode y_Play_confirm.2.1 135 = .ok (.goto (-133), 3) := by decide +kernel
theorem d_Play_confirm_138 : decode y_Play_confirm.2.1 138 = .ok (.return_, 1) := by decide +kernel
theorem s_Play_confirm : ab_Stat y_Play_confirm 0 := ⟨(k7 133 rfl rfl), (k1 9 rfl rfl), ⟨by decide, by decide⟩, by decide +kernel⟩
theorem i_Play_confirm : Cond.instanceMethod y_Play_confirm.1 ∈ ab_T := (k7 132 rfl rfl)
theorem v_Play_confirm : Cond.selects "WorldEngine$Play" y_Play_confirm.1 y_Play_confirm.1 ∈ ab_T := ab_s (List.mem_of_getElem? (i := 88) rfl) rfl
def B_Play_confirm_129 (N : Nat) (p0 : Nat) (kq2 : Int32 → Hp → Option (Unit × Hp)) (l1 : Int32) (w0 : Nat) (w1 : Nat) (H : Hp) : Option (Unit × Hp) :=
    ck (H.sh[w0]? = some (10, 0)) <|
    bC (F_Play_tell N w0 w1 H) fun v34 H35 =>
    kq2 (l1 + 1) H35
set_option maxRecDepth 20000 in
set_option maxHeartbeats 2000000 in
theorem mB_Play_confirm_129 {N : Nat} {p0 : Nat} {kq2 : Int32 → Hp → Option (Unit × Hp)} (hm2 : ∀ (l1 : Int32) (H : Hp) (r : Unit × Hp), kq2 l1 H = some r → Sa H r.2) {l1 : Int32} {w0 : Nat} {w1 : Nat} {H : Hp} {r : Unit × Hp} (hF : B_Play_confirm_129 N p0 kq2 l1 w0 w1 H = some r) : Sa H r.2 := by
  unfold B_Play_confirm_129 at hF
  have hm := Sa.rf H
  obtain ⟨q36, hG⟩ := ck_s hF; clear hF
  obtain ⟨v38, H39, z37, hF⟩ := bC_s hG; clear hG
  replace hm : Sa H H39 := hm.tr (m_Play_tell z37)
  exact hm.tr (hm2 (l1 + 1) H39 r hF)
set_option maxRecDepth 20000 in
set_option maxHeartbeats 2000000 in
theorem kB_Play_confirm_129 {N : Nat} {p0 : Nat} {kq2 : Int32 → Hp → Option (Unit × Hp)} (hm2 : ∀ (l1 : Int32) (H : Hp) (r : Unit × Hp), kq2 l1 H = some r → Sa H r.2) (hk2 : ∀ (l1 : Int32) (H : Hp) (r : Unit × Hp), kq2 l1 H = some r → ab_V y_Play_confirm { frames := 2, cells := 0, slots := 0, locals := 43 } (po (.returned none) r.2) 0 0 0 0 2 [some (.ref p0), some (.int l1), none, none] [] (hpw H)) {l1 : Int32} {w0 : Nat} {w1 : Nat} {H : Hp} {r : Unit × Hp} (hF : B_Play_confirm_129 N p0 kq2 l1 w0 w1 H = some r) : ab_V y_Play_confirm { frames := 2, cells := 0, slots := 0, locals := 43 } (po (.returned none) r.2) 0 0 0 0 129 [some (.ref p0), some (.int l1), none, none] [.ref w1, .ref w0] (hpw H) := by
  unfold B_Play_confirm_129 at hF
  obtain ⟨q32, hG⟩ := ck_s hF; clear hF
  obtain ⟨v34, H35, z33, hF⟩ := bC_s hG; clear hG
  refine hp_callV_v (H1 := H35) (As := [.ref w1]) (rest := []) d_Play_confirm_129 (k_Play_tell z33) (ab_mkC s_Play_tell (Nat.le_of_ble_eq_true rfl) (Nat.le_of_ble_eq_true rfl) (Nat.le_refl 0) (Nat.le_refl 0)) (k7 138 rfl rfl) i_Play_tell v_Play_tell q32 (by decide) rfl rfl (Nat.le_of_ble_eq_true rfl) ?_
  have s_3 : Sa H H35 := (m_Play_tell z33)
  refine ab_iinc (v := l1 + 1) (lv' := [some (.ref p0), some (.int (l1 + 1)), none, none]) d_Play_confirm_132 rfl rfl (by decide) rfl ?_
  refine ab_goto (tgt := 2) d_Play_confirm_135 (by decide) ?_
  exact hk2 (l1 + 1) H35 r hF
def B_Play_confirm_89 (N : Nat) (p0 : Nat) (kq2 : Int32 → Hp → Option (Unit × Hp)) (kq47 : Int32 → Int32 → Hp → Option (Unit × Hp)) (l1 : Int32) (l2 : Int32) (H : Hp) : Option (Unit × Hp) :=
    kq47 l1 (l2 + 1) H
set_option maxRecDepth 20000 in
set_option maxHeartbeats 2000000 in
theorem mB_Play_confirm_89 {N : Nat} {p0 : Nat} {kq2 : Int32 → Hp → Option (Unit × Hp)} {kq47 : Int32 → Int32 → Hp → Option (Unit × Hp)} (hm2 : ∀ (l1 : Int32) (H : Hp) (r : Unit × Hp), kq2 l1 H = some r → Sa H r.2) (hm47 : ∀ (l1 : Int32) (l2 : Int32) (H : Hp) (r : Unit × Hp), kq47 l1 l2 H = some r → Sa H r.2) {l1 : Int32} {l2 : Int32} {H : Hp} {r : Unit × Hp} (hF : B_Play_confirm_89 N p0 kq2 kq47 l1 l2 H = some r) : Sa H r.2 := by
  unfold B_Play_confirm_89 at hF
  have hm := Sa.rf H
  exact hm.tr (hm47 l1 (l2 + 1) H r hF)
set_option maxRecDepth 20000 in
set_option maxHeartbeats 2000000 in
theorem kB_Play_confirm_89 {N : Nat} {p0 : Nat} {kq2 : Int32 → Hp → Option (Unit × Hp)} {kq47 : Int32 → Int32 → Hp → Option (Unit × Hp)} (hm2 : ∀ (l1 : Int32) (H : Hp) (r : Unit × Hp), kq2 l1 H = some r → Sa H r.2) (hm47 : ∀ (l1 : Int32) (l2 : Int32) (H : Hp) (r : Unit × Hp), kq47 l1 l2 H = some r → Sa H r.2) (hk2 : ∀ (l1 : Int32) (H : Hp) (r : Unit × Hp), kq2 l1 H = some r → ab_V y_Play_confirm { frames := 2, cells := 0, slots := 0, locals := 43 } (po (.returned none) r.2) 0 0 0 0 2 [some (.ref p0), some (.int l1), none, none] [] (hpw H)) (hk47 : ∀ (l1 : Int32) (l2 : Int32) (H : Hp) (r : Unit × Hp), kq47 l1 l2 H = some r → ab_V y_Play_confirm { frames := 2, cells := 0, slots := 0, locals := 43 } (po (.returned none) r.2) 0 0 0 0 47 [some (.ref p0), some (.int l1), some (.int l2), none] [] (hpw H)) {l1 : Int32} {l2 : Int32} {H : Hp} {r : Unit × Hp} (hF : B_Play_confirm_89 N p0 kq2 kq47 l1 l2 H = some r) : ab_V y_Play_confirm { frames := 2, cells := 0, slots := 0, locals := 43 } (po (.returned none) r.2) 0 0 0 0 89 [some (.ref p0), some (.int l1), some (.int l2), none] [] (hpw H) := by
  unfold B_Play_confirm_89 at hF
  refine ab_iinc (v := l2 + 1) (lv' := [some (.ref p0), some (.int l1), some (.int (l2 + 1)), none]) d_Play_confirm_89 rfl rfl (by decide) rfl ?_
  refine ab_goto (tgt := 47) d_Play_confirm_92 (by decide) ?_
  exact hk47 l1 (l2 + 1) H r hF
def B_Play_confirm_47 (N : Nat) (p0 : Nat) (kq2 : Int32 → Hp → Option (Unit × Hp)) : Nat → Int32 → Int32 → Hp → Option (Unit × Hp)
  | 0, _, _, _ => none
  | n + 1, l1, l2, H =>
    if (4 : Int32) ≤ l2 then
    ck (H.sh[p0]? = some (10, 0)) <|
    bnd ((H.D p0 1)) fun x18 =>
    rf (H.P p0 0) fun a19 =>
    ck (H.sh[a19]? = some (7, 0)) <|
    bnd ((H.D a19 0)) fun x22 =>
    if x18 = x22 then
    rf (H.P p0 0) fun a40 =>
    B_Play_confirm_129 N p0 kq2 l1 p0 a40 H
    else
    rf (H.P p0 6) fun a24 =>
    bnd ((H.D p0 1)) fun x26 =>
    ar H 105 a24 fun n27 =>
    ck (inb (x26 &&& (15 : Int32)) n27) <|
    rf (H.P a24 ((x26 &&& (15 : Int32))).toNatClampNeg) fun a30 =>
    B_Play_confirm_129 N p0 kq2 l1 p0 a30 H
    else
    ck (H.sh[p0]? = some (10, 0)) <|
    bnd ((H.D p0 1)) fun x43 =>
    bC (F_Play_slot N l2 x43 H) fun v45 H46 =>
    rf (H46.P p0 8) fun a47 =>
    ar H46 102 a47 fun n49 =>
    ck (inb v45 n49) <|
    bnd ((H46.D a47 (v45).toNatClampNeg)) fun x52 =>
    if x52 = (0 : Int32) then
    B_Play_confirm_89 N p0 kq2 (fun l1 l2 H => B_Play_confirm_47 N p0 kq2 n l1 l2 H) l1 l2 H46
    else
    rf (H46.P p0 10) fun a54 =>
    rf (H46.P p0 9) fun a56 =>
    ar H46 100 a56 fun n58 =>
    ck (inb v45 n58) <|
    bnd ((H46.D a56 (v45).toNatClampNeg)) fun x61 =>
    ar H46 100 a54 fun n62 =>
    ck (inb l2 n62) <|
    bnd (H46.sD a54 (l2).toNatClampNeg x61) fun H65 =>
    rf (H65.P p0 8) fun a66 =>
    ar H65 102 a66 fun n68 =>
    ck (inb v45 n68) <|
    bnd (H65.sD a66 (v45).toNatClampNeg (vp_nar .boolean (0 : Int32))) fun H71 =>
    B_Play_confirm_89 N p0 kq2 (fun l1 l2 H => B_Play_confirm_47 N p0 kq2 n l1 l2 H) l1 l2 H71
termination_by structural n => n
set_option maxRecDepth 20000 in
set_option maxHeartbeats 2000000 in
theorem mB_Play_confirm_47 {N : Nat} {p0 : Nat} {kq2 : Int32 → Hp → Option (Unit × Hp)} (hm2 : ∀ (l1 : Int32) (H : Hp) (r : Unit × Hp), kq2 l1 H = some r → Sa H r.2) : ∀ (n : Nat) (l1 : Int32) (l2 : Int32) (H : Hp) (r : Unit × Hp), B_Play_confirm_47 N p0 kq2 n l1 l2 H = some r → Sa H r.2 := by
  intro n
  induction n with
  | zero => intro l1 l2 H r hF; rw [B_Play_confirm_47] at hF; cases hF
  | succ n ih =>
    intro l1 l2 H r hF
    rw [B_Play_confirm_47] at hF
    have hm := Sa.rf H
    rcases ite_s hF with ⟨q_8, hG⟩ | ⟨q_8, hG⟩
    · clear hF
      obtain ⟨q73, hF⟩ := ck_s hG; clear hG
      obtain ⟨x74, -, hG⟩ := bnd_g hF; clear hF
      obtain ⟨a75, e76, hF⟩ := rf_s hG; clear hG
      obtain ⟨q77, hG⟩ := ck_s hF; clear hF
      obtain ⟨x78, -, hF⟩ := bnd_g hG; clear hG
      rcases ite_s hF with ⟨q_9, hG⟩ | ⟨q_9, hG⟩
      · clear hF
        obtain ⟨a80, e81, hF⟩ := rf_s hG; clear hG
        exact hm.tr (mB_Play_confirm_129 hm2 hF)
      · clear hF
        obtain ⟨a82, e83, hF⟩ := rf_s hG; clear hG
        obtain ⟨x84, -, hG⟩ := bnd_g hF; clear hF
        obtain ⟨n85, q86, hF⟩ := ar_s hG; clear hG
        obtain ⟨q87, hG⟩ := ck_s hF; clear hF
        obtain ⟨a88, e89, hF⟩ := rf_s hG; clear hG
        exact hm.tr (mB_Play_confirm_129 hm2 hF)
    · clear hF
      obtain ⟨q90, hF⟩ := ck_s hG; clear hG
      obtain ⟨x91, -, hG⟩ := bnd_g hF; clear hF
      obtain ⟨v93, H94, z92, hF⟩ := bC_s hG; clear hG
      replace hm : Sa H H94 := hm.tr (m_Play_slot z92)
      obtain ⟨a95, e96, hG⟩ := rf_s hF; clear hF
      obtain ⟨n97, q98, hF⟩ := ar_s hG; clear hG
      obtain ⟨q99, hG⟩ := ck_s hF; clear hF
      obtain ⟨x100, -, hF⟩ := bnd_g hG; clear hG
      rcases ite_s hF with ⟨q_11, hG⟩ | ⟨q_11, hG⟩
      · clear hF
        exact hm.tr (mB_Play_confirm_89 hm2 ih hG)
      · clear hF
        obtain ⟨a102, e103, hF⟩ := rf_s hG; clear hG
        obtain ⟨a104, e105, hG⟩ := rf_s hF; clear hF
        obtain ⟨n106, q107, hF⟩ := ar_s hG; clear hG
        obtain ⟨q108, hG⟩ := ck_s hF; clear hF
        obtain ⟨x109, -, hF⟩ := bnd_g hG; clear hG
        obtain ⟨n110, q111, hG⟩ := ar_s hF; clear hF
        obtain ⟨q112, hF⟩ := ck_s hG; clear hG
        obtain ⟨H113, eH113, hG⟩ := bnd_g hF; clear hF
        replace hm : Sa H H113 := by rw [eH113]; exact hm
        obtain ⟨a114, e115, hF⟩ := rf_s hG; clear hG
        obtain ⟨n116, q117, hG⟩ := ar_s hF; clear hF
        obtain ⟨q118, hF⟩ := ck_s hG; clear hG
        obtain ⟨H119, eH119, hG⟩ := bnd_g hF; clear hF
        replace hm : Sa H H119 := by rw [eH119]; exact hm
        exact hm.tr (mB_Play_confirm_89 hm2 ih hG)
set_option maxRecDepth 20000 in
set_option maxHeartbeats 2000000 in
theorem kB_Play_confirm_47 {N : Nat} {p0 : Nat} {kq2 : Int32 → Hp → Option (Unit × Hp)} (hm2 : ∀ (l1 : Int32) (H : Hp) (r : Unit × Hp), kq2 l1 H = some r → Sa H r.2) (hk2 : ∀ (l1 : Int32) (H : Hp) (r : Unit × Hp), kq2 l1 H = some r → ab_V y_Play_confirm { frames := 2, cells := 0, slots := 0, locals := 43 } (po (.returned none) r.2) 0 0 0 0 2 [some (.ref p0), some (.int l1), none, none] [] (hpw H)) : ∀ (n : Nat) (l1 : Int32) (l2 : Int32) (H : Hp) (r : Unit × Hp), B_Play_confirm_47 N p0 kq2 n l1 l2 H = some r → ab_V y_Play_confirm { frames := 2, cells := 0, slots := 0, locals := 43 } (po (.returned none) r.2) 0 0 0 0 47 [some (.ref p0), some (.int l1), some (.int l2), none] [] (hpw H) := by
  intro n
  induction n with
  | zero => intro l1 l2 H r hF; rw [B_Play_confirm_47] at hF; cases hF
  | succ n ih =>
    intro l1 l2 H r hF
    rw [B_Play_confirm_47] at hF
    refine ab_iload_n d_Play_confirm_47 rfl rfl ?_
    refine ab_iconst (v := 4) d_Play_confirm_48 (by decide) ?_
    refine ab_icmp_ge (tgt := 95) d_Play_confirm_49 (by decide) (fun q16 => ?_) (fun q16 => ?_)
    · rw [if_pos q16] at hF
      refine ab_aload_n d_Play_confirm_95 rfl rfl rfl ?_
      refine ab_aload_n d_Play_confirm_96 rfl rfl rfl ?_
      obtain ⟨q17, hG⟩ := ck_s hF; clear hF
      refine hp_getI (f := 1) d_Play_confirm_97 q17 (by decide) rfl (by decide) (k2 132 rfl rfl) rfl ?_
      refine ab_topi (fun x18 ex18 => ?_)
      replace hG := bnd_s ex18 hG
      refine ab_aload_n d_Play_confirm_100 rfl rfl rfl ?_
      obtain ⟨a19, e20, hF⟩ := rf_s hG; clear hG
      refine hp_getR (f := 0) d_Play_confirm_101 q17 (by decide) rfl (by decide) (k2 130 rfl rfl) rfl e20 ?_
      obtain ⟨q21, hG⟩ := ck_s hF; clear hF
      refine hp_getI (f := 0) d_Play_confirm_104 q21 (by decide) rfl (by decide) (k1 205 rfl rfl) rfl ?_
      refine ab_topi (fun x22 ex22 => ?_)
      replace hG := bnd_s ex22 hG
      refine ab_icmp_ne (tgt := 117) d_Play_confirm_107 (by decide) (fun q23 => ?_) (fun q23 => ?_)
      · rw [if_neg q23] at hG
        refine ab_aload_n d_Play_confirm_117 rfl rfl rfl ?_
        obtain ⟨a24, e25, hF⟩ := rf_s hG; clear hG
        refine hp_getR (f := 6) d_Play_confirm_118 q17 (by decide) rfl (by decide) (k2 142 rfl rfl) rfl e25 ?_
        refine ab_aload_n d_Play_confirm_121 rfl rfl rfl ?_
        refine hp_getI (f := 1) d_Play_confirm_122 q17 (by decide) rfl (by decide) (k2 132 rfl rfl) rfl ?_
        refine ab_topi (fun x26 ex26 => ?_)
        replace hF := bnd_s ex26 hF
        refine ab_bipush (v := 15) d_Play_confirm_125 (by decide) ?_
        refine ab_iand d_Play_confirm_127 ?_
        obtain ⟨n27, q28, hG⟩ := ar_s hF; clear hF
        obtain ⟨q29, hF⟩ := ck_s hG; clear hG
        obtain ⟨a30, e31, hG⟩ := rf_s hF; clear hF
        refine hp_aald (q := 105) d_Play_confirm_128 (by decide) tW q28 q29 e31 ?_
        refine ab_le (lv' := [some (.ref p0), some (.int l1), none, none]) ⟨rfl, ⟨rfl, trivial⟩⟩ ?_
        exact kB_Play_confirm_129 hm2 hk2 hG
      · rw [if_pos q23] at hG
        refine ab_aload_n d_Play_confirm_110 rfl rfl rfl ?_
        obtain ⟨a40, e41, hF⟩ := rf_s hG; clear hG
        refine hp_getR (f := 0) d_Play_confirm_111 q17 (by decide) rfl (by decide) (k2 130 rfl rfl) rfl e41 ?_
        refine ab_goto (tgt := 129) d_Play_confirm_114 (by decide) ?_
        refine ab_le (lv' := [some (.ref p0), some (.int l1), none, none]) ⟨rfl, ⟨rfl, trivial⟩⟩ ?_
        exact kB_Play_confirm_129 hm2 hk2 hF
    · rw [if_neg q16] at hF
      refine ab_iload_n d_Play_confirm_52 rfl rfl ?_
      refine ab_aload_n d_Play_confirm_53 rfl rfl rfl ?_
      obtain ⟨q42, hG⟩ := ck_s hF; clear hF
      refine hp_getI (f := 1) d_Play_confirm_54 q42 (by decide) rfl (by decide) (k2 132 rfl rfl) rfl ?_
      refine ab_topi (fun x43 ex43 => ?_)
      replace hG := bnd_s ex43 hG
      obtain ⟨v45, H46, z44, hF⟩ := bC_s hG; clear hG
      refine hp_callS_a (v := .int v45) (H1 := H46) (As := [.int l2, .int x43]) (rest := []) d_Play_confirm_57 (k_Play_slot z44) (ab_mkC s_Play_slot (Nat.le_of_ble_eq_true rfl) (Nat.le_of_ble_eq_true rfl) (Nat.le_refl 0) (Nat.le_refl 0)) (k6 181 rfl rfl) t_Play_slot rfl (Nat.le_of_ble_eq_true rfl) ?_
      have s_5 : Sa H H46 := (m_Play_slot z44)
      refine ab_istore_n (lv' := [some (.ref p0), some (.int l1), some (.int l2), some (.int v45)]) d_Play_confirm_60 rfl (by decide) rfl ?_
      refine ab_aload_n d_Play_confirm_61 rfl rfl rfl ?_
      obtain ⟨a47, e48, hG⟩ := rf_s hF; clear hF
      refine hp_getR (f := 8) d_Play_confirm_62 (by rw [(s_5).1]; exact q42) (by decide) rfl (by decide) (k2 144 rfl rfl) rfl e48 ?_
      refine ab_iload_n d_Play_confirm_65 rfl rfl ?_
      obtain ⟨n49, q50, hF⟩ := ar_s hG; clear hG
      rw [(s_5).1] at q50
      obtain ⟨q51, hG⟩ := ck_s hF; clear hF
      refine hp_zald d_Play_confirm_66 tZ (by rw [(s_5).1]; exact q50) q51 ?_
      refine ab_topi (fun x52 ex52 => ?_)
      replace hG := bnd_s ex52 hG
      refine ab_if_eq (tgt := 89) d_Play_confirm_67 (by decide) (fun q53 => ?_) (fun q53 => ?_)
      · rw [if_pos q53] at hG
        refine ab_le (lv' := [some (.ref p0), some (.int l1), some (.int l2), none]) ⟨rfl, ⟨rfl, ⟨rfl, trivial⟩⟩⟩ ?_
        exact kB_Play_confirm_89 hm2 (mB_Play_confirm_47 hm2 n) hk2 ih hG
      · rw [if_neg q53] at hG
        refine ab_aload_n d_Play_confirm_70 rfl rfl rfl ?_
        obtain ⟨a54, e55, hF⟩ := rf_s hG; clear hG
        refine hp_getR (f := 10) d_Play_confirm_71 (by rw [(s_5).1]; exact q42) (by decide) rfl (by decide) (k2 146 rfl rfl) rfl e55 ?_
        refine ab_iload_n d_Play_confirm_74 rfl rfl ?_
        refine ab_aload_n d_Play_confirm_75 rfl rfl rfl ?_
        obtain ⟨a56, e57, hG⟩ := rf_s hF; clear hF
        refine hp_getR (f := 9) d_Play_confirm_76 (by rw [(s_5).1]; exact q42) (by decide) rfl (by decide) (k2 145 rfl rfl) rfl e57 ?_
        refine ab_iload_n d_Play_confirm_79 rfl rfl ?_
        obtain ⟨n58, q59, hF⟩ := ar_s hG; clear hG
        rw [(s_5).1] at q59
        obtain ⟨q60, hG⟩ := ck_s hF; clear hF
        refine hp_iald d_Play_confirm_80 tI (by rw [(s_5).1]; exact q59) q60 ?_
        refine ab_topi (fun x61 ex61 => ?_)
        replace hG := bnd_s ex61 hG
        obtain ⟨n62, q63, hF⟩ := ar_s hG; clear hG
        rw [(s_5).1] at q63
        obtain ⟨q64, hG⟩ := ck_s hF; clear hF
        refine hp_iast d_Play_confirm_81 tI (by rw [(s_5).1]; exact q63) q64 ?_
        refine hp_gen (fun H65 eH65 => ?_)
        replace hG := bnd_s eH65 hG
        have s_6 : Sa H H65 := by rw [eH65]; exact s_5
        refine ab_aload_n d_Play_confirm_82 rfl rfl rfl ?_
        obtain ⟨a66, e67, hF⟩ := rf_s hG; clear hG
        refine hp_getR (f := 8) d_Play_confirm_83 (by rw [(s_6).1]; exact q42) (by decide) rfl (by decide) (k2 144 rfl rfl) rfl e67 ?_
        refine ab_iload_n d_Play_confirm_86 rfl rfl ?_
        refine ab_iconst (v := 0) d_Play_confirm_87 (by decide) ?_
        obtain ⟨n68, q69, hG⟩ := ar_s hF; clear hF
        rw [(s_6).1] at q69
        obtain ⟨q70, hF⟩ := ck_s hG; clear hG
        refine hp_zast d_Play_confirm_88 tZ (by rw [(s_6).1]; exact q69) q70 ?_
        refine hp_gen (fun H71 eH71 => ?_)
        replace hF := bnd_s eH71 hF
        have s_7 : Sa H H71 := by rw [eH71]; exact s_6
        refine ab_le (lv' := [some (.ref p0), some (.int l1), some (.int l2), none]) ⟨rfl, ⟨rfl, ⟨rfl, trivial⟩⟩⟩ ?_
        exact kB_Play_confirm_89 hm2 (mB_Play_confirm_47 hm2 n) hk2 ih hF
def B_Play_confirm_2 (N : Nat) (p0 : Nat) : Nat → Int32 → Hp → Option (Unit × Hp)
  | 0, _, _ => none
  | n + 1, l1, H =>
    if (16 : Int32) ≤ l1 then
    some ((), H)
    else
    ck (H.sh[p0]? = some (10, 0)) <|
    bnd ((H.D p0 1)) fun x3 =>
    rf (H.P p0 0) fun a4 =>
    ck (H.sh[a4]? = some (7, 0)) <|
    bnd ((H.D a4 0)) fun x7 =>
    if x7 ≤ x3 then
    some ((), H)
    else
    bnd ((H.D p0 1)) fun x9 =>
    bC (F_Play_isKnown N p0 (x9 + (1 : Int32)) H) fun v11 H12 =>
    if v11 = (0 : Int32) then
    some ((), H12)
    else
    bnd ((H12.D p0 1)) fun x14 =>
    bnd (H12.sD p0 1 (x14 + (1 : Int32))) fun H15 =>
    B_Play_confirm_47 N p0 (fun l1 H => B_Play_confirm_2 N p0 n l1 H) N l1 0 H15
termination_by structural n => n
set_option maxRecDepth 20000 in
set_option maxHeartbeats 2000000 in
theorem mB_Play_confirm_2 {N : Nat} {p0 : Nat} : ∀ (n : Nat) (l1 : Int32) (H : Hp) (r : Unit × Hp), B_Play_confirm_2 N p0 n l1 H = some r → Sa H r.2 := by
  intro n
  induction n with
  | zero => intro l1 H r hF; rw [B_Play_confirm_2] at hF; cases hF
  | succ n ih =>
    intro l1 H r hF
    rw [B_Play_confirm_2] at hF
    have hm := Sa.rf H
    rcases ite_s hF with ⟨q_14, hG⟩ | ⟨q_14, hG⟩
    · clear hF
      have hr := Option.some.inj hG; subst hr
      exact hm
    · clear hF
      obtain ⟨q121, hF⟩ := ck_s hG; clear hG
      obtain ⟨x122, -, hG⟩ := bnd_g hF; clear hF
      obtain ⟨a123, e124, hF⟩ := rf_s hG; clear hG
      obtain ⟨q125, hG⟩ := ck_s hF; clear hF
      obtain ⟨x126, -, hF⟩ := bnd_g hG; clear hG
      rcases ite_s hF with ⟨q_15, hG⟩ | ⟨q_15, hG⟩
      · clear hF
        have hr := Option.some.inj hG; subst hr
        exact hm
      · clear hF
        obtain ⟨x128, -, hF⟩ := bnd_g hG; clear hG
        obtain ⟨v130, H131, z129, hG⟩ := bC_s hF; clear hF
        replace hm : Sa H H131 := hm.tr (m_Play_isKnown z129)
        rcases ite_s hG with ⟨q_17, hF⟩ | ⟨q_17, hF⟩
        · clear hG
          have hr := Option.some.inj hF; subst hr
          exact hm
        · clear hG
          obtain ⟨x133, -, hG⟩ := bnd_g hF; clear hF
          obtain ⟨H134, eH134, hF⟩ := bnd_g hG; clear hG
          replace hm : Sa H H134 := by rw [eH134]; exact hm
          exact hm.tr (mB_Play_confirm_47 ih N l1 0 H134 r hF)
set_option maxRecDepth 20000 in
set_option maxHeartbeats 2000000 in
theorem kB_Play_confirm_2 {N : Nat} {p0 : Nat} : ∀ (n : Nat) (l1 : Int32) (H : Hp) (r : Unit × Hp), B_Play_confirm_2 N p0 n l1 H = some r → ab_V y_Play_confirm { frames := 2, cells := 0, slots := 0, locals := 43 } (po (.returned none) r.2) 0 0 0 0 2 [some (.ref p0), some (.int l1), none, none] [] (hpw H) := by
  intro n
  induction n with
  | zero => intro l1 H r hF; rw [B_Play_confirm_2] at hF; cases hF
  | succ n ih =>
    intro l1 H r hF
    rw [B_Play_confirm_2] at hF
    refine ab_iload_n d_Play_confirm_2 rfl rfl ?_
    refine ab_bipush (v := 16) d_Play_confirm_3 (by decide) ?_
    refine ab_icmp_ge (tgt := 138) d_Play_confirm_5 (by decide) (fun q1 => ?_) (fun q1 => ?_)
    · rw [if_pos q1] at hF
      exact ab_vret d_Play_confirm_138 rfl (Nat.le_refl _) (Nat.le_refl _) (by have hr := Option.some.inj hF; subst hr; exact ⟨rfl, rfl⟩)
    · rw [if_neg q1] at hF
      refine ab_aload_n d_Play_confirm_8 rfl rfl rfl ?_
      obtain ⟨q2, hG⟩ := ck_s hF; clear hF
      refine hp_getI (f := 1) d_Play_confirm_9 q2 (by decide) rfl (by decide) (k2 132 rfl rfl) rfl ?_
      refine ab_topi (fun x3 ex3 => ?_)
      replace hG := bnd_s ex3 hG
      refine ab_aload_n d_Play_confirm_12 rfl rfl rfl ?_
      obtain ⟨a4, e5, hF⟩ := rf_s hG; clear hG
      refine hp_getR (f := 0) d_Play_confirm_13 q2 (by decide) rfl (by decide) (k2 130 rfl rfl) rfl e5 ?_
      obtain ⟨q6, hG⟩ := ck_s hF; clear hF
      refine hp_getI (f := 0) d_Play_confirm_16 q6 (by decide) rfl (by decide) (k1 205 rfl rfl) rfl ?_
      refine ab_topi (fun x7 ex7 => ?_)
      replace hG := bnd_s ex7 hG
      refine ab_icmp_ge (tgt := 138) d_Play_confirm_19 (by decide) (fun q8 => ?_) (fun q8 => ?_)
      · rw [if_pos q8] at hG
        exact ab_vret d_Play_confirm_138 rfl (Nat.le_refl _) (Nat.le_refl _) (by have hr := Option.some.inj hG; subst hr; exact ⟨rfl, rfl⟩)
      · rw [if_neg q8] at hG
        refine ab_aload_n d_Play_confirm_22 rfl rfl rfl ?_
        refine ab_aload_n d_Play_confirm_23 rfl rfl rfl ?_
        refine hp_getI (f := 1) d_Play_confirm_24 q2 (by decide) rfl (by decide) (k2 132 rfl rfl) rfl ?_
        refine ab_topi (fun x9 ex9 => ?_)
        replace hG := bnd_s ex9 hG
        refine ab_iconst (v := 1) d_Play_confirm_27 (by decide) ?_
        refine ab_iadd d_Play_confirm_28 ?_
        obtain ⟨v11, H12, z10, hF⟩ := bC_s hG; clear hG
        refine hp_callV_a (v := .int v11) (H1 := H12) (As := [.int (x9 + (1 : Int32))]) (rest := []) d_Play_confirm_29 (k_Play_isKnown z10) (ab_mkC s_Play_isKnown (Nat.le_of_ble_eq_true rfl) (Nat.le_of_ble_eq_true rfl) (Nat.le_refl 0) (Nat.le_refl 0)) (k7 134 rfl rfl) i_Play_isKnown v_Play_isKnown q2 (by decide) rfl rfl (Nat.le_of_ble_eq_true rfl) ?_
        have s_1 : Sa H H12 := (m_Play_isKnown z10)
        refine ab_if_eq (tgt := 138) d_Play_confirm_32 (by decide) (fun q13 => ?_) (fun q13 => ?_)
        · rw [if_pos q13] at hF
          exact ab_vret d_Play_confirm_138 rfl (Nat.le_refl _) (Nat.le_refl _) (by have hr := Option.some.inj hF; subst hr; exact ⟨rfl, rfl⟩)
        · rw [if_neg q13] at hF
          refine ab_aload_n d_Play_confirm_35 rfl rfl rfl ?_
          refine ab_dup d_Play_confirm_36 rfl ?_
          refine hp_getI (f := 1) d_Play_confirm_37 (by rw [(s_1).1]; exact q2) (by decide) rfl (by decide) (k2 132 rfl rfl) rfl ?_
          refine ab_topi (fun x14 ex14 => ?_)
          replace hF := bnd_s ex14 hF
          refine ab_iconst (v := 1) d_Play_confirm_40 (by decide) ?_
          refine ab_iadd d_Play_confirm_41 ?_
          refine hp_putI (v := x14 + (1 : Int32)) (f := 1) d_Play_confirm_42 (by rw [(s_1).1]; exact q2) (by decide) rfl (by decide) (k2 132 rfl rfl) rfl rfl (fun _ => rfl) (fun _ => rfl) rfl ?_
          refine hp_gen (fun H15 eH15 => ?_)
          replace hF := bnd_s eH15 hF
          have s_2 : Sa H H15 := by rw [eH15]; exact s_1
          refine ab_iconst (v := 0) d_Play_confirm_45 (by decide) ?_
          refine ab_istore_n (lv' := [some (.ref p0), some (.int l1), some (.int 0), none]) d_Play_confirm_46 rfl (by decide) rfl ?_
          exact kB_Play_confirm_47 (mB_Play_confirm_2 n) ih N l1 0 H15 r hF
def F_Play_confirm (N : Nat) (p0 : Nat) (H : Hp) : Option (Unit × Hp) :=
    B_Play_confirm_2 N p0 N 0 H
set_option maxRecDepth 20000 in
set_option maxHeartbeats 2000000 in
theorem m_Play_confirm {N : Nat} {p0 : Nat} {H : Hp} {r : Unit × Hp} (hF : F_Play_confirm N p0 H = some r) : Sa H r.2 := by
  unfold F_Play_confirm at hF
  have hm := Sa.rf H
  exact hm.tr (mB_Play_confirm_2 N 0 H r hF)
set_option maxRecDepth 20000 in
set_option maxHeartbeats 2000000 in
theorem k_Play_confirm {N : Nat} {p0 : Nat} {H : Hp} {r : Unit × Hp} (hF : F_Play_confirm N p0 H = some r) : ab_M y_Play_confirm { frames := 2, cells := 0, slots := 0, locals := 43 } [.ref p0] (hpw H) (po (.returned none) r.2) := by
  unfold F_Play_confirm at hF
  refine ab_of2 (lv := [some (.ref p0), none, none, none]) 3 rfl rfl (Nat.le_of_ble_eq_true rfl) ?_
  refine ab_iconst (v := 0) d_Play_confirm_0 (by decide) ?_
  refine ab_istore_n (lv' := [some (.ref p0), some (.int 0), none, none]) d_Play_confirm_1 rfl (by decide) rfl ?_
  exact kB_Play_confirm_2 N 0 H r hF
def y_Play_goOn : ab_Y := (⟨"WorldEngine$Play", "goOn", "(LWorldEngine$Program;)V"⟩, prog_5_method_11_code, 2, none, [])
theorem d_Play_goOn_0 : decode y_Play_goOn.2.1 0 = .ok (.aload_n 0, 1) := by decide +kernel
theorem d_Play_goOn_1 : decode y_Play_goOn.2.1 1 = .ok (.getfield 45, 3) := by decide +kernel
theorem d_Play_goOn_4 : decode y_Play_goOn.2.1 4 = .ok (.aload_n 0, 1) := by decide +kernel
theorem d_Play_goOn_5 : decode y_Play_goOn.2.1 5 = .ok (.getfield 10, 3) := by decide +kernel
theorem d_Play_goOn_8 : decode y_Play_goOn.2.1 8 = .ok (.getfield 54, 3) := by decide +kernel
theorem d_Play_goOn_11 : decode y_Play_goOn.2.1 11 = .ok (.iconst 1, 1) := by decide +kernel
theorem d_Play_goOn_12 : decode y_Play_goOn.2.1 12 = .ok (.iadd, 1) := by decide +kernel
theorem d_Play_goOn_13 : decode y_Play_goOn.2.1 13 = .ok (.bipush 15, 2) := by decide +kernel
theorem d_Play_goOn_15 : decode y_Play_goOn.2.1 15 = .ok (.iand, 1) := by decide +kernel
theorem d_Play_goOn_16 : decode y_Play_goOn.2.1 16 = .ok (.aload_n 0, 1) := by decide +kernel
theorem d_Play_goOn_17 : decode y_Play_goOn.2.1 17 = .ok (.getfield 20, 3) := by decide +kernel
theorem d_Play_goOn_20 : decode y_Play_goOn.2.1 20 = .ok (.iastore, 1) := by decide +kernel
theorem d_Play_goOn_21 : decode y_Play_goOn.2.1 21 = .ok (.aload_n 0, 1) := by decide +kernel
theorem d_Play_goOn_22 : decode y_Play_goOn.2.1 22 = .ok (.invokevirtual 95, 3) := by decide +kernel
theorem d_Play_goOn_25 : decode y_Play_goOn.2.1 25 = .ok (.aload_n 0, 1) := by decide +kernel
theorem d_Play_goOn_26 : decode y_Play_goOn.2.1 26 = .ok (.getfield 31, 3) := by decide +kernel
theorem d_Play_goOn_29 : decode y_Play_goOn.2.1 29 = .ok (.aload_n 1, 1) := by decide +kernel
theorem d_Play_goOn_30 : decode y_Play_goOn.2.1 30 = .ok (.aload_n 0, 1) := by decide +kernel
theorem d_Play_goOn_31 : decode y_Play_goOn.2.1 31 = .ok (.getfield 10, 3) := by decide +kernel
theorem d_Play_goOn_34 : decode y_Play_goOn.2.1 34 = .ok (.aload_n 0, 1) := by decide +kernel
theorem d_Play_goOn_35 : decode y_Play_goOn.2.1 35 = .ok (.getfield 51, 3) := by decide +kernel
theorem d_Play_goOn_38 : decode y_Play_goOn.2.1 38 = .ok (.invokevirtual 98, 3) := by decide +kernel
theorem d_Play_goOn_41 : decode y_Play_goOn.2.1 41 = .ok (.aload_n 0, 1) := by decide +kernel
theorem d_Play_goOn_42 : decode y_Play_goOn.2.1 42 = .ok (.invokevirtual 102, 3) := by decide +kernel
theorem d_Play_goOn_45 : decode y_Play_goOn.2.1 45 = .ok (.return_, 1) := by decide +kernel
theorem s_Play_goOn : ab_Stat y_Play_goOn 1 := ⟨(k6 172 rfl rfl), (k1 9 rfl rfl), ⟨by decide, by decide⟩, by decide +kernel⟩
theorem i_Play_goOn : Cond.instanceMethod y_Play_goOn.1 ∈ ab_T := (k6 170 rfl rfl)
theorem v_Play_goOn : Cond.selects "WorldEngine$Play" y_Play_goOn.1 y_Play_goOn.1 ∈ ab_T := (k6 171 rfl rfl)
def F_Play_goOn (N : Nat) (p0 : Nat) (p1 : Nat) (H : Hp) : Option (Unit × Hp) :=
    ck (H.sh[p0]? = some (10, 0)) <|
    rf (H.P p0 11) fun a2 =>
    rf (H.P p0 0) fun a4 =>
    ck (H.sh[a4]? = some (7, 0)) <|
    bnd ((H.D a4 0)) fun x7 =>
    bnd ((H.D p0 2)) fun x8 =>
    ar H 100 a2 fun n9 =>
    ck (inb ((x7 + (1 : Int32)) &&& (15 : Int32)) n9) <|
    bnd (H.sD a2 (((x7 + (1 : Int32)) &&& (15 : Int32))).toNatClampNeg x8) fun H12 =>
    bC (F_Play_prepareNext N p0 H12) fun v14 H15 =>
    rf (H15.P p0 7) fun a16 =>
    rf (H15.P p0 0) fun a18 =>
    rf (H15.P p0 13) fun a20 =>
    ck (H15.sh[a16]? = some (9, 0)) <|
    bC (F_Ticker_runTick N a16 p1 a18 a20 H15) fun v24 H25 =>
    bC (F_Play_confirm N p0 H25) fun v27 H28 =>
    some ((), H28)
set_option maxRecDepth 20000 in
set_option maxHeartbeats 2000000 in
theorem m_Play_goOn {N : Nat} {p0 : Nat} {p1 : Nat} {H : Hp} {r : Unit × Hp} (hF : F_Play_goOn N p0 p1 H = some r) : Mo H r.2 := by
  unfold F_Play_goOn at hF
  have hm := Mo.rf H
  obtain ⟨q29, hG⟩ := ck_s hF; clear hF
  obtain ⟨a30, e31, hF⟩ := rf_s hG; clear hG
  obtain ⟨a32, e33, hG⟩ := rf_s hF; clear hF
  obtain ⟨q34, hF⟩ := ck_s hG; clear hG
  obtain ⟨x35, -, hG⟩ := bnd_g hF; clear hF
  obtain ⟨x36, -, hF⟩ := bnd_g hG; clear hG
  obtain ⟨n37, q38, hG⟩ := ar_s hF; clear hF
  obtain ⟨q39, hF⟩ := ck_s hG; clear hG
  obtain ⟨H40, eH40, hG⟩ := bnd_g hF; clear hF
  replace hm : Mo H H40 := by rw [eH40]; exact hm
  obtain ⟨v42, H43, z41, hF⟩ := bC_s hG; clear hG
  replace hm : Mo H H43 := hm.tr ((m_Play_prepareNext z41)).mo
  obtain ⟨a44, e45, hG⟩ := rf_s hF; clear hF
  obtain ⟨a46, e47, hF⟩ := rf_s hG; clear hG
  obtain ⟨a48, e49, hG⟩ := rf_s hF; clear hF
  obtain ⟨q50, hF⟩ := ck_s hG; clear hG
  obtain ⟨v52, H53, z51, hG⟩ := bC_s hF; clear hF
  replace hm : Mo H H53 := hm.tr (m_Ticker_runTick z51)
  obtain ⟨v55, H56, z54, hF⟩ := bC_s hG; clear hG
  replace hm : Mo H H56 := hm.tr ((m_Play_confirm z54)).mo
  have hr := Option.some.inj hF; subst hr
  exact hm
set_option maxRecDepth 20000 in
set_option maxHeartbeats 2000000 in
theorem k_Play_goOn {N : Nat} {p0 : Nat} {p1 : Nat} {H : Hp} {r : Unit × Hp} {C Sl : Nat} (hF : F_Play_goOn N p0 p1 H = some r) (hC : r.2.sh.length ≤ H.sh.length + C) (hS : r.2.sl ≤ H.sl + Sl) : ab_M y_Play_goOn { frames := 7, cells := C, slots := Sl, locals := 195 } [.ref p0, .ref p1] (hpw H) (po (.returned none) r.2) := by
  unfold F_Play_goOn at hF
  obtain ⟨c0, e0⟩ : ∃ q, q = H.sh.length := ⟨_, rfl⟩
  obtain ⟨s0, e1⟩ : ∃ q, q = H.sl := ⟨_, rfl⟩
  rw [← e0] at hC
  rw [← e1] at hS
  have hc0 : c0 ≤ H.sh.length := Nat.le_of_eq e0
  have hs0 : s0 ≤ H.sl := Nat.le_of_eq e1
  have hcc : H.sh.length ≤ c0 + C := by omega
  have hss : H.sl ≤ s0 + Sl := by omega
  refine ab_of2 (lv := [some (.ref p0), some (.ref p1)]) 0 rfl rfl (Nat.le_of_ble_eq_true rfl) ?_
  refine ab_widen (cells' := H.sh.length - c0) (slots' := H.sl - s0) (Nat.zero_le _) (Nat.zero_le _) ?_
  refine ab_aload_n d_Play_goOn_0 rfl rfl rfl ?_
  obtain ⟨q1, hG⟩ := ck_s hF; clear hF
  obtain ⟨a2, e3, hF⟩ := rf_s hG; clear hG
  refine hp_getR (f := 11) d_Play_goOn_1 q1 (by decide) rfl (by decide) (k2 147 rfl rfl) rfl e3 ?_
  refine ab_aload_n d_Play_goOn_4 rfl rfl rfl ?_
  obtain ⟨a4, e5, hG⟩ := rf_s hF; clear hF
  refine hp_getR (f := 0) d_Play_goOn_5 q1 (by decide) rfl (by decide) (k2 130 rfl rfl) rfl e5 ?_
  obtain ⟨q6, hF⟩ := ck_s hG; clear hG
  refine hp_getI (f := 0) d_Play_goOn_8 q6 (by decide) rfl (by decide) (k1 205 rfl rfl) rfl ?_
  refine ab_topi (fun x7 ex7 => ?_)
  replace hF := bnd_s ex7 hF
  refine ab_iconst (v := 1) d_Play_goOn_11 (by decide) ?_
  refine ab_iadd d_Play_goOn_12 ?_
  refine ab_bipush (v := 15) d_Play_goOn_13 (by decide) ?_
  refine ab_iand d_Play_goOn_15 ?_
  refine ab_aload_n d_Play_goOn_16 rfl rfl rfl ?_
  refine hp_getI (f := 2) d_Play_goOn_17 q1 (by decide) rfl (by decide) (k2 134 rfl rfl) rfl ?_
  refine ab_topi (fun x8 ex8 => ?_)
  replace hF := bnd_s ex8 hF
  obtain ⟨n9, q10, hG⟩ := ar_s hF; clear hF
  obtain ⟨q11, hF⟩ := ck_s hG; clear hG
  refine hp_iast d_Play_goOn_20 tI q10 q11 ?_
  refine hp_gen (fun H12 eH12 => ?_)
  replace hF := bnd_s eH12 hF
  have s_1 : Sa H H12 := by rw [eH12]; exact Sa.rf _
  refine ab_aload_n d_Play_goOn_21 rfl rfl rfl ?_
  obtain ⟨v14, H15, z13, hG⟩ := bC_s hF; clear hF
  refine ab_widen (cells' := H12.sh.length - c0) (slots' := H12.sl - s0) (by rw [(s_1).1]; exact Nat.le_refl _) (by rw [(s_1).2]; exact Nat.le_refl _) ?_
  have b_2e := congrArg List.length (s_1).1
  have b_2f := (s_1).2
  refine hp_callV_v (H1 := H15) (As := []) (rest := []) d_Play_goOn_22 (k_Play_prepareNext z13) (ab_mkC s_Play_prepareNext (Nat.le_of_ble_eq_true rfl) (Nat.le_of_ble_eq_true rfl) (show (H12.sh.length - c0) + 0 ≤ C from by omega) (show (H12.sl - s0) + 0 ≤ Sl from by omega)) (k6 173 rfl rfl) i_Play_prepareNext v_Play_prepareNext (by rw [(s_1).1]; exact q1) (by decide) rfl rfl (Nat.le_of_ble_eq_true rfl) ?_
  have s_3 : Sa H H15 := (s_1).tr (m_Play_prepareNext z13)
  refine ab_widen (cells' := H.sh.length - c0) (slots' := H.sl - s0) (by show (H12.sh.length - c0) + 0 ≤ _; omega) (by show (H12.sl - s0) + 0 ≤ _; omega) ?_
  clear b_2e b_2f
  refine ab_aload_n d_Play_goOn_25 rfl rfl rfl ?_
  obtain ⟨a16, e17, hF⟩ := rf_s hG; clear hG
  refine hp_getR (f := 7) d_Play_goOn_26 (by rw [(s_3).1]; exact q1) (by decide) rfl (by decide) (k2 143 rfl rfl) rfl e17 ?_
  refine ab_aload_n d_Play_goOn_29 rfl rfl rfl ?_
  refine ab_aload_n d_Play_goOn_30 rfl rfl rfl ?_
  obtain ⟨a18, e19, hG⟩ := rf_s hF; clear hF
  refine hp_getR (f := 0) d_Play_goOn_31 (by rw [(s_3).1]; exact q1) (by decide) rfl (by decide) (k2 130 rfl rfl) rfl e19 ?_
  refine ab_aload_n d_Play_goOn_34 rfl rfl rfl ?_
  obtain ⟨a20, e21, hF⟩ := rf_s hG; clear hG
  refine hp_getR (f := 13) d_Play_goOn_35 (by rw [(s_3).1]; exact q1) (by decide) rfl (by decide) (k2 149 rfl rfl) rfl e21 ?_
  obtain ⟨q22, hG⟩ := ck_s hF; clear hF
  rw [(s_3).1] at q22
  obtain ⟨v24, H25, z23, hF⟩ := bC_s hG; clear hG
  refine ab_widen (cells' := H15.sh.length - c0) (slots' := H15.sl - s0) (by rw [(s_3).1]; exact Nat.le_refl _) (by rw [(s_3).2]; exact Nat.le_refl _) ?_
  have mz_4 : Mo H15 H25 := (m_Ticker_runTick z23)
  have b_5l := (mz_4).len
  have b_5s := (mz_4).2
  have b_5e := congrArg List.length (s_3).1
  have b_5f := (s_3).2
  have b_5c : c0 ≤ H25.sh.length := by omega
  have b_5d : s0 ≤ H25.sl := by omega
  have q_6 := (mz_4).get (by rw [(s_3).1]; exact q1)
  have q_7 := (mz_4).get (by rw [(s_3).1]; exact q6)
  have q_8 := (mz_4).get (by rw [(s_3).1]; exact q10)
  have q_9 := (mz_4).get (by rw [(s_3).1]; exact q22)
  obtain ⟨v27, H28, z26, hG⟩ := bC_s hF; clear hF
  have jH28 : Mo H25 H28 := ((m_Play_confirm z26)).mo
  have fH28 : Mo H28 r.2 := by
    have hm := Mo.rf H28
    have hr := Option.some.inj hG; subst hr
    exact hm
  have fH25 : Mo H25 r.2 := jH28.tr fH28
  have b_5m := (fH25).len
  have b_5n := (fH25).2
  have b_5p : H25.sh.length ≤ c0 + C := by omega
  have b_5q : H25.sl ≤ s0 + Sl := by omega
  refine hp_callV_v (H1 := H25) (As := [.ref p1, .ref a18, .ref a20]) (rest := []) d_Play_goOn_38 (k_Ticker_runTick z23 (C := H25.sh.length - H15.sh.length) (Sl := H25.sl - H15.sl) (by show H25.sh.length ≤ _; omega) (by show H25.sl ≤ _; omega)) (ab_mkC s_Ticker_runTick (Nat.le_of_ble_eq_true rfl) (Nat.le_of_ble_eq_true rfl) (show (H15.sh.length - c0) + (H25.sh.length - H15.sh.length) ≤ C from by omega) (show (H15.sl - s0) + (H25.sl - H15.sl) ≤ Sl from by omega)) (k6 184 rfl rfl) i_Ticker_runTick v_Ticker_runTick (by rw [(s_3).1]; exact q22) (by decide) rfl rfl (Nat.le_of_ble_eq_true rfl) ?_
  refine ab_widen (cells' := H25.sh.length - c0) (slots' := H25.sl - s0) (by show _ + (H25.sh.length - H15.sh.length) ≤ _; omega) (by show _ + (H25.sl - H15.sl) ≤ _; omega) ?_
  clear b_5l b_5s b_5m b_5n b_5e b_5f
  refine ab_aload_n d_Play_goOn_41 rfl rfl rfl ?_
  refine hp_callV_v (H1 := H28) (As := []) (rest := []) d_Play_goOn_42 (k_Play_confirm z26) (ab_mkC s_Play_confirm (Nat.le_of_ble_eq_true rfl) (Nat.le_of_ble_eq_true rfl) (show (H25.sh.length - c0) + 0 ≤ C from by omega) (show (H25.sl - s0) + 0 ≤ Sl from by omega)) (k7 130 rfl rfl) i_Play_confirm v_Play_confirm q_6 (by decide) rfl rfl (Nat.le_of_ble_eq_true rfl) ?_
  have s_12 : Sa H25 H28 := (m_Play_confirm z26)
  refine ab_widen (cells' := H25.sh.length - c0) (slots' := H25.sl - s0) (by show (H25.sh.length - c0) + 0 ≤ _; omega) (by show (H25.sl - s0) + 0 ≤ _; omega) ?_
  exact ab_vret d_Play_goOn_45 rfl (by show _ ≤ C; omega) (by show _ ≤ Sl; omega) (by have hr := Option.some.inj hG; subst hr; exact ⟨rfl, rfl⟩)
def y_W_step : ab_Y := (⟨"WorldEngine", "step", "()I"⟩, prog_1_method_8_code, 1, (some FieldType.int), [])
theorem d_W_step_0 : decode y_W_step.2.1 0 = .ok (.aload_n 0, 1) := by decide +kernel
theorem d_W_step_1 : decode y_W_step.2.1 1 = .ok (.getfield 28, 3) := by decide +kernel
theorem d_W_step_4 : decode y_W_step.2.1 4 = .ok (.invokevirtual 118, 3) := by decide +kernel
theorem d_W_step_7 : decode y_W_step.2.1 7 = .ok (.ifCond .eq 5, 3) := by decide +kernel
theorem d_W_step_10 : decode y_W_step.2.1 10 = .ok (.iconst (-1), 1) := by decide +kernel
theorem d_W_step_11 : decode y_W_step.2.1 11 = .ok (.ireturn, 1) := by decide +kernel
theorem d_W_step_12 : decode y_W_step.2.1 12 = .ok (.aload_n 0, 1) := by decide +kernel
theorem d_W_step_13 : decode y_W_step.2.1 13 = .ok (.getfield 62, 3) := by decide +kernel
theorem d_W_step_16 : decode y_W_step.2.1 16 = .ok (.aload_n 0, 1) := by decide +kernel
theorem d_W_step_17 : decode y_W_step.2.1 17 = .ok (.getfield 66, 3) := by decide +kernel
theorem d_W_step_20 : decode y_W_step.2.1 20 = .ok (.iconst (-1), 1) := by decide +kernel
theorem d_W_step_21 : decode y_W_step.2.1 21 = .ok (.ixor, 1) := by decide +kernel
theorem d_W_step_22 : decode y_W_step.2.1 22 = .ok (.iand, 1) := by decide +kernel
theorem d_W_step_23 : decode y_W_step.2.1 23 = .ok (.ifCond .ne 6, 3) := by decide +kernel
theorem d_W_step_26 : decode y_W_step.2.1 26 = .ok (.bipush (-2), 2) := by decide +kernel
theorem d_W_step_28 : decode y_W_step.2.1 28 = .ok (.ireturn, 1) := by decide +kernel
theorem d_W_step_29 : decode y_W_step.2.1 29 = .ok (.aload_n 0, 1) := by decide +kernel
theorem d_W_step_30 : decode y_W_step.2.1 30 = .ok (.getfield 49, 3) := by decide +kernel
theorem d_W_step_33 : decode y_W_step.2.1 33 = .ok (.ifCond .ne 6, 3) := by decide +kernel
theorem d_W_step_36 : decode y_W_step.2.1 36 = .ok (.bipush (-3), 2) := by decide +kernel
theorem d_W_step_38 : decode y_W_step.2.1 38 = .ok (.ireturn, 1) := by decide +kernel
theorem d_W_step_39 : decode y_W_step.2.1 39 = .ok (.aload_n 0, 1) := by decide +kernel
theorem d_W_step_40 : decode y_W_step.2.1 40 = .ok (.getfield 28, 3) := by decide +kernel
theorem d_W_step_43 : decode y_W_step.2.1 43 = .ok (.getfield 121, 3) := by decide +kernel
theorem d_W_step_46 : decode y_W_step.2.1 46 = .ok (.getfield 125, 3) := by decide +kernel
theorem d_W_step_49 : decode y_W_step.2.1 49 = .ok (.ldc 130, 2) := by decide +kernel
theorem d_W_step_51 : decode y_W_step.2.1 51 = .ok (.if_icmp .lt 6, 3) := by decide +kernel
theorem d_W_step_54 : decode y_W_step.2.1 54 = .ok (.bipush (-4), 2) := by decide +kernel
theorem d_W_step_56 : decode y_W_step.2.1 56 = .ok (.ireturn, 1) := by decide +kernel
theorem d_W_step_57 : decode y_W_step.2.1 57 = .ok (.aload_n 0, 1) := by decide +kernel
theorem d_W_step_58 : decode y_W_step.2.1 58 = .ok (.getfield 28, 3) := by decide +kernel
theorem d_W_step_61 : decode y_W_step.2.1 61 = .ok (.aload_n 0, 1) := by decide +kernel
theorem d_W_step_62 : decode y_W_step.2.1 62 = .ok (.getfield 42, 3) := by decide +kernel
theorem d_W_step_65 : decode y_W_step.2.1 65 = .ok (.invokevirtual 131, 3) := by decide +kernel
theorem d_W_step_68 : decode y_W_step.2.1 68 = .ok (.aload_n 0, 1) := by decide +kernel
theorem d_W_step_69 : decode y_W_step.2.1 69 = .ok (.dup, 1) := by decide +kernel
theorem d_W_step_70 : decode y_W_step.2.1 70 = .ok (.getfield 62, 3) := by decide +kernel
theorem d_W_step_73 : decode y_W_step.2.1 73 = .ok (.aload_n 0, 1) := by decide +kernel
theorem d_W_step_74 : decode y_W_step.2.1 74 = .ok (.getfield 66, 3) := by decide +kernel
theorem d_W_step_77 : decode y_W_step.2.1 77 = .ok (.iconst (-1), 1) := by decide +kernel
theorem d_W_step_78 : decode y_W_step.2.1 78 = .ok (.ixor, 1) := by decide +kernel
theorem d_W_step_79 : decode y_W_step.2.1 79 = .ok (.iand, 1) := by decide +kernel
theorem d_W_step_80 : decode y_W_step.2.1 80 = .ok (.putfield 62, 3) := by decide +kernel
theorem d_W_step_83 : decode y_W_step.2.1 83 = .ok (.aload_n 0, 1) := by decide +kernel
theorem d_W_step_84 : decode y_W_step.2.1 84 = .ok (.iconst 0, 1) := by decide +kernel
theorem d_W_step_85 : decode y_W_step.2.1 85 = .ok (.putfield 66, 3) := by decide +kernel
theorem d_W_step_88 : decode y_W_step.2.1 88 = .ok (.aload_n 0, 1) := by decide +kernel
theorem d_W_step_89 : decode y_W_step.2.1 89 = .ok (.getfield 28, 3) := by decide +kernel
theorem d_W_step_92 : decode y_W_step.2.1 92 = .ok (.getfield 121, 3) := by decide +kernel
theorem d_W_step_95 : decode y_W_step.2.1 95 = .ok (.getfield 125, 3) := by decide +kernel
theorem d_W_step_98 : decode y_W_step.2.1 98 = .ok (.ireturn, 1) := by decide +kernel
theorem s_W_step : ab_Stat y_W_step 0 := ⟨(k6 163 rfl rfl), (k1 1 rfl rfl), ⟨by decide, by decide⟩, by decide +kernel⟩
theorem i_W_step : Cond.instanceMethod y_W_step.1 ∈ ab_T := (k6 161 rfl rfl)
theorem v_W_step : Cond.selects "WorldEngine" y_W_step.1 y_W_step.1 ∈ ab_T := (k6 162 rfl rfl)
def F_W_step (N : Nat) (p0 : Nat) (H : Hp) : Option (Int32 × Hp) :=
    ck (H.sh[p0]? = some (0, 0)) <|
    rf (H.P p0 2) fun a2 =>
    ck (H.sh[a2]? = some (10, 0)) <|
    bC (F_Play_isFullyAhead N a2 H) fun v6 H7 =>
    if v6 = (0 : Int32) then
    bnd ((H7.D p0 7)) fun x9 =>
    bnd ((H7.D p0 8)) fun x10 =>
    if (x9 &&& (x10 ^^^ ((-1) : Int32))) = (0 : Int32) then
    some ((-2), H7)
    else
    bnd ((H7.D p0 6)) fun x12 =>
    if x12 = (0 : Int32) then
    some ((-3), H7)
    else
    rf (H7.P p0 2) fun a14 =>
    ck (H7.sh[a14]? = some (10, 0)) <|
    rf (H7.P a14 0) fun a17 =>
    ck (H7.sh[a17]? = some (7, 0)) <|
    bnd ((H7.D a17 0)) fun x20 =>
    if x20 < (1000000000 : Int32) then
    rf (H7.P p0 2) fun a22 =>
    rf (H7.P p0 4) fun a24 =>
    ck (H7.sh[a22]? = some (10, 0)) <|
    bC (F_Play_goOn N a22 a24 H7) fun v28 H29 =>
    bnd ((H29.D p0 7)) fun x30 =>
    bnd ((H29.D p0 8)) fun x31 =>
    bnd (H29.sD p0 7 (x30 &&& (x31 ^^^ ((-1) : Int32)))) fun H32 =>
    bnd (H32.sD p0 8 (0 : Int32)) fun H33 =>
    rf (H33.P p0 2) fun a34 =>
    ck (H33.sh[a34]? = some (10, 0)) <|
    rf (H33.P a34 0) fun a37 =>
    ck (H33.sh[a37]? = some (7, 0)) <|
    bnd ((H33.D a37 0)) fun x40 =>
    some (x40, H33)
    else
    some ((-4), H7)
    else
    some ((-1), H7)
set_option maxRecDepth 20000 in
set_option maxHeartbeats 2000000 in
theorem m_W_step {N : Nat} {p0 : Nat} {H : Hp} {r : Int32 × Hp} (hF : F_W_step N p0 H = some r) : Mo H r.2 := by
  unfold F_W_step at hF
  have hm := Mo.rf H
  obtain ⟨q41, hG⟩ := ck_s hF; clear hF
  obtain ⟨a42, e43, hF⟩ := rf_s hG; clear hG
  obtain ⟨q44, hG⟩ := ck_s hF; clear hF
  obtain ⟨v46, H47, z45, hF⟩ := bC_s hG; clear hG
  replace hm : Mo H H47 := hm.tr ((m_Play_isFullyAhead z45)).mo
  rcases ite_s hF with ⟨q_14, hG⟩ | ⟨q_14, hG⟩
  · clear hF
    obtain ⟨x49, -, hF⟩ := bnd_g hG; clear hG
    obtain ⟨x50, -, hG⟩ := bnd_g hF; clear hF
    rcases ite_s hG with ⟨q_15, hF⟩ | ⟨q_15, hF⟩
    · clear hG
      have hr := Option.some.inj hF; subst hr
      exact hm
    · clear hG
      obtain ⟨x52, -, hG⟩ := bnd_g hF; clear hF
      rcases ite_s hG with ⟨q_16, hF⟩ | ⟨q_16, hF⟩
      · clear hG
        have hr := Option.some.inj hF; subst hr
        exact hm
      · clear hG
        obtain ⟨a54, e55, hG⟩ := rf_s hF; clear hF
        obtain ⟨q56, hF⟩ := ck_s hG; clear hG
        obtain ⟨a57, e58, hG⟩ := rf_s hF; clear hF
        obtain ⟨q59, hF⟩ := ck_s hG; clear hG
        obtain ⟨x60, -, hG⟩ := bnd_g hF; clear hF
        rcases ite_s hG with ⟨q_17, hF⟩ | ⟨q_17, hF⟩
        · clear hG
          obtain ⟨a62, e63, hG⟩ := rf_s hF; clear hF
          obtain ⟨a64, e65, hF⟩ := rf_s hG; clear hG
          obtain ⟨q66, hG⟩ := ck_s hF; clear hF
          obtain ⟨v68, H69, z67, hF⟩ := bC_s hG; clear hG
          replace hm : Mo H H69 := hm.tr (m_Play_goOn z67)
          obtain ⟨x70, -, hG⟩ := bnd_g hF; clear hF
          obtain ⟨x71, -, hF⟩ := bnd_g hG; clear hG
          obtain ⟨H72, eH72, hG⟩ := bnd_g hF; clear hF
          replace hm : Mo H H72 := by rw [eH72]; exact hm
          obtain ⟨H73, eH73, hF⟩ := bnd_g hG; clear hG
          replace hm : Mo H H73 := by rw [eH73]; exact hm
          obtain ⟨a74, e75, hG⟩ := rf_s hF; clear hF
          obtain ⟨q76, hF⟩ := ck_s hG; clear hG
          obtain ⟨a77, e78, hG⟩ := rf_s hF; clear hF
          obtain ⟨q79, hF⟩ := ck_s hG; clear hG
          obtain ⟨x80, -, hG⟩ := bnd_g hF; clear hF
          have hr := Option.some.inj hG; subst hr
          exact hm
        · clear hG
          have hr := Option.some.inj hF; subst hr
          exact hm
  · clear hF
    have hr := Option.some.inj hG; subst hr
    exact hm
set_option maxRecDepth 20000 in
set_option maxHeartbeats 2000000 in
theorem k_W_step {N : Nat} {p0 : Nat} {H : Hp} {r : Int32 × Hp} {C Sl : Nat} (hF : F_W_step N p0 H = some r) (hC : r.2.sh.length ≤ H.sh.length + C) (hS : r.2.sl ≤ H.sl + Sl) : ab_M y_W_step { frames := 8, cells := C, slots := Sl, locals := 216 } [.ref p0] (hpw H) (po (.returned (some (.int r.1))) r.2) := by
  unfold F_W_step at hF
  obtain ⟨c0, e0⟩ : ∃ q, q = H.sh.length := ⟨_, rfl⟩
  obtain ⟨s0, e1⟩ : ∃ q, q = H.sl := ⟨_, rfl⟩
  rw [← e0] at hC
  rw [← e1] at hS
  have hc0 : c0 ≤ H.sh.length := Nat.le_of_eq e0
  have hs0 : s0 ≤ H.sl := Nat.le_of_eq e1
  have hcc : H.sh.length ≤ c0 + C := by omega
  have hss : H.sl ≤ s0 + Sl := by omega
  refine ab_of2 (lv := [some (.ref p0)]) 0 rfl rfl (Nat.le_of_ble_eq_true rfl) ?_
  refine ab_widen (cells' := H.sh.length - c0) (slots' := H.sl - s0) (Nat.zero_le _) (Nat.zero_le _) ?_
  refine ab_aload_n d_W_step_0 rfl rfl rfl ?_
  obtain ⟨q1, hG⟩ := ck_s hF; clear hF
  obtain ⟨a2, e3, hF⟩ := rf_s hG; clear hG
  refine hp_getR (f := 2) d_W_step_1 q1 (by decide) rfl (by decide) (k3 159 rfl rfl) rfl e3 ?_
  obtain ⟨q4, hG⟩ := ck_s hF; clear hF
  obtain ⟨v6, H7, z5, hF⟩ := bC_s hG; clear hG
  refine hp_callV_a (v := .int v6) (H1 := H7) (As := []) (rest := []) d_W_step_4 (k_Play_isFullyAhead z5) (ab_mkC s_Play_isFullyAhead (Nat.le_of_ble_eq_true rfl) (Nat.le_of_ble_eq_true rfl) (show (H.sh.length - c0) + 0 ≤ C from by omega) (show (H.sl - s0) + 0 ≤ Sl from by omega)) (k6 164 rfl rfl) i_Play_isFullyAhead v_Play_isFullyAhead q4 (by decide) rfl rfl (Nat.le_of_ble_eq_true rfl) ?_
  have s_2 : Sa H H7 := (m_Play_isFullyAhead z5)
  refine ab_widen (cells' := H.sh.length - c0) (slots' := H.sl - s0) (by show (H.sh.length - c0) + 0 ≤ _; omega) (by show (H.sl - s0) + 0 ≤ _; omega) ?_
  refine ab_if_eq (tgt := 12) d_W_step_7 (by decide) (fun q8 => ?_) (fun q8 => ?_)
  · rw [if_pos q8] at hF
    refine ab_aload_n d_W_step_12 rfl rfl rfl ?_
    refine hp_getI (f := 7) d_W_step_13 (by rw [(s_2).1]; exact q1) (by decide) rfl (by decide) (k3 164 rfl rfl) rfl ?_
    refine ab_topi (fun x9 ex9 => ?_)
    replace hF := bnd_s ex9 hF
    refine ab_aload_n d_W_step_16 rfl rfl rfl ?_
    refine hp_getI (f := 8) d_W_step_17 (by rw [(s_2).1]; exact q1) (by decide) rfl (by decide) (k3 165 rfl rfl) rfl ?_
    refine ab_topi (fun x10 ex10 => ?_)
    replace hF := bnd_s ex10 hF
    refine ab_iconst (v := (-1)) d_W_step_20 (by decide) ?_
    refine ab_ixor d_W_step_21 ?_
    refine ab_iand d_W_step_22 ?_
    refine ab_if_ne (tgt := 29) d_W_step_23 (by decide) (fun q11 => ?_) (fun q11 => ?_)
    · rw [if_neg q11] at hF
      refine ab_aload_n d_W_step_29 rfl rfl rfl ?_
      refine hp_getI (f := 6) d_W_step_30 (by rw [(s_2).1]; exact q1) (by decide) rfl (by decide) (k3 163 rfl rfl) rfl ?_
      refine ab_topi (fun x12 ex12 => ?_)
      replace hF := bnd_s ex12 hF
      refine ab_if_ne (tgt := 39) d_W_step_33 (by decide) (fun q13 => ?_) (fun q13 => ?_)
      · rw [if_neg q13] at hF
        refine ab_aload_n d_W_step_39 rfl rfl rfl ?_
        obtain ⟨a14, e15, hG⟩ := rf_s hF; clear hF
        refine hp_getR (f := 2) d_W_step_40 (by rw [(s_2).1]; exact q1) (by decide) rfl (by decide) (k3 159 rfl rfl) rfl e15 ?_
        obtain ⟨q16, hF⟩ := ck_s hG; clear hG
        rw [(s_2).1] at q16
        obtain ⟨a17, e18, hG⟩ := rf_s hF; clear hF
        refine hp_getR (f := 0) d_W_step_43 (by rw [(s_2).1]; exact q16) (by decide) rfl (by decide) (k2 131 rfl rfl) rfl e18 ?_
        obtain ⟨q19, hF⟩ := ck_s hG; clear hG
        rw [(s_2).1] at q19
        refine hp_getI (f := 0) d_W_step_46 (by rw [(s_2).1]; exact q19) (by decide) rfl (by decide) (k1 208 rfl rfl) rfl ?_
        refine ab_topi (fun x20 ex20 => ?_)
        replace hF := bnd_s ex20 hF
        refine ab_ldc d_W_step_49 (k6 168 rfl rfl) ?_
        refine ab_icmp_lt (tgt := 57) d_W_step_51 (by decide) (fun q21 => ?_) (fun q21 => ?_)
        · rw [if_pos q21] at hF
          refine ab_aload_n d_W_step_57 rfl rfl rfl ?_
          obtain ⟨a22, e23, hG⟩ := rf_s hF; clear hF
          refine hp_getR (f := 2) d_W_step_58 (by rw [(s_2).1]; exact q1) (by decide) rfl (by decide) (k3 159 rfl rfl) rfl e23 ?_
          refine ab_aload_n d_W_step_61 rfl rfl rfl ?_
          obtain ⟨a24, e25, hF⟩ := rf_s hG; clear hG
          refine hp_getR (f := 4) d_W_step_62 (by rw [(s_2).1]; exact q1) (by decide) rfl (by decide) (k3 161 rfl rfl) rfl e25 ?_
          obtain ⟨q26, hG⟩ := ck_s hF; clear hF
          rw [(s_2).1] at q26
          obtain ⟨v28, H29, z27, hF⟩ := bC_s hG; clear hG
          refine ab_widen (cells' := H7.sh.length - c0) (slots' := H7.sl - s0) (by rw [(s_2).1]; exact Nat.le_refl _) (by rw [(s_2).2]; exact Nat.le_refl _) ?_
          have mz_3 : Mo H7 H29 := (m_Play_goOn z27)
          have b_4l := (mz_3).len
          have b_4s := (mz_3).2
          have b_4e := congrArg List.length (s_2).1
          have b_4f := (s_2).2
          have b_4c : c0 ≤ H29.sh.length := by omega
          have b_4d : s0 ≤ H29.sl := by omega
          have q_5 := (mz_3).get (by rw [(s_2).1]; exact q1)
          have q_6 := (mz_3).get (by rw [(s_2).1]; exact q4)
          have q_7 := (mz_3).get (by rw [(s_2).1]; exact q16)
          have q_8 := (mz_3).get (by rw [(s_2).1]; exact q19)
          have q_9 := (mz_3).get (by rw [(s_2).1]; exact q26)
          obtain ⟨x30, ex30, hG⟩ := bnd_g hF; clear hF
          obtain ⟨x31, ex31, hF⟩ := bnd_g hG; clear hG
          obtain ⟨H32, eH32, hG⟩ := bnd_g hF; clear hF
          have jH32 : Mo H29 H32 := by rw [eH32]; exact Mo.rf _
          obtain ⟨H33, eH33, hF⟩ := bnd_g hG; clear hG
          have jH33 : Mo H32 H33 := by rw [eH33]; exact Mo.rf _
          obtain ⟨a34, e35, hG⟩ := rf_s hF; clear hF
          obtain ⟨q36, hF⟩ := ck_s hG; clear hG
          obtain ⟨a37, e38, hG⟩ := rf_s hF; clear hF
          obtain ⟨q39, hF⟩ := ck_s hG; clear hG
          obtain ⟨x40, ex40, hG⟩ := bnd_g hF; clear hF
          have fH33 : Mo H33 r.2 := by
            have hm := Mo.rf H33
            have hr := Option.some.inj hG; subst hr
            exact hm
          have fH32 : Mo H32 r.2 := jH33.tr fH33
          have fH29 : Mo H29 r.2 := jH32.tr fH32
          have b_4m := (fH29).len
          have b_4n := (fH29).2
          have b_4p : H29.sh.length ≤ c0 + C := by omega
          have b_4q : H29.sl ≤ s0 + Sl := by omega
          refine hp_callV_v (H1 := H29) (As := [.ref a24]) (rest := []) d_W_step_65 (k_Play_goOn z27 (C := H29.sh.length - H7.sh.length) (Sl := H29.sl - H7.sl) (by show H29.sh.length ≤ _; omega) (by show H29.sl ≤ _; omega)) (ab_mkC s_Play_goOn (Nat.le_of_ble_eq_true rfl) (Nat.le_of_ble_eq_true rfl) (show (H7.sh.length - c0) + (H29.sh.length - H7.sh.length) ≤ C from by omega) (show (H7.sl - s0) + (H29.sl - H7.sl) ≤ Sl from by omega)) (k6 169 rfl rfl) i_Play_goOn v_Play_goOn (by rw [(s_2).1]; exact q26) (by decide) rfl rfl (Nat.le_of_ble_eq_true rfl) ?_
          refine ab_widen (cells' := H29.sh.length - c0) (slots' := H29.sl - s0) (by show _ + (H29.sh.length - H7.sh.length) ≤ _; omega) (by show _ + (H29.sl - H7.sl) ≤ _; omega) ?_
          clear b_4l b_4s b_4m b_4n b_4e b_4f
          refine ab_aload_n d_W_step_68 rfl rfl rfl ?_
          refine ab_dup d_W_step_69 rfl ?_
          refine hp_getI (f := 7) d_W_step_70 q_5 (by decide) rfl (by decide) (k3 164 rfl rfl) rfl ?_
          refine ab_topxi ex30 ?_
          refine ab_aload_n d_W_step_73 rfl rfl rfl ?_
          refine hp_getI (f := 8) d_W_step_74 q_5 (by decide) rfl (by decide) (k3 165 rfl rfl) rfl ?_
          refine ab_topxi ex31 ?_
          refine ab_iconst (v := (-1)) d_W_step_77 (by decide) ?_
          refine ab_ixor d_W_step_78 ?_
          refine ab_iand d_W_step_79 ?_
          refine hp_putI (v := x30 &&& (x31 ^^^ ((-1) : Int32))) (f := 7) d_W_step_80 q_5 (by decide) rfl (by decide) (k3 164 rfl rfl) rfl rfl (fun _ => rfl) (fun _ => rfl) rfl ?_
          refine hp_genx eH32 ?_
          have s_12 : Sa H29 H32 := by rw [eH32]; exact Sa.rf _
          refine ab_aload_n d_W_step_83 rfl rfl rfl ?_
          refine ab_iconst (v := 0) d_W_step_84 (by decide) ?_
          refine hp_putI (v := 0) (f := 8) d_W_step_85 (by rw [(s_12).1]; exact q_5) (by decide) rfl (by decide) (k3 165 rfl rfl) rfl rfl (fun _ => rfl) (fun _ => rfl) rfl ?_
          refine hp_genx eH33 ?_
          have s_13 : Sa H29 H33 := by rw [eH33]; exact s_12
          refine ab_aload_n d_W_step_88 rfl rfl rfl ?_
          refine hp_getR (f := 2) d_W_step_89 (by rw [(s_13).1]; exact q_5) (by decide) rfl (by decide) (k3 159 rfl rfl) rfl e35 ?_
          rw [(s_13).1] at q36
          refine hp_getR (f := 0) d_W_step_92 (by rw [(s_13).1]; exact q36) (by decide) rfl (by decide) (k2 131 rfl rfl) rfl e38 ?_
          rw [(s_13).1] at q39
          refine hp_getI (f := 0) d_W_step_95 (by rw [(s_13).1]; exact q39) (by decide) rfl (by decide) (k1 208 rfl rfl) rfl ?_
          refine ab_topxi ex40 ?_
          exact ab_iret d_W_step_98 rfl (by show _ ≤ C; omega) (by show _ ≤ Sl; omega) (by have hr := Option.some.inj hG; subst hr; exact ⟨rfl, rfl⟩)
        · rw [if_neg q21] at hF
          refine ab_bipush (v := (-4)) d_W_step_54 (by decide) ?_
          exact ab_iret d_W_step_56 rfl (by show _ ≤ C; omega) (by show _ ≤ Sl; omega) (by have hr := Option.some.inj hF; subst hr; exact ⟨rfl, rfl⟩)
      · rw [if_pos q13] at hF
        refine ab_bipush (v := (-3)) d_W_step_36 (by decide) ?_
        exact ab_iret d_W_step_38 rfl (by show _ ≤ C; omega) (by show _ ≤ Sl; omega) (by have hr := Option.some.inj hF; subst hr; exact ⟨rfl, rfl⟩)
    · rw [if_pos q11] at hF
      refine ab_bipush (v := (-2)) d_W_step_26 (by decide) ?_
      exact ab_iret d_W_step_28 rfl (by show _ ≤ C; omega) (by show _ ≤ Sl; omega) (by have hr := Option.some.inj hF; subst hr; exact ⟨rfl, rfl⟩)
  · rw [if_neg q8] at hF
    refine ab_iconst (v := (-1)) d_W_step_10 (by decide) ?_
    exact ab_iret d_W_step_11 rfl (by show _ ≤ C; omega) (by show _ ≤ Sl; omega) (by have hr := Option.some.inj hF; subst hr; exact ⟨rfl, rfl⟩)
def y_Play_refusal : ab_Y := (⟨"WorldEngine$Play", "refusal", "(II)I"⟩, prog_5_method_14_code, 4, (some FieldType.int), [])
theorem d_Play_refusal_0 : decode y_Play_refusal.2.1 0 = .ok (.iload_n 1, 1) := by decide +kernel
theorem d_Play_refusal_1 : decode y_Play_refusal.2.1 1 = .ok (.ifCond .lt 8, 3) := by decide +kernel
theorem d_Play_refusal_4 : decode y_Play_refusal.2.1 4 = .ok (.iload_n 1, 1) := by decide +kernel
theorem d_Play_refusal_5 : decode y_Play_refusal.2.1 5 = .ok (.iconst 4, 1) := by decide +kernel
theorem d_Play_refusal_6 : decode y_Play_refusal.2.1 6 = .ok (.if_icmp .lt 5, 3) := by decide +kernel
theorem d_Play_refusal_9 : decode y_Play_refusal.2.1 9 = .ok (.iconst (-1), 1) := by decide +kernel
theorem d_Play_refusal_10 : decode y_Play_refusal.2.1 10 = .ok (.ireturn, 1) := by decide +kernel
theorem d_Play_refusal_11 : decode y_Play_refusal.2.1 11 = .ok (.iload_n 2, 1) := by decide +kernel
theorem d_Play_refusal_12 : decode y_Play_refusal.2.1 12 = .ok (.aload_n 0, 1) := by decide +kernel
theorem d_Play_refusal_13 : decode y_Play_refusal.2.1 13 = .ok (.getfield 57, 3) := by decide +kernel
theorem d_Play_refusal_16 : decode y_Play_refusal.2.1 16 = .ok (.if_icmp .le 17, 3) := by decide +kernel
theorem d_Play_refusal_19 : decode y_Play_refusal.2.1 19 = .ok (.iload_n 2, 1) := by decide +kernel
theorem d_Play_refusal_20 : decode y_Play_refusal.2.1 20 = .ok (.aload_n 0, 1) := by decide +kernel
theorem d_Play_refusal_21 : decode y_Play_refusal.2.1 21 = .ok (.getfield 10, 3) := by decide +kernel
theorem d_Play_refusal_24 : decode y_Play_refusal.2.1 24 = .ok (.getfield 54, 3) := by decide +kernel
theorem d_Play_refusal_27 : decode y_Play_refusal.2.1 27 = .ok (.bipush 16, 2) := by decide +kernel
theorem d_Play_refusal_29 : decode y_Play_refusal.2.1 29 = .ok (.iadd, 1) := by decide +kernel
theorem d_Play_refusal_30 : decode y_Play_refusal.2.1 30 = .ok (.if_icmp .le 6, 3) := by decide +kernel
theorem d_Play_refusal_33 : decode y_Play_refusal.2.1 33 = .ok (.bipush (-2), 2) := by decide +kernel
theorem d_Play_refusal_35 : decode y_Play_refusal.2.1 35 = .ok (.ireturn, 1) := by decide +kernel
theorem d_Play_refusal_36 : decode y_Play_refusal.2.1 36 = .ok (.iload_n 2, 1) := by decide +kernel
theorem d_Play_refusal_37 : decode y_Play_refusal.2.1 37 = .ok (.aload_n 0, 1) := by decide +kernel
theorem d_Play_refusal_38 : decode y_Play_refusal.2.1 38 = .ok (.getfield 10, 3) := by decide +kernel
theorem d_Play_refusal_41 : decode y_Play_refusal.2.1 41 = .ok (.getfield 54, 3) := by decide +kernel
theorem d_Play_refusal_44 : decode y_Play_refusal.2.1 44 = .ok (.if_icmp .le 10, 3) := by decide +kernel
theorem d_Play_refusal_47 : decode y_Play_refusal.2.1 47 = .ok (.aload_n 0, 1) := by decide +kernel
theorem d_Play_refusal_48 : decode y_Play_refusal.2.1 48 = .ok (.getfield 20, 3) := by decide +kernel
theorem d_Play_refusal_51 : decode y_Play_refusal.2.1 51 = .ok (.goto 12, 3) := by decide +kernel
theorem d_Play_refusal_54 : decode y_Play_refusal.2.1 54 = .ok (.aload_n 0, 1) := by decide +kernel
theorem d_Play_refusal_55 : decode y_Play_refusal.2.1 55 = .ok (.getfield 45, 3) := by decide +kernel
theorem d_Play_refusal_58 : decode y_Play_refusal.2.1 58 = .ok (.iload_n 2, 1) := by decide +kernel
theorem d_Play_refusal_59 : decode y_Play_refusal.2.1 59 = .ok (.bipush 15, 2) := by decide +kernel
theorem d_Play_refusal_61 : decode y_Play_refusal.2.1 61 = .ok (.iand, 1) := by decide +kernel
theorem d_Play_refusal_62 : decode y_Play_refusal.2.1 62 = .ok (.iaload, 1) := by decide +kernel
theorem d_Play_refusal_63 : decode y_Play_refusal.2.1 63 = .ok (.istore_n 3, 1) := by decide +kernel
theorem d_Play_refusal_64 : decode y_Play_refusal.2.1 64 = .ok (.iload_n 3, 1) := by decide +kernel
theorem d_Play_refusal_65 : decode y_Play_refusal.2.1 65 = .ok (.iload_n 1, 1) := by decide +kernel
theorem d_Play_refusal_66 : decode y_Play_refusal.2.1 66 = .ok (.ishr, 1) := by decide +kernel
theorem d_Play_refusal_67 : decode y_Play_refusal.2.1 67 = .ok (.iconst 1, 1) := by decide +kernel
theorem d_Play_refusal_68 : decode y_Play_refusal.2.1 68 = .ok (.iand, 1) := by decide +kernel
theorem d_Play_refusal_69 : decode y_Play_refusal.2.1 69 = .ok (.ifCond .ne 6, 3) := by decide +kernel
theorem d_Play_refusal_72 : decode y_Play_refusal.2.1 72 = .ok (.bipush (-3), 2) := by decide +kernel
theorem d_Play_refusal_74 : decode y_Play_refusal.2.1 74 = .ok (.ireturn, 1) := by decide +kernel
theorem d_Play_refusal_75 : decode y_Play_refusal.2.1 75 = .ok (.aload_n 0, 1) := by decide +kernel
theorem d_Play_refusal_76 : decode y_Play_refusal.2.1 76 = .ok (.getfield 35, 3) := by decide +kernel
theorem d_Play_refusal_79 : decode y_Play_refusal.2.1 79 = .ok (.iload_n 1, 1) := by decide +kernel
theorem d_Play_refusal_80 : decode y_Play_refusal.2.1 80 = .ok (.iload_n 2, 1) := by decide +kernel
theorem d_Play_refusal_81 : decode y_Play_refusal.2.1 81 = .ok (.invokestatic 91, 3) := by decide +kernel
theorem d_Play_refusal_84 : decode y_Play_refusal.2.1 84 = .ok (.baload, 1) := by decide +kernel
theorem d_Play_refusal_85 : decode y_Play_refusal.2.1 85 = .ok (.ifCond .eq 8, 3) := by decide +kernel
theorem d_Play_refusal_88 : decode y_Play_refusal.2.1 88 = .ok (.bipush (-4), 2) := by decide +kernel
theorem d_Play_refusal_90 : decode y_Play_refusal.2.1 90 = .ok (.goto 4, 3) := by decide +kernel
theorem d_Play_refusal_93 : decode y_Play_refusal.2.1 93 = .ok (.iconst 0, 1) := by decide +kernel
theorem d_Play_refusal_94 : decode y_Play_refusal.2.1 94 = .ok (.ireturn, 1) := by decide +kernel
theorem s_Play_refusal : ab_Stat y_Play_refusal 2 := ⟨(k7 149 rfl rfl), (k1 9 rfl rfl), ⟨by decide, by decide⟩, by decide +kernel⟩
theorem i_Play_refusal : Cond.instanceMethod y_Play_refusal.1 ∈ ab_T := (k7 147 rfl rfl)
theorem v_Play_refusal : Cond.selects "WorldEngine$Play" y_Play_refusal.1 y_Play_refusal.1 ∈ ab_T := (k7 148 rfl rfl)
def B_Play_refusal_63 (N : Nat) (p0 : Nat) (p1 : Int32) (p2 : Int32) (w0 : Int32) (H : Hp) : Option (Int32 × Hp) :=
    if ((w0 >>> (p1 &&& 31)) &&& (1 : Int32)) = (0 : Int32) then
    some ((-3), H)
    else
    ck (H.sh[p0]? = some (10, 0)) <|
    rf (H.P p0 8) fun a24 =>
    bC (F_Play_slot N p1 p2 H) fun v27 H28 =>
    ar H28 102 a24 fun n29 =>
    ck (inb v27 n29) <|
    bnd ((H28.D a24 (v27).toNatClampNeg)) fun x32 =>
    if x32 = (0 : Int32) then
    some (0, H28)
    else
    some ((-4), H28)
set_option maxRecDepth 20000 in
set_option maxHeartbeats 2000000 in
theorem mB_Play_refusal_63 {N : Nat} {p0 : Nat} {p1 : Int32} {p2 : Int32} {w0 : Int32} {H : Hp} {r : Int32 × Hp} (hF : B_Play_refusal_63 N p0 p1 p2 w0 H = some r) : Sa H r.2 := by
  unfold B_Play_refusal_63 at hF
  have hm := Sa.rf H
  rcases ite_s hF with ⟨q_2, hG⟩ | ⟨q_2, hG⟩
  · clear hF
    have hr := Option.some.inj hG; subst hr
    exact hm
  · clear hF
    obtain ⟨q35, hF⟩ := ck_s hG; clear hG
    obtain ⟨a36, e37, hG⟩ := rf_s hF; clear hF
    obtain ⟨v39, H40, z38, hF⟩ := bC_s hG; clear hG
    replace hm : Sa H H40 := hm.tr (m_Play_slot z38)
    obtain ⟨n41, q42, hG⟩ := ar_s hF; clear hF
    obtain ⟨q43, hF⟩ := ck_s hG; clear hG
    obtain ⟨x44, -, hG⟩ := bnd_g hF; clear hF
    rcases ite_s hG with ⟨q_4, hF⟩ | ⟨q_4, hF⟩
    · clear hG
      have hr := Option.some.inj hF; subst hr
      exact hm
    · clear hG
      have hr := Option.some.inj hF; subst hr
      exact hm
set_option maxRecDepth 20000 in
set_option maxHeartbeats 2000000 in
theorem kB_Play_refusal_63 {N : Nat} {p0 : Nat} {p1 : Int32} {p2 : Int32} {w0 : Int32} {H : Hp} {r : Int32 × Hp} (hF : B_Play_refusal_63 N p0 p1 p2 w0 H = some r) : ab_V y_Play_refusal { frames := 1, cells := 0, slots := 0, locals := 21 } (po (.returned (some (.int r.1))) r.2) 0 0 0 0 63 [some (.ref p0), some (.int p1), some (.int p2), none] [.int w0] (hpw H) := by
  unfold B_Play_refusal_63 at hF
  refine ab_istore_n (lv' := [some (.ref p0), some (.int p1), some (.int p2), some (.int w0)]) d_Play_refusal_63 rfl (by decide) rfl ?_
  refine ab_iload_n d_Play_refusal_64 rfl rfl ?_
  refine ab_iload_n d_Play_refusal_65 rfl rfl ?_
  refine ab_ishr d_Play_refusal_66 ?_
  refine ab_iconst (v := 1) d_Play_refusal_67 (by decide) ?_
  refine ab_iand d_Play_refusal_68 ?_
  refine ab_if_ne (tgt := 75) d_Play_refusal_69 (by decide) (fun q22 => ?_) (fun q22 => ?_)
  · rw [if_neg q22] at hF
    refine ab_aload_n d_Play_refusal_75 rfl rfl rfl ?_
    obtain ⟨q23, hG⟩ := ck_s hF; clear hF
    obtain ⟨a24, e25, hF⟩ := rf_s hG; clear hG
    refine hp_getR (f := 8) d_Play_refusal_76 q23 (by decide) rfl (by decide) (k2 144 rfl rfl) rfl e25 ?_
    refine ab_iload_n d_Play_refusal_79 rfl rfl ?_
    refine ab_iload_n d_Play_refusal_80 rfl rfl ?_
    obtain ⟨v27, H28, z26, hG⟩ := bC_s hF; clear hF
    refine hp_callS_a (v := .int v27) (H1 := H28) (As := [.int p1, .int p2]) (rest := [.ref a24]) d_Play_refusal_81 (k_Play_slot z26) (ab_mkC s_Play_slot (Nat.le_of_ble_eq_true rfl) (Nat.le_of_ble_eq_true rfl) (Nat.le_refl 0) (Nat.le_refl 0)) (k6 181 rfl rfl) t_Play_slot rfl (Nat.le_of_ble_eq_true rfl) ?_
    have s_1 : Sa H H28 := (m_Play_slot z26)
    obtain ⟨n29, q30, hF⟩ := ar_s hG; clear hG
    rw [(s_1).1] at q30
    obtain ⟨q31, hG⟩ := ck_s hF; clear hF
    refine hp_zald d_Play_refusal_84 tZ (by rw [(s_1).1]; exact q30) q31 ?_
    refine ab_topi (fun x32 ex32 => ?_)
    replace hG := bnd_s ex32 hG
    refine ab_if_eq (tgt := 93) d_Play_refusal_85 (by decide) (fun q33 => ?_) (fun q33 => ?_)
    · rw [if_pos q33] at hG
      refine ab_iconst (v := 0) d_Play_refusal_93 (by decide) ?_
      exact ab_iret d_Play_refusal_94 rfl (Nat.le_refl _) (Nat.le_refl _) (by have hr := Option.some.inj hG; subst hr; exact ⟨rfl, rfl⟩)
    · rw [if_neg q33] at hG
      refine ab_bipush (v := (-4)) d_Play_refusal_88 (by decide) ?_
      refine ab_goto (tgt := 94) d_Play_refusal_90 (by decide) ?_
      exact ab_iret d_Play_refusal_94 rfl (Nat.le_refl _) (Nat.le_refl _) (by have hr := Option.some.inj hG; subst hr; exact ⟨rfl, rfl⟩)
  · rw [if_pos q22] at hF
    refine ab_bipush (v := (-3)) d_Play_refusal_72 (by decide) ?_
    exact ab_iret d_Play_refusal_74 rfl (Nat.le_refl _) (Nat.le_refl _) (by have hr := Option.some.inj hF; subst hr; exact ⟨rfl, rfl⟩)
def F_Play_refusal (N : Nat) (p0 : Nat) (p1 : Int32) (p2 : Int32) (H : Hp) : Option (Int32 × Hp) :=
    if p1 < (0 : Int32) then
    some ((-1), H)
    else
    if p1 < (4 : Int32) then
    ck (H.sh[p0]? = some (10, 0)) <|
    bnd ((H.D p0 1)) fun x4 =>
    if p2 ≤ x4 then
    some ((-2), H)
    else
    rf (H.P p0 0) fun a6 =>
    ck (H.sh[a6]? = some (7, 0)) <|
    bnd ((H.D a6 0)) fun x9 =>
    if p2 ≤ (x9 + (16 : Int32)) then
    rf (H.P p0 0) fun a11 =>
    ck (H.sh[a11]? = some (7, 0)) <|
    bnd ((H.D a11 0)) fun x14 =>
    if p2 ≤ x14 then
    rf (H.P p0 11) fun a16 =>
    ar H 100 a16 fun n18 =>
    ck (inb (p2 &&& (15 : Int32)) n18) <|
    bnd ((H.D a16 ((p2 &&& (15 : Int32))).toNatClampNeg)) fun x21 =>
    B_Play_refusal_63 N p0 p1 p2 x21 H
    else
    bnd ((H.D p0 2)) fun x46 =>
    B_Play_refusal_63 N p0 p1 p2 x46 H
    else
    some ((-2), H)
    else
    some ((-1), H)
set_option maxRecDepth 20000 in
set_option maxHeartbeats 2000000 in
theorem m_Play_refusal {N : Nat} {p0 : Nat} {p1 : Int32} {p2 : Int32} {H : Hp} {r : Int32 × Hp} (hF : F_Play_refusal N p0 p1 p2 H = some r) : Sa H r.2 := by
  unfold F_Play_refusal at hF
  have hm := Sa.rf H
  rcases ite_s hF with ⟨q_5, hG⟩ | ⟨q_5, hG⟩
  · clear hF
    have hr := Option.some.inj hG; subst hr
    exact hm
  · clear hF
    rcases ite_s hG with ⟨q_6, hF⟩ | ⟨q_6, hF⟩
    · clear hG
      obtain ⟨q49, hG⟩ := ck_s hF; clear hF
      obtain ⟨x50, -, hF⟩ := bnd_g hG; clear hG
      rcases ite_s hF with ⟨q_7, hG⟩ | ⟨q_7, hG⟩
      · clear hF
        have hr := Option.some.inj hG; subst hr
        exact hm
      · clear hF
        obtain ⟨a52, e53, hF⟩ := rf_s hG; clear hG
        obtain ⟨q54, hG⟩ := ck_s hF; clear hF
        obtain ⟨x55, -, hF⟩ := bnd_g hG; clear hG
        rcases ite_s hF with ⟨q_8, hG⟩ | ⟨q_8, hG⟩
        · clear hF
          obtain ⟨a57, e58, hF⟩ := rf_s hG; clear hG
          obtain ⟨q59, hG⟩ := ck_s hF; clear hF
          obtain ⟨x60, -, hF⟩ := bnd_g hG; clear hG
          rcases ite_s hF with ⟨q_9, hG⟩ | ⟨q_9, hG⟩
          · clear hF
            obtain ⟨a62, e63, hF⟩ := rf_s hG; clear hG
            obtain ⟨n64, q65, hG⟩ := ar_s hF; clear hF
            obtain ⟨q66, hF⟩ := ck_s hG; clear hG
            obtain ⟨x67, -, hG⟩ := bnd_g hF; clear hF
            exact hm.tr (mB_Play_refusal_63 hG)
          · clear hF
            obtain ⟨x68, -, hF⟩ := bnd_g hG; clear hG
            exact hm.tr (mB_Play_refusal_63 hF)
        · clear hF
          have hr := Option.some.inj hG; subst hr
          exact hm
    · clear hG
      have hr := Option.some.inj hF; subst hr
      exact hm
set_option maxRecDepth 20000 in
set_option maxHeartbeats 2000000 in
theorem k_Play_refusal {N : Nat} {p0 : Nat} {p1 : Int32} {p2 : Int32} {H : Hp} {r : Int32 × Hp} (hF : F_Play_refusal N p0 p1 p2 H = some r) : ab_M y_Play_refusal { frames := 1, cells := 0, slots := 0, locals := 21 } [.ref p0, .int p1, .int p2] (hpw H) (po (.returned (some (.int r.1))) r.2) := by
  unfold F_Play_refusal at hF
  refine ab_of2 (lv := [some (.ref p0), some (.int p1), some (.int p2), none]) 1 rfl rfl (Nat.le_of_ble_eq_true rfl) ?_
  refine ab_iload_n d_Play_refusal_0 rfl rfl ?_
  refine ab_if_lt (tgt := 9) d_Play_refusal_1 (by decide) (fun q1 => ?_) (fun q1 => ?_)
  · rw [if_pos q1] at hF
    refine ab_iconst (v := (-1)) d_Play_refusal_9 (by decide) ?_
    exact ab_iret d_Play_refusal_10 rfl (Nat.le_refl _) (Nat.le_refl _) (by have hr := Option.some.inj hF; subst hr; exact ⟨rfl, rfl⟩)
  · rw [if_neg q1] at hF
    refine ab_iload_n d_Play_refusal_4 rfl rfl ?_
    refine ab_iconst (v := 4) d_Play_refusal_5 (by decide) ?_
    refine ab_icmp_lt (tgt := 11) d_Play_refusal_6 (by decide) (fun q2 => ?_) (fun q2 => ?_)
    · rw [if_pos q2] at hF
      refine ab_iload_n d_Play_refusal_11 rfl rfl ?_
      refine ab_aload_n d_Play_refusal_12 rfl rfl rfl ?_
      obtain ⟨q3, hG⟩ := ck_s hF; clear hF
      refine hp_getI (f := 1) d_Play_refusal_13 q3 (by decide) rfl (by decide) (k2 132 rfl rfl) rfl ?_
      refine ab_topi (fun x4 ex4 => ?_)
      replace hG := bnd_s ex4 hG
      refine ab_icmp_le (tgt := 33) d_Play_refusal_16 (by decide) (fun q5 => ?_) (fun q5 => ?_)
      · rw [if_pos q5] at hG
        refine ab_bipush (v := (-2)) d_Play_refusal_33 (by decide) ?_
        exact ab_iret d_Play_refusal_35 rfl (Nat.le_refl _) (Nat.le_refl _) (by have hr := Option.some.inj hG; subst hr; exact ⟨rfl, rfl⟩)
      · rw [if_neg q5] at hG
        refine ab_iload_n d_Play_refusal_19 rfl rfl ?_
        refine ab_aload_n d_Play_refusal_20 rfl rfl rfl ?_
        obtain ⟨a6, e7, hF⟩ := rf_s hG; clear hG
        refine hp_getR (f := 0) d_Play_refusal_21 q3 (by decide) rfl (by decide) (k2 130 rfl rfl) rfl e7 ?_
        obtain ⟨q8, hG⟩ := ck_s hF; clear hF
        refine hp_getI (f := 0) d_Play_refusal_24 q8 (by decide) rfl (by decide) (k1 205 rfl rfl) rfl ?_
        refine ab_topi (fun x9 ex9 => ?_)
        replace hG := bnd_s ex9 hG
        refine ab_bipush (v := 16) d_Play_refusal_27 (by decide) ?_
        refine ab_iadd d_Play_refusal_29 ?_
        refine ab_icmp_le (tgt := 36) d_Play_refusal_30 (by decide) (fun q10 => ?_) (fun q10 => ?_)
        · rw [if_pos q10] at hG
          refine ab_iload_n d_Play_refusal_36 rfl rfl ?_
          refine ab_aload_n d_Play_refusal_37 rfl rfl rfl ?_
          obtain ⟨a11, e12, hF⟩ := rf_s hG; clear hG
          refine hp_getR (f := 0) d_Play_refusal_38 q3 (by decide) rfl (by decide) (k2 130 rfl rfl) rfl e12 ?_
          obtain ⟨q13, hG⟩ := ck_s hF; clear hF
          refine hp_getI (f := 0) d_Play_refusal_41 q13 (by decide) rfl (by decide) (k1 205 rfl rfl) rfl ?_
          refine ab_topi (fun x14 ex14 => ?_)
          replace hG := bnd_s ex14 hG
          refine ab_icmp_le (tgt := 54) d_Play_refusal_44 (by decide) (fun q15 => ?_) (fun q15 => ?_)
          · rw [if_pos q15] at hG
            refine ab_aload_n d_Play_refusal_54 rfl rfl rfl ?_
            obtain ⟨a16, e17, hF⟩ := rf_s hG; clear hG
            refine hp_getR (f := 11) d_Play_refusal_55 q3 (by decide) rfl (by decide) (k2 147 rfl rfl) rfl e17 ?_
            refine ab_iload_n d_Play_refusal_58 rfl rfl ?_
            refine ab_bipush (v := 15) d_Play_refusal_59 (by decide) ?_
            refine ab_iand d_Play_refusal_61 ?_
            obtain ⟨n18, q19, hG⟩ := ar_s hF; clear hF
            obtain ⟨q20, hF⟩ := ck_s hG; clear hG
            refine hp_iald d_Play_refusal_62 tI q19 q20 ?_
            refine ab_topi (fun x21 ex21 => ?_)
            replace hF := bnd_s ex21 hF
            exact kB_Play_refusal_63 hF
          · rw [if_neg q15] at hG
            refine ab_aload_n d_Play_refusal_47 rfl rfl rfl ?_
            refine hp_getI (f := 2) d_Play_refusal_48 q3 (by decide) rfl (by decide) (k2 134 rfl rfl) rfl ?_
            refine ab_topi (fun x46 ex46 => ?_)
            replace hG := bnd_s ex46 hG
            refine ab_goto (tgt := 63) d_Play_refusal_51 (by decide) ?_
            exact kB_Play_refusal_63 hG
        · rw [if_neg q10] at hG
          refine ab_bipush (v := (-2)) d_Play_refusal_33 (by decide) ?_
          exact ab_iret d_Play_refusal_35 rfl (Nat.le_refl _) (Nat.le_refl _) (by have hr := Option.some.inj hG; subst hr; exact ⟨rfl, rfl⟩)
    · rw [if_neg q2] at hF
      refine ab_iconst (v := (-1)) d_Play_refusal_9 (by decide) ?_
      exact ab_iret d_Play_refusal_10 rfl (Nat.le_refl _) (Nat.le_refl _) (by have hr := Option.some.inj hF; subst hr; exact ⟨rfl, rfl⟩)
def y_Play_firstWrong : ab_Y := (⟨"WorldEngine$Play", "firstWrong", "(II)I"⟩, prog_5_method_16_code, 4, (some FieldType.int), [])
theorem d_Play_firstWrong_0 : decode y_Play_firstWrong.2.1 0 = .ok (.iload_n 2, 1) := by decide +kernel
theorem d_Play_firstWrong_1 : decode y_Play_firstWrong.2.1 1 = .ok (.istore_n 3, 1) := by decide +kernel
theorem d_Play_firstWrong_2 : decode y_Play_firstWrong.2.1 2 = .ok (.iload_n 3, 1) := by decide +kernel
theorem d_Play_firstWrong_3 : decode y_Play_firstWrong.2.1 3 = .ok (.aload_n 0, 1) := by decide +kernel
theorem d_Play_firstWrong_4 : decode y_Play_firstWrong.2.1 4 = .ok (.getfield 10, 3) := by decide +kernel
theorem d_Play_firstWrong_7 : decode y_Play_firstWrong.2.1 7 = .ok (.getfield 54, 3) := by decide +kernel
theorem d_Play_firstWrong_10 : decode y_Play_firstWrong.2.1 10 = .ok (.if_icmp .gt 31, 3) := by decide +kernel
theorem d_Play_firstWrong_13 : decode y_Play_firstWrong.2.1 13 = .ok (.aload_n 0, 1) := by decide +kernel
theorem d_Play_firstWrong_14 : decode y_Play_firstWrong.2.1 14 = .ok (.getfield 48, 3) := by decide +kernel
theorem d_Play_firstWrong_17 : decode y_Play_firstWrong.2.1 17 = .ok (.iload_n 3, 1) := by decide +kernel
theorem d_Play_firstWrong_18 : decode y_Play_firstWrong.2.1 18 = .ok (.bipush 15, 2) := by decide +kernel
theorem d_Play_firstWrong_20 : decode y_Play_firstWrong.2.1 20 = .ok (.iand, 1) := by decide +kernel
theorem d_Play_firstWrong_21 : decode y_Play_firstWrong.2.1 21 = .ok (.iconst 4, 1) := by decide +kernel
theorem d_Play_firstWrong_22 : decode y_Play_firstWrong.2.1 22 = .ok (.imul, 1) := by decide +kernel
theorem d_Play_firstWrong_23 : decode y_Play_firstWrong.2.1 23 = .ok (.iload_n 1, 1) := by decide +kernel
theorem d_Play_firstWrong_24 : decode y_Play_firstWrong.2.1 24 = .ok (.iadd, 1) := by decide +kernel
theorem d_Play_firstWrong_25 : decode y_Play_firstWrong.2.1 25 = .ok (.iaload, 1) := by decide +kernel
theorem d_Play_firstWrong_26 : decode y_Play_firstWrong.2.1 26 = .ok (.aload_n 0, 1) := by decide +kernel
theorem d_Play_firstWrong_27 : decode y_Play_firstWrong.2.1 27 = .ok (.iload_n 1, 1) := by decide +kernel
theorem d_Play_firstWrong_28 : decode y_Play_firstWrong.2.1 28 = .ok (.iload_n 3, 1) := by decide +kernel
theorem d_Play_firstWrong_29 : decode y_Play_firstWrong.2.1 29 = .ok (.invokevirtual 105, 3) := by decide +kernel
theorem d_Play_firstWrong_32 : decode y_Play_firstWrong.2.1 32 = .ok (.if_icmp .ne 9, 3) := by decide +kernel
theorem d_Play_firstWrong_35 : decode y_Play_firstWrong.2.1 35 = .ok (.iinc 3 1, 3) := by decide +kernel
theorem d_Play_firstWrong_38 : decode y_Play_firstWrong.2.1 38 = .ok (.goto (-36), 3) := by decide +kernel
theorem d_Play_firstWrong_41 : decode y_Play_firstWrong.2.1 41 = .ok (.iload_n 3, 1) := by decide +kernel
theorem d_Play_firstWrong_42 : decode y_Play_firstWrong.2.1 42 = .ok (.ireturn, 1) := by decide +kernel
theorem s_Play_firstWrong : ab_Stat y_Play_firstWrong 2 := ⟨(k7 157 rfl rfl), (k1 9 rfl rfl), ⟨by decide, by decide⟩, by decide +kernel⟩
theorem i_Play_firstWrong : Cond.instanceMethod y_Play_firstWrong.1 ∈ ab_T := (k7 156 rfl rfl)
theorem v_Play_firstWrong : Cond.selects "WorldEngine$Play" y_Play_firstWrong.1 y_Play_firstWrong.1 ∈ ab_T := ab_s (List.mem_of_getElem? (i := 91) rfl) rfl
def B_Play_firstWrong_2 (N : Nat) (p0 : Nat) (p1 : Int32) (p2 : Int32) : Nat → Int32 → Hp → Option (Int32 × Hp)
  | 0, _, _ => none
  | n + 1, l3, H =>
    ck (H.sh[p0]? = some (10, 0)) <|
    rf (H.P p0 0) fun a2 =>
    ck (H.sh[a2]? = some (7, 0)) <|
    bnd ((H.D a2 0)) fun x5 =>
    if x5 < l3 then
    some (l3, H)
    else
    rf (H.P p0 12) fun a7 =>
    ar H 100 a7 fun n9 =>
    ck (inb (((l3 &&& (15 : Int32)) * (4 : Int32)) + p1) n9) <|
    bnd ((H.D a7 ((((l3 &&& (15 : Int32)) * (4 : Int32)) + p1)).toNatClampNeg)) fun x12 =>
    bC (F_Play_inputOf N p0 p1 l3 H) fun v14 H15 =>
    if x12 = v14 then
    B_Play_firstWrong_2 N p0 p1 p2 n (l3 + 1) H15
    else
    some (l3, H15)
termination_by structural n => n
set_option maxRecDepth 20000 in
set_option maxHeartbeats 2000000 in
theorem mB_Play_firstWrong_2 {N : Nat} {p0 : Nat} {p1 : Int32} {p2 : Int32} : ∀ (n : Nat) (l3 : Int32) (H : Hp) (r : Int32 × Hp), B_Play_firstWrong_2 N p0 p1 p2 n l3 H = some r → Sa H r.2 := by
  intro n
  induction n with
  | zero => intro l3 H r hF; rw [B_Play_firstWrong_2] at hF; cases hF
  | succ n ih =>
    intro l3 H r hF
    rw [B_Play_firstWrong_2] at hF
    have hm := Sa.rf H
    obtain ⟨q17, hG⟩ := ck_s hF; clear hF
    obtain ⟨a18, e19, hF⟩ := rf_s hG; clear hG
    obtain ⟨q20, hG⟩ := ck_s hF; clear hF
    obtain ⟨x21, -, hF⟩ := bnd_g hG; clear hG
    rcases ite_s hF with ⟨q_2, hG⟩ | ⟨q_2, hG⟩
    · clear hF
      have hr := Option.some.inj hG; subst hr
      exact hm
    · clear hF
      obtain ⟨a23, e24, hF⟩ := rf_s hG; clear hG
      obtain ⟨n25, q26, hG⟩ := ar_s hF; clear hF
      obtain ⟨q27, hF⟩ := ck_s hG; clear hG
      obtain ⟨x28, -, hG⟩ := bnd_g hF; clear hF
      obtain ⟨v30, H31, z29, hF⟩ := bC_s hG; clear hG
      replace hm : Sa H H31 := hm.tr (m_Play_inputOf z29)
      rcases ite_s hF with ⟨q_4, hG⟩ | ⟨q_4, hG⟩
      · clear hF
        exact hm.tr (ih (l3 + 1) H31 r hG)
      · clear hF
        have hr := Option.some.inj hG; subst hr
        exact hm
set_option maxRecDepth 20000 in
set_option maxHeartbeats 2000000 in
theorem kB_Play_firstWrong_2 {N : Nat} {p0 : Nat} {p1 : Int32} {p2 : Int32} : ∀ (n : Nat) (l3 : Int32) (H : Hp) (r : Int32 × Hp), B_Play_firstWrong_2 N p0 p1 p2 n l3 H = some r → ab_V y_Play_firstWrong { frames := 2, cells := 0, slots := 0, locals := 44 } (po (.returned (some (.int r.1))) r.2) 0 0 0 0 2 [some (.ref p0), some (.int p1), some (.int p2), some (.int l3)] [] (hpw H) := by
  intro n
  induction n with
  | zero => intro l3 H r hF; rw [B_Play_firstWrong_2] at hF; cases hF
  | succ n ih =>
    intro l3 H r hF
    rw [B_Play_firstWrong_2] at hF
    refine ab_iload_n d_Play_firstWrong_2 rfl rfl ?_
    refine ab_aload_n d_Play_firstWrong_3 rfl rfl rfl ?_
    obtain ⟨q1, hG⟩ := ck_s hF; clear hF
    obtain ⟨a2, e3, hF⟩ := rf_s hG; clear hG
    refine hp_getR (f := 0) d_Play_firstWrong_4 q1 (by decide) rfl (by decide) (k2 130 rfl rfl) rfl e3 ?_
    obtain ⟨q4, hG⟩ := ck_s hF; clear hF
    refine hp_getI (f := 0) d_Play_firstWrong_7 q4 (by decide) rfl (by decide) (k1 205 rfl rfl) rfl ?_
    refine ab_topi (fun x5 ex5 => ?_)
    replace hG := bnd_s ex5 hG
    refine ab_icmp_gt (tgt := 41) d_Play_firstWrong_10 (by decide) (fun q6 => ?_) (fun q6 => ?_)
    · rw [if_pos q6] at hG
      refine ab_iload_n d_Play_firstWrong_41 rfl rfl ?_
      exact ab_iret d_Play_firstWrong_42 rfl (Nat.le_refl _) (Nat.le_refl _) (by have hr := Option.some.inj hG; subst hr; exact ⟨rfl, rfl⟩)
    · rw [if_neg q6] at hG
      refine ab_aload_n d_Play_firstWrong_13 rfl rfl rfl ?_
      obtain ⟨a7, e8, hF⟩ := rf_s hG; clear hG
      refine hp_getR (f := 12) d_Play_firstWrong_14 q1 (by decide) rfl (by decide) (k2 148 rfl rfl) rfl e8 ?_
      refine ab_iload_n d_Play_firstWrong_17 rfl rfl ?_
      refine ab_bipush (v := 15) d_Play_firstWrong_18 (by decide) ?_
      refine ab_iand d_Play_firstWrong_20 ?_
      refine ab_iconst (v := 4) d_Play_firstWrong_21 (by decide) ?_
      refine ab_imul d_Play_firstWrong_22 ?_
      refine ab_iload_n d_Play_firstWrong_23 rfl rfl ?_
      refine ab_iadd d_Play_firstWrong_24 ?_
      obtain ⟨n9, q10, hG⟩ := ar_s hF; clear hF
      obtain ⟨q11, hF⟩ := ck_s hG; clear hG
      refine hp_iald d_Play_firstWrong_25 tI q10 q11 ?_
      refine ab_topi (fun x12 ex12 => ?_)
      replace hF := bnd_s ex12 hF
      refine ab_aload_n d_Play_firstWrong_26 rfl rfl rfl ?_
      refine ab_iload_n d_Play_firstWrong_27 rfl rfl ?_
      refine ab_iload_n d_Play_firstWrong_28 rfl rfl ?_
      obtain ⟨v14, H15, z13, hG⟩ := bC_s hF; clear hF
      refine hp_callV_a (v := .int v14) (H1 := H15) (As := [.int p1, .int l3]) (rest := [.int x12]) d_Play_firstWrong_29 (k_Play_inputOf z13) (ab_mkC s_Play_inputOf (Nat.le_of_ble_eq_true rfl) (Nat.le_of_ble_eq_true rfl) (Nat.le_refl 0) (Nat.le_refl 0)) (k6 177 rfl rfl) i_Play_inputOf v_Play_inputOf q1 (by decide) rfl rfl (Nat.le_of_ble_eq_true rfl) ?_
      have s_1 : Sa H H15 := (m_Play_inputOf z13)
      refine ab_icmp_ne (tgt := 41) d_Play_firstWrong_32 (by decide) (fun q16 => ?_) (fun q16 => ?_)
      · rw [if_neg q16] at hG
        refine ab_iload_n d_Play_firstWrong_41 rfl rfl ?_
        exact ab_iret d_Play_firstWrong_42 rfl (Nat.le_refl _) (Nat.le_refl _) (by have hr := Option.some.inj hG; subst hr; exact ⟨rfl, rfl⟩)
      · rw [if_pos q16] at hG
        refine ab_iinc (v := l3 + 1) (lv' := [some (.ref p0), some (.int p1), some (.int p2), some (.int (l3 + 1))]) d_Play_firstWrong_35 rfl rfl (by decide) rfl ?_
        refine ab_goto (tgt := 2) d_Play_firstWrong_38 (by decide) ?_
        exact ih (l3 + 1) H15 r hG
def F_Play_firstWrong (N : Nat) (p0 : Nat) (p1 : Int32) (p2 : Int32) (H : Hp) : Option (Int32 × Hp) :=
    B_Play_firstWrong_2 N p0 p1 p2 N p2 H
set_option maxRecDepth 20000 in
set_option maxHeartbeats 2000000 in
theorem m_Play_firstWrong {N : Nat} {p0 : Nat} {p1 : Int32} {p2 : Int32} {H : Hp} {r : Int32 × Hp} (hF : F_Play_firstWrong N p0 p1 p2 H = some r) : Sa H r.2 := by
  unfold F_Play_firstWrong at hF
  have hm := Sa.rf H
  exact hm.tr (mB_Play_firstWrong_2 N p2 H r hF)
set_option maxRecDepth 20000 in
set_option maxHeartbeats 2000000 in
theorem k_Play_firstWrong {N : Nat} {p0 : Nat} {p1 : Int32} {p2 : Int32} {H : Hp} {r : Int32 × Hp} (hF : F_Play_firstWrong N p0 p1 p2 H = some r) : ab_M y_Play_firstWrong { frames := 2, cells := 0, slots := 0, locals := 44 } [.ref p0, .int p1, .int p2] (hpw H) (po (.returned (some (.int r.1))) r.2) := by
  unfold F_Play_firstWrong at hF
  refine ab_of2 (lv := [some (.ref p0), some (.int p1), some (.int p2), none]) 1 rfl rfl (Nat.le_of_ble_eq_true rfl) ?_
  refine ab_iload_n d_Play_firstWrong_0 rfl rfl ?_
  refine ab_istore_n (lv' := [some (.ref p0), some (.int p1), some (.int p2), some (.int p2)]) d_Play_firstWrong_1 rfl (by decide) rfl ?_
  exact kB_Play_firstWrong_2 N p2 H r hF
def y_Play_accept : ab_Y := (⟨"WorldEngine$Play", "accept", "(LWorldEngine$Program;III)I"⟩, prog_5_method_15_code, 9, (some FieldType.int), [])
theorem d_Play_accept_0 : decode y_Play_accept.2.1 0 = .ok (.aload_n 0, 1) := by decide +kernel
theorem d_Play_accept_1 : decode y_Play_accept.2.1 1 = .ok (.getfield 35, 3) := by decide +kernel
theorem d_Play_accept_4 : decode y_Play_accept.2.1 4 = .ok (.iload_n 2, 1) := by decide +kernel
theorem d_Play_accept_5 : decode y_Play_accept.2.1 5 = .ok (.iload_n 3, 1) := by decide +kernel
theorem d_Play_accept_6 : decode y_Play_accept.2.1 6 = .ok (.invokestatic 91, 3) := by decide +kernel
theorem d_Play_accept_9 : decode y_Play_accept.2.1 9 = .ok (.iconst 1, 1) := by decide +kernel
theorem d_Play_accept_10 : decode y_Play_accept.2.1 10 = .ok (.bastore, 1) := by decide +kernel
theorem d_Play_accept_11 : decode y_Play_accept.2.1 11 = .ok (.aload_n 0, 1) := by decide +kernel
theorem d_Play_accept_12 : decode y_Play_accept.2.1 12 = .ok (.getfield 39, 3) := by decide +kernel
theorem d_Play_accept_15 : decode y_Play_accept.2.1 15 = .ok (.iload_n 2, 1) := by decide +kernel
theorem d_Play_accept_16 : decode y_Play_accept.2.1 16 = .ok (.iload_n 3, 1) := by decide +kernel
theorem d_Play_accept_17 : decode y_Play_accept.2.1 17 = .ok (.invokestatic 91, 3) := by decide +kernel
theorem d_Play_accept_20 : decode y_Play_accept.2.1 20 = .ok (.iload 4, 2) := by decide +kernel
theorem d_Play_accept_22 : decode y_Play_accept.2.1 22 = .ok (.iastore, 1) := by decide +kernel
theorem d_Play_accept_23 : decode y_Play_accept.2.1 23 = .ok (.aload_n 0, 1) := by decide +kernel
theorem d_Play_accept_24 : decode y_Play_accept.2.1 24 = .ok (.getfield 10, 3) := by decide +kernel
theorem d_Play_accept_27 : decode y_Play_accept.2.1 27 = .ok (.getfield 54, 3) := by decide +kernel
theorem d_Play_accept_30 : decode y_Play_accept.2.1 30 = .ok (.istore 5, 2) := by decide +kernel
theorem d_Play_accept_32 : decode y_Play_accept.2.1 32 = .ok (.aload_n 0, 1) := by decide +kernel
theorem d_Play_accept_33 : decode y_Play_accept.2.1 33 = .ok (.iload_n 2, 1) := by decide +kernel
theorem d_Play_accept_34 : decode y_Play_accept.2.1 34 = .ok (.iload_n 3, 1) := by decide +kernel
theorem d_Play_accept_35 : decode y_Play_accept.2.1 35 = .ok (.invokevirtual 108, 3) := by decide +kernel
theorem d_Play_accept_38 : decode y_Play_accept.2.1 38 = .ok (.istore 6, 2) := by decide +kernel
theorem d_Play_accept_40 : decode y_Play_accept.2.1 40 = .ok (.iconst 0, 1) := by decide +kernel
theorem d_Play_accept_41 : decode y_Play_accept.2.1 41 = .ok (.iload 5, 2) := by decide +kernel
theorem d_Play_accept_43 : decode y_Play_accept.2.1 43 = .ok (.iload 6, 2) := by decide +kernel
theorem d_Play_accept_45 : decode y_Play_accept.2.1 45 = .ok (.isub, 1) := by decide +kernel
theorem d_Play_accept_46 : decode y_Play_accept.2.1 46 = .ok (.iconst 1, 1) := by decide +kernel
theorem d_Play_accept_47 : decode y_Play_accept.2.1 47 = .ok (.iadd, 1) := by decide +kernel
theorem d_Play_accept_48 : decode y_Play_accept.2.1 48 = .ok (.invokestatic 111, 3) := by decide +kernel
theorem d_Play_accept_51 : decode y_Play_accept.2.1 51 = .ok (.istore 7, 2) := by decide +kernel
theorem d_Play_accept_53 : decode y_Play_accept.2.1 53 = .ok (.iload 7, 2) := by decide +kernel
theorem d_Play_accept_55 : decode y_Play_accept.2.1 55 = .ok (.ifCond .le 22, 3) := by decide +kernel
theorem d_Play_accept_58 : decode y_Play_accept.2.1 58 = .ok (.aload_n 0, 1) := by decide +kernel
theorem d_Play_accept_59 : decode y_Play_accept.2.1 59 = .ok (.getfield 10, 3) := by decide +kernel
theorem d_Play_accept_62 : decode y_Play_accept.2.1 62 = .ok (.aload_n 0, 1) := by decide +kernel
theorem d_Play_accept_63 : decode y_Play_accept.2.1 63 = .ok (.getfield 16, 3) := by decide +kernel
theorem d_Play_accept_66 : decode y_Play_accept.2.1 66 = .ok (.iload 6, 2) := by decide +kernel
theorem d_Play_accept_68 : decode y_Play_accept.2.1 68 = .ok (.iconst 1, 1) := by decide +kernel
theorem d_Play_accept_69 : decode y_Play_accept.2.1 69 = .ok (.isub, 1) := by decide +kernel
theorem d_Play_accept_70 : decode y_Play_accept.2.1 70 = .ok (.bipush 15, 2) := by decide +kernel
theorem d_Play_accept_72 : decode y_Play_accept.2.1 72 = .ok (.iand, 1) := by decide +kernel
theorem d_Play_accept_73 : decode y_Play_accept.2.1 73 = .ok (.aaload, 1) := by decide +kernel
theorem d_Play_accept_74 : decode y_Play_accept.2.1 74 = .ok (.invokevirtual 83, 3) := by decide +kernel
theorem d_Play_accept_77 : decode y_Play_accept.2.1 77 = .ok (.iconst 0, 1) := by decide +kernel
theorem d_Play_accept_78 : decode y_Play_accept.2.1 78 = .ok (.istore 8, 2) := by decide +kernel
theorem d_Play_accept_80 : decode y_Play_accept.2.1 80 = .ok (.iload 8, 2) := by decide +kernel
theorem d_Play_accept_82 : decode y_Play_accept.2.1 82 = .ok (.iload 7, 2) := by decide +kernel
theorem d_Play_accept_84 : decode y_Play_accept.2.1 84 = .ok (.if_icmp .ge 29, 3) := by decide +kernel
theorem d_Play_accept_87 : decode y_Play_accept.2.1 87 = .ok (.aload_n 0, 1) := by decide +kernel
theorem d_Play_accept_88 : decode y_Play_accept.2.1 88 = .ok (.invokevirtual 95, 3) := by decide +kernel
theorem d_Play_accept_91 : decode y_Play_accept.2.1 91 = .ok (.aload_n 0, 1) := by decide +kernel
theorem d_Play_accept_92 : decode y_Play_accept.2.1 92 = .ok (.getfield 31, 3) := by decide +kernel
theorem d_Play_accept_95 : decode y_Play_accept.2.1 95 = .ok (.aload_n 1, 1) := by decide +kernel
theorem d_Play_accept_96 : decode y_Play_accept.2.1 96 = .ok (.aload_n 0, 1) := by decide +kernel
theorem d_Play_accept_97 : decode y_Play_accept.2.1 97 = .ok (.getfield 10, 3) := by decide +kernel
theorem d_Play_accept_100 : decode y_Play_accept.2.1 100 = .ok (.aload_n 0, 1) := by decide +kernel
theorem d_Play_accept_101 : decode y_Play_accept.2.1 101 = .ok (.getfield 51, 3) := by decide +kernel
theorem d_Play_accept_104 : decode y_Play_accept.2.1 104 = .ok (.invokevirtual 98, 3) := by decide +kernel
theorem d_Play_accept_107 : decode y_Play_accept.2.1 107 = .ok (.iinc 8 1, 3) := by decide +kernel
theorem d_Play_accept_110 : decode y_Play_accept.2.1 110 = .ok (.goto (-30), 3) := by decide +kernel
theorem d_Play_accept_113 : decode y_Play_accept.2.1 113 = .ok (.aload_n 0, 1) := by decide +kernel
theorem d_Play_accept_114 : decode y_Play_accept.2.1 114 = .ok (.dup, 1) := by decide +kernel
theorem d_Play_accept_115 : decode y_Play_accept.2.1 115 = .ok (.getfield 67, 3) := by decide +kernel
theorem d_Play_accept_118 : decode y_Play_accept.2.1 118 = .ok (.iload 7, 2) := by decide +kernel
theorem d_Play_accept_120 : decode y_Play_accept.2.1 120 = .ok (.iadd, 1) := by decide +kernel
theorem d_Play_accept_121 : decode y_Play_accept.2.1 121 = .ok (.putfield 67, 3) := by decide +kernel
theorem d_Play_accept_124 : decode y_Play_accept.2.1 124 = .ok (.aload_n 0, 1) := by decide +kernel
theorem d_Play_accept_125 : decode y_Play_accept.2.1 125 = .ok (.invokevirtual 102, 3) := by decide +kernel
theorem d_Play_accept_128 : decode y_Play_accept.2.1 128 = .ok (.iload 7, 2) := by decide +kernel
theorem d_Play_accept_130 : decode y_Play_accept.2.1 130 = .ok (.ireturn, 1) := by decide +kernel
theorem s_Play_accept : ab_Stat y_Play_accept 4 := ⟨(k7 153 rfl rfl), (k1 9 rfl rfl), ⟨by decide, by decide⟩, by decide +kernel⟩
theorem i_Play_accept : Cond.instanceMethod y_Play_accept.1 ∈ ab_T := (k7 151 rfl rfl)
theorem v_Play_accept : Cond.selects "WorldEngine$Play" y_Play_accept.1 y_Play_accept.1 ∈ ab_T := (k7 152 rfl rfl)
def B_Play_accept_80 (N : Nat) (p0 : Nat) (p1 : Nat) (p2 : Int32) (p3 : Int32) (p4 : Int32) : Nat → Int32 → Int32 → Hp → Option (Int32 × Hp)
  | 0, _, _, _ => none
  | n + 1, l7, l8, H =>
    if l7 ≤ l8 then
    ck (H.sh[p0]? = some (10, 0)) <|
    bnd ((H.D p0 3)) fun x33 =>
    bnd (H.sD p0 3 (x33 + l7)) fun H34 =>
    bC (F_Play_confirm N p0 H34) fun v36 H37 =>
    some (l7, H37)
    else
    ck (H.sh[p0]? = some (10, 0)) <|
    bC (F_Play_prepareNext N p0 H) fun v40 H41 =>
    rf (H41.P p0 7) fun a42 =>
    rf (H41.P p0 0) fun a44 =>
    rf (H41.P p0 13) fun a46 =>
    ck (H41.sh[a42]? = some (9, 0)) <|
    bC (F_Ticker_runTick N a42 p1 a44 a46 H41) fun v50 H51 =>
    B_Play_accept_80 N p0 p1 p2 p3 p4 n l7 (l8 + 1) H51
termination_by structural n => n
set_option maxRecDepth 20000 in
set_option maxHeartbeats 2000000 in
theorem mB_Play_accept_80 {N : Nat} {p0 : Nat} {p1 : Nat} {p2 : Int32} {p3 : Int32} {p4 : Int32} : ∀ (n : Nat) (l7 : Int32) (l8 : Int32) (H : Hp) (r : Int32 × Hp), B_Play_accept_80 N p0 p1 p2 p3 p4 n l7 l8 H = some r → Mo H r.2 := by
  intro n
  induction n with
  | zero => intro l7 l8 H r hF; rw [B_Play_accept_80] at hF; cases hF
  | succ n ih =>
    intro l7 l8 H r hF
    rw [B_Play_accept_80] at hF
    have hm := Mo.rf H
    rcases ite_s hF with ⟨q_20, hG⟩ | ⟨q_20, hG⟩
    · clear hF
      obtain ⟨q53, hF⟩ := ck_s hG; clear hG
      obtain ⟨x54, -, hG⟩ := bnd_g hF; clear hF
      obtain ⟨H55, eH55, hF⟩ := bnd_g hG; clear hG
      replace hm : Mo H H55 := by rw [eH55]; exact hm
      obtain ⟨v57, H58, z56, hG⟩ := bC_s hF; clear hF
      replace hm : Mo H H58 := hm.tr ((m_Play_confirm z56)).mo
      have hr := Option.some.inj hG; subst hr
      exact hm
    · clear hF
      obtain ⟨q59, hF⟩ := ck_s hG; clear hG
      obtain ⟨v61, H62, z60, hG⟩ := bC_s hF; clear hF
      replace hm : Mo H H62 := hm.tr ((m_Play_prepareNext z60)).mo
      obtain ⟨a63, e64, hF⟩ := rf_s hG; clear hG
      obtain ⟨a65, e66, hG⟩ := rf_s hF; clear hF
      obtain ⟨a67, e68, hF⟩ := rf_s hG; clear hG
      obtain ⟨q69, hG⟩ := ck_s hF; clear hF
      obtain ⟨v71, H72, z70, hF⟩ := bC_s hG; clear hG
      replace hm : Mo H H72 := hm.tr (m_Ticker_runTick z70)
      exact hm.tr (ih l7 (l8 + 1) H72 r hF)
set_option maxRecDepth 20000 in
set_option maxHeartbeats 2000000 in
theorem kB_Play_accept_80 {N : Nat} {p0 : Nat} {p1 : Nat} {p2 : Int32} {p3 : Int32} {p4 : Int32} {c0 s0 C Sl : Nat} : ∀ (n : Nat) (l7 : Int32) (l8 : Int32) (H : Hp) (r : Int32 × Hp), B_Play_accept_80 N p0 p1 p2 p3 p4 n l7 l8 H = some r → c0 ≤ H.sh.length → s0 ≤ H.sl → H.sh.length ≤ c0 + C → H.sl ≤ s0 + Sl → r.2.sh.length ≤ c0 + C → r.2.sl ≤ s0 + Sl → ab_V y_Play_accept { frames := 7, cells := C, slots := Sl, locals := 195 } (po (.returned (some (.int r.1))) r.2) C Sl (H.sh.length - c0) (H.sl - s0) 80 [some (.ref p0), some (.ref p1), some (.int p2), some (.int p3), some (.int p4), none, none, some (.int l7), some (.int l8)] [] (hpw H) := by
  intro n
  induction n with
  | zero => intro l7 l8 H r hF; rw [B_Play_accept_80] at hF; cases hF
  | succ n ih =>
    intro l7 l8 H r hF hc0 hs0 hcc hss hC hS
    rw [B_Play_accept_80] at hF
    refine ab_iload d_Play_accept_80 rfl ?_
    refine ab_iload d_Play_accept_82 rfl ?_
    refine ab_icmp_ge (tgt := 113) d_Play_accept_84 (by decide) (fun q31 => ?_) (fun q31 => ?_)
    · rw [if_pos q31] at hF
      refine ab_aload_n d_Play_accept_113 rfl rfl rfl ?_
      refine ab_dup d_Play_accept_114 rfl ?_
      obtain ⟨q32, hG⟩ := ck_s hF; clear hF
      refine hp_getI (f := 3) d_Play_accept_115 q32 (by decide) rfl (by decide) (k2 136 rfl rfl) rfl ?_
      refine ab_topi (fun x33 ex33 => ?_)
      replace hG := bnd_s ex33 hG
      refine ab_iload d_Play_accept_118 rfl ?_
      refine ab_iadd d_Play_accept_120 ?_
      refine hp_putI (v := x33 + l7) (f := 3) d_Play_accept_121 q32 (by decide) rfl (by decide) (k2 136 rfl rfl) rfl rfl (fun _ => rfl) (fun _ => rfl) rfl ?_
      refine hp_gen (fun H34 eH34 => ?_)
      replace hG := bnd_s eH34 hG
      have s_11 : Sa H H34 := by rw [eH34]; exact Sa.rf _
      refine ab_aload_n d_Play_accept_124 rfl rfl rfl ?_
      obtain ⟨v36, H37, z35, hF⟩ := bC_s hG; clear hG
      refine ab_widen (cells' := H34.sh.length - c0) (slots' := H34.sl - s0) (by rw [(s_11).1]; exact Nat.le_refl _) (by rw [(s_11).2]; exact Nat.le_refl _) ?_
      have b_12e := congrArg List.length (s_11).1
      have b_12f := (s_11).2
      refine hp_callV_v (H1 := H37) (As := []) (rest := []) d_Play_accept_125 (k_Play_confirm z35) (ab_mkC s_Play_confirm (Nat.le_of_ble_eq_true rfl) (Nat.le_of_ble_eq_true rfl) (show (H34.sh.length - c0) + 0 ≤ C from by omega) (show (H34.sl - s0) + 0 ≤ Sl from by omega)) (k7 130 rfl rfl) i_Play_confirm v_Play_confirm (by rw [(s_11).1]; exact q32) (by decide) rfl rfl (Nat.le_of_ble_eq_true rfl) ?_
      have s_13 : Sa H H37 := (s_11).tr (m_Play_confirm z35)
      refine ab_widen (cells' := H.sh.length - c0) (slots' := H.sl - s0) (by show (H34.sh.length - c0) + 0 ≤ _; omega) (by show (H34.sl - s0) + 0 ≤ _; omega) ?_
      clear b_12e b_12f
      refine ab_iload d_Play_accept_128 rfl ?_
      exact ab_iret d_Play_accept_130 rfl (by show _ ≤ C; omega) (by show _ ≤ Sl; omega) (by have hr := Option.some.inj hF; subst hr; exact ⟨rfl, rfl⟩)
    · rw [if_neg q31] at hF
      refine ab_aload_n d_Play_accept_87 rfl rfl rfl ?_
      obtain ⟨q38, hG⟩ := ck_s hF; clear hF
      obtain ⟨v40, H41, z39, hF⟩ := bC_s hG; clear hG
      refine hp_callV_v (H1 := H41) (As := []) (rest := []) d_Play_accept_88 (k_Play_prepareNext z39) (ab_mkC s_Play_prepareNext (Nat.le_of_ble_eq_true rfl) (Nat.le_of_ble_eq_true rfl) (show (H.sh.length - c0) + 0 ≤ C from by omega) (show (H.sl - s0) + 0 ≤ Sl from by omega)) (k6 173 rfl rfl) i_Play_prepareNext v_Play_prepareNext q38 (by decide) rfl rfl (Nat.le_of_ble_eq_true rfl) ?_
      have s_15 : Sa H H41 := (m_Play_prepareNext z39)
      refine ab_widen (cells' := H.sh.length - c0) (slots' := H.sl - s0) (by show (H.sh.length - c0) + 0 ≤ _; omega) (by show (H.sl - s0) + 0 ≤ _; omega) ?_
      refine ab_aload_n d_Play_accept_91 rfl rfl rfl ?_
      obtain ⟨a42, e43, hG⟩ := rf_s hF; clear hF
      refine hp_getR (f := 7) d_Play_accept_92 (by rw [(s_15).1]; exact q38) (by decide) rfl (by decide) (k2 143 rfl rfl) rfl e43 ?_
      refine ab_aload_n d_Play_accept_95 rfl rfl rfl ?_
      refine ab_aload_n d_Play_accept_96 rfl rfl rfl ?_
      obtain ⟨a44, e45, hF⟩ := rf_s hG; clear hG
      refine hp_getR (f := 0) d_Play_accept_97 (by rw [(s_15).1]; exact q38) (by decide) rfl (by decide) (k2 130 rfl rfl) rfl e45 ?_
      refine ab_aload_n d_Play_accept_100 rfl rfl rfl ?_
      obtain ⟨a46, e47, hG⟩ := rf_s hF; clear hF
      refine hp_getR (f := 13) d_Play_accept_101 (by rw [(s_15).1]; exact q38) (by decide) rfl (by decide) (k2 149 rfl rfl) rfl e47 ?_
      obtain ⟨q48, hF⟩ := ck_s hG; clear hG
      rw [(s_15).1] at q48
      obtain ⟨v50, H51, z49, hG⟩ := bC_s hF; clear hF
      refine ab_widen (cells' := H41.sh.length - c0) (slots' := H41.sl - s0) (by rw [(s_15).1]; exact Nat.le_refl _) (by rw [(s_15).2]; exact Nat.le_refl _) ?_
      have mz_16 : Mo H41 H51 := (m_Ticker_runTick z49)
      have b_17l := (mz_16).len
      have b_17s := (mz_16).2
      have b_17e := congrArg List.length (s_15).1
      have b_17f := (s_15).2
      have b_17c : c0 ≤ H51.sh.length := by omega
      have b_17d : s0 ≤ H51.sl := by omega
      have q_18 := (mz_16).get (by rw [(s_15).1]; exact q38)
      have q_19 := (mz_16).get (by rw [(s_15).1]; exact q48)
      have fH51 : Mo H51 r.2 := by
        have hm := Mo.rf H51
        exact hm.tr (mB_Play_accept_80 n l7 (l8 + 1) H51 r hG)
      have b_17m := (fH51).len
      have b_17n := (fH51).2
      have b_17p : H51.sh.length ≤ c0 + C := by omega
      have b_17q : H51.sl ≤ s0 + Sl := by omega
      refine hp_callV_v (H1 := H51) (As := [.ref p1, .ref a44, .ref a46]) (rest := []) d_Play_accept_104 (k_Ticker_runTick z49 (C := H51.sh.length - H41.sh.length) (Sl := H51.sl - H41.sl) (by show H51.sh.length ≤ _; omega) (by show H51.sl ≤ _; omega)) (ab_mkC s_Ticker_runTick (Nat.le_of_ble_eq_true rfl) (Nat.le_of_ble_eq_true rfl) (show (H41.sh.length - c0) + (H51.sh.length - H41.sh.length) ≤ C from by omega) (show (H41.sl - s0) + (H51.sl - H41.sl) ≤ Sl from by omega)) (k6 184 rfl rfl) i_Ticker_runTick v_Ticker_runTick (by rw [(s_15).1]; exact q48) (by decide) rfl rfl (Nat.le_of_ble_eq_true rfl) ?_
      refine ab_widen (cells' := H51.sh.length - c0) (slots' := H51.sl - s0) (by show _ + (H51.sh.length - H41.sh.length) ≤ _; omega) (by show _ + (H51.sl - H41.sl) ≤ _; omega) ?_
      clear b_17l b_17s b_17m b_17n b_17e b_17f
      refine ab_iinc (v := l8 + 1) (lv' := [some (.ref p0), some (.ref p1), some (.int p2), some (.int p3), some (.int p4), none, none, some (.int l7), some (.int (l8 + 1))]) d_Play_accept_107 rfl rfl (by decide) rfl ?_
      refine ab_goto (tgt := 80) d_Play_accept_110 (by decide) ?_
      exact ih l7 (l8 + 1) H51 r hG b_17c b_17d b_17p b_17q hC hS
def B_Play_accept_77 (N : Nat) (p0 : Nat) (p1 : Nat) (p2 : Int32) (p3 : Int32) (p4 : Int32) (l7 : Int32) (H : Hp) : Option (Int32 × Hp) :=
    B_Play_accept_80 N p0 p1 p2 p3 p4 N l7 0 H
set_option maxRecDepth 20000 in
set_option maxHeartbeats 2000000 in
theorem mB_Play_accept_77 {N : Nat} {p0 : Nat} {p1 : Nat} {p2 : Int32} {p3 : Int32} {p4 : Int32} {l7 : Int32} {H : Hp} {r : Int32 × Hp} (hF : B_Play_accept_77 N p0 p1 p2 p3 p4 l7 H = some r) : Mo H r.2 := by
  unfold B_Play_accept_77 at hF
  have hm := Mo.rf H
  exact hm.tr (mB_Play_accept_80 N l7 0 H r hF)
set_option maxRecDepth 20000 in
set_option maxHeartbeats 2000000 in
theorem kB_Play_accept_77 {N : Nat} {p0 : Nat} {p1 : Nat} {p2 : Int32} {p3 : Int32} {p4 : Int32} {c0 s0 C Sl : Nat} {l7 : Int32} {H : Hp} {r : Int32 × Hp} (hF : B_Play_accept_77 N p0 p1 p2 p3 p4 l7 H = some r) (hc0 : c0 ≤ H.sh.length) (hs0 : s0 ≤ H.sl) (hcc : H.sh.length ≤ c0 + C) (hss : H.sl ≤ s0 + Sl) (hC : r.2.sh.length ≤ c0 + C) (hS : r.2.sl ≤ s0 + Sl) : ab_V y_Play_accept { frames := 7, cells := C, slots := Sl, locals := 195 } (po (.returned (some (.int r.1))) r.2) C Sl (H.sh.length - c0) (H.sl - s0) 77 [some (.ref p0), some (.ref p1), some (.int p2), some (.int p3), some (.int p4), none, none, some (.int l7), none] [] (hpw H) := by
  unfold B_Play_accept_77 at hF
  refine ab_iconst (v := 0) d_Play_accept_77 (by decide) ?_
  refine ab_istore (lv' := [some (.ref p0), some (.ref p1), some (.int p2), some (.int p3), some (.int p4), none, none, some (.int l7), some (.int 0)]) d_Play_accept_78 (by decide) rfl ?_
  exact kB_Play_accept_80 N l7 0 H r hF hc0 hs0 hcc hss hC hS
def F_Play_accept (N : Nat) (p0 : Nat) (p1 : Nat) (p2 : Int32) (p3 : Int32) (p4 : Int32) (H : Hp) : Option (Int32 × Hp) :=
    ck (H.sh[p0]? = some (10, 0)) <|
    rf (H.P p0 8) fun a2 =>
    bC (F_Play_slot N p2 p3 H) fun v5 H6 =>
    ar H6 102 a2 fun n7 =>
    ck (inb v5 n7) <|
    bnd (H6.sD a2 (v5).toNatClampNeg (vp_nar .boolean (1 : Int32))) fun H10 =>
    rf (H10.P p0 9) fun a11 =>
    bC (F_Play_slot N p2 p3 H10) fun v14 H15 =>
    ar H15 100 a11 fun n16 =>
    ck (inb v14 n16) <|
    bnd (H15.sD a11 (v14).toNatClampNeg p4) fun H19 =>
    rf (H19.P p0 0) fun a20 =>
    ck (H19.sh[a20]? = some (7, 0)) <|
    bnd ((H19.D a20 0)) fun x23 =>
    bC (F_Play_firstWrong N p0 p2 p3 H19) fun v25 H26 =>
    bC (F_Math_max N (0 : Int32) ((x23 - v25) + (1 : Int32)) H26) fun v28 H29 =>
    if v28 ≤ (0 : Int32) then
    B_Play_accept_77 N p0 p1 p2 p3 p4 v28 H29
    else
    rf (H29.P p0 0) fun a73 =>
    rf (H29.P p0 6) fun a75 =>
    ar H29 105 a75 fun n77 =>
    ck (inb ((v25 - (1 : Int32)) &&& (15 : Int32)) n77) <|
    rf (H29.P a75 (((v25 - (1 : Int32)) &&& (15 : Int32))).toNatClampNeg) fun a80 =>
    ck (H29.sh[a73]? = some (7, 0)) <|
    bC (F_World_copyFrom N a73 a80 H29) fun v84 H85 =>
    B_Play_accept_77 N p0 p1 p2 p3 p4 v28 H85
set_option maxRecDepth 20000 in
set_option maxHeartbeats 2000000 in
theorem m_Play_accept {N : Nat} {p0 : Nat} {p1 : Nat} {p2 : Int32} {p3 : Int32} {p4 : Int32} {H : Hp} {r : Int32 × Hp} (hF : F_Play_accept N p0 p1 p2 p3 p4 H = some r) : Mo H r.2 := by
  unfold F_Play_accept at hF
  have hm := Mo.rf H
  obtain ⟨q86, hG⟩ := ck_s hF; clear hF
  obtain ⟨a87, e88, hF⟩ := rf_s hG; clear hG
  obtain ⟨v90, H91, z89, hG⟩ := bC_s hF; clear hF
  replace hm : Mo H H91 := hm.tr ((m_Play_slot z89)).mo
  obtain ⟨n92, q93, hF⟩ := ar_s hG; clear hG
  obtain ⟨q94, hG⟩ := ck_s hF; clear hF
  obtain ⟨H95, eH95, hF⟩ := bnd_g hG; clear hG
  replace hm : Mo H H95 := by rw [eH95]; exact hm
  obtain ⟨a96, e97, hG⟩ := rf_s hF; clear hF
  obtain ⟨v99, H100, z98, hF⟩ := bC_s hG; clear hG
  replace hm : Mo H H100 := hm.tr ((m_Play_slot z98)).mo
  obtain ⟨n101, q102, hG⟩ := ar_s hF; clear hF
  obtain ⟨q103, hF⟩ := ck_s hG; clear hG
  obtain ⟨H104, eH104, hG⟩ := bnd_g hF; clear hF
  replace hm : Mo H H104 := by rw [eH104]; exact hm
  obtain ⟨a105, e106, hF⟩ := rf_s hG; clear hG
  obtain ⟨q107, hG⟩ := ck_s hF; clear hF
  obtain ⟨x108, -, hF⟩ := bnd_g hG; clear hG
  obtain ⟨v110, H111, z109, hG⟩ := bC_s hF; clear hF
  replace hm : Mo H H111 := hm.tr ((m_Play_firstWrong z109)).mo
  obtain ⟨v113, H114, z112, hF⟩ := bC_s hG; clear hG
  replace hm : Mo H H114 := hm.tr ((m_Math_max z112)).mo
  rcases ite_s hF with ⟨q_29, hG⟩ | ⟨q_29, hG⟩
  · clear hF
    exact hm.tr (mB_Play_accept_77 hG)
  · clear hF
    obtain ⟨a116, e117, hF⟩ := rf_s hG; clear hG
    obtain ⟨a118, e119, hG⟩ := rf_s hF; clear hF
    obtain ⟨n120, q121, hF⟩ := ar_s hG; clear hG
    obtain ⟨q122, hG⟩ := ck_s hF; clear hF
    obtain ⟨a123, e124, hF⟩ := rf_s hG; clear hG
    obtain ⟨q125, hG⟩ := ck_s hF; clear hF
    obtain ⟨v127, H128, z126, hF⟩ := bC_s hG; clear hG
    replace hm : Mo H H128 := hm.tr ((m_World_copyFrom z126)).mo
    exact hm.tr (mB_Play_accept_77 hF)
set_option maxRecDepth 20000 in
set_option maxHeartbeats 2000000 in
theorem k_Play_accept {N : Nat} {p0 : Nat} {p1 : Nat} {p2 : Int32} {p3 : Int32} {p4 : Int32} {H : Hp} {r : Int32 × Hp} {C Sl : Nat} (hF : F_Play_accept N p0 p1 p2 p3 p4 H = some r) (hC : r.2.sh.length ≤ H.sh.length + C) (hS : r.2.sl ≤ H.sl + Sl) : ab_M y_Play_accept { frames := 7, cells := C, slots := Sl, locals := 195 } [.ref p0, .ref p1, .int p2, .int p3, .int p4] (hpw H) (po (.returned (some (.int r.1))) r.2) := by
  unfold F_Play_accept at hF
  obtain ⟨c0, e0⟩ : ∃ q, q = H.sh.length := ⟨_, rfl⟩
  obtain ⟨s0, e1⟩ : ∃ q, q = H.sl := ⟨_, rfl⟩
  rw [← e0] at hC
  rw [← e1] at hS
  have hc0 : c0 ≤ H.sh.length := Nat.le_of_eq e0
  have hs0 : s0 ≤ H.sl := Nat.le_of_eq e1
  have hcc : H.sh.length ≤ c0 + C := by omega
  have hss : H.sl ≤ s0 + Sl := by omega
  refine ab_of2 (lv := [some (.ref p0), some (.ref p1), some (.int p2), some (.int p3), some (.int p4), none, none, none, none]) 4 rfl rfl (Nat.le_of_ble_eq_true rfl) ?_
  refine ab_widen (cells' := H.sh.length - c0) (slots' := H.sl - s0) (Nat.zero_le _) (Nat.zero_le _) ?_
  refine ab_aload_n d_Play_accept_0 rfl rfl rfl ?_
  obtain ⟨q1, hG⟩ := ck_s hF; clear hF
  obtain ⟨a2, e3, hF⟩ := rf_s hG; clear hG
  refine hp_getR (f := 8) d_Play_accept_1 q1 (by decide) rfl (by decide) (k2 144 rfl rfl) rfl e3 ?_
  refine ab_iload_n d_Play_accept_4 rfl rfl ?_
  refine ab_iload_n d_Play_accept_5 rfl rfl ?_
  obtain ⟨v5, H6, z4, hG⟩ := bC_s hF; clear hF
  refine hp_callS_a (v := .int v5) (H1 := H6) (As := [.int p2, .int p3]) (rest := [.ref a2]) d_Play_accept_6 (k_Play_slot z4) (ab_mkC s_Play_slot (Nat.le_of_ble_eq_true rfl) (Nat.le_of_ble_eq_true rfl) (show (H.sh.length - c0) + 0 ≤ C from by omega) (show (H.sl - s0) + 0 ≤ Sl from by omega)) (k6 181 rfl rfl) t_Play_slot rfl (Nat.le_of_ble_eq_true rfl) ?_
  have s_2 : Sa H H6 := (m_Play_slot z4)
  refine ab_widen (cells' := H.sh.length - c0) (slots' := H.sl - s0) (by show (H.sh.length - c0) + 0 ≤ _; omega) (by show (H.sl - s0) + 0 ≤ _; omega) ?_
  refine ab_iconst (v := 1) d_Play_accept_9 (by decide) ?_
  obtain ⟨n7, q8, hF⟩ := ar_s hG; clear hG
  rw [(s_2).1] at q8
  obtain ⟨q9, hG⟩ := ck_s hF; clear hF
  refine hp_zast d_Play_accept_10 tZ (by rw [(s_2).1]; exact q8) q9 ?_
  refine hp_gen (fun H10 eH10 => ?_)
  replace hG := bnd_s eH10 hG
  have s_3 : Sa H H10 := by rw [eH10]; exact s_2
  refine ab_aload_n d_Play_accept_11 rfl rfl rfl ?_
  obtain ⟨a11, e12, hF⟩ := rf_s hG; clear hG
  refine hp_getR (f := 9) d_Play_accept_12 (by rw [(s_3).1]; exact q1) (by decide) rfl (by decide) (k2 145 rfl rfl) rfl e12 ?_
  refine ab_iload_n d_Play_accept_15 rfl rfl ?_
  refine ab_iload_n d_Play_accept_16 rfl rfl ?_
  obtain ⟨v14, H15, z13, hG⟩ := bC_s hF; clear hF
  refine ab_widen (cells' := H10.sh.length - c0) (slots' := H10.sl - s0) (by rw [(s_3).1]; exact Nat.le_refl _) (by rw [(s_3).2]; exact Nat.le_refl _) ?_
  have b_4e := congrArg List.length (s_3).1
  have b_4f := (s_3).2
  refine hp_callS_a (v := .int v14) (H1 := H15) (As := [.int p2, .int p3]) (rest := [.ref a11]) d_Play_accept_17 (k_Play_slot z13) (ab_mkC s_Play_slot (Nat.le_of_ble_eq_true rfl) (Nat.le_of_ble_eq_true rfl) (show (H10.sh.length - c0) + 0 ≤ C from by omega) (show (H10.sl - s0) + 0 ≤ Sl from by omega)) (k6 181 rfl rfl) t_Play_slot rfl (Nat.le_of_ble_eq_true rfl) ?_
  have s_5 : Sa H H15 := (s_3).tr (m_Play_slot z13)
  refine ab_widen (cells' := H.sh.length - c0) (slots' := H.sl - s0) (by show (H10.sh.length - c0) + 0 ≤ _; omega) (by show (H10.sl - s0) + 0 ≤ _; omega) ?_
  clear b_4e b_4f
  refine ab_iload d_Play_accept_20 rfl ?_
  obtain ⟨n16, q17, hF⟩ := ar_s hG; clear hG
  rw [(s_5).1] at q17
  obtain ⟨q18, hG⟩ := ck_s hF; clear hF
  refine hp_iast d_Play_accept_22 tI (by rw [(s_5).1]; exact q17) q18 ?_
  refine hp_gen (fun H19 eH19 => ?_)
  replace hG := bnd_s eH19 hG
  have s_6 : Sa H H19 := by rw [eH19]; exact s_5
  refine ab_aload_n d_Play_accept_23 rfl rfl rfl ?_
  obtain ⟨a20, e21, hF⟩ := rf_s hG; clear hG
  refine hp_getR (f := 0) d_Play_accept_24 (by rw [(s_6).1]; exact q1) (by decide) rfl (by decide) (k2 130 rfl rfl) rfl e21 ?_
  obtain ⟨q22, hG⟩ := ck_s hF; clear hF
  rw [(s_6).1] at q22
  refine hp_getI (f := 0) d_Play_accept_27 (by rw [(s_6).1]; exact q22) (by decide) rfl (by decide) (k1 205 rfl rfl) rfl ?_
  refine ab_topi (fun x23 ex23 => ?_)
  replace hG := bnd_s ex23 hG
  refine ab_istore (lv' := [some (.ref p0), some (.ref p1), some (.int p2), some (.int p3), some (.int p4), some (.int x23), none, none, none]) d_Play_accept_30 (by decide) rfl ?_
  refine ab_aload_n d_Play_accept_32 rfl rfl rfl ?_
  refine ab_iload_n d_Play_accept_33 rfl rfl ?_
  refine ab_iload_n d_Play_accept_34 rfl rfl ?_
  obtain ⟨v25, H26, z24, hF⟩ := bC_s hG; clear hG
  refine ab_widen (cells' := H19.sh.length - c0) (slots' := H19.sl - s0) (by rw [(s_6).1]; exact Nat.le_refl _) (by rw [(s_6).2]; exact Nat.le_refl _) ?_
  have b_7e := congrArg List.length (s_6).1
  have b_7f := (s_6).2
  refine hp_callV_a (v := .int v25) (H1 := H26) (As := [.int p2, .int p3]) (rest := []) d_Play_accept_35 (k_Play_firstWrong z24) (ab_mkC s_Play_firstWrong (Nat.le_of_ble_eq_true rfl) (Nat.le_of_ble_eq_true rfl) (show (H19.sh.length - c0) + 0 ≤ C from by omega) (show (H19.sl - s0) + 0 ≤ Sl from by omega)) (k7 154 rfl rfl) i_Play_firstWrong v_Play_firstWrong (by rw [(s_6).1]; exact q1) (by decide) rfl rfl (Nat.le_of_ble_eq_true rfl) ?_
  have s_8 : Sa H H26 := (s_6).tr (m_Play_firstWrong z24)
  refine ab_widen (cells' := H.sh.length - c0) (slots' := H.sl - s0) (by show (H19.sh.length - c0) + 0 ≤ _; omega) (by show (H19.sl - s0) + 0 ≤ _; omega) ?_
  clear b_7e b_7f
  refine ab_istore (lv' := [some (.ref p0), some (.ref p1), some (.int p2), some (.int p3), some (.int p4), some (.int x23), some (.int v25), none, none]) d_Play_accept_38 (by decide) rfl ?_
  refine ab_iconst (v := 0) d_Play_accept_40 (by decide) ?_
  refine ab_iload d_Play_accept_41 rfl ?_
  refine ab_iload d_Play_accept_43 rfl ?_
  refine ab_isub d_Play_accept_45 ?_
  refine ab_iconst (v := 1) d_Play_accept_46 (by decide) ?_
  refine ab_iadd d_Play_accept_47 ?_
  obtain ⟨v28, H29, z27, hG⟩ := bC_s hF; clear hF
  refine ab_widen (cells' := H26.sh.length - c0) (slots' := H26.sl - s0) (by rw [(s_8).1]; exact Nat.le_refl _) (by rw [(s_8).2]; exact Nat.le_refl _) ?_
  have b_9e := congrArg List.length (s_8).1
  have b_9f := (s_8).2
  refine hp_callS_a (v := .int v28) (H1 := H29) (As := [.int 0, .int ((x23 - v25) + (1 : Int32))]) (rest := []) d_Play_accept_48 (k_Math_max z27) (ab_mkC s_Math_max (Nat.le_of_ble_eq_true rfl) (Nat.le_of_ble_eq_true rfl) (show (H26.sh.length - c0) + 0 ≤ C from by omega) (show (H26.sl - s0) + 0 ≤ Sl from by omega)) (k7 158 rfl rfl) t_Math_max rfl (Nat.le_of_ble_eq_true rfl) ?_
  have s_10 : Sa H H29 := (s_8).tr (m_Math_max z27)
  refine ab_widen (cells' := H.sh.length - c0) (slots' := H.sl - s0) (by show (H26.sh.length - c0) + 0 ≤ _; omega) (by show (H26.sl - s0) + 0 ≤ _; omega) ?_
  clear b_9e b_9f
  refine ab_istore (lv' := [some (.ref p0), some (.ref p1), some (.int p2), some (.int p3), some (.int p4), some (.int x23), some (.int v25), some (.int v28), none]) d_Play_accept_51 (by decide) rfl ?_
  refine ab_iload d_Play_accept_53 rfl ?_
  refine ab_if_le (tgt := 77) d_Play_accept_55 (by decide) (fun q30 => ?_) (fun q30 => ?_)
  · rw [if_pos q30] at hG
    refine ab_le (lv' := [some (.ref p0), some (.ref p1), some (.int p2), some (.int p3), some (.int p4), none, none, some (.int v28), none]) ⟨rfl, ⟨rfl, ⟨rfl, ⟨rfl, ⟨rfl, ⟨rfl, trivial⟩⟩⟩⟩⟩⟩ ?_
    refine ab_widen (cells' := H29.sh.length - c0) (slots' := H29.sl - s0) (by rw [(s_10).1]; exact Nat.le_refl _) (by rw [(s_10).2]; exact Nat.le_refl _) ?_
    exact kB_Play_accept_77 hG (by rw [(s_10).1]; exact hc0) (by rw [(s_10).2]; exact hs0) (by rw [(s_10).1]; exact hcc) (by rw [(s_10).2]; exact hss) hC hS
  · rw [if_neg q30] at hG
    refine ab_aload_n d_Play_accept_58 rfl rfl rfl ?_
    obtain ⟨a73, e74, hF⟩ := rf_s hG; clear hG
    refine hp_getR (f := 0) d_Play_accept_59 (by rw [(s_10).1]; exact q1) (by decide) rfl (by decide) (k2 130 rfl rfl) rfl e74 ?_
    refine ab_aload_n d_Play_accept_62 rfl rfl rfl ?_
    obtain ⟨a75, e76, hG⟩ := rf_s hF; clear hF
    refine hp_getR (f := 6) d_Play_accept_63 (by rw [(s_10).1]; exact q1) (by decide) rfl (by decide) (k2 142 rfl rfl) rfl e76 ?_
    refine ab_iload d_Play_accept_66 rfl ?_
    refine ab_iconst (v := 1) d_Play_accept_68 (by decide) ?_
    refine ab_isub d_Play_accept_69 ?_
    refine ab_bipush (v := 15) d_Play_accept_70 (by decide) ?_
    refine ab_iand d_Play_accept_72 ?_
    obtain ⟨n77, q78, hF⟩ := ar_s hG; clear hG
    rw [(s_10).1] at q78
    obtain ⟨q79, hG⟩ := ck_s hF; clear hF
    obtain ⟨a80, e81, hF⟩ := rf_s hG; clear hG
    refine hp_aald (q := 105) d_Play_accept_73 (by decide) tW (by rw [(s_10).1]; exact q78) q79 e81 ?_
    obtain ⟨q82, hG⟩ := ck_s hF; clear hF
    rw [(s_10).1] at q82
    obtain ⟨v84, H85, z83, hF⟩ := bC_s hG; clear hG
    refine ab_widen (cells' := H29.sh.length - c0) (slots' := H29.sl - s0) (by rw [(s_10).1]; exact Nat.le_refl _) (by rw [(s_10).2]; exact Nat.le_refl _) ?_
    have b_25e := congrArg List.length (s_10).1
    have b_25f := (s_10).2
    refine hp_callV_v (H1 := H85) (As := [.ref a80]) (rest := []) d_Play_accept_74 (k_World_copyFrom z83) (ab_mkC s_World_copyFrom (Nat.le_of_ble_eq_true rfl) (Nat.le_of_ble_eq_true rfl) (show (H29.sh.length - c0) + 0 ≤ C from by omega) (show (H29.sl - s0) + 0 ≤ Sl from by omega)) (k6 107 rfl rfl) i_World_copyFrom v_World_copyFrom (by rw [(s_10).1]; exact q82) (by decide) rfl rfl (Nat.le_of_ble_eq_true rfl) ?_
    have s_26 : Sa H H85 := (s_10).tr (m_World_copyFrom z83)
    refine ab_widen (cells' := H.sh.length - c0) (slots' := H.sl - s0) (by show (H29.sh.length - c0) + 0 ≤ _; omega) (by show (H29.sl - s0) + 0 ≤ _; omega) ?_
    clear b_25e b_25f
    refine ab_le (lv' := [some (.ref p0), some (.ref p1), some (.int p2), some (.int p3), some (.int p4), none, none, some (.int v28), none]) ⟨rfl, ⟨rfl, ⟨rfl, ⟨rfl, ⟨rfl, ⟨rfl, trivial⟩⟩⟩⟩⟩⟩ ?_
    refine ab_widen (cells' := H85.sh.length - c0) (slots' := H85.sl - s0) (by rw [(s_26).1]; exact Nat.le_refl _) (by rw [(s_26).2]; exact Nat.le_refl _) ?_
    exact kB_Play_accept_77 hF (by rw [(s_26).1]; exact hc0) (by rw [(s_26).2]; exact hs0) (by rw [(s_26).1]; exact hcc) (by rw [(s_26).2]; exact hss) hC hS
def y_W_input : ab_Y := (⟨"WorldEngine", "input", "(III)I"⟩, prog_1_method_9_code, 5, (some FieldType.int), [])
theorem d_W_input_0 : decode y_W_input.2.1 0 = .ok (.aload_n 0, 1) := by decide +kernel
theorem d_W_input_1 : decode y_W_input.2.1 1 = .ok (.getfield 28, 3) := by decide +kernel
theorem d_W_input_4 : decode y_W_input.2.1 4 = .ok (.iload_n 1, 1) := by decide +kernel
theorem d_W_input_5 : decode y_W_input.2.1 5 = .ok (.iload_n 2, 1) := by decide +kernel
theorem d_W_input_6 : decode y_W_input.2.1 6 = .ok (.invokevirtual 135, 3) := by decide +kernel
theorem d_W_input_9 : decode y_W_input.2.1 9 = .ok (.istore 4, 2) := by decide +kernel
theorem d_W_input_11 : decode y_W_input.2.1 11 = .ok (.iload 4, 2) := by decide +kernel
theorem d_W_input_13 : decode y_W_input.2.1 13 = .ok (.ifCond .eq 6, 3) := by decide +kernel
theorem d_W_input_16 : decode y_W_input.2.1 16 = .ok (.iload 4, 2) := by decide +kernel
theorem d_W_input_18 : decode y_W_input.2.1 18 = .ok (.ireturn, 1) := by decide +kernel
theorem d_W_input_19 : decode y_W_input.2.1 19 = .ok (.aload_n 0, 1) := by decide +kernel
theorem d_W_input_20 : decode y_W_input.2.1 20 = .ok (.getfield 28, 3) := by decide +kernel
theorem d_W_input_23 : decode y_W_input.2.1 23 = .ok (.aload_n 0, 1) := by decide +kernel
theorem d_W_input_24 : decode y_W_input.2.1 24 = .ok (.getfield 42, 3) := by decide +kernel
theorem d_W_input_27 : decode y_W_input.2.1 27 = .ok (.iload_n 1, 1) := by decide +kernel
theorem d_W_input_28 : decode y_W_input.2.1 28 = .ok (.iload_n 2, 1) := by decide +kernel
theorem d_W_input_29 : decode y_W_input.2.1 29 = .ok (.iload_n 3, 1) := by decide +kernel
theorem d_W_input_30 : decode y_W_input.2.1 30 = .ok (.invokevirtual 138, 3) := by decide +kernel
theorem d_W_input_33 : decode y_W_input.2.1 33 = .ok (.ireturn, 1) := by decide +kernel
theorem s_W_input : ab_Stat y_W_input 3 := ⟨(k7 145 rfl rfl), (k1 1 rfl rfl), ⟨by decide, by decide⟩, by decide +kernel⟩
theorem i_W_input : Cond.instanceMethod y_W_input.1 ∈ ab_T := (k7 143 rfl rfl)
theorem v_W_input : Cond.selects "WorldEngine" y_W_input.1 y_W_input.1 ∈ ab_T := (k7 144 rfl rfl)
def F_W_input (N : Nat) (p0 : Nat) (p1 : Int32) (p2 : Int32) (p3 : Int32) (H : Hp) : Option (Int32 × Hp) :=
    ck (H.sh[p0]? = some (0, 0)) <|
    rf (H.P p0 2) fun a2 =>
    ck (H.sh[a2]? = some (10, 0)) <|
    bC (F_Play_refusal N a2 p1 p2 H) fun v6 H7 =>
    if v6 = (0 : Int32) then
    rf (H7.P p0 2) fun a9 =>
    rf (H7.P p0 4) fun a11 =>
    ck (H7.sh[a9]? = some (10, 0)) <|
    bC (F_Play_accept N a9 a11 p1 p2 p3 H7) fun v15 H16 =>
    some (v15, H16)
    else
    some (v6, H7)
set_option maxRecDepth 20000 in
set_option maxHeartbeats 2000000 in
theorem m_W_input {N : Nat} {p0 : Nat} {p1 : Int32} {p2 : Int32} {p3 : Int32} {H : Hp} {r : Int32 × Hp} (hF : F_W_input N p0 p1 p2 p3 H = some r) : Mo H r.2 := by
  unfold F_W_input at hF
  have hm := Mo.rf H
  obtain ⟨q17, hG⟩ := ck_s hF; clear hF
  obtain ⟨a18, e19, hF⟩ := rf_s hG; clear hG
  obtain ⟨q20, hG⟩ := ck_s hF; clear hF
  obtain ⟨v22, H23, z21, hF⟩ := bC_s hG; clear hG
  replace hm : Mo H H23 := hm.tr ((m_Play_refusal z21)).mo
  rcases ite_s hF with ⟨q_8, hG⟩ | ⟨q_8, hG⟩
  · clear hF
    obtain ⟨a25, e26, hF⟩ := rf_s hG; clear hG
    obtain ⟨a27, e28, hG⟩ := rf_s hF; clear hF
    obtain ⟨q29, hF⟩ := ck_s hG; clear hG
    obtain ⟨v31, H32, z30, hG⟩ := bC_s hF; clear hF
    replace hm : Mo H H32 := hm.tr (m_Play_accept z30)
    have hr := Option.some.inj hG; subst hr
    exact hm
  · clear hF
    have hr := Option.some.inj hG; subst hr
    exact hm
set_option maxRecDepth 20000 in
set_option maxHeartbeats 2000000 in
theorem k_W_input {N : Nat} {p0 : Nat} {p1 : Int32} {p2 : Int32} {p3 : Int32} {H : Hp} {r : Int32 × Hp} {C Sl : Nat} (hF : F_W_input N p0 p1 p2 p3 H = some r) (hC : r.2.sh.length ≤ H.sh.length + C) (hS : r.2.sl ≤ H.sl + Sl) : ab_M y_W_input { frames := 8, cells := C, slots := Sl, locals := 223 } [.ref p0, .int p1, .int p2, .int p3] (hpw H) (po (.returned (some (.int r.1))) r.2) := by
  unfold F_W_input at hF
  obtain ⟨c0, e0⟩ : ∃ q, q = H.sh.length := ⟨_, rfl⟩
  obtain ⟨s0, e1⟩ : ∃ q, q = H.sl := ⟨_, rfl⟩
  rw [← e0] at hC
  rw [← e1] at hS
  have hc0 : c0 ≤ H.sh.length := Nat.le_of_eq e0
  have hs0 : s0 ≤ H.sl := Nat.le_of_eq e1
  have hcc : H.sh.length ≤ c0 + C := by omega
  have hss : H.sl ≤ s0 + Sl := by omega
  refine ab_of2 (lv := [some (.ref p0), some (.int p1), some (.int p2), some (.int p3), none]) 1 rfl rfl (Nat.le_of_ble_eq_true rfl) ?_
  refine ab_widen (cells' := H.sh.length - c0) (slots' := H.sl - s0) (Nat.zero_le _) (Nat.zero_le _) ?_
  refine ab_aload_n d_W_input_0 rfl rfl rfl ?_
  obtain ⟨q1, hG⟩ := ck_s hF; clear hF
  obtain ⟨a2, e3, hF⟩ := rf_s hG; clear hG
  refine hp_getR (f := 2) d_W_input_1 q1 (by decide) rfl (by decide) (k3 159 rfl rfl) rfl e3 ?_
  refine ab_iload_n d_W_input_4 rfl rfl ?_
  refine ab_iload_n d_W_input_5 rfl rfl ?_
  obtain ⟨q4, hG⟩ := ck_s hF; clear hF
  obtain ⟨v6, H7, z5, hF⟩ := bC_s hG; clear hG
  refine hp_callV_a (v := .int v6) (H1 := H7) (As := [.int p1, .int p2]) (rest := []) d_W_input_6 (k_Play_refusal z5) (ab_mkC s_Play_refusal (Nat.le_of_ble_eq_true rfl) (Nat.le_of_ble_eq_true rfl) (show (H.sh.length - c0) + 0 ≤ C from by omega) (show (H.sl - s0) + 0 ≤ Sl from by omega)) (k7 146 rfl rfl) i_Play_refusal v_Play_refusal q4 (by decide) rfl rfl (Nat.le_of_ble_eq_true rfl) ?_
  have s_2 : Sa H H7 := (m_Play_refusal z5)
  refine ab_widen (cells' := H.sh.length - c0) (slots' := H.sl - s0) (by show (H.sh.length - c0) + 0 ≤ _; omega) (by show (H.sl - s0) + 0 ≤ _; omega) ?_
  refine ab_istore (lv' := [some (.ref p0), some (.int p1), some (.int p2), some (.int p3), some (.int v6)]) d_W_input_9 (by decide) rfl ?_
  refine ab_iload d_W_input_11 rfl ?_
  refine ab_if_eq (tgt := 19) d_W_input_13 (by decide) (fun q8 => ?_) (fun q8 => ?_)
  · rw [if_pos q8] at hF
    refine ab_aload_n d_W_input_19 rfl rfl rfl ?_
    obtain ⟨a9, e10, hG⟩ := rf_s hF; clear hF
    refine hp_getR (f := 2) d_W_input_20 (by rw [(s_2).1]; exact q1) (by decide) rfl (by decide) (k3 159 rfl rfl) rfl e10 ?_
    refine ab_aload_n d_W_input_23 rfl rfl rfl ?_
    obtain ⟨a11, e12, hF⟩ := rf_s hG; clear hG
    refine hp_getR (f := 4) d_W_input_24 (by rw [(s_2).1]; exact q1) (by decide) rfl (by decide) (k3 161 rfl rfl) rfl e12 ?_
    refine ab_iload_n d_W_input_27 rfl rfl ?_
    refine ab_iload_n d_W_input_28 rfl rfl ?_
    refine ab_iload_n d_W_input_29 rfl rfl ?_
    obtain ⟨q13, hG⟩ := ck_s hF; clear hF
    rw [(s_2).1] at q13
    obtain ⟨v15, H16, z14, hF⟩ := bC_s hG; clear hG
    refine ab_widen (cells' := H7.sh.length - c0) (slots' := H7.sl - s0) (by rw [(s_2).1]; exact Nat.le_refl _) (by rw [(s_2).2]; exact Nat.le_refl _) ?_
    have mz_3 : Mo H7 H16 := (m_Play_accept z14)
    have b_4l := (mz_3).len
    have b_4s := (mz_3).2
    have b_4e := congrArg List.length (s_2).1
    have b_4f := (s_2).2
    have b_4c : c0 ≤ H16.sh.length := by omega
    have b_4d : s0 ≤ H16.sl := by omega
    have q_5 := (mz_3).get (by rw [(s_2).1]; exact q1)
    have q_6 := (mz_3).get (by rw [(s_2).1]; exact q4)
    have q_7 := (mz_3).get (by rw [(s_2).1]; exact q13)
    have fH16 : Mo H16 r.2 := by
      have hm := Mo.rf H16
      have hr := Option.some.inj hF; subst hr
      exact hm
    have b_4m := (fH16).len
    have b_4n := (fH16).2
    have b_4p : H16.sh.length ≤ c0 + C := by omega
    have b_4q : H16.sl ≤ s0 + Sl := by omega
    refine hp_callV_a (v := .int v15) (H1 := H16) (As := [.ref a11, .int p1, .int p2, .int p3]) (rest := []) d_W_input_30 (k_Play_accept z14 (C := H16.sh.length - H7.sh.length) (Sl := H16.sl - H7.sl) (by show H16.sh.length ≤ _; omega) (by show H16.sl ≤ _; omega)) (ab_mkC s_Play_accept (Nat.le_of_ble_eq_true rfl) (Nat.le_of_ble_eq_true rfl) (show (H7.sh.length - c0) + (H16.sh.length - H7.sh.length) ≤ C from by omega) (show (H7.sl - s0) + (H16.sl - H7.sl) ≤ Sl from by omega)) (k7 150 rfl rfl) i_Play_accept v_Play_accept (by rw [(s_2).1]; exact q13) (by decide) rfl rfl (Nat.le_of_ble_eq_true rfl) ?_
    refine ab_widen (cells' := H16.sh.length - c0) (slots' := H16.sl - s0) (by show _ + (H16.sh.length - H7.sh.length) ≤ _; omega) (by show _ + (H16.sl - H7.sl) ≤ _; omega) ?_
    clear b_4l b_4s b_4m b_4n b_4e b_4f
    exact ab_iret d_W_input_33 rfl (by show _ ≤ C; omega) (by show _ ≤ Sl; omega) (by have hr := Option.some.inj hF; subst hr; exact ⟨rfl, rfl⟩)
  · rw [if_neg q8] at hF
    refine ab_iload d_W_input_16 rfl ?_
    exact ab_iret d_W_input_18 rfl (by show _ ≤ C; omega) (by show _ ≤ Sl; omega) (by have hr := Option.some.inj hF; subst hr; exact ⟨rfl, rfl⟩)
