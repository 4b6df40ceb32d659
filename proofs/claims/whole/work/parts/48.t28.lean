def y_Row_nextHeard : ab_Y := (⟨"WorldEngine$Row", "nextHeard", "(I)V"⟩, prog_8_method_9_code, 7, none, [])
theorem d_Row_nextHeard_0 : decode y_Row_nextHeard.2.1 0 = .ok (.aload_n 0, 1) := by decide +kernel
theorem d_Row_nextHeard_1 : decode y_Row_nextHeard.2.1 1 = .ok (.invokevirtual 88, 3) := by decide +kernel
theorem d_Row_nextHeard_4 : decode y_Row_nextHeard.2.1 4 = .ok (.istore_n 2, 1) := by decide +kernel
theorem d_Row_nextHeard_5 : decode y_Row_nextHeard.2.1 5 = .ok (.aload_n 0, 1) := by decide +kernel
theorem d_Row_nextHeard_6 : decode y_Row_nextHeard.2.1 6 = .ok (.invokevirtual 88, 3) := by decide +kernel
theorem d_Row_nextHeard_9 : decode y_Row_nextHeard.2.1 9 = .ok (.istore_n 3, 1) := by decide +kernel
theorem d_Row_nextHeard_10 : decode y_Row_nextHeard.2.1 10 = .ok (.aload_n 0, 1) := by decide +kernel
theorem d_Row_nextHeard_11 : decode y_Row_nextHeard.2.1 11 = .ok (.getfield 39, 3) := by decide +kernel
theorem d_Row_nextHeard_14 : decode y_Row_nextHeard.2.1 14 = .ok (.aload_n 0, 1) := by decide +kernel
theorem d_Row_nextHeard_15 : decode y_Row_nextHeard.2.1 15 = .ok (.getfield 50, 3) := by decide +kernel
theorem d_Row_nextHeard_18 : decode y_Row_nextHeard.2.1 18 = .ok (.invokevirtual 112, 3) := by decide +kernel
theorem d_Row_nextHeard_21 : decode y_Row_nextHeard.2.1 21 = .ok (.istore 4, 2) := by decide +kernel
theorem d_Row_nextHeard_23 : decode y_Row_nextHeard.2.1 23 = .ok (.aload_n 0, 1) := by decide +kernel
theorem d_Row_nextHeard_24 : decode y_Row_nextHeard.2.1 24 = .ok (.getfield 21, 3) := by decide +kernel
theorem d_Row_nextHeard_27 : decode y_Row_nextHeard.2.1 27 = .ok (.iload_n 1, 1) := by decide +kernel
theorem d_Row_nextHeard_28 : decode y_Row_nextHeard.2.1 28 = .ok (.iaload, 1) := by decide +kernel
theorem d_Row_nextHeard_29 : decode y_Row_nextHeard.2.1 29 = .ok (.iconst 1, 1) := by decide +kernel
theorem d_Row_nextHeard_30 : decode y_Row_nextHeard.2.1 30 = .ok (.iadd, 1) := by decide +kernel
theorem d_Row_nextHeard_31 : decode y_Row_nextHeard.2.1 31 = .ok (.istore 5, 2) := by decide +kernel
theorem d_Row_nextHeard_33 : decode y_Row_nextHeard.2.1 33 = .ok (.iload 5, 2) := by decide +kernel
theorem d_Row_nextHeard_35 : decode y_Row_nextHeard.2.1 35 = .ok (.aload_n 0, 1) := by decide +kernel
theorem d_Row_nextHeard_36 : decode y_Row_nextHeard.2.1 36 = .ok (.getfield 39, 3) := by decide +kernel
theorem d_Row_nextHeard_39 : decode y_Row_nextHeard.2.1 39 = .ok (.getfield 165, 3) := by decide +kernel
theorem d_Row_nextHeard_42 : decode y_Row_nextHeard.2.1 42 = .ok (.if_icmp .ge 78, 3) := by decide +kernel
theorem d_Row_nextHeard_45 : decode y_Row_nextHeard.2.1 45 = .ok (.iload 5, 2) := by decide +kernel
theorem d_Row_nextHeard_47 : decode y_Row_nextHeard.2.1 47 = .ok (.bipush 7, 2) := by decide +kernel
theorem d_Row_nextHeard_49 : decode y_Row_nextHeard.2.1 49 = .ok (.imul, 1) := by decide +kernel
theorem d_Row_nextHeard_50 : decode y_Row_nextHeard.2.1 50 = .ok (.istore 6, 2) := by decide +kernel
theorem d_Row_nextHeard_52 : decode y_Row_nextHeard.2.1 52 = .ok (.aload_n 0, 1) := by decide +kernel
theorem d_Row_nextHeard_53 : decode y_Row_nextHeard.2.1 53 = .ok (.getfield 39, 3) := by decide +kernel
theorem d_Row_nextHeard_56 : decode y_Row_nextHeard.2.1 56 = .ok (.getfield 168, 3) := by decide +kernel
theorem d_Row_nextHeard_59 : decode y_Row_nextHeard.2.1 59 = .ok (.iload 6, 2) := by decide +kernel
theorem d_Row_nextHeard_61 : decode y_Row_nextHeard.2.1 61 = .ok (.iaload, 1) := by decide +kernel
theorem d_Row_nextHeard_62 : decode y_Row_nextHeard.2.1 62 = .ok (.iload_n 2, 1) := by decide +kernel
theorem d_Row_nextHeard_63 : decode y_Row_nextHeard.2.1 63 = .ok (.if_icmp .ne 51, 3) := by decide +kernel
theorem d_Row_nextHeard_66 : decode y_Row_nextHeard.2.1 66 = .ok (.aload_n 0, 1) := by decide +kernel
theorem d_Row_nextHeard_67 : decode y_Row_nextHeard.2.1 67 = .ok (.getfield 39, 3) := by decide +kernel
theorem d_Row_nextHeard_70 : decode y_Row_nextHeard.2.1 70 = .ok (.getfield 168, 3) := by decide +kernel
theorem d_Row_nextHeard_73 : decode y_Row_nextHeard.2.1 73 = .ok (.iload 6, 2) := by decide +kernel
theorem d_Row_nextHeard_75 : decode y_Row_nextHeard.2.1 75 = .ok (.iconst 1, 1) := by decide +kernel
theorem d_Row_nextHeard_76 : decode y_Row_nextHeard.2.1 76 = .ok (.iadd, 1) := by decide +kernel
theorem d_Row_nextHeard_77 : decode y_Row_nextHeard.2.1 77 = .ok (.iaload, 1) := by decide +kernel
theorem d_Row_nextHeard_78 : decode y_Row_nextHeard.2.1 78 = .ok (.aload_n 0, 1) := by decide +kernel
theorem d_Row_nextHeard_79 : decode y_Row_nextHeard.2.1 79 = .ok (.getfield 39, 3) := by decide +kernel
theorem d_Row_nextHeard_82 : decode y_Row_nextHeard.2.1 82 = .ok (.getfield 171, 3) := by decide +kernel
theorem d_Row_nextHeard_85 : decode y_Row_nextHeard.2.1 85 = .ok (.if_icmp .ne 29, 3) := by decide +kernel
theorem d_Row_nextHeard_88 : decode y_Row_nextHeard.2.1 88 = .ok (.aload_n 0, 1) := by decide +kernel
theorem d_Row_nextHeard_89 : decode y_Row_nextHeard.2.1 89 = .ok (.getfield 39, 3) := by decide +kernel
theorem d_Row_nextHeard_92 : decode y_Row_nextHeard.2.1 92 = .ok (.getfield 168, 3) := by decide +kernel
theorem d_Row_nextHeard_95 : decode y_Row_nextHeard.2.1 95 = .ok (.iload 6, 2) := by decide +kernel
theorem d_Row_nextHeard_97 : decode y_Row_nextHeard.2.1 97 = .ok (.iconst 2, 1) := by decide +kernel
theorem d_Row_nextHeard_98 : decode y_Row_nextHeard.2.1 98 = .ok (.iadd, 1) := by decide +kernel
theorem d_Row_nextHeard_99 : decode y_Row_nextHeard.2.1 99 = .ok (.iaload, 1) := by decide +kernel
theorem d_Row_nextHeard_100 : decode y_Row_nextHeard.2.1 100 = .ok (.iload 4, 2) := by decide +kernel
theorem d_Row_nextHeard_102 : decode y_Row_nextHeard.2.1 102 = .ok (.if_icmp .ne 12, 3) := by decide +kernel
theorem d_Row_nextHeard_105 : decode y_Row_nextHeard.2.1 105 = .ok (.aload_n 0, 1) := by decide +kernel
theorem d_Row_nextHeard_106 : decode y_Row_nextHeard.2.1 106 = .ok (.getfield 21, 3) := by decide +kernel
theorem d_Row_nextHeard_109 : decode y_Row_nextHeard.2.1 109 = .ok (.iload_n 1, 1) := by decide +kernel
theorem d_Row_nextHeard_110 : decode y_Row_nextHeard.2.1 110 = .ok (.iload 5, 2) := by decide +kernel
theorem d_Row_nextHeard_112 : decode y_Row_nextHeard.2.1 112 = .ok (.iastore, 1) := by decide +kernel
theorem d_Row_nextHeard_113 : decode y_Row_nextHeard.2.1 113 = .ok (.return_, 1) := by decide +kernel
theorem d_Row_nextHeard_114 : decode y_Row_nextHeard.2.1 114 = .ok (.iinc 5 1, 3) := by decide +kernel
theorem d_Row_nextHeard_117 : decode y_Row_nextHeard.2.1 117 = .ok (.goto (-84), 3) := by decide +kernel
theorem d_Row_nextHeard_120 : decode y_Row_nextHeard.2.1 120 = .ok (.aload_n 0, 1) := by decide +kernel
theorem d_Row_nextHeard_121 : decode y_Row_nextHeard.2.1 121 = .ok (.iload_n 3, 1) := by decide +kernel
theorem d_Row_nextHeard_122 : decode y_Row_nextHeard.2.1 122 = .ok (.putfield 56, 3) := by decide +kernel
theorem d_Row_nextHeard_125 : decode y_Row_nextHeard.2.1 125 = .ok (.return_, 1) := by decide +kernel
theorem s_Row_nextHeard : ab_Stat y_Row_nextHeard 1 := ⟨(k6 238 rfl rfl), (k1 13 rfl rfl), ⟨by decide, by decide⟩, by decide +kernel⟩
theorem i_Row_nextHeard : Cond.instanceMethod y_Row_nextHeard.1 ∈ ab_T := (k6 237 rfl rfl)
theorem v_Row_nextHeard : Cond.selects "WorldEngine$Row" y_Row_nextHeard.1 y_Row_nextHeard.1 ∈ ab_T := ab_s (List.mem_of_getElem? (i := 73) rfl) rfl
def B_Row_nextHeard_114 (N : Nat) (p0 : Nat) (p1 : Int32) (kq33 : Int32 → Int32 → Int32 → Int32 → Hp → Option (Unit × Hp)) (l2 : Int32) (l3 : Int32) (l4 : Int32) (l5 : Int32) (H : Hp) : Option (Unit × Hp) :=
    kq33 l2 l3 l4 (l5 + 1) H
set_option maxRecDepth 20000 in
set_option maxHeartbeats 2000000 in
theorem mB_Row_nextHeard_114 {N : Nat} {p0 : Nat} {p1 : Int32} {kq33 : Int32 → Int32 → Int32 → Int32 → Hp → Option (Unit × Hp)} (hm33 : ∀ (l2 : Int32) (l3 : Int32) (l4 : Int32) (l5 : Int32) (H : Hp) (r : Unit × Hp), kq33 l2 l3 l4 l5 H = some r → Sa H r.2) {l2 : Int32} {l3 : Int32} {l4 : Int32} {l5 : Int32} {H : Hp} {r : Unit × Hp} (hF : B_Row_nextHeard_114 N p0 p1 kq33 l2 l3 l4 l5 H = some r) : Sa H r.2 := by
  unfold B_Row_nextHeard_114 at hF
  have hm := Sa.rf H
  exact hm.tr (hm33 l2 l3 l4 (l5 + 1) H r hF)
set_option maxRecDepth 20000 in
set_option maxHeartbeats 2000000 in
theorem kB_Row_nextHeard_114 {N : Nat} {p0 : Nat} {p1 : Int32} {kq33 : Int32 → Int32 → Int32 → Int32 → Hp → Option (Unit × Hp)} (hm33 : ∀ (l2 : Int32) (l3 : Int32) (l4 : Int32) (l5 : Int32) (H : Hp) (r : Unit × Hp), kq33 l2 l3 l4 l5 H = some r → Sa H r.2) (hk33 : ∀ (l2 : Int32) (l3 : Int32) (l4 : Int32) (l5 : Int32) (H : Hp) (r : Unit × Hp), kq33 l2 l3 l4 l5 H = some r → ab_V y_Row_nextHeard { frames := 1, cells := 0, slots := 0, locals := 21 } (po (.returned none) r.2) 0 0 0 0 33 [some (.ref p0), some (.int p1), some (.int l2), some (.int l3), some (.int l4), some (.int l5), none] [] (hpw H)) {l2 : Int32} {l3 : Int32} {l4 : Int32} {l5 : Int32} {H : Hp} {r : Unit × Hp} (hF : B_Row_nextHeard_114 N p0 p1 kq33 l2 l3 l4 l5 H = some r) : ab_V y_Row_nextHeard { frames := 1, cells := 0, slots := 0, locals := 21 } (po (.returned none) r.2) 0 0 0 0 114 [some (.ref p0), some (.int p1), some (.int l2), some (.int l3), some (.int l4), some (.int l5), none] [] (hpw H) := by
  unfold B_Row_nextHeard_114 at hF
  refine ab_iinc (v := l5 + 1) (lv' := [some (.ref p0), some (.int p1), some (.int l2), some (.int l3), some (.int l4), some (.int (l5 + 1)), none]) d_Row_nextHeard_114 rfl rfl (by decide) rfl ?_
  refine ab_goto (tgt := 33) d_Row_nextHeard_117 (by decide) ?_
  exact hk33 l2 l3 l4 (l5 + 1) H r hF
def B_Row_nextHeard_33 (N : Nat) (p0 : Nat) (p1 : Int32) : Nat → Int32 → Int32 → Int32 → Int32 → Hp → Option (Unit × Hp)
  | 0, _, _, _, _, _ => none
  | n + 1, l2, l3, l4, l5, H =>
    ck (H.sh[p0]? = some (8, 0)) <|
    rf (H.P p0 3) fun a23 =>
    ck (H.sh[a23]? = some (7, 0)) <|
    bnd ((H.D a23 13)) fun x26 =>
    if x26 ≤ l5 then
    bnd (H.sD p0 12 l3) fun H28 =>
    some ((), H28)
    else
    bnd ((l5 * (7 : Int32))) fun x29 =>
    rf (H.P p0 3) fun a30 =>
    ck (H.sh[a30]? = some (7, 0)) <|
    rf (H.P a30 12) fun a33 =>
    ar H 100 a33 fun n35 =>
    ck (inb x29 n35) <|
    bnd ((H.D a33 (x29).toNatClampNeg)) fun x38 =>
    if x38 = l2 then
    rf (H.P p0 3) fun a40 =>
    ck (H.sh[a40]? = some (7, 0)) <|
    rf (H.P a40 12) fun a43 =>
    ar H 100 a43 fun n45 =>
    ck (inb (x29 + (1 : Int32)) n45) <|
    bnd ((H.D a43 ((x29 + (1 : Int32))).toNatClampNeg)) fun x48 =>
    rf (H.P p0 3) fun a49 =>
    ck (H.sh[a49]? = some (7, 0)) <|
    bnd ((H.D a49 0)) fun x52 =>
    if x48 = x52 then
    rf (H.P p0 3) fun a54 =>
    ck (H.sh[a54]? = some (7, 0)) <|
    rf (H.P a54 12) fun a57 =>
    ar H 100 a57 fun n59 =>
    ck (inb (x29 + (2 : Int32)) n59) <|
    bnd ((H.D a57 ((x29 + (2 : Int32))).toNatClampNeg)) fun x62 =>
    if x62 = l4 then
    rf (H.P p0 8) fun a64 =>
    ar H 100 a64 fun n66 =>
    ck (inb p1 n66) <|
    bnd (H.sD a64 (p1).toNatClampNeg l5) fun H69 =>
    some ((), H69)
    else
    B_Row_nextHeard_114 N p0 p1 (fun l2 l3 l4 l5 H => B_Row_nextHeard_33 N p0 p1 n l2 l3 l4 l5 H) l2 l3 l4 l5 H
    else
    B_Row_nextHeard_114 N p0 p1 (fun l2 l3 l4 l5 H => B_Row_nextHeard_33 N p0 p1 n l2 l3 l4 l5 H) l2 l3 l4 l5 H
    else
    B_Row_nextHeard_114 N p0 p1 (fun l2 l3 l4 l5 H => B_Row_nextHeard_33 N p0 p1 n l2 l3 l4 l5 H) l2 l3 l4 l5 H
termination_by structural n => n
set_option maxRecDepth 20000 in
set_option maxHeartbeats 2000000 in
theorem mB_Row_nextHeard_33 {N : Nat} {p0 : Nat} {p1 : Int32} : ∀ (n : Nat) (l2 : Int32) (l3 : Int32) (l4 : Int32) (l5 : Int32) (H : Hp) (r : Unit × Hp), B_Row_nextHeard_33 N p0 p1 n l2 l3 l4 l5 H = some r → Sa H r.2 := by
  intro n
  induction n with
  | zero => intro l2 l3 l4 l5 H r hF; rw [B_Row_nextHeard_33] at hF; cases hF
  | succ n ih =>
    intro l2 l3 l4 l5 H r hF
    rw [B_Row_nextHeard_33] at hF
    have hm := Sa.rf H
    obtain ⟨q70, hG⟩ := ck_s hF; clear hF
    obtain ⟨a71, e72, hF⟩ := rf_s hG; clear hG
    obtain ⟨q73, hG⟩ := ck_s hF; clear hF
    obtain ⟨x74, -, hF⟩ := bnd_g hG; clear hG
    rcases ite_s hF with ⟨q_6, hG⟩ | ⟨q_6, hG⟩
    · clear hF
      obtain ⟨H76, eH76, hF⟩ := bnd_g hG; clear hG
      replace hm : Sa H H76 := by rw [eH76]; exact hm
      have hr := Option.some.inj hF; subst hr
      exact hm
    · clear hF
      obtain ⟨x77, -, hF⟩ := bnd_g hG; clear hG
      obtain ⟨a78, e79, hG⟩ := rf_s hF; clear hF
      obtain ⟨q80, hF⟩ := ck_s hG; clear hG
      obtain ⟨a81, e82, hG⟩ := rf_s hF; clear hF
      obtain ⟨n83, q84, hF⟩ := ar_s hG; clear hG
      obtain ⟨q85, hG⟩ := ck_s hF; clear hF
      obtain ⟨x86, -, hF⟩ := bnd_g hG; clear hG
      rcases ite_s hF with ⟨q_8, hG⟩ | ⟨q_8, hG⟩
      · clear hF
        obtain ⟨a88, e89, hF⟩ := rf_s hG; clear hG
        obtain ⟨q90, hG⟩ := ck_s hF; clear hF
        obtain ⟨a91, e92, hF⟩ := rf_s hG; clear hG
        obtain ⟨n93, q94, hG⟩ := ar_s hF; clear hF
        obtain ⟨q95, hF⟩ := ck_s hG; clear hG
        obtain ⟨x96, -, hG⟩ := bnd_g hF; clear hF
        obtain ⟨a97, e98, hF⟩ := rf_s hG; clear hG
        obtain ⟨q99, hG⟩ := ck_s hF; clear hF
        obtain ⟨x100, -, hF⟩ := bnd_g hG; clear hG
        rcases ite_s hF with ⟨q_9, hG⟩ | ⟨q_9, hG⟩
        · clear hF
          obtain ⟨a102, e103, hF⟩ := rf_s hG; clear hG
          obtain ⟨q104, hG⟩ := ck_s hF; clear hF
          obtain ⟨a105, e106, hF⟩ := rf_s hG; clear hG
          obtain ⟨n107, q108, hG⟩ := ar_s hF; clear hF
          obtain ⟨q109, hF⟩ := ck_s hG; clear hG
          obtain ⟨x110, -, hG⟩ := bnd_g hF; clear hF
          rcases ite_s hG with ⟨q_10, hF⟩ | ⟨q_10, hF⟩
          · clear hG
            obtain ⟨a112, e113, hG⟩ := rf_s hF; clear hF
            obtain ⟨n114, q115, hF⟩ := ar_s hG; clear hG
            obtain ⟨q116, hG⟩ := ck_s hF; clear hF
            obtain ⟨H117, eH117, hF⟩ := bnd_g hG; clear hG
            replace hm : Sa H H117 := by rw [eH117]; exact hm
            have hr := Option.some.inj hF; subst hr
            exact hm
          · clear hG
            exact hm.tr (mB_Row_nextHeard_114 ih hF)
        · clear hF
          exact hm.tr (mB_Row_nextHeard_114 ih hG)
      · clear hF
        exact hm.tr (mB_Row_nextHeard_114 ih hG)
set_option maxRecDepth 20000 in
set_option maxHeartbeats 2000000 in
theorem kB_Row_nextHeard_33 {N : Nat} {p0 : Nat} {p1 : Int32} : ∀ (n : Nat) (l2 : Int32) (l3 : Int32) (l4 : Int32) (l5 : Int32) (H : Hp) (r : Unit × Hp), B_Row_nextHeard_33 N p0 p1 n l2 l3 l4 l5 H = some r → ab_V y_Row_nextHeard { frames := 1, cells := 0, slots := 0, locals := 21 } (po (.returned none) r.2) 0 0 0 0 33 [some (.ref p0), some (.int p1), some (.int l2), some (.int l3), some (.int l4), some (.int l5), none] [] (hpw H) := by
  intro n
  induction n with
  | zero => intro l2 l3 l4 l5 H r hF; rw [B_Row_nextHeard_33] at hF; cases hF
  | succ n ih =>
    intro l2 l3 l4 l5 H r hF
    rw [B_Row_nextHeard_33] at hF
    refine ab_iload d_Row_nextHeard_33 rfl ?_
    refine ab_aload_n d_Row_nextHeard_35 rfl rfl rfl ?_
    obtain ⟨q22, hG⟩ := ck_s hF; clear hF
    obtain ⟨a23, e24, hF⟩ := rf_s hG; clear hG
    refine hp_getR (f := 3) d_Row_nextHeard_36 q22 (by decide) rfl (by decide) (k2 65 rfl rfl) rfl e24 ?_
    obtain ⟨q25, hG⟩ := ck_s hF; clear hF
    refine hp_getI (f := 13) d_Row_nextHeard_39 q25 (by decide) rfl (by decide) (k2 6 rfl rfl) rfl ?_
    refine ab_topi (fun x26 ex26 => ?_)
    replace hG := bnd_s ex26 hG
    refine ab_icmp_ge (tgt := 120) d_Row_nextHeard_42 (by decide) (fun q27 => ?_) (fun q27 => ?_)
    · rw [if_pos q27] at hG
      refine ab_aload_n d_Row_nextHeard_120 rfl rfl rfl ?_
      refine ab_iload_n d_Row_nextHeard_121 rfl rfl ?_
      refine hp_putI (v := l3) (f := 12) d_Row_nextHeard_122 q22 (by decide) rfl (by decide) (k2 74 rfl rfl) rfl rfl (fun _ => rfl) (fun _ => rfl) rfl ?_
      refine hp_gen (fun H28 eH28 => ?_)
      replace hG := bnd_s eH28 hG
      have s_4 : Sa H H28 := by rw [eH28]; exact Sa.rf _
      exact ab_vret d_Row_nextHeard_125 rfl (Nat.le_refl _) (Nat.le_refl _) (by have hr := Option.some.inj hG; subst hr; exact ⟨rfl, rfl⟩)
    · rw [if_neg q27] at hG
      refine ab_iload d_Row_nextHeard_45 rfl ?_
      refine ab_bipush (v := 7) d_Row_nextHeard_47 (by decide) ?_
      refine ab_imul d_Row_nextHeard_49 ?_
      refine ab_topi (fun x29 ex29 => ?_)
      replace hG := bnd_s ex29 hG
      refine ab_istore (lv' := [some (.ref p0), some (.int p1), some (.int l2), some (.int l3), some (.int l4), some (.int l5), some (.int x29)]) d_Row_nextHeard_50 (by decide) rfl ?_
      refine ab_aload_n d_Row_nextHeard_52 rfl rfl rfl ?_
      obtain ⟨a30, e31, hF⟩ := rf_s hG; clear hG
      refine hp_getR (f := 3) d_Row_nextHeard_53 q22 (by decide) rfl (by decide) (k2 65 rfl rfl) rfl e31 ?_
      obtain ⟨q32, hG⟩ := ck_s hF; clear hF
      obtain ⟨a33, e34, hF⟩ := rf_s hG; clear hG
      refine hp_getR (f := 12) d_Row_nextHeard_56 q32 (by decide) rfl (by decide) (k2 1 rfl rfl) rfl e34 ?_
      refine ab_iload d_Row_nextHeard_59 rfl ?_
      obtain ⟨n35, q36, hG⟩ := ar_s hF; clear hF
      obtain ⟨q37, hF⟩ := ck_s hG; clear hG
      refine hp_iald d_Row_nextHeard_61 tI q36 q37 ?_
      refine ab_topi (fun x38 ex38 => ?_)
      replace hF := bnd_s ex38 hF
      refine ab_iload_n d_Row_nextHeard_62 rfl rfl ?_
      refine ab_icmp_ne (tgt := 114) d_Row_nextHeard_63 (by decide) (fun q39 => ?_) (fun q39 => ?_)
      · rw [if_neg q39] at hF
        refine ab_le (lv' := [some (.ref p0), some (.int p1), some (.int l2), some (.int l3), some (.int l4), some (.int l5), none]) ⟨rfl, ⟨rfl, ⟨rfl, ⟨rfl, ⟨rfl, ⟨rfl, trivial⟩⟩⟩⟩⟩⟩ ?_
        exact kB_Row_nextHeard_114 (mB_Row_nextHeard_33 n) ih hF
      · rw [if_pos q39] at hF
        refine ab_aload_n d_Row_nextHeard_66 rfl rfl rfl ?_
        obtain ⟨a40, e41, hG⟩ := rf_s hF; clear hF
        refine hp_getR (f := 3) d_Row_nextHeard_67 q22 (by decide) rfl (by decide) (k2 65 rfl rfl) rfl e41 ?_
        obtain ⟨q42, hF⟩ := ck_s hG; clear hG
        obtain ⟨a43, e44, hG⟩ := rf_s hF; clear hF
        refine hp_getR (f := 12) d_Row_nextHeard_70 q42 (by decide) rfl (by decide) (k2 1 rfl rfl) rfl e44 ?_
        refine ab_iload d_Row_nextHeard_73 rfl ?_
        refine ab_iconst (v := 1) d_Row_nextHeard_75 (by decide) ?_
        refine ab_iadd d_Row_nextHeard_76 ?_
        obtain ⟨n45, q46, hF⟩ := ar_s hG; clear hG
        obtain ⟨q47, hG⟩ := ck_s hF; clear hF
        refine hp_iald d_Row_nextHeard_77 tI q46 q47 ?_
        refine ab_topi (fun x48 ex48 => ?_)
        replace hG := bnd_s ex48 hG
        refine ab_aload_n d_Row_nextHeard_78 rfl rfl rfl ?_
        obtain ⟨a49, e50, hF⟩ := rf_s hG; clear hG
        refine hp_getR (f := 3) d_Row_nextHeard_79 q22 (by decide) rfl (by decide) (k2 65 rfl rfl) rfl e50 ?_
        obtain ⟨q51, hG⟩ := ck_s hF; clear hF
        refine hp_getI (f := 0) d_Row_nextHeard_82 q51 (by decide) rfl (by decide) (k1 209 rfl rfl) rfl ?_
        refine ab_topi (fun x52 ex52 => ?_)
        replace hG := bnd_s ex52 hG
        refine ab_icmp_ne (tgt := 114) d_Row_nextHeard_85 (by decide) (fun q53 => ?_) (fun q53 => ?_)
        · rw [if_neg q53] at hG
          refine ab_le (lv' := [some (.ref p0), some (.int p1), some (.int l2), some (.int l3), some (.int l4), some (.int l5), none]) ⟨rfl, ⟨rfl, ⟨rfl, ⟨rfl, ⟨rfl, ⟨rfl, trivial⟩⟩⟩⟩⟩⟩ ?_
          exact kB_Row_nextHeard_114 (mB_Row_nextHeard_33 n) ih hG
        · rw [if_pos q53] at hG
          refine ab_aload_n d_Row_nextHeard_88 rfl rfl rfl ?_
          obtain ⟨a54, e55, hF⟩ := rf_s hG; clear hG
          refine hp_getR (f := 3) d_Row_nextHeard_89 q22 (by decide) rfl (by decide) (k2 65 rfl rfl) rfl e55 ?_
          obtain ⟨q56, hG⟩ := ck_s hF; clear hF
          obtain ⟨a57, e58, hF⟩ := rf_s hG; clear hG
          refine hp_getR (f := 12) d_Row_nextHeard_92 q56 (by decide) rfl (by decide) (k2 1 rfl rfl) rfl e58 ?_
          refine ab_iload d_Row_nextHeard_95 rfl ?_
          refine ab_iconst (v := 2) d_Row_nextHeard_97 (by decide) ?_
          refine ab_iadd d_Row_nextHeard_98 ?_
          obtain ⟨n59, q60, hG⟩ := ar_s hF; clear hF
          obtain ⟨q61, hF⟩ := ck_s hG; clear hG
          refine hp_iald d_Row_nextHeard_99 tI q60 q61 ?_
          refine ab_topi (fun x62 ex62 => ?_)
          replace hF := bnd_s ex62 hF
          refine ab_iload d_Row_nextHeard_100 rfl ?_
          refine ab_icmp_ne (tgt := 114) d_Row_nextHeard_102 (by decide) (fun q63 => ?_) (fun q63 => ?_)
          · rw [if_neg q63] at hF
            refine ab_le (lv' := [some (.ref p0), some (.int p1), some (.int l2), some (.int l3), some (.int l4), some (.int l5), none]) ⟨rfl, ⟨rfl, ⟨rfl, ⟨rfl, ⟨rfl, ⟨rfl, trivial⟩⟩⟩⟩⟩⟩ ?_
            exact kB_Row_nextHeard_114 (mB_Row_nextHeard_33 n) ih hF
          · rw [if_pos q63] at hF
            refine ab_aload_n d_Row_nextHeard_105 rfl rfl rfl ?_
            obtain ⟨a64, e65, hG⟩ := rf_s hF; clear hF
            refine hp_getR (f := 8) d_Row_nextHeard_106 q22 (by decide) rfl (by decide) (k2 70 rfl rfl) rfl e65 ?_
            refine ab_iload_n d_Row_nextHeard_109 rfl rfl ?_
            refine ab_iload d_Row_nextHeard_110 rfl ?_
            obtain ⟨n66, q67, hF⟩ := ar_s hG; clear hG
            obtain ⟨q68, hG⟩ := ck_s hF; clear hF
            refine hp_iast d_Row_nextHeard_112 tI q67 q68 ?_
            refine hp_gen (fun H69 eH69 => ?_)
            replace hG := bnd_s eH69 hG
            have s_5 : Sa H H69 := by rw [eH69]; exact Sa.rf _
            exact ab_vret d_Row_nextHeard_113 rfl (Nat.le_refl _) (Nat.le_refl _) (by have hr := Option.some.inj hG; subst hr; exact ⟨rfl, rfl⟩)
def F_Row_nextHeard (N : Nat) (p0 : Nat) (p1 : Int32) (H : Hp) : Option (Unit × Hp) :=
    ck (H.sh[p0]? = some (8, 0)) <|
    bC (F_Row_nextCode N p0 H) fun v3 H4 =>
    bC (F_Row_nextCode N p0 H4) fun v6 H7 =>
    rf (H7.P p0 3) fun a8 =>
    bnd ((H7.D p0 18)) fun x10 =>
    ck (H7.sh[a8]? = some (7, 0)) <|
    bC (F_World_numberAt N a8 x10 H7) fun v13 H14 =>
    rf (H14.P p0 8) fun a15 =>
    ar H14 100 a15 fun n17 =>
    ck (inb p1 n17) <|
    bnd ((H14.D a15 (p1).toNatClampNeg)) fun x20 =>
    bnd ((x20 + (1 : Int32))) fun x21 =>
    B_Row_nextHeard_33 N p0 p1 N v3 v6 v13 x21 H14
set_option maxRecDepth 20000 in
set_option maxHeartbeats 2000000 in
theorem m_Row_nextHeard {N : Nat} {p0 : Nat} {p1 : Int32} {H : Hp} {r : Unit × Hp} (hF : F_Row_nextHeard N p0 p1 H = some r) : Sa H r.2 := by
  unfold F_Row_nextHeard at hF
  have hm := Sa.rf H
  obtain ⟨q118, hG⟩ := ck_s hF; clear hF
  obtain ⟨v120, H121, z119, hF⟩ := bC_s hG; clear hG
  replace hm : Sa H H121 := hm.tr (m_Row_nextCode z119)
  obtain ⟨v123, H124, z122, hG⟩ := bC_s hF; clear hF
  replace hm : Sa H H124 := hm.tr (m_Row_nextCode z122)
  obtain ⟨a125, e126, hF⟩ := rf_s hG; clear hG
  obtain ⟨x127, -, hG⟩ := bnd_g hF; clear hF
  obtain ⟨q128, hF⟩ := ck_s hG; clear hG
  obtain ⟨v130, H131, z129, hG⟩ := bC_s hF; clear hF
  replace hm : Sa H H131 := hm.tr (m_World_numberAt z129)
  obtain ⟨a132, e133, hF⟩ := rf_s hG; clear hG
  obtain ⟨n134, q135, hG⟩ := ar_s hF; clear hF
  obtain ⟨q136, hF⟩ := ck_s hG; clear hG
  obtain ⟨x137, -, hG⟩ := bnd_g hF; clear hF
  obtain ⟨x138, -, hF⟩ := bnd_g hG; clear hG
  exact hm.tr (mB_Row_nextHeard_33 N v120 v123 v130 x138 H131 r hF)
set_option maxRecDepth 20000 in
set_option maxHeartbeats 2000000 in
theorem k_Row_nextHeard {N : Nat} {p0 : Nat} {p1 : Int32} {H : Hp} {r : Unit × Hp} (hF : F_Row_nextHeard N p0 p1 H = some r) : ab_M y_Row_nextHeard { frames := 1, cells := 0, slots := 0, locals := 21 } [.ref p0, .int p1] (hpw H) (po (.returned none) r.2) := by
  unfold F_Row_nextHeard at hF
  refine ab_of2 (lv := [some (.ref p0), some (.int p1), none, none, none, none, none]) 5 rfl rfl (Nat.le_of_ble_eq_true rfl) ?_
  refine ab_aload_n d_Row_nextHeard_0 rfl rfl rfl ?_
  obtain ⟨q1, hG⟩ := ck_s hF; clear hF
  obtain ⟨v3, H4, z2, hF⟩ := bC_s hG; clear hG
  refine hp_callV_a (v := .int v3) (H1 := H4) (As := []) (rest := []) d_Row_nextHeard_1 (k_Row_nextCode z2) (ab_mkC s_Row_nextCode (Nat.le_of_ble_eq_true rfl) (Nat.le_of_ble_eq_true rfl) (Nat.le_refl 0) (Nat.le_refl 0)) (k6 205 rfl rfl) i_Row_nextCode v_Row_nextCode q1 (by decide) rfl rfl (Nat.le_of_ble_eq_true rfl) ?_
  have s_1 : Sa H H4 := (m_Row_nextCode z2)
  refine ab_istore_n (lv' := [some (.ref p0), some (.int p1), some (.int v3), none, none, none, none]) d_Row_nextHeard_4 rfl (by decide) rfl ?_
  refine ab_aload_n d_Row_nextHeard_5 rfl rfl rfl ?_
  obtain ⟨v6, H7, z5, hG⟩ := bC_s hF; clear hF
  refine hp_callV_a (v := .int v6) (H1 := H7) (As := []) (rest := []) d_Row_nextHeard_6 (k_Row_nextCode z5) (ab_mkC s_Row_nextCode (Nat.le_of_ble_eq_true rfl) (Nat.le_of_ble_eq_true rfl) (Nat.le_refl 0) (Nat.le_refl 0)) (k6 205 rfl rfl) i_Row_nextCode v_Row_nextCode (by rw [(s_1).1]; exact q1) (by decide) rfl rfl (Nat.le_of_ble_eq_true rfl) ?_
  have s_2 : Sa H H7 := (s_1).tr (m_Row_nextCode z5)
  refine ab_istore_n (lv' := [some (.ref p0), some (.int p1), some (.int v3), some (.int v6), none, none, none]) d_Row_nextHeard_9 rfl (by decide) rfl ?_
  refine ab_aload_n d_Row_nextHeard_10 rfl rfl rfl ?_
  obtain ⟨a8, e9, hF⟩ := rf_s hG; clear hG
  refine hp_getR (f := 3) d_Row_nextHeard_11 (by rw [(s_2).1]; exact q1) (by decide) rfl (by decide) (k2 65 rfl rfl) rfl e9 ?_
  refine ab_aload_n d_Row_nextHeard_14 rfl rfl rfl ?_
  refine hp_getI (f := 18) d_Row_nextHeard_15 (by rw [(s_2).1]; exact q1) (by decide) rfl (by decide) (k2 80 rfl rfl) rfl ?_
  refine ab_topi (fun x10 ex10 => ?_)
  replace hF := bnd_s ex10 hF
  obtain ⟨q11, hG⟩ := ck_s hF; clear hF
  rw [(s_2).1] at q11
  obtain ⟨v13, H14, z12, hF⟩ := bC_s hG; clear hG
  refine hp_callV_a (v := .int v13) (H1 := H14) (As := [.int x10]) (rest := []) d_Row_nextHeard_18 (k_World_numberAt z12) (ab_mkC s_World_numberAt (Nat.le_of_ble_eq_true rfl) (Nat.le_of_ble_eq_true rfl) (Nat.le_refl 0) (Nat.le_refl 0)) (k6 231 rfl rfl) i_World_numberAt v_World_numberAt (by rw [(s_2).1]; exact q11) (by decide) rfl rfl (Nat.le_of_ble_eq_true rfl) ?_
  have s_3 : Sa H H14 := (s_2).tr (m_World_numberAt z12)
  refine ab_istore (lv' := [some (.ref p0), some (.int p1), some (.int v3), some (.int v6), some (.int v13), none, none]) d_Row_nextHeard_21 (by decide) rfl ?_
  refine ab_aload_n d_Row_nextHeard_23 rfl rfl rfl ?_
  obtain ⟨a15, e16, hG⟩ := rf_s hF; clear hF
  refine hp_getR (f := 8) d_Row_nextHeard_24 (by rw [(s_3).1]; exact q1) (by decide) rfl (by decide) (k2 70 rfl rfl) rfl e16 ?_
  refine ab_iload_n d_Row_nextHeard_27 rfl rfl ?_
  obtain ⟨n17, q18, hF⟩ := ar_s hG; clear hG
  rw [(s_3).1] at q18
  obtain ⟨q19, hG⟩ := ck_s hF; clear hF
  refine hp_iald d_Row_nextHeard_28 tI (by rw [(s_3).1]; exact q18) q19 ?_
  refine ab_topi (fun x20 ex20 => ?_)
  replace hG := bnd_s ex20 hG
  refine ab_iconst (v := 1) d_Row_nextHeard_29 (by decide) ?_
  refine ab_iadd d_Row_nextHeard_30 ?_
  refine ab_topi (fun x21 ex21 => ?_)
  replace hG := bnd_s ex21 hG
  refine ab_istore (lv' := [some (.ref p0), some (.int p1), some (.int v3), some (.int v6), some (.int v13), some (.int x21), none]) d_Row_nextHeard_31 (by decide) rfl ?_
  exact kB_Row_nextHeard_33 N v3 v6 v13 x21 H14 r hG
def y_Row_control : ab_Y := (⟨"WorldEngine$Row", "control", "(I)V"⟩, prog_8_method_7_code, 4, none, [])
theorem d_Row_control_0 : decode y_Row_control.2.1 0 = .ok (.iload_n 1, 1) := by decide +kernel
theorem d_Row_control_1 : decode y_Row_control.2.1 1 = .ok (.iconst 1, 1) := by decide +kernel
theorem d_Row_control_2 : decode y_Row_control.2.1 2 = .ok (.if_icmp .eq 9, 3) := by decide +kernel
theorem d_Row_control_5 : decode y_Row_control.2.1 5 = .ok (.iload_n 1, 1) := by decide +kernel
theorem d_Row_control_6 : decode y_Row_control.2.1 6 = .ok (.bipush 11, 2) := by decide +kernel
theorem d_Row_control_8 : decode y_Row_control.2.1 8 = .ok (.if_icmp .ne 7, 3) := by decide +kernel
theorem d_Row_control_11 : decode y_Row_control.2.1 11 = .ok (.iconst 0, 1) := by decide +kernel
theorem d_Row_control_12 : decode y_Row_control.2.1 12 = .ok (.goto 7, 3) := by decide +kernel
theorem d_Row_control_15 : decode y_Row_control.2.1 15 = .ok (.aload_n 0, 1) := by decide +kernel
theorem d_Row_control_16 : decode y_Row_control.2.1 16 = .ok (.invokevirtual 88, 3) := by decide +kernel
theorem d_Row_control_19 : decode y_Row_control.2.1 19 = .ok (.istore_n 2, 1) := by decide +kernel
theorem d_Row_control_20 : decode y_Row_control.2.1 20 = .ok (.iload_n 1, 1) := by decide +kernel
theorem d_Row_control_21 : decode y_Row_control.2.1 21 = .ok (.tableswitch 195 1 10 #[55, 82, 90, 105, 105, 145, 155, 168, 168, 187], 55) := by decide +kernel
theorem d_Row_control_76 : decode y_Row_control.2.1 76 = .ok (.aload_n 0, 1) := by decide +kernel
theorem d_Row_control_77 : decode y_Row_control.2.1 77 = .ok (.dup, 1) := by decide +kernel
theorem d_Row_control_78 : decode y_Row_control.2.1 78 = .ok (.getfield 62, 3) := by decide +kernel
theorem d_Row_control_81 : decode y_Row_control.2.1 81 = .ok (.iconst 1, 1) := by decide +kernel
theorem d_Row_control_82 : decode y_Row_control.2.1 82 = .ok (.iadd, 1) := by decide +kernel
theorem d_Row_control_83 : decode y_Row_control.2.1 83 = .ok (.putfield 62, 3) := by decide +kernel
theorem d_Row_control_86 : decode y_Row_control.2.1 86 = .ok (.aload_n 0, 1) := by decide +kernel
theorem d_Row_control_87 : decode y_Row_control.2.1 87 = .ok (.getfield 62, 3) := by decide +kernel
theorem d_Row_control_90 : decode y_Row_control.2.1 90 = .ok (.bipush 120, 2) := by decide +kernel
theorem d_Row_control_92 : decode y_Row_control.2.1 92 = .ok (.if_icmp .le 129, 3) := by decide +kernel
theorem d_Row_control_95 : decode y_Row_control.2.1 95 = .ok (.aload_n 0, 1) := by decide +kernel
theorem d_Row_control_96 : decode y_Row_control.2.1 96 = .ok (.iconst 5, 1) := by decide +kernel
theorem d_Row_control_97 : decode y_Row_control.2.1 97 = .ok (.putfield 71, 3) := by decide +kernel
theorem d_Row_control_100 : decode y_Row_control.2.1 100 = .ok (.goto 121, 3) := by decide +kernel
theorem d_Row_control_103 : decode y_Row_control.2.1 103 = .ok (.aload_n 0, 1) := by decide +kernel
theorem d_Row_control_104 : decode y_Row_control.2.1 104 = .ok (.iload_n 2, 1) := by decide +kernel
theorem d_Row_control_105 : decode y_Row_control.2.1 105 = .ok (.putfield 56, 3) := by decide +kernel
theorem d_Row_control_108 : decode y_Row_control.2.1 108 = .ok (.goto 113, 3) := by decide +kernel
theorem d_Row_control_111 : decode y_Row_control.2.1 111 = .ok (.aload_n 0, 1) := by decide +kernel
theorem d_Row_control_112 : decode y_Row_control.2.1 112 = .ok (.invokevirtual 126, 3) := by decide +kernel
theorem d_Row_control_115 : decode y_Row_control.2.1 115 = .ok (.ifCond .ne 106, 3) := by decide +kernel
theorem d_Row_control_118 : decode y_Row_control.2.1 118 = .ok (.aload_n 0, 1) := by decide +kernel
theorem d_Row_control_119 : decode y_Row_control.2.1 119 = .ok (.iload_n 2, 1) := by decide +kernel
theorem d_Row_control_120 : decode y_Row_control.2.1 120 = .ok (.putfield 56, 3) := by decide +kernel
theorem d_Row_control_123 : decode y_Row_control.2.1 123 = .ok (.goto 98, 3) := by decide +kernel
theorem d_Row_control_126 : decode y_Row_control.2.1 126 = .ok (.aload_n 0, 1) := by decide +kernel
theorem d_Row_control_127 : decode y_Row_control.2.1 127 = .ok (.invokevirtual 126, 3) := by decide +kernel
theorem d_Row_control_130 : decode y_Row_control.2.1 130 = .ok (.istore_n 3, 1) := by decide +kernel
theorem d_Row_control_131 : decode y_Row_control.2.1 131 = .ok (.iload_n 3, 1) := by decide +kernel
theorem d_Row_control_132 : decode y_Row_control.2.1 132 = .ok (.ifCond .eq 7, 3) := by decide +kernel
theorem d_Row_control_135 : decode y_Row_control.2.1 135 = .ok (.iconst 1, 1) := by decide +kernel
theorem d_Row_control_136 : decode y_Row_control.2.1 136 = .ok (.goto 4, 3) := by decide +kernel
theorem d_Row_control_139 : decode y_Row_control.2.1 139 = .ok (.iconst 0, 1) := by decide +kernel
theorem d_Row_control_140 : decode y_Row_control.2.1 140 = .ok (.iload_n 1, 1) := by decide +kernel
theorem d_Row_control_141 : decode y_Row_control.2.1 141 = .ok (.iconst 5, 1) := by decide +kernel
theorem d_Row_control_142 : decode y_Row_control.2.1 142 = .ok (.if_icmp .ne 7, 3) := by decide +kernel
theorem d_Row_control_145 : decode y_Row_control.2.1 145 = .ok (.iconst 1, 1) := by decide +kernel
theorem d_Row_control_146 : decode y_Row_control.2.1 146 = .ok (.goto 4, 3) := by decide +kernel
theorem d_Row_control_149 : decode y_Row_control.2.1 149 = .ok (.iconst 0, 1) := by decide +kernel
theorem d_Row_control_150 : decode y_Row_control.2.1 150 = .ok (.if_icmp .ne 71, 3) := by decide +kernel
theorem d_Row_control_153 : decode y_Row_control.2.1 153 = .ok (.aload_n 0, 1) := by decide +kernel
theorem d_Row_control_154 : decode y_Row_control.2.1 154 = .ok (.iload_n 3, 1) := by decide +kernel
theorem d_Row_control_155 : decode y_Row_control.2.1 155 = .ok (.invokevirtual 129, 3) := by decide +kernel
theorem d_Row_control_158 : decode y_Row_control.2.1 158 = .ok (.aload_n 0, 1) := by decide +kernel
theorem d_Row_control_159 : decode y_Row_control.2.1 159 = .ok (.iload_n 2, 1) := by decide +kernel
theorem d_Row_control_160 : decode y_Row_control.2.1 160 = .ok (.putfield 56, 3) := by decide +kernel
theorem d_Row_control_163 : decode y_Row_control.2.1 163 = .ok (.goto 58, 3) := by decide +kernel
theorem d_Row_control_166 : decode y_Row_control.2.1 166 = .ok (.aload_n 0, 1) := by decide +kernel
theorem d_Row_control_167 : decode y_Row_control.2.1 167 = .ok (.getfield 21, 3) := by decide +kernel
theorem d_Row_control_170 : decode y_Row_control.2.1 170 = .ok (.iload_n 2, 1) := by decide +kernel
theorem d_Row_control_171 : decode y_Row_control.2.1 171 = .ok (.iconst (-1), 1) := by decide +kernel
theorem d_Row_control_172 : decode y_Row_control.2.1 172 = .ok (.iastore, 1) := by decide +kernel
theorem d_Row_control_173 : decode y_Row_control.2.1 173 = .ok (.goto 48, 3) := by decide +kernel
theorem d_Row_control_176 : decode y_Row_control.2.1 176 = .ok (.aload_n 0, 1) := by decide +kernel
theorem d_Row_control_177 : decode y_Row_control.2.1 177 = .ok (.getfield 24, 3) := by decide +kernel
theorem d_Row_control_180 : decode y_Row_control.2.1 180 = .ok (.iload_n 2, 1) := by decide +kernel
theorem d_Row_control_181 : decode y_Row_control.2.1 181 = .ok (.aload_n 0, 1) := by decide +kernel
theorem d_Row_control_182 : decode y_Row_control.2.1 182 = .ok (.invokevirtual 126, 3) := by decide +kernel
theorem d_Row_control_185 : decode y_Row_control.2.1 185 = .ok (.iastore, 1) := by decide +kernel
theorem d_Row_control_186 : decode y_Row_control.2.1 186 = .ok (.goto 35, 3) := by decide +kernel
theorem d_Row_control_189 : decode y_Row_control.2.1 189 = .ok (.aload_n 0, 1) := by decide +kernel
theorem d_Row_control_190 : decode y_Row_control.2.1 190 = .ok (.iload_n 2, 1) := by decide +kernel
theorem d_Row_control_191 : decode y_Row_control.2.1 191 = .ok (.iload_n 1, 1) := by decide +kernel
theorem d_Row_control_192 : decode y_Row_control.2.1 192 = .ok (.bipush 9, 2) := by decide +kernel
theorem d_Row_control_194 : decode y_Row_control.2.1 194 = .ok (.if_icmp .ne 7, 3) := by decide +kernel
theorem d_Row_control_197 : decode y_Row_control.2.1 197 = .ok (.iconst 1, 1) := by decide +kernel
theorem d_Row_control_198 : decode y_Row_control.2.1 198 = .ok (.goto 4, 3) := by decide +kernel
theorem d_Row_control_201 : decode y_Row_control.2.1 201 = .ok (.iconst 0, 1) := by decide +kernel
theorem d_Row_control_202 : decode y_Row_control.2.1 202 = .ok (.invokevirtual 132, 3) := by decide +kernel
theorem d_Row_control_205 : decode y_Row_control.2.1 205 = .ok (.goto 16, 3) := by decide +kernel
theorem d_Row_control_208 : decode y_Row_control.2.1 208 = .ok (.aload_n 0, 1) := by decide +kernel
theorem d_Row_control_209 : decode y_Row_control.2.1 209 = .ok (.iload_n 2, 1) := by decide +kernel
theorem d_Row_control_210 : decode y_Row_control.2.1 210 = .ok (.invokevirtual 136, 3) := by decide +kernel
theorem d_Row_control_213 : decode y_Row_control.2.1 213 = .ok (.goto 8, 3) := by decide +kernel
theorem d_Row_control_216 : decode y_Row_control.2.1 216 = .ok (.aload_n 0, 1) := by decide +kernel
theorem d_Row_control_217 : decode y_Row_control.2.1 217 = .ok (.iconst 4, 1) := by decide +kernel
theorem d_Row_control_218 : decode y_Row_control.2.1 218 = .ok (.putfield 71, 3) := by decide +kernel
theorem d_Row_control_221 : decode y_Row_control.2.1 221 = .ok (.return_, 1) := by decide +kernel
theorem s_Row_control : ab_Stat y_Row_control 1 := ⟨(k6 213 rfl rfl), (k1 13 rfl rfl), ⟨by decide, by decide⟩, by decide +kernel⟩
theorem i_Row_control : Cond.instanceMethod y_Row_control.1 ∈ ab_T := (k6 212 rfl rfl)
theorem v_Row_control : Cond.selects "WorldEngine$Row" y_Row_control.1 y_Row_control.1 ∈ ab_T := ab_s (List.mem_of_getElem? (i := 69) rfl) rfl
def B_Row_control_150 (N : Nat) (p0 : Nat) (p1 : Int32) (l2 : Int32) (l3 : Int32) (w0 : Int32) (w1 : Int32) (H : Hp) : Option (Unit × Hp) :=
    if w0 = w1 then
    ck (H.sh[p0]? = some (8, 0)) <|
    bC (F_Row_push N p0 l3 H) fun v29 H30 =>
    bnd (H30.sD p0 12 l2) fun H31 =>
    some ((), H31)
    else
    some ((), H)
set_option maxRecDepth 20000 in
set_option maxHeartbeats 2000000 in
theorem mB_Row_control_150 {N : Nat} {p0 : Nat} {p1 : Int32} {l2 : Int32} {l3 : Int32} {w0 : Int32} {w1 : Int32} {H : Hp} {r : Unit × Hp} (hF : B_Row_control_150 N p0 p1 l2 l3 w0 w1 H = some r) : Sa H r.2 := by
  unfold B_Row_control_150 at hF
  have hm := Sa.rf H
  rcases ite_s hF with ⟨q_9, hG⟩ | ⟨q_9, hG⟩
  · clear hF
    obtain ⟨q33, hF⟩ := ck_s hG; clear hG
    obtain ⟨v35, H36, z34, hG⟩ := bC_s hF; clear hF
    replace hm : Sa H H36 := hm.tr (m_Row_push z34)
    obtain ⟨H37, eH37, hF⟩ := bnd_g hG; clear hG
    replace hm : Sa H H37 := by rw [eH37]; exact hm
    have hr := Option.some.inj hF; subst hr
    exact hm
  · clear hF
    have hr := Option.some.inj hG; subst hr
    exact hm
set_option maxRecDepth 20000 in
set_option maxHeartbeats 2000000 in
theorem kB_Row_control_150 {N : Nat} {p0 : Nat} {p1 : Int32} {l2 : Int32} {l3 : Int32} {w0 : Int32} {w1 : Int32} {H : Hp} {r : Unit × Hp} (hF : B_Row_control_150 N p0 p1 l2 l3 w0 w1 H = some r) : ab_V y_Row_control { frames := 2, cells := 0, slots := 0, locals := 56 } (po (.returned none) r.2) 0 0 0 0 150 [some (.ref p0), some (.int p1), some (.int l2), some (.int l3)] [.int w1, .int w0] (hpw H) := by
  unfold B_Row_control_150 at hF
  refine ab_icmp_ne (tgt := 221) d_Row_control_150 (by decide) (fun q26 => ?_) (fun q26 => ?_)
  · rw [if_neg q26] at hF
    exact ab_vret d_Row_control_221 rfl (Nat.le_refl _) (Nat.le_refl _) (by have hr := Option.some.inj hF; subst hr; exact ⟨rfl, rfl⟩)
  · rw [if_pos q26] at hF
    refine ab_aload_n d_Row_control_153 rfl rfl rfl ?_
    refine ab_iload_n d_Row_control_154 rfl rfl ?_
    obtain ⟨q27, hG⟩ := ck_s hF; clear hF
    obtain ⟨v29, H30, z28, hF⟩ := bC_s hG; clear hG
    refine hp_callV_v (H1 := H30) (As := [.int l3]) (rest := []) d_Row_control_155 (k_Row_push z28) (ab_mkC s_Row_push (Nat.le_of_ble_eq_true rfl) (Nat.le_of_ble_eq_true rfl) (Nat.le_refl 0) (Nat.le_refl 0)) (k6 218 rfl rfl) i_Row_push v_Row_push q27 (by decide) rfl rfl (Nat.le_of_ble_eq_true rfl) ?_
    have s_7 : Sa H H30 := (m_Row_push z28)
    refine ab_aload_n d_Row_control_158 rfl rfl rfl ?_
    refine ab_iload_n d_Row_control_159 rfl rfl ?_
    refine hp_putI (v := l2) (f := 12) d_Row_control_160 (by rw [(s_7).1]; exact q27) (by decide) rfl (by decide) (k2 74 rfl rfl) rfl rfl (fun _ => rfl) (fun _ => rfl) rfl ?_
    refine hp_gen (fun H31 eH31 => ?_)
    replace hF := bnd_s eH31 hF
    have s_8 : Sa H H31 := by rw [eH31]; exact s_7
    refine ab_goto (tgt := 221) d_Row_control_163 (by decide) ?_
    exact ab_vret d_Row_control_221 rfl (Nat.le_refl _) (Nat.le_refl _) (by have hr := Option.some.inj hF; subst hr; exact ⟨rfl, rfl⟩)
def B_Row_control_140 (N : Nat) (p0 : Nat) (p1 : Int32) (l2 : Int32) (l3 : Int32) (w0 : Int32) (H : Hp) : Option (Unit × Hp) :=
    if p1 = (5 : Int32) then
    B_Row_control_150 N p0 p1 l2 l3 w0 1 H
    else
    B_Row_control_150 N p0 p1 l2 l3 w0 0 H
set_option maxRecDepth 20000 in
set_option maxHeartbeats 2000000 in
theorem mB_Row_control_140 {N : Nat} {p0 : Nat} {p1 : Int32} {l2 : Int32} {l3 : Int32} {w0 : Int32} {H : Hp} {r : Unit × Hp} (hF : B_Row_control_140 N p0 p1 l2 l3 w0 H = some r) : Sa H r.2 := by
  unfold B_Row_control_140 at hF
  have hm := Sa.rf H
  rcases ite_s hF with ⟨q_12, hG⟩ | ⟨q_12, hG⟩
  · clear hF
    exact hm.tr (mB_Row_control_150 hG)
  · clear hF
    exact hm.tr (mB_Row_control_150 hG)
set_option maxRecDepth 20000 in
set_option maxHeartbeats 2000000 in
theorem kB_Row_control_140 {N : Nat} {p0 : Nat} {p1 : Int32} {l2 : Int32} {l3 : Int32} {w0 : Int32} {H : Hp} {r : Unit × Hp} (hF : B_Row_control_140 N p0 p1 l2 l3 w0 H = some r) : ab_V y_Row_control { frames := 2, cells := 0, slots := 0, locals := 56 } (po (.returned none) r.2) 0 0 0 0 140 [some (.ref p0), some (.int p1), some (.int l2), some (.int l3)] [.int w0] (hpw H) := by
  unfold B_Row_control_140 at hF
  refine ab_iload_n d_Row_control_140 rfl rfl ?_
  refine ab_iconst (v := 5) d_Row_control_141 (by decide) ?_
  refine ab_icmp_ne (tgt := 149) d_Row_control_142 (by decide) (fun q25 => ?_) (fun q25 => ?_)
  · rw [if_neg q25] at hF
    refine ab_iconst (v := 0) d_Row_control_149 (by decide) ?_
    exact kB_Row_control_150 hF
  · rw [if_pos q25] at hF
    refine ab_iconst (v := 1) d_Row_control_145 (by decide) ?_
    refine ab_goto (tgt := 150) d_Row_control_146 (by decide) ?_
    exact kB_Row_control_150 hF
def B_Row_control_202 (N : Nat) (p0 : Nat) (p1 : Int32) (w0 : Nat) (w1 : Int32) (w2 : Int32) (H : Hp) : Option (Unit × Hp) :=
    ck (H.sh[w0]? = some (8, 0)) <|
    bC (F_Row_nextEntity N w0 w1 w2 H) fun v68 H69 =>
    some ((), H69)
set_option maxRecDepth 20000 in
set_option maxHeartbeats 2000000 in
theorem mB_Row_control_202 {N : Nat} {p0 : Nat} {p1 : Int32} {w0 : Nat} {w1 : Int32} {w2 : Int32} {H : Hp} {r : Unit × Hp} (hF : B_Row_control_202 N p0 p1 w0 w1 w2 H = some r) : Sa H r.2 := by
  unfold B_Row_control_202 at hF
  have hm := Sa.rf H
  obtain ⟨q70, hG⟩ := ck_s hF; clear hF
  obtain ⟨v72, H73, z71, hF⟩ := bC_s hG; clear hG
  replace hm : Sa H H73 := hm.tr (m_Row_nextEntity z71)
  have hr := Option.some.inj hF; subst hr
  exact hm
set_option maxRecDepth 20000 in
set_option maxHeartbeats 2000000 in
theorem kB_Row_control_202 {N : Nat} {p0 : Nat} {p1 : Int32} {w0 : Nat} {w1 : Int32} {w2 : Int32} {H : Hp} {r : Unit × Hp} (hF : B_Row_control_202 N p0 p1 w0 w1 w2 H = some r) : ab_V y_Row_control { frames := 2, cells := 0, slots := 0, locals := 56 } (po (.returned none) r.2) 0 0 0 0 202 [some (.ref p0), some (.int p1), none, none] [.int w2, .int w1, .ref w0] (hpw H) := by
  unfold B_Row_control_202 at hF
  obtain ⟨q66, hG⟩ := ck_s hF; clear hF
  obtain ⟨v68, H69, z67, hF⟩ := bC_s hG; clear hG
  refine hp_callV_v (H1 := H69) (As := [.int w1, .int w2]) (rest := []) d_Row_control_202 (k_Row_nextEntity z67) (ab_mkC s_Row_nextEntity (Nat.le_of_ble_eq_true rfl) (Nat.le_of_ble_eq_true rfl) (Nat.le_refl 0) (Nat.le_refl 0)) (k6 222 rfl rfl) i_Row_nextEntity v_Row_nextEntity q66 (by decide) rfl rfl (Nat.le_of_ble_eq_true rfl) ?_
  have s_17 : Sa H H69 := (m_Row_nextEntity z67)
  refine ab_goto (tgt := 221) d_Row_control_205 (by decide) ?_
  exact ab_vret d_Row_control_221 rfl (Nat.le_refl _) (Nat.le_refl _) (by have hr := Option.some.inj hF; subst hr; exact ⟨rfl, rfl⟩)
def B_Row_control_19 (N : Nat) (p0 : Nat) (p1 : Int32) (w0 : Int32) (H : Hp) : Option (Unit × Hp) :=
    if p1 = 1 then
    ck (H.sh[p0]? = some (8, 0)) <|
    bnd ((H.D p0 13)) fun x4 =>
    bnd (H.sD p0 13 (x4 + (1 : Int32))) fun H5 =>
    bnd ((H5.D p0 13)) fun x6 =>
    if x6 ≤ (120 : Int32) then
    some ((), H5)
    else
    bnd (H5.sD p0 16 (5 : Int32)) fun H8 =>
    some ((), H8)
    else if p1 = 2 then
    ck (H.sh[p0]? = some (8, 0)) <|
    bnd (H.sD p0 12 w0) fun H11 =>
    some ((), H11)
    else if p1 = 3 then
    ck (H.sh[p0]? = some (8, 0)) <|
    bC (F_Row_pop N p0 H) fun v15 H16 =>
    if v15 = (0 : Int32) then
    bnd (H16.sD p0 12 w0) fun H18 =>
    some ((), H18)
    else
    some ((), H16)
    else if p1 = 4 then
    ck (H.sh[p0]? = some (8, 0)) <|
    bC (F_Row_pop N p0 H) fun v22 H23 =>
    if v22 = (0 : Int32) then
    B_Row_control_140 N p0 p1 w0 v22 0 H23
    else
    B_Row_control_140 N p0 p1 w0 v22 1 H23
    else if p1 = 5 then
    ck (H.sh[p0]? = some (8, 0)) <|
    bC (F_Row_pop N p0 H) fun v42 H43 =>
    if v42 = (0 : Int32) then
    B_Row_control_140 N p0 p1 w0 v42 0 H43
    else
    B_Row_control_140 N p0 p1 w0 v42 1 H43
    else if p1 = 6 then
    ck (H.sh[p0]? = some (8, 0)) <|
    rf (H.P p0 8) fun a47 =>
    ar H 100 a47 fun n49 =>
    ck (inb w0 n49) <|
    bnd (H.sD a47 (w0).toNatClampNeg ((-1) : Int32)) fun H52 =>
    some ((), H52)
    else if p1 = 7 then
    ck (H.sh[p0]? = some (8, 0)) <|
    rf (H.P p0 9) fun a55 =>
    bC (F_Row_pop N p0 H) fun v58 H59 =>
    ar H59 100 a55 fun n60 =>
    ck (inb w0 n60) <|
    bnd (H59.sD a55 (w0).toNatClampNeg v58) fun H63 =>
    some ((), H63)
    else if p1 = 8 then
    if p1 = (9 : Int32) then
    B_Row_control_202 N p0 p1 p0 w0 1 H
    else
    B_Row_control_202 N p0 p1 p0 w0 0 H
    else if p1 = 9 then
    if p1 = (9 : Int32) then
    B_Row_control_202 N p0 p1 p0 w0 1 H
    else
    B_Row_control_202 N p0 p1 p0 w0 0 H
    else if p1 = 10 then
    ck (H.sh[p0]? = some (8, 0)) <|
    bC (F_Row_nextHeard N p0 w0 H) fun v79 H80 =>
    some ((), H80)
    else ck (H.sh[p0]? = some (8, 0)) <|
    bnd (H.sD p0 16 (4 : Int32)) fun H82 =>
    some ((), H82)
set_option maxRecDepth 20000 in
set_option maxHeartbeats 2000000 in
theorem mB_Row_control_19 {N : Nat} {p0 : Nat} {p1 : Int32} {w0 : Int32} {H : Hp} {r : Unit × Hp} (hF : B_Row_control_19 N p0 p1 w0 H = some r) : Sa H r.2 := by
  unfold B_Row_control_19 at hF
  have hm := Sa.rf H
  rcases ite_s hF with ⟨q_21, hG⟩ | ⟨q_21, hG⟩
  · clear hF
    obtain ⟨q84, hF⟩ := ck_s hG; clear hG
    obtain ⟨x85, -, hG⟩ := bnd_g hF; clear hF
    obtain ⟨H86, eH86, hF⟩ := bnd_g hG; clear hG
    replace hm : Sa H H86 := by rw [eH86]; exact hm
    obtain ⟨x87, -, hG⟩ := bnd_g hF; clear hF
    rcases ite_s hG with ⟨q_23, hF⟩ | ⟨q_23, hF⟩
    · clear hG
      have hr := Option.some.inj hF; subst hr
      exact hm
    · clear hG
      obtain ⟨H89, eH89, hG⟩ := bnd_g hF; clear hF
      replace hm : Sa H H89 := by rw [eH89]; exact hm
      have hr := Option.some.inj hG; subst hr
      exact hm
  clear hF
  rcases ite_s hG with ⟨q_25, hF⟩ | ⟨q_25, hF⟩
  · clear hG
    obtain ⟨q91, hG⟩ := ck_s hF; clear hF
    obtain ⟨H92, eH92, hF⟩ := bnd_g hG; clear hG
    replace hm : Sa H H92 := by rw [eH92]; exact hm
    have hr := Option.some.inj hF; subst hr
    exact hm
  clear hG
  rcases ite_s hF with ⟨q_27, hG⟩ | ⟨q_27, hG⟩
  · clear hF
    obtain ⟨q94, hF⟩ := ck_s hG; clear hG
    obtain ⟨v96, H97, z95, hG⟩ := bC_s hF; clear hF
    replace hm : Sa H H97 := hm.tr (m_Row_pop z95)
    rcases ite_s hG with ⟨q_29, hF⟩ | ⟨q_29, hF⟩
    · clear hG
      obtain ⟨H99, eH99, hG⟩ := bnd_g hF; clear hF
      replace hm : Sa H H99 := by rw [eH99]; exact hm
      have hr := Option.some.inj hG; subst hr
      exact hm
    · clear hG
      have hr := Option.some.inj hF; subst hr
      exact hm
  clear hF
  rcases ite_s hG with ⟨q_31, hF⟩ | ⟨q_31, hF⟩
  · clear hG
    obtain ⟨q101, hG⟩ := ck_s hF; clear hF
    obtain ⟨v103, H104, z102, hF⟩ := bC_s hG; clear hG
    replace hm : Sa H H104 := hm.tr (m_Row_pop z102)
    rcases ite_s hF with ⟨q_33, hG⟩ | ⟨q_33, hG⟩
    · clear hF
      exact hm.tr (mB_Row_control_140 hG)
    · clear hF
      exact hm.tr (mB_Row_control_140 hG)
  clear hG
  rcases ite_s hF with ⟨q_34, hG⟩ | ⟨q_34, hG⟩
  · clear hF
    obtain ⟨q107, hF⟩ := ck_s hG; clear hG
    obtain ⟨v109, H110, z108, hG⟩ := bC_s hF; clear hF
    replace hm : Sa H H110 := hm.tr (m_Row_pop z108)
    rcases ite_s hG with ⟨q_36, hF⟩ | ⟨q_36, hF⟩
    · clear hG
      exact hm.tr (mB_Row_control_140 hF)
    · clear hG
      exact hm.tr (mB_Row_control_140 hF)
  clear hF
  rcases ite_s hG with ⟨q_37, hF⟩ | ⟨q_37, hF⟩
  · clear hG
    obtain ⟨q113, hG⟩ := ck_s hF; clear hF
    obtain ⟨a114, e115, hF⟩ := rf_s hG; clear hG
    obtain ⟨n116, q117, hG⟩ := ar_s hF; clear hF
    obtain ⟨q118, hF⟩ := ck_s hG; clear hG
    obtain ⟨H119, eH119, hG⟩ := bnd_g hF; clear hF
    replace hm : Sa H H119 := by rw [eH119]; exact hm
    have hr := Option.some.inj hG; subst hr
    exact hm
  clear hG
  rcases ite_s hF with ⟨q_39, hG⟩ | ⟨q_39, hG⟩
  · clear hF
    obtain ⟨q121, hF⟩ := ck_s hG; clear hG
    obtain ⟨a122, e123, hG⟩ := rf_s hF; clear hF
    obtain ⟨v125, H126, z124, hF⟩ := bC_s hG; clear hG
    replace hm : Sa H H126 := hm.tr (m_Row_pop z124)
    obtain ⟨n127, q128, hG⟩ := ar_s hF; clear hF
    obtain ⟨q129, hF⟩ := ck_s hG; clear hG
    obtain ⟨H130, eH130, hG⟩ := bnd_g hF; clear hF
    replace hm : Sa H H130 := by rw [eH130]; exact hm
    have hr := Option.some.inj hG; subst hr
    exact hm
  clear hF
  rcases ite_s hG with ⟨q_42, hF⟩ | ⟨q_42, hF⟩
  · clear hG
    rcases ite_s hF with ⟨q_43, hG⟩ | ⟨q_43, hG⟩
    · clear hF
      exact hm.tr (mB_Row_control_202 hG)
    · clear hF
      exact hm.tr (mB_Row_control_202 hG)
  clear hG
  rcases ite_s hF with ⟨q_44, hG⟩ | ⟨q_44, hG⟩
  · clear hF
    rcases ite_s hG with ⟨q_45, hF⟩ | ⟨q_45, hF⟩
    · clear hG
      exact hm.tr (mB_Row_control_202 hF)
    · clear hG
      exact hm.tr (mB_Row_control_202 hF)
  clear hF
  rcases ite_s hG with ⟨q_46, hF⟩ | ⟨q_46, hF⟩
  · clear hG
    obtain ⟨q136, hG⟩ := ck_s hF; clear hF
    obtain ⟨v138, H139, z137, hF⟩ := bC_s hG; clear hG
    replace hm : Sa H H139 := hm.tr (m_Row_nextHeard z137)
    have hr := Option.some.inj hF; subst hr
    exact hm
  clear hG
  obtain ⟨q140, hG⟩ := ck_s hF; clear hF
  obtain ⟨H141, eH141, hF⟩ := bnd_g hG; clear hG
  replace hm : Sa H H141 := by rw [eH141]; exact hm
  have hr := Option.some.inj hF; subst hr
  exact hm
set_option maxRecDepth 20000 in
set_option maxHeartbeats 2000000 in
theorem kB_Row_control_19 {N : Nat} {p0 : Nat} {p1 : Int32} {w0 : Int32} {H : Hp} {r : Unit × Hp} (hF : B_Row_control_19 N p0 p1 w0 H = some r) : ab_V y_Row_control { frames := 2, cells := 0, slots := 0, locals := 56 } (po (.returned none) r.2) 0 0 0 0 19 [some (.ref p0), some (.int p1), none, none] [.int w0] (hpw H) := by
  unfold B_Row_control_19 at hF
  refine ab_istore_n (lv' := [some (.ref p0), some (.int p1), some (.int w0), none]) d_Row_control_19 rfl (by decide) rfl ?_
  refine ab_iload_n d_Row_control_20 rfl rfl ?_
  by_cases t2 : p1 = 1
  · rw [if_pos t2] at hF
    refine ab_tableIn (off := 55) (tgt := 76) d_Row_control_21 (by rw [t2]; decide) (by rw [t2]; decide) (by rw [t2]; decide) (by decide) ?_
    refine ab_aload_n d_Row_control_76 rfl rfl rfl ?_
    refine ab_dup d_Row_control_77 rfl ?_
    obtain ⟨q3, hG⟩ := ck_s hF; clear hF
    refine hp_getI (f := 13) d_Row_control_78 q3 (by decide) rfl (by decide) (k2 75 rfl rfl) rfl ?_
    refine ab_topi (fun x4 ex4 => ?_)
    replace hG := bnd_s ex4 hG
    refine ab_iconst (v := 1) d_Row_control_81 (by decide) ?_
    refine ab_iadd d_Row_control_82 ?_
    refine hp_putI (v := x4 + (1 : Int32)) (f := 13) d_Row_control_83 q3 (by decide) rfl (by decide) (k2 75 rfl rfl) rfl rfl (fun _ => rfl) (fun _ => rfl) rfl ?_
    refine hp_gen (fun H5 eH5 => ?_)
    replace hG := bnd_s eH5 hG
    have s_1 : Sa H H5 := by rw [eH5]; exact Sa.rf _
    refine ab_aload_n d_Row_control_86 rfl rfl rfl ?_
    refine hp_getI (f := 13) d_Row_control_87 (by rw [(s_1).1]; exact q3) (by decide) rfl (by decide) (k2 75 rfl rfl) rfl ?_
    refine ab_topi (fun x6 ex6 => ?_)
    replace hG := bnd_s ex6 hG
    refine ab_bipush (v := 120) d_Row_control_90 (by decide) ?_
    refine ab_icmp_le (tgt := 221) d_Row_control_92 (by decide) (fun q7 => ?_) (fun q7 => ?_)
    · rw [if_pos q7] at hG
      exact ab_vret d_Row_control_221 rfl (Nat.le_refl _) (Nat.le_refl _) (by have hr := Option.some.inj hG; subst hr; exact ⟨rfl, rfl⟩)
    · rw [if_neg q7] at hG
      refine ab_aload_n d_Row_control_95 rfl rfl rfl ?_
      refine ab_iconst (v := 5) d_Row_control_96 (by decide) ?_
      refine hp_putI (v := 5) (f := 16) d_Row_control_97 (by rw [(s_1).1]; exact q3) (by decide) rfl (by decide) (k2 78 rfl rfl) rfl rfl (fun _ => rfl) (fun _ => rfl) rfl ?_
      refine hp_gen (fun H8 eH8 => ?_)
      replace hG := bnd_s eH8 hG
      have s_2 : Sa H H8 := by rw [eH8]; exact s_1
      refine ab_goto (tgt := 221) d_Row_control_100 (by decide) ?_
      exact ab_vret d_Row_control_221 rfl (Nat.le_refl _) (Nat.le_refl _) (by have hr := Option.some.inj hG; subst hr; exact ⟨rfl, rfl⟩)
  rw [if_neg t2] at hF
  have ut2 : ¬ (1 : Int) = (p1).toInt := fun z => t2 (Int32.toInt_inj.mp (z.symm.trans (by decide)))
  by_cases t9 : p1 = 2
  · rw [if_pos t9] at hF
    refine ab_tableIn (off := 82) (tgt := 103) d_Row_control_21 (by rw [t9]; decide) (by rw [t9]; decide) (by rw [t9]; decide) (by decide) ?_
    refine ab_aload_n d_Row_control_103 rfl rfl rfl ?_
    refine ab_iload_n d_Row_control_104 rfl rfl ?_
    obtain ⟨q10, hG⟩ := ck_s hF; clear hF
    refine hp_putI (v := w0) (f := 12) d_Row_control_105 q10 (by decide) rfl (by decide) (k2 74 rfl rfl) rfl rfl (fun _ => rfl) (fun _ => rfl) rfl ?_
    refine hp_gen (fun H11 eH11 => ?_)
    replace hG := bnd_s eH11 hG
    have s_3 : Sa H H11 := by rw [eH11]; exact Sa.rf _
    refine ab_goto (tgt := 221) d_Row_control_108 (by decide) ?_
    exact ab_vret d_Row_control_221 rfl (Nat.le_refl _) (Nat.le_refl _) (by have hr := Option.some.inj hG; subst hr; exact ⟨rfl, rfl⟩)
  rw [if_neg t9] at hF
  have ut9 : ¬ (2 : Int) = (p1).toInt := fun z => t9 (Int32.toInt_inj.mp (z.symm.trans (by decide)))
  by_cases t12 : p1 = 3
  · rw [if_pos t12] at hF
    refine ab_tableIn (off := 90) (tgt := 111) d_Row_control_21 (by rw [t12]; decide) (by rw [t12]; decide) (by rw [t12]; decide) (by decide) ?_
    refine ab_aload_n d_Row_control_111 rfl rfl rfl ?_
    obtain ⟨q13, hG⟩ := ck_s hF; clear hF
    obtain ⟨v15, H16, z14, hF⟩ := bC_s hG; clear hG
    refine hp_callV_a (v := .int v15) (H1 := H16) (As := []) (rest := []) d_Row_control_112 (k_Row_pop z14) (ab_mkC s_Row_pop (Nat.le_of_ble_eq_true rfl) (Nat.le_of_ble_eq_true rfl) (Nat.le_refl 0) (Nat.le_refl 0)) (k6 214 rfl rfl) i_Row_pop v_Row_pop q13 (by decide) rfl rfl (Nat.le_of_ble_eq_true rfl) ?_
    have s_4 : Sa H H16 := (m_Row_pop z14)
    refine ab_if_ne (tgt := 221) d_Row_control_115 (by decide) (fun q17 => ?_) (fun q17 => ?_)
    · rw [if_neg q17] at hF
      exact ab_vret d_Row_control_221 rfl (Nat.le_refl _) (Nat.le_refl _) (by have hr := Option.some.inj hF; subst hr; exact ⟨rfl, rfl⟩)
    · rw [if_pos q17] at hF
      refine ab_aload_n d_Row_control_118 rfl rfl rfl ?_
      refine ab_iload_n d_Row_control_119 rfl rfl ?_
      refine hp_putI (v := w0) (f := 12) d_Row_control_120 (by rw [(s_4).1]; exact q13) (by decide) rfl (by decide) (k2 74 rfl rfl) rfl rfl (fun _ => rfl) (fun _ => rfl) rfl ?_
      refine hp_gen (fun H18 eH18 => ?_)
      replace hF := bnd_s eH18 hF
      have s_5 : Sa H H18 := by rw [eH18]; exact s_4
      refine ab_goto (tgt := 221) d_Row_control_123 (by decide) ?_
      exact ab_vret d_Row_control_221 rfl (Nat.le_refl _) (Nat.le_refl _) (by have hr := Option.some.inj hF; subst hr; exact ⟨rfl, rfl⟩)
  rw [if_neg t12] at hF
  have ut12 : ¬ (3 : Int) = (p1).toInt := fun z => t12 (Int32.toInt_inj.mp (z.symm.trans (by decide)))
  by_cases t19 : p1 = 4
  · rw [if_pos t19] at hF
    refine ab_tableIn (off := 105) (tgt := 126) d_Row_control_21 (by rw [t19]; decide) (by rw [t19]; decide) (by rw [t19]; decide) (by decide) ?_
    refine ab_aload_n d_Row_control_126 rfl rfl rfl ?_
    obtain ⟨q20, hG⟩ := ck_s hF; clear hF
    obtain ⟨v22, H23, z21, hF⟩ := bC_s hG; clear hG
    refine hp_callV_a (v := .int v22) (H1 := H23) (As := []) (rest := []) d_Row_control_127 (k_Row_pop z21) (ab_mkC s_Row_pop (Nat.le_of_ble_eq_true rfl) (Nat.le_of_ble_eq_true rfl) (Nat.le_refl 0) (Nat.le_refl 0)) (k6 214 rfl rfl) i_Row_pop v_Row_pop q20 (by decide) rfl rfl (Nat.le_of_ble_eq_true rfl) ?_
    have s_6 : Sa H H23 := (m_Row_pop z21)
    refine ab_istore_n (lv' := [some (.ref p0), some (.int p1), some (.int w0), some (.int v22)]) d_Row_control_130 rfl (by decide) rfl ?_
    refine ab_iload_n d_Row_control_131 rfl rfl ?_
    refine ab_if_eq (tgt := 139) d_Row_control_132 (by decide) (fun q24 => ?_) (fun q24 => ?_)
    · rw [if_pos q24] at hF
      refine ab_iconst (v := 0) d_Row_control_139 (by decide) ?_
      exact kB_Row_control_140 hF
    · rw [if_neg q24] at hF
      refine ab_iconst (v := 1) d_Row_control_135 (by decide) ?_
      refine ab_goto (tgt := 140) d_Row_control_136 (by decide) ?_
      exact kB_Row_control_140 hF
  rw [if_neg t19] at hF
  have ut19 : ¬ (4 : Int) = (p1).toInt := fun z => t19 (Int32.toInt_inj.mp (z.symm.trans (by decide)))
  by_cases t39 : p1 = 5
  · rw [if_pos t39] at hF
    refine ab_tableIn (off := 105) (tgt := 126) d_Row_control_21 (by rw [t39]; decide) (by rw [t39]; decide) (by rw [t39]; decide) (by decide) ?_
    refine ab_aload_n d_Row_control_126 rfl rfl rfl ?_
    obtain ⟨q40, hG⟩ := ck_s hF; clear hF
    obtain ⟨v42, H43, z41, hF⟩ := bC_s hG; clear hG
    refine hp_callV_a (v := .int v42) (H1 := H43) (As := []) (rest := []) d_Row_control_127 (k_Row_pop z41) (ab_mkC s_Row_pop (Nat.le_of_ble_eq_true rfl) (Nat.le_of_ble_eq_true rfl) (Nat.le_refl 0) (Nat.le_refl 0)) (k6 214 rfl rfl) i_Row_pop v_Row_pop q40 (by decide) rfl rfl (Nat.le_of_ble_eq_true rfl) ?_
    have s_13 : Sa H H43 := (m_Row_pop z41)
    refine ab_istore_n (lv' := [some (.ref p0), some (.int p1), some (.int w0), some (.int v42)]) d_Row_control_130 rfl (by decide) rfl ?_
    refine ab_iload_n d_Row_control_131 rfl rfl ?_
    refine ab_if_eq (tgt := 139) d_Row_control_132 (by decide) (fun q44 => ?_) (fun q44 => ?_)
    · rw [if_pos q44] at hF
      refine ab_iconst (v := 0) d_Row_control_139 (by decide) ?_
      exact kB_Row_control_140 hF
    · rw [if_neg q44] at hF
      refine ab_iconst (v := 1) d_Row_control_135 (by decide) ?_
      refine ab_goto (tgt := 140) d_Row_control_136 (by decide) ?_
      exact kB_Row_control_140 hF
  rw [if_neg t39] at hF
  have ut39 : ¬ (5 : Int) = (p1).toInt := fun z => t39 (Int32.toInt_inj.mp (z.symm.trans (by decide)))
  by_cases t45 : p1 = 6
  · rw [if_pos t45] at hF
    refine ab_tableIn (off := 145) (tgt := 166) d_Row_control_21 (by rw [t45]; decide) (by rw [t45]; decide) (by rw [t45]; decide) (by decide) ?_
    refine ab_aload_n d_Row_control_166 rfl rfl rfl ?_
    obtain ⟨q46, hG⟩ := ck_s hF; clear hF
    obtain ⟨a47, e48, hF⟩ := rf_s hG; clear hG
    refine hp_getR (f := 8) d_Row_control_167 q46 (by decide) rfl (by decide) (k2 70 rfl rfl) rfl e48 ?_
    refine ab_iload_n d_Row_control_170 rfl rfl ?_
    refine ab_iconst (v := (-1)) d_Row_control_171 (by decide) ?_
    obtain ⟨n49, q50, hG⟩ := ar_s hF; clear hF
    obtain ⟨q51, hF⟩ := ck_s hG; clear hG
    refine hp_iast d_Row_control_172 tI q50 q51 ?_
    refine hp_gen (fun H52 eH52 => ?_)
    replace hF := bnd_s eH52 hF
    have s_14 : Sa H H52 := by rw [eH52]; exact Sa.rf _
    refine ab_goto (tgt := 221) d_Row_control_173 (by decide) ?_
    exact ab_vret d_Row_control_221 rfl (Nat.le_refl _) (Nat.le_refl _) (by have hr := Option.some.inj hF; subst hr; exact ⟨rfl, rfl⟩)
  rw [if_neg t45] at hF
  have ut45 : ¬ (6 : Int) = (p1).toInt := fun z => t45 (Int32.toInt_inj.mp (z.symm.trans (by decide)))
  by_cases t53 : p1 = 7
  · rw [if_pos t53] at hF
    refine ab_tableIn (off := 155) (tgt := 176) d_Row_control_21 (by rw [t53]; decide) (by rw [t53]; decide) (by rw [t53]; decide) (by decide) ?_
    refine ab_aload_n d_Row_control_176 rfl rfl rfl ?_
    obtain ⟨q54, hG⟩ := ck_s hF; clear hF
    obtain ⟨a55, e56, hF⟩ := rf_s hG; clear hG
    refine hp_getR (f := 9) d_Row_control_177 q54 (by decide) rfl (by decide) (k2 71 rfl rfl) rfl e56 ?_
    refine ab_iload_n d_Row_control_180 rfl rfl ?_
    refine ab_aload_n d_Row_control_181 rfl rfl rfl ?_
    obtain ⟨v58, H59, z57, hG⟩ := bC_s hF; clear hF
    refine hp_callV_a (v := .int v58) (H1 := H59) (As := []) (rest := [.int w0, .ref a55]) d_Row_control_182 (k_Row_pop z57) (ab_mkC s_Row_pop (Nat.le_of_ble_eq_true rfl) (Nat.le_of_ble_eq_true rfl) (Nat.le_refl 0) (Nat.le_refl 0)) (k6 214 rfl rfl) i_Row_pop v_Row_pop q54 (by decide) rfl rfl (Nat.le_of_ble_eq_true rfl) ?_
    have s_15 : Sa H H59 := (m_Row_pop z57)
    obtain ⟨n60, q61, hF⟩ := ar_s hG; clear hG
    rw [(s_15).1] at q61
    obtain ⟨q62, hG⟩ := ck_s hF; clear hF
    refine hp_iast d_Row_control_185 tI (by rw [(s_15).1]; exact q61) q62 ?_
    refine hp_gen (fun H63 eH63 => ?_)
    replace hG := bnd_s eH63 hG
    have s_16 : Sa H H63 := by rw [eH63]; exact s_15
    refine ab_goto (tgt := 221) d_Row_control_186 (by decide) ?_
    exact ab_vret d_Row_control_221 rfl (Nat.le_refl _) (Nat.le_refl _) (by have hr := Option.some.inj hG; subst hr; exact ⟨rfl, rfl⟩)
  rw [if_neg t53] at hF
  have ut53 : ¬ (7 : Int) = (p1).toInt := fun z => t53 (Int32.toInt_inj.mp (z.symm.trans (by decide)))
  by_cases t64 : p1 = 8
  · rw [if_pos t64] at hF
    refine ab_tableIn (off := 168) (tgt := 189) d_Row_control_21 (by rw [t64]; decide) (by rw [t64]; decide) (by rw [t64]; decide) (by decide) ?_
    refine ab_aload_n d_Row_control_189 rfl rfl rfl ?_
    refine ab_iload_n d_Row_control_190 rfl rfl ?_
    refine ab_iload_n d_Row_control_191 rfl rfl ?_
    refine ab_bipush (v := 9) d_Row_control_192 (by decide) ?_
    refine ab_icmp_ne (tgt := 201) d_Row_control_194 (by decide) (fun q65 => ?_) (fun q65 => ?_)
    · rw [if_neg q65] at hF
      refine ab_iconst (v := 0) d_Row_control_201 (by decide) ?_
      refine ab_le (lv' := [some (.ref p0), some (.int p1), none, none]) ⟨rfl, ⟨rfl, trivial⟩⟩ ?_
      exact kB_Row_control_202 hF
    · rw [if_pos q65] at hF
      refine ab_iconst (v := 1) d_Row_control_197 (by decide) ?_
      refine ab_goto (tgt := 202) d_Row_control_198 (by decide) ?_
      refine ab_le (lv' := [some (.ref p0), some (.int p1), none, none]) ⟨rfl, ⟨rfl, trivial⟩⟩ ?_
      exact kB_Row_control_202 hF
  rw [if_neg t64] at hF
  have ut64 : ¬ (8 : Int) = (p1).toInt := fun z => t64 (Int32.toInt_inj.mp (z.symm.trans (by decide)))
  by_cases t74 : p1 = 9
  · rw [if_pos t74] at hF
    refine ab_tableIn (off := 168) (tgt := 189) d_Row_control_21 (by rw [t74]; decide) (by rw [t74]; decide) (by rw [t74]; decide) (by decide) ?_
    refine ab_aload_n d_Row_control_189 rfl rfl rfl ?_
    refine ab_iload_n d_Row_control_190 rfl rfl ?_
    refine ab_iload_n d_Row_control_191 rfl rfl ?_
    refine ab_bipush (v := 9) d_Row_control_192 (by decide) ?_
    refine ab_icmp_ne (tgt := 201) d_Row_control_194 (by decide) (fun q75 => ?_) (fun q75 => ?_)
    · rw [if_neg q75] at hF
      refine ab_iconst (v := 0) d_Row_control_201 (by decide) ?_
      refine ab_le (lv' := [some (.ref p0), some (.int p1), none, none]) ⟨rfl, ⟨rfl, trivial⟩⟩ ?_
      exact kB_Row_control_202 hF
    · rw [if_pos q75] at hF
      refine ab_iconst (v := 1) d_Row_control_197 (by decide) ?_
      refine ab_goto (tgt := 202) d_Row_control_198 (by decide) ?_
      refine ab_le (lv' := [some (.ref p0), some (.int p1), none, none]) ⟨rfl, ⟨rfl, trivial⟩⟩ ?_
      exact kB_Row_control_202 hF
  rw [if_neg t74] at hF
  have ut74 : ¬ (9 : Int) = (p1).toInt := fun z => t74 (Int32.toInt_inj.mp (z.symm.trans (by decide)))
  by_cases t76 : p1 = 10
  · rw [if_pos t76] at hF
    refine ab_tableIn (off := 187) (tgt := 208) d_Row_control_21 (by rw [t76]; decide) (by rw [t76]; decide) (by rw [t76]; decide) (by decide) ?_
    refine ab_aload_n d_Row_control_208 rfl rfl rfl ?_
    refine ab_iload_n d_Row_control_209 rfl rfl ?_
    obtain ⟨q77, hG⟩ := ck_s hF; clear hF
    obtain ⟨v79, H80, z78, hF⟩ := bC_s hG; clear hG
    refine hp_callV_v (H1 := H80) (As := [.int w0]) (rest := []) d_Row_control_210 (k_Row_nextHeard z78) (ab_mkC s_Row_nextHeard (Nat.le_of_ble_eq_true rfl) (Nat.le_of_ble_eq_true rfl) (Nat.le_refl 0) (Nat.le_refl 0)) (k6 235 rfl rfl) i_Row_nextHeard v_Row_nextHeard q77 (by decide) rfl rfl (Nat.le_of_ble_eq_true rfl) ?_
    have s_19 : Sa H H80 := (m_Row_nextHeard z78)
    refine ab_goto (tgt := 221) d_Row_control_213 (by decide) ?_
    exact ab_vret d_Row_control_221 rfl (Nat.le_refl _) (Nat.le_refl _) (by have hr := Option.some.inj hF; subst hr; exact ⟨rfl, rfl⟩)
  rw [if_neg t76] at hF
  have ut76 : ¬ (10 : Int) = (p1).toInt := fun z => t76 (Int32.toInt_inj.mp (z.symm.trans (by decide)))
  refine ab_tableOut (tgt := 216) d_Row_control_21 (by omega) (by decide) ?_
  refine ab_aload_n d_Row_control_216 rfl rfl rfl ?_
  refine ab_iconst (v := 4) d_Row_control_217 (by decide) ?_
  obtain ⟨q81, hG⟩ := ck_s hF; clear hF
  refine hp_putI (v := 4) (f := 16) d_Row_control_218 q81 (by decide) rfl (by decide) (k2 78 rfl rfl) rfl rfl (fun _ => rfl) (fun _ => rfl) rfl ?_
  refine hp_gen (fun H82 eH82 => ?_)
  replace hG := bnd_s eH82 hG
  have s_20 : Sa H H82 := by rw [eH82]; exact Sa.rf _
  exact ab_vret d_Row_control_221 rfl (Nat.le_refl _) (Nat.le_refl _) (by have hr := Option.some.inj hG; subst hr; exact ⟨rfl, rfl⟩)
def B_Row_control_11 (N : Nat) (p0 : Nat) (p1 : Int32)  (H : Hp) : Option (Unit × Hp) :=
    B_Row_control_19 N p0 p1 0 H
set_option maxRecDepth 20000 in
set_option maxHeartbeats 2000000 in
theorem mB_Row_control_11 {N : Nat} {p0 : Nat} {p1 : Int32}  {H : Hp} {r : Unit × Hp} (hF : B_Row_control_11 N p0 p1  H = some r) : Sa H r.2 := by
  unfold B_Row_control_11 at hF
  have hm := Sa.rf H
  exact hm.tr (mB_Row_control_19 hF)
set_option maxRecDepth 20000 in
set_option maxHeartbeats 2000000 in
theorem kB_Row_control_11 {N : Nat} {p0 : Nat} {p1 : Int32}  {H : Hp} {r : Unit × Hp} (hF : B_Row_control_11 N p0 p1  H = some r) : ab_V y_Row_control { frames := 2, cells := 0, slots := 0, locals := 56 } (po (.returned none) r.2) 0 0 0 0 11 [some (.ref p0), some (.int p1), none, none] [] (hpw H) := by
  unfold B_Row_control_11 at hF
  refine ab_iconst (v := 0) d_Row_control_11 (by decide) ?_
  refine ab_goto (tgt := 19) d_Row_control_12 (by decide) ?_
  exact kB_Row_control_19 hF
def F_Row_control (N : Nat) (p0 : Nat) (p1 : Int32) (H : Hp) : Option (Unit × Hp) :=
    if p1 = (1 : Int32) then
    B_Row_control_11 N p0 p1  H
    else
    if p1 = (11 : Int32) then
    B_Row_control_11 N p0 p1  H
    else
    ck (H.sh[p0]? = some (8, 0)) <|
    bC (F_Row_nextCode N p0 H) fun v145 H146 =>
    B_Row_control_19 N p0 p1 v145 H146
set_option maxRecDepth 20000 in
set_option maxHeartbeats 2000000 in
theorem m_Row_control {N : Nat} {p0 : Nat} {p1 : Int32} {H : Hp} {r : Unit × Hp} (hF : F_Row_control N p0 p1 H = some r) : Sa H r.2 := by
  unfold F_Row_control at hF
  have hm := Sa.rf H
  rcases ite_s hF with ⟨q_50, hG⟩ | ⟨q_50, hG⟩
  · clear hF
    exact hm.tr (mB_Row_control_11 hG)
  · clear hF
    rcases ite_s hG with ⟨q_51, hF⟩ | ⟨q_51, hF⟩
    · clear hG
      exact hm.tr (mB_Row_control_11 hF)
    · clear hG
      obtain ⟨q149, hG⟩ := ck_s hF; clear hF
      obtain ⟨v151, H152, z150, hF⟩ := bC_s hG; clear hG
      replace hm : Sa H H152 := hm.tr (m_Row_nextCode z150)
      exact hm.tr (mB_Row_control_19 hF)
set_option maxRecDepth 20000 in
set_option maxHeartbeats 2000000 in
theorem k_Row_control {N : Nat} {p0 : Nat} {p1 : Int32} {H : Hp} {r : Unit × Hp} (hF : F_Row_control N p0 p1 H = some r) : ab_M y_Row_control { frames := 2, cells := 0, slots := 0, locals := 56 } [.ref p0, .int p1] (hpw H) (po (.returned none) r.2) := by
  unfold F_Row_control at hF
  refine ab_of2 (lv := [some (.ref p0), some (.int p1), none, none]) 2 rfl rfl (Nat.le_of_ble_eq_true rfl) ?_
  refine ab_iload_n d_Row_control_0 rfl rfl ?_
  refine ab_iconst (v := 1) d_Row_control_1 (by decide) ?_
  refine ab_icmp_eq (tgt := 11) d_Row_control_2 (by decide) (fun q1 => ?_) (fun q1 => ?_)
  · rw [if_pos q1] at hF
    exact kB_Row_control_11 hF
  · rw [if_neg q1] at hF
    refine ab_iload_n d_Row_control_5 rfl rfl ?_
    refine ab_bipush (v := 11) d_Row_control_6 (by decide) ?_
    refine ab_icmp_ne (tgt := 15) d_Row_control_8 (by decide) (fun q142 => ?_) (fun q142 => ?_)
    · rw [if_neg q142] at hF
      refine ab_aload_n d_Row_control_15 rfl rfl rfl ?_
      obtain ⟨q143, hG⟩ := ck_s hF; clear hF
      obtain ⟨v145, H146, z144, hF⟩ := bC_s hG; clear hG
      refine hp_callV_a (v := .int v145) (H1 := H146) (As := []) (rest := []) d_Row_control_16 (k_Row_nextCode z144) (ab_mkC s_Row_nextCode (Nat.le_of_ble_eq_true rfl) (Nat.le_of_ble_eq_true rfl) (Nat.le_refl 0) (Nat.le_refl 0)) (k6 205 rfl rfl) i_Row_nextCode v_Row_nextCode q143 (by decide) rfl rfl (Nat.le_of_ble_eq_true rfl) ?_
      have s_49 : Sa H H146 := (m_Row_nextCode z144)
      exact kB_Row_control_19 hF
    · rw [if_pos q142] at hF
      exact kB_Row_control_11 hF
def y_Row_commandSpawn : ab_Y := (⟨"WorldEngine$Row", "commandSpawn", "()V"⟩, prog_8_method_11_code, 3, none, [])
theorem d_Row_commandSpawn_0 : decode y_Row_commandSpawn.2.1 0 = .ok (.aload_n 0, 1) := by decide +kernel
theorem d_Row_commandSpawn_1 : decode y_Row_commandSpawn.2.1 1 = .ok (.getfield 27, 3) := by decide +kernel
theorem d_Row_commandSpawn_4 : decode y_Row_commandSpawn.2.1 4 = .ok (.iconst 1, 1) := by decide +kernel
theorem d_Row_commandSpawn_5 : decode y_Row_commandSpawn.2.1 5 = .ok (.aload_n 0, 1) := by decide +kernel
theorem d_Row_commandSpawn_6 : decode y_Row_commandSpawn.2.1 6 = .ok (.invokevirtual 88, 3) := by decide +kernel
theorem d_Row_commandSpawn_9 : decode y_Row_commandSpawn.2.1 9 = .ok (.iastore, 1) := by decide +kernel
theorem d_Row_commandSpawn_10 : decode y_Row_commandSpawn.2.1 10 = .ok (.iconst 4, 1) := by decide +kernel
theorem d_Row_commandSpawn_11 : decode y_Row_commandSpawn.2.1 11 = .ok (.aload_n 0, 1) := by decide +kernel
theorem d_Row_commandSpawn_12 : decode y_Row_commandSpawn.2.1 12 = .ok (.invokevirtual 88, 3) := by decide +kernel
theorem d_Row_commandSpawn_15 : decode y_Row_commandSpawn.2.1 15 = .ok (.invokestatic 183, 3) := by decide +kernel
theorem d_Row_commandSpawn_18 : decode y_Row_commandSpawn.2.1 18 = .ok (.istore_n 1, 1) := by decide +kernel
theorem d_Row_commandSpawn_19 : decode y_Row_commandSpawn.2.1 19 = .ok (.aload_n 0, 1) := by decide +kernel
theorem d_Row_commandSpawn_20 : decode y_Row_commandSpawn.2.1 20 = .ok (.getfield 27, 3) := by decide +kernel
theorem d_Row_commandSpawn_23 : decode y_Row_commandSpawn.2.1 23 = .ok (.iconst 2, 1) := by decide +kernel
theorem d_Row_commandSpawn_24 : decode y_Row_commandSpawn.2.1 24 = .ok (.iload_n 1, 1) := by decide +kernel
theorem d_Row_commandSpawn_25 : decode y_Row_commandSpawn.2.1 25 = .ok (.iastore, 1) := by decide +kernel
theorem d_Row_commandSpawn_26 : decode y_Row_commandSpawn.2.1 26 = .ok (.iconst 0, 1) := by decide +kernel
theorem d_Row_commandSpawn_27 : decode y_Row_commandSpawn.2.1 27 = .ok (.istore_n 2, 1) := by decide +kernel
theorem d_Row_commandSpawn_28 : decode y_Row_commandSpawn.2.1 28 = .ok (.iload_n 2, 1) := by decide +kernel
theorem d_Row_commandSpawn_29 : decode y_Row_commandSpawn.2.1 29 = .ok (.iload_n 1, 1) := by decide +kernel
theorem d_Row_commandSpawn_30 : decode y_Row_commandSpawn.2.1 30 = .ok (.if_icmp .ge 21, 3) := by decide +kernel
theorem d_Row_commandSpawn_33 : decode y_Row_commandSpawn.2.1 33 = .ok (.aload_n 0, 1) := by decide +kernel
theorem d_Row_commandSpawn_34 : decode y_Row_commandSpawn.2.1 34 = .ok (.getfield 27, 3) := by decide +kernel
theorem d_Row_commandSpawn_37 : decode y_Row_commandSpawn.2.1 37 = .ok (.iconst 3, 1) := by decide +kernel
theorem d_Row_commandSpawn_38 : decode y_Row_commandSpawn.2.1 38 = .ok (.iload_n 2, 1) := by decide +kernel
theorem d_Row_commandSpawn_39 : decode y_Row_commandSpawn.2.1 39 = .ok (.iadd, 1) := by decide +kernel
theorem d_Row_commandSpawn_40 : decode y_Row_commandSpawn.2.1 40 = .ok (.aload_n 0, 1) := by decide +kernel
theorem d_Row_commandSpawn_41 : decode y_Row_commandSpawn.2.1 41 = .ok (.invokevirtual 88, 3) := by decide +kernel
theorem d_Row_commandSpawn_44 : decode y_Row_commandSpawn.2.1 44 = .ok (.iastore, 1) := by decide +kernel
theorem d_Row_commandSpawn_45 : decode y_Row_commandSpawn.2.1 45 = .ok (.iinc 2 1, 3) := by decide +kernel
theorem d_Row_commandSpawn_48 : decode y_Row_commandSpawn.2.1 48 = .ok (.goto (-20), 3) := by decide +kernel
theorem d_Row_commandSpawn_51 : decode y_Row_commandSpawn.2.1 51 = .ok (.iload_n 1, 1) := by decide +kernel
theorem d_Row_commandSpawn_52 : decode y_Row_commandSpawn.2.1 52 = .ok (.iconst 1, 1) := by decide +kernel
theorem d_Row_commandSpawn_53 : decode y_Row_commandSpawn.2.1 53 = .ok (.isub, 1) := by decide +kernel
theorem d_Row_commandSpawn_54 : decode y_Row_commandSpawn.2.1 54 = .ok (.istore_n 2, 1) := by decide +kernel
theorem d_Row_commandSpawn_55 : decode y_Row_commandSpawn.2.1 55 = .ok (.iload_n 2, 1) := by decide +kernel
theorem d_Row_commandSpawn_56 : decode y_Row_commandSpawn.2.1 56 = .ok (.ifCond .lt 22, 3) := by decide +kernel
theorem d_Row_commandSpawn_59 : decode y_Row_commandSpawn.2.1 59 = .ok (.aload_n 0, 1) := by decide +kernel
theorem d_Row_commandSpawn_60 : decode y_Row_commandSpawn.2.1 60 = .ok (.getfield 27, 3) := by decide +kernel
theorem d_Row_commandSpawn_63 : decode y_Row_commandSpawn.2.1 63 = .ok (.bipush 7, 2) := by decide +kernel
theorem d_Row_commandSpawn_65 : decode y_Row_commandSpawn.2.1 65 = .ok (.iload_n 2, 1) := by decide +kernel
theorem d_Row_commandSpawn_66 : decode y_Row_commandSpawn.2.1 66 = .ok (.iadd, 1) := by decide +kernel
theorem d_Row_commandSpawn_67 : decode y_Row_commandSpawn.2.1 67 = .ok (.aload_n 0, 1) := by decide +kernel
theorem d_Row_commandSpawn_68 : decode y_Row_commandSpawn.2.1 68 = .ok (.invokevirtual 126, 3) := by decide +kernel
theorem d_Row_commandSpawn_71 : decode y_Row_commandSpawn.2.1 71 = .ok (.iastore, 1) := by decide +kernel
theorem d_Row_commandSpawn_72 : decode y_Row_commandSpawn.2.1 72 = .ok (.iinc 2 (-1), 3) := by decide +kernel
theorem d_Row_commandSpawn_75 : decode y_Row_commandSpawn.2.1 75 = .ok (.goto (-20), 3) := by decide +kernel
theorem d_Row_commandSpawn_78 : decode y_Row_commandSpawn.2.1 78 = .ok (.return_, 1) := by decide +kernel
theorem s_Row_commandSpawn : ab_Stat y_Row_commandSpawn 0 := ⟨(k7 6 rfl rfl), (k1 13 rfl rfl), ⟨by decide, by decide⟩, by decide +kernel⟩
theorem i_Row_commandSpawn : Cond.instanceMethod y_Row_commandSpawn.1 ∈ ab_T := (k7 5 rfl rfl)
theorem v_Row_commandSpawn : Cond.selects "WorldEngine$Row" y_Row_commandSpawn.1 y_Row_commandSpawn.1 ∈ ab_T := ab_s (List.mem_of_getElem? (i := 75) rfl) rfl
def B_Row_commandSpawn_55 (N : Nat) (p0 : Nat) : Nat → Int32 → Hp → Option (Unit × Hp)
  | 0, _, _ => none
  | n + 1, l2, H =>
    if l2 < (0 : Int32) then
    some ((), H)
    else
    ck (H.sh[p0]? = some (8, 0)) <|
    rf (H.P p0 10) fun a27 =>
    bC (F_Row_pop N p0 H) fun v30 H31 =>
    ar H31 100 a27 fun n32 =>
    ck (inb ((7 : Int32) + l2) n32) <|
    bnd (H31.sD a27 (((7 : Int32) + l2)).toNatClampNeg v30) fun H35 =>
    B_Row_commandSpawn_55 N p0 n (l2 + (-1)) H35
termination_by structural n => n
set_option maxRecDepth 20000 in
set_option maxHeartbeats 2000000 in
theorem mB_Row_commandSpawn_55 {N : Nat} {p0 : Nat} : ∀ (n : Nat) (l2 : Int32) (H : Hp) (r : Unit × Hp), B_Row_commandSpawn_55 N p0 n l2 H = some r → Sa H r.2 := by
  intro n
  induction n with
  | zero => intro l2 H r hF; rw [B_Row_commandSpawn_55] at hF; cases hF
  | succ n ih =>
    intro l2 H r hF
    rw [B_Row_commandSpawn_55] at hF
    have hm := Sa.rf H
    rcases ite_s hF with ⟨q_8, hG⟩ | ⟨q_8, hG⟩
    · clear hF
      have hr := Option.some.inj hG; subst hr
      exact hm
    · clear hF
      obtain ⟨q37, hF⟩ := ck_s hG; clear hG
      obtain ⟨a38, e39, hG⟩ := rf_s hF; clear hF
      obtain ⟨v41, H42, z40, hF⟩ := bC_s hG; clear hG
      replace hm : Sa H H42 := hm.tr (m_Row_pop z40)
      obtain ⟨n43, q44, hG⟩ := ar_s hF; clear hF
      obtain ⟨q45, hF⟩ := ck_s hG; clear hG
      obtain ⟨H46, eH46, hG⟩ := bnd_g hF; clear hF
      replace hm : Sa H H46 := by rw [eH46]; exact hm
      exact hm.tr (ih (l2 + (-1)) H46 r hG)
set_option maxRecDepth 20000 in
set_option maxHeartbeats 2000000 in
theorem kB_Row_commandSpawn_55 {N : Nat} {p0 : Nat} : ∀ (n : Nat) (l2 : Int32) (H : Hp) (r : Unit × Hp), B_Row_commandSpawn_55 N p0 n l2 H = some r → ab_V y_Row_commandSpawn { frames := 1, cells := 0, slots := 0, locals := 21 } (po (.returned none) r.2) 0 0 0 0 55 [some (.ref p0), none, some (.int l2)] [] (hpw H) := by
  intro n
  induction n with
  | zero => intro l2 H r hF; rw [B_Row_commandSpawn_55] at hF; cases hF
  | succ n ih =>
    intro l2 H r hF
    rw [B_Row_commandSpawn_55] at hF
    refine ab_iload_n d_Row_commandSpawn_55 rfl rfl ?_
    refine ab_if_lt (tgt := 78) d_Row_commandSpawn_56 (by decide) (fun q25 => ?_) (fun q25 => ?_)
    · rw [if_pos q25] at hF
      exact ab_vret d_Row_commandSpawn_78 rfl (Nat.le_refl _) (Nat.le_refl _) (by have hr := Option.some.inj hF; subst hr; exact ⟨rfl, rfl⟩)
    · rw [if_neg q25] at hF
      refine ab_aload_n d_Row_commandSpawn_59 rfl rfl rfl ?_
      obtain ⟨q26, hG⟩ := ck_s hF; clear hF
      obtain ⟨a27, e28, hF⟩ := rf_s hG; clear hG
      refine hp_getR (f := 10) d_Row_commandSpawn_60 q26 (by decide) rfl (by decide) (k2 72 rfl rfl) rfl e28 ?_
      refine ab_bipush (v := 7) d_Row_commandSpawn_63 (by decide) ?_
      refine ab_iload_n d_Row_commandSpawn_65 rfl rfl ?_
      refine ab_iadd d_Row_commandSpawn_66 ?_
      refine ab_aload_n d_Row_commandSpawn_67 rfl rfl rfl ?_
      obtain ⟨v30, H31, z29, hG⟩ := bC_s hF; clear hF
      refine hp_callV_a (v := .int v30) (H1 := H31) (As := []) (rest := [.int ((7 : Int32) + l2), .ref a27]) d_Row_commandSpawn_68 (k_Row_pop z29) (ab_mkC s_Row_pop (Nat.le_of_ble_eq_true rfl) (Nat.le_of_ble_eq_true rfl) (Nat.le_refl 0) (Nat.le_refl 0)) (k6 214 rfl rfl) i_Row_pop v_Row_pop q26 (by decide) rfl rfl (Nat.le_of_ble_eq_true rfl) ?_
      have s_6 : Sa H H31 := (m_Row_pop z29)
      obtain ⟨n32, q33, hF⟩ := ar_s hG; clear hG
      rw [(s_6).1] at q33
      obtain ⟨q34, hG⟩ := ck_s hF; clear hF
      refine hp_iast d_Row_commandSpawn_71 tI (by rw [(s_6).1]; exact q33) q34 ?_
      refine hp_gen (fun H35 eH35 => ?_)
      replace hG := bnd_s eH35 hG
      have s_7 : Sa H H35 := by rw [eH35]; exact s_6
      refine ab_iinc (v := l2 + (-1)) (lv' := [some (.ref p0), none, some (.int (l2 + (-1)))]) d_Row_commandSpawn_72 rfl rfl (by decide) rfl ?_
      refine ab_goto (tgt := 55) d_Row_commandSpawn_75 (by decide) ?_
      exact ih (l2 + (-1)) H35 r hG
def B_Row_commandSpawn_28 (N : Nat) (p0 : Nat) : Nat → Int32 → Int32 → Hp → Option (Unit × Hp)
  | 0, _, _, _ => none
  | n + 1, l1, l2, H =>
    if l1 ≤ l2 then
    bnd ((l1 - (1 : Int32))) fun x24 =>
    B_Row_commandSpawn_55 N p0 N x24 H
    else
    ck (H.sh[p0]? = some (8, 0)) <|
    rf (H.P p0 10) fun a48 =>
    bC (F_Row_nextCode N p0 H) fun v51 H52 =>
    ar H52 100 a48 fun n53 =>
    ck (inb ((3 : Int32) + l2) n53) <|
    bnd (H52.sD a48 (((3 : Int32) + l2)).toNatClampNeg v51) fun H56 =>
    B_Row_commandSpawn_28 N p0 n l1 (l2 + 1) H56
termination_by structural n => n
set_option maxRecDepth 20000 in
set_option maxHeartbeats 2000000 in
theorem mB_Row_commandSpawn_28 {N : Nat} {p0 : Nat} : ∀ (n : Nat) (l1 : Int32) (l2 : Int32) (H : Hp) (r : Unit × Hp), B_Row_commandSpawn_28 N p0 n l1 l2 H = some r → Sa H r.2 := by
  intro n
  induction n with
  | zero => intro l1 l2 H r hF; rw [B_Row_commandSpawn_28] at hF; cases hF
  | succ n ih =>
    intro l1 l2 H r hF
    rw [B_Row_commandSpawn_28] at hF
    have hm := Sa.rf H
    rcases ite_s hF with ⟨q_13, hG⟩ | ⟨q_13, hG⟩
    · clear hF
      obtain ⟨x58, -, hF⟩ := bnd_g hG; clear hG
      exact hm.tr (mB_Row_commandSpawn_55 N x58 H r hF)
    · clear hF
      obtain ⟨q59, hF⟩ := ck_s hG; clear hG
      obtain ⟨a60, e61, hG⟩ := rf_s hF; clear hF
      obtain ⟨v63, H64, z62, hF⟩ := bC_s hG; clear hG
      replace hm : Sa H H64 := hm.tr (m_Row_nextCode z62)
      obtain ⟨n65, q66, hG⟩ := ar_s hF; clear hF
      obtain ⟨q67, hF⟩ := ck_s hG; clear hG
      obtain ⟨H68, eH68, hG⟩ := bnd_g hF; clear hF
      replace hm : Sa H H68 := by rw [eH68]; exact hm
      exact hm.tr (ih l1 (l2 + 1) H68 r hG)
set_option maxRecDepth 20000 in
set_option maxHeartbeats 2000000 in
theorem kB_Row_commandSpawn_28 {N : Nat} {p0 : Nat} : ∀ (n : Nat) (l1 : Int32) (l2 : Int32) (H : Hp) (r : Unit × Hp), B_Row_commandSpawn_28 N p0 n l1 l2 H = some r → ab_V y_Row_commandSpawn { frames := 1, cells := 0, slots := 0, locals := 21 } (po (.returned none) r.2) 0 0 0 0 28 [some (.ref p0), some (.int l1), some (.int l2)] [] (hpw H) := by
  intro n
  induction n with
  | zero => intro l1 l2 H r hF; rw [B_Row_commandSpawn_28] at hF; cases hF
  | succ n ih =>
    intro l1 l2 H r hF
    rw [B_Row_commandSpawn_28] at hF
    refine ab_iload_n d_Row_commandSpawn_28 rfl rfl ?_
    refine ab_iload_n d_Row_commandSpawn_29 rfl rfl ?_
    refine ab_icmp_ge (tgt := 51) d_Row_commandSpawn_30 (by decide) (fun q23 => ?_) (fun q23 => ?_)
    · rw [if_pos q23] at hF
      refine ab_iload_n d_Row_commandSpawn_51 rfl rfl ?_
      refine ab_iconst (v := 1) d_Row_commandSpawn_52 (by decide) ?_
      refine ab_isub d_Row_commandSpawn_53 ?_
      refine ab_topi (fun x24 ex24 => ?_)
      replace hF := bnd_s ex24 hF
      refine ab_istore_n (lv' := [some (.ref p0), some (.int l1), some (.int x24)]) d_Row_commandSpawn_54 rfl (by decide) rfl ?_
      refine ab_le (lv' := [some (.ref p0), none, some (.int x24)]) ⟨rfl, ⟨rfl, trivial⟩⟩ ?_
      exact kB_Row_commandSpawn_55 N x24 H r hF
    · rw [if_neg q23] at hF
      refine ab_aload_n d_Row_commandSpawn_33 rfl rfl rfl ?_
      obtain ⟨q47, hG⟩ := ck_s hF; clear hF
      obtain ⟨a48, e49, hF⟩ := rf_s hG; clear hG
      refine hp_getR (f := 10) d_Row_commandSpawn_34 q47 (by decide) rfl (by decide) (k2 72 rfl rfl) rfl e49 ?_
      refine ab_iconst (v := 3) d_Row_commandSpawn_37 (by decide) ?_
      refine ab_iload_n d_Row_commandSpawn_38 rfl rfl ?_
      refine ab_iadd d_Row_commandSpawn_39 ?_
      refine ab_aload_n d_Row_commandSpawn_40 rfl rfl rfl ?_
      obtain ⟨v51, H52, z50, hG⟩ := bC_s hF; clear hF
      refine hp_callV_a (v := .int v51) (H1 := H52) (As := []) (rest := [.int ((3 : Int32) + l2), .ref a48]) d_Row_commandSpawn_41 (k_Row_nextCode z50) (ab_mkC s_Row_nextCode (Nat.le_of_ble_eq_true rfl) (Nat.le_of_ble_eq_true rfl) (Nat.le_refl 0) (Nat.le_refl 0)) (k6 205 rfl rfl) i_Row_nextCode v_Row_nextCode q47 (by decide) rfl rfl (Nat.le_of_ble_eq_true rfl) ?_
      have s_11 : Sa H H52 := (m_Row_nextCode z50)
      obtain ⟨n53, q54, hF⟩ := ar_s hG; clear hG
      rw [(s_11).1] at q54
      obtain ⟨q55, hG⟩ := ck_s hF; clear hF
      refine hp_iast d_Row_commandSpawn_44 tI (by rw [(s_11).1]; exact q54) q55 ?_
      refine hp_gen (fun H56 eH56 => ?_)
      replace hG := bnd_s eH56 hG
      have s_12 : Sa H H56 := by rw [eH56]; exact s_11
      refine ab_iinc (v := l2 + 1) (lv' := [some (.ref p0), some (.int l1), some (.int (l2 + 1))]) d_Row_commandSpawn_45 rfl rfl (by decide) rfl ?_
      refine ab_goto (tgt := 28) d_Row_commandSpawn_48 (by decide) ?_
      exact ih l1 (l2 + 1) H56 r hG
def F_Row_commandSpawn (N : Nat) (p0 : Nat) (H : Hp) : Option (Unit × Hp) :=
    ck (H.sh[p0]? = some (8, 0)) <|
    rf (H.P p0 10) fun a2 =>
    bC (F_Row_nextCode N p0 H) fun v5 H6 =>
    ar H6 100 a2 fun n7 =>
    ck (inb (1 : Int32) n7) <|
    bnd (H6.sD a2 ((1 : Int32)).toNatClampNeg v5) fun H10 =>
    bC (F_Row_nextCode N p0 H10) fun v12 H13 =>
    bC (F_Math_min N (4 : Int32) v12 H13) fun v15 H16 =>
    rf (H16.P p0 10) fun a17 =>
    ar H16 100 a17 fun n19 =>
    ck (inb (2 : Int32) n19) <|
    bnd (H16.sD a17 ((2 : Int32)).toNatClampNeg v15) fun H22 =>
    B_Row_commandSpawn_28 N p0 N v15 0 H22
set_option maxRecDepth 20000 in
set_option maxHeartbeats 2000000 in
theorem m_Row_commandSpawn {N : Nat} {p0 : Nat} {H : Hp} {r : Unit × Hp} (hF : F_Row_commandSpawn N p0 H = some r) : Sa H r.2 := by
  unfold F_Row_commandSpawn at hF
  have hm := Sa.rf H
  obtain ⟨q69, hG⟩ := ck_s hF; clear hF
  obtain ⟨a70, e71, hF⟩ := rf_s hG; clear hG
  obtain ⟨v73, H74, z72, hG⟩ := bC_s hF; clear hF
  replace hm : Sa H H74 := hm.tr (m_Row_nextCode z72)
  obtain ⟨n75, q76, hF⟩ := ar_s hG; clear hG
  obtain ⟨q77, hG⟩ := ck_s hF; clear hF
  obtain ⟨H78, eH78, hF⟩ := bnd_g hG; clear hG
  replace hm : Sa H H78 := by rw [eH78]; exact hm
  obtain ⟨v80, H81, z79, hG⟩ := bC_s hF; clear hF
  replace hm : Sa H H81 := hm.tr (m_Row_nextCode z79)
  obtain ⟨v83, H84, z82, hF⟩ := bC_s hG; clear hG
  replace hm : Sa H H84 := hm.tr (m_Math_min z82)
  obtain ⟨a85, e86, hG⟩ := rf_s hF; clear hF
  obtain ⟨n87, q88, hF⟩ := ar_s hG; clear hG
  obtain ⟨q89, hG⟩ := ck_s hF; clear hF
  obtain ⟨H90, eH90, hF⟩ := bnd_g hG; clear hG
  replace hm : Sa H H90 := by rw [eH90]; exact hm
  exact hm.tr (mB_Row_commandSpawn_28 N v83 0 H90 r hF)
set_option maxRecDepth 20000 in
set_option maxHeartbeats 2000000 in
theorem k_Row_commandSpawn {N : Nat} {p0 : Nat} {H : Hp} {r : Unit × Hp} (hF : F_Row_commandSpawn N p0 H = some r) : ab_M y_Row_commandSpawn { frames := 1, cells := 0, slots := 0, locals := 21 } [.ref p0] (hpw H) (po (.returned none) r.2) := by
  unfold F_Row_commandSpawn at hF
  refine ab_of2 (lv := [some (.ref p0), none, none]) 2 rfl rfl (Nat.le_of_ble_eq_true rfl) ?_
  refine ab_aload_n d_Row_commandSpawn_0 rfl rfl rfl ?_
  obtain ⟨q1, hG⟩ := ck_s hF; clear hF
  obtain ⟨a2, e3, hF⟩ := rf_s hG; clear hG
  refine hp_getR (f := 10) d_Row_commandSpawn_1 q1 (by decide) rfl (by decide) (k2 72 rfl rfl) rfl e3 ?_
  refine ab_iconst (v := 1) d_Row_commandSpawn_4 (by decide) ?_
  refine ab_aload_n d_Row_commandSpawn_5 rfl rfl rfl ?_
  obtain ⟨v5, H6, z4, hG⟩ := bC_s hF; clear hF
  refine hp_callV_a (v := .int v5) (H1 := H6) (As := []) (rest := [.int 1, .ref a2]) d_Row_commandSpawn_6 (k_Row_nextCode z4) (ab_mkC s_Row_nextCode (Nat.le_of_ble_eq_true rfl) (Nat.le_of_ble_eq_true rfl) (Nat.le_refl 0) (Nat.le_refl 0)) (k6 205 rfl rfl) i_Row_nextCode v_Row_nextCode q1 (by decide) rfl rfl (Nat.le_of_ble_eq_true rfl) ?_
  have s_1 : Sa H H6 := (m_Row_nextCode z4)
  obtain ⟨n7, q8, hF⟩ := ar_s hG; clear hG
  rw [(s_1).1] at q8
  obtain ⟨q9, hG⟩ := ck_s hF; clear hF
  refine hp_iast d_Row_commandSpawn_9 tI (by rw [(s_1).1]; exact q8) q9 ?_
  refine hp_gen (fun H10 eH10 => ?_)
  replace hG := bnd_s eH10 hG
  have s_2 : Sa H H10 := by rw [eH10]; exact s_1
  refine ab_iconst (v := 4) d_Row_commandSpawn_10 (by decide) ?_
  refine ab_aload_n d_Row_commandSpawn_11 rfl rfl rfl ?_
  obtain ⟨v12, H13, z11, hF⟩ := bC_s hG; clear hG
  refine hp_callV_a (v := .int v12) (H1 := H13) (As := []) (rest := [.int 4]) d_Row_commandSpawn_12 (k_Row_nextCode z11) (ab_mkC s_Row_nextCode (Nat.le_of_ble_eq_true rfl) (Nat.le_of_ble_eq_true rfl) (Nat.le_refl 0) (Nat.le_refl 0)) (k6 205 rfl rfl) i_Row_nextCode v_Row_nextCode (by rw [(s_2).1]; exact q1) (by decide) rfl rfl (Nat.le_of_ble_eq_true rfl) ?_
  have s_3 : Sa H H13 := (s_2).tr (m_Row_nextCode z11)
  obtain ⟨v15, H16, z14, hG⟩ := bC_s hF; clear hF
  refine hp_callS_a (v := .int v15) (H1 := H16) (As := [.int 4, .int v12]) (rest := []) d_Row_commandSpawn_15 (k_Math_min z14) (ab_mkC s_Math_min (Nat.le_of_ble_eq_true rfl) (Nat.le_of_ble_eq_true rfl) (Nat.le_refl 0) (Nat.le_refl 0)) (k7 7 rfl rfl) t_Math_min rfl (Nat.le_of_ble_eq_true rfl) ?_
  have s_4 : Sa H H16 := (s_3).tr (m_Math_min z14)
  refine ab_istore_n (lv' := [some (.ref p0), some (.int v15), none]) d_Row_commandSpawn_18 rfl (by decide) rfl ?_
  refine ab_aload_n d_Row_commandSpawn_19 rfl rfl rfl ?_
  obtain ⟨a17, e18, hF⟩ := rf_s hG; clear hG
  refine hp_getR (f := 10) d_Row_commandSpawn_20 (by rw [(s_4).1]; exact q1) (by decide) rfl (by decide) (k2 72 rfl rfl) rfl e18 ?_
  refine ab_iconst (v := 2) d_Row_commandSpawn_23 (by decide) ?_
  refine ab_iload_n d_Row_commandSpawn_24 rfl rfl ?_
  obtain ⟨n19, q20, hG⟩ := ar_s hF; clear hF
  rw [(s_4).1] at q20
  obtain ⟨q21, hF⟩ := ck_s hG; clear hG
  refine hp_iast d_Row_commandSpawn_25 tI (by rw [(s_4).1]; exact q20) q21 ?_
  refine hp_gen (fun H22 eH22 => ?_)
  replace hF := bnd_s eH22 hF
  have s_5 : Sa H H22 := by rw [eH22]; exact s_4
  refine ab_iconst (v := 0) d_Row_commandSpawn_26 (by decide) ?_
  refine ab_istore_n (lv' := [some (.ref p0), some (.int v15), some (.int 0)]) d_Row_commandSpawn_27 rfl (by decide) rfl ?_
  exact kB_Row_commandSpawn_28 N v15 0 H22 r hF
def y_Row_commandEmit : ab_Y := (⟨"WorldEngine$Row", "commandEmit", "()V"⟩, prog_8_method_12_code, 2, none, [])
theorem d_Row_commandEmit_0 : decode y_Row_commandEmit.2.1 0 = .ok (.aload_n 0, 1) := by decide +kernel
theorem d_Row_commandEmit_1 : decode y_Row_commandEmit.2.1 1 = .ok (.getfield 27, 3) := by decide +kernel
theorem d_Row_commandEmit_4 : decode y_Row_commandEmit.2.1 4 = .ok (.iconst 1, 1) := by decide +kernel
theorem d_Row_commandEmit_5 : decode y_Row_commandEmit.2.1 5 = .ok (.aload_n 0, 1) := by decide +kernel
theorem d_Row_commandEmit_6 : decode y_Row_commandEmit.2.1 6 = .ok (.invokevirtual 88, 3) := by decide +kernel
theorem d_Row_commandEmit_9 : decode y_Row_commandEmit.2.1 9 = .ok (.iastore, 1) := by decide +kernel
theorem d_Row_commandEmit_10 : decode y_Row_commandEmit.2.1 10 = .ok (.aload_n 0, 1) := by decide +kernel
theorem d_Row_commandEmit_11 : decode y_Row_commandEmit.2.1 11 = .ok (.getfield 27, 3) := by decide +kernel
theorem d_Row_commandEmit_14 : decode y_Row_commandEmit.2.1 14 = .ok (.iconst 2, 1) := by decide +kernel
theorem d_Row_commandEmit_15 : decode y_Row_commandEmit.2.1 15 = .ok (.aload_n 0, 1) := by decide +kernel
theorem d_Row_commandEmit_16 : decode y_Row_commandEmit.2.1 16 = .ok (.invokevirtual 126, 3) := by decide +kernel
theorem d_Row_commandEmit_19 : decode y_Row_commandEmit.2.1 19 = .ok (.iastore, 1) := by decide +kernel
theorem d_Row_commandEmit_20 : decode y_Row_commandEmit.2.1 20 = .ok (.aload_n 0, 1) := by decide +kernel
theorem d_Row_commandEmit_21 : decode y_Row_commandEmit.2.1 21 = .ok (.getfield 27, 3) := by decide +kernel
theorem d_Row_commandEmit_24 : decode y_Row_commandEmit.2.1 24 = .ok (.iconst 3, 1) := by decide +kernel
theorem d_Row_commandEmit_25 : decode y_Row_commandEmit.2.1 25 = .ok (.aload_n 0, 1) := by decide +kernel
theorem d_Row_commandEmit_26 : decode y_Row_commandEmit.2.1 26 = .ok (.invokevirtual 126, 3) := by decide +kernel
theorem d_Row_commandEmit_29 : decode y_Row_commandEmit.2.1 29 = .ok (.iastore, 1) := by decide +kernel
theorem d_Row_commandEmit_30 : decode y_Row_commandEmit.2.1 30 = .ok (.aload_n 0, 1) := by decide +kernel
theorem d_Row_commandEmit_31 : decode y_Row_commandEmit.2.1 31 = .ok (.getfield 35, 3) := by decide +kernel
theorem d_Row_commandEmit_34 : decode y_Row_commandEmit.2.1 34 = .ok (.getfield 187, 3) := by decide +kernel
theorem d_Row_commandEmit_37 : decode y_Row_commandEmit.2.1 37 = .ok (.aload_n 0, 1) := by decide +kernel
theorem d_Row_commandEmit_38 : decode y_Row_commandEmit.2.1 38 = .ok (.getfield 27, 3) := by decide +kernel
theorem d_Row_commandEmit_41 : decode y_Row_commandEmit.2.1 41 = .ok (.iconst 1, 1) := by decide +kernel
theorem d_Row_commandEmit_42 : decode y_Row_commandEmit.2.1 42 = .ok (.iaload, 1) := by decide +kernel
theorem d_Row_commandEmit_43 : decode y_Row_commandEmit.2.1 43 = .ok (.invokevirtual 190, 3) := by decide +kernel
theorem d_Row_commandEmit_46 : decode y_Row_commandEmit.2.1 46 = .ok (.iconst 1, 1) := by decide +kernel
theorem d_Row_commandEmit_47 : decode y_Row_commandEmit.2.1 47 = .ok (.isub, 1) := by decide +kernel
theorem d_Row_commandEmit_48 : decode y_Row_commandEmit.2.1 48 = .ok (.istore_n 1, 1) := by decide +kernel
theorem d_Row_commandEmit_49 : decode y_Row_commandEmit.2.1 49 = .ok (.iload_n 1, 1) := by decide +kernel
theorem d_Row_commandEmit_50 : decode y_Row_commandEmit.2.1 50 = .ok (.ifCond .lt 21, 3) := by decide +kernel
theorem d_Row_commandEmit_53 : decode y_Row_commandEmit.2.1 53 = .ok (.aload_n 0, 1) := by decide +kernel
theorem d_Row_commandEmit_54 : decode y_Row_commandEmit.2.1 54 = .ok (.getfield 27, 3) := by decide +kernel
theorem d_Row_commandEmit_57 : decode y_Row_commandEmit.2.1 57 = .ok (.iconst 4, 1) := by decide +kernel
theorem d_Row_commandEmit_58 : decode y_Row_commandEmit.2.1 58 = .ok (.iload_n 1, 1) := by decide +kernel
theorem d_Row_commandEmit_59 : decode y_Row_commandEmit.2.1 59 = .ok (.iadd, 1) := by decide +kernel
theorem d_Row_commandEmit_60 : decode y_Row_commandEmit.2.1 60 = .ok (.aload_n 0, 1) := by decide +kernel
theorem d_Row_commandEmit_61 : decode y_Row_commandEmit.2.1 61 = .ok (.invokevirtual 126, 3) := by decide +kernel
theorem d_Row_commandEmit_64 : decode y_Row_commandEmit.2.1 64 = .ok (.iastore, 1) := by decide +kernel
theorem d_Row_commandEmit_65 : decode y_Row_commandEmit.2.1 65 = .ok (.iinc 1 (-1), 3) := by decide +kernel
theorem d_Row_commandEmit_68 : decode y_Row_commandEmit.2.1 68 = .ok (.goto (-19), 3) := by decide +kernel
theorem d_Row_commandEmit_71 : decode y_Row_commandEmit.2.1 71 = .ok (.aload_n 0, 1) := by decide +kernel
theorem d_Row_commandEmit_72 : decode y_Row_commandEmit.2.1 72 = .ok (.getfield 27, 3) := by decide +kernel
theorem d_Row_commandEmit_75 : decode y_Row_commandEmit.2.1 75 = .ok (.iconst 2, 1) := by decide +kernel
theorem d_Row_commandEmit_76 : decode y_Row_commandEmit.2.1 76 = .ok (.iaload, 1) := by decide +kernel
theorem d_Row_commandEmit_77 : decode y_Row_commandEmit.2.1 77 = .ok (.iconst 1, 1) := by decide +kernel
theorem d_Row_commandEmit_78 : decode y_Row_commandEmit.2.1 78 = .ok (.if_icmp .lt 14, 3) := by decide +kernel
theorem d_Row_commandEmit_81 : decode y_Row_commandEmit.2.1 81 = .ok (.aload_n 0, 1) := by decide +kernel
theorem d_Row_commandEmit_82 : decode y_Row_commandEmit.2.1 82 = .ok (.getfield 27, 3) := by decide +kernel
theorem d_Row_commandEmit_85 : decode y_Row_commandEmit.2.1 85 = .ok (.iconst 2, 1) := by decide +kernel
theorem d_Row_commandEmit_86 : decode y_Row_commandEmit.2.1 86 = .ok (.iaload, 1) := by decide +kernel
theorem d_Row_commandEmit_87 : decode y_Row_commandEmit.2.1 87 = .ok (.bipush 16, 2) := by decide +kernel
theorem d_Row_commandEmit_89 : decode y_Row_commandEmit.2.1 89 = .ok (.if_icmp .le 9, 3) := by decide +kernel
theorem d_Row_commandEmit_92 : decode y_Row_commandEmit.2.1 92 = .ok (.aload_n 0, 1) := by decide +kernel
theorem d_Row_commandEmit_93 : decode y_Row_commandEmit.2.1 93 = .ok (.bipush 8, 2) := by decide +kernel
theorem d_Row_commandEmit_95 : decode y_Row_commandEmit.2.1 95 = .ok (.putfield 71, 3) := by decide +kernel
theorem d_Row_commandEmit_98 : decode y_Row_commandEmit.2.1 98 = .ok (.return_, 1) := by decide +kernel
theorem s_Row_commandEmit : ab_Stat y_Row_commandEmit 0 := ⟨(k7 11 rfl rfl), (k1 13 rfl rfl), ⟨by decide, by decide⟩, by decide +kernel⟩
theorem i_Row_commandEmit : Cond.instanceMethod y_Row_commandEmit.1 ∈ ab_T := (k7 10 rfl rfl)
theorem v_Row_commandEmit : Cond.selects "WorldEngine$Row" y_Row_commandEmit.1 y_Row_commandEmit.1 ∈ ab_T := ab_s (List.mem_of_getElem? (i := 76) rfl) rfl
def B_Row_commandEmit_49 (N : Nat) (p0 : Nat) : Nat → Int32 → Hp → Option (Unit × Hp)
  | 0, _, _ => none
  | n + 1, l1, H =>
    if l1 < (0 : Int32) then
    ck (H.sh[p0]? = some (8, 0)) <|
    rf (H.P p0 10) fun a47 =>
    ar H 100 a47 fun n49 =>
    ck (inb (2 : Int32) n49) <|
    bnd ((H.D a47 ((2 : Int32)).toNatClampNeg)) fun x52 =>
    if x52 < (1 : Int32) then
    bnd (H.sD p0 16 (8 : Int32)) fun H54 =>
    some ((), H54)
    else
    rf (H.P p0 10) fun a55 =>
    ar H 100 a55 fun n57 =>
    ck (inb (2 : Int32) n57) <|
    bnd ((H.D a55 ((2 : Int32)).toNatClampNeg)) fun x60 =>
    if x60 ≤ (16 : Int32) then
    some ((), H)
    else
    bnd (H.sD p0 16 (8 : Int32)) fun H62 =>
    some ((), H62)
    else
    ck (H.sh[p0]? = some (8, 0)) <|
    rf (H.P p0 10) fun a64 =>
    bC (F_Row_pop N p0 H) fun v67 H68 =>
    ar H68 100 a64 fun n69 =>
    ck (inb ((4 : Int32) + l1) n69) <|
    bnd (H68.sD a64 (((4 : Int32) + l1)).toNatClampNeg v67) fun H72 =>
    B_Row_commandEmit_49 N p0 n (l1 + (-1)) H72
termination_by structural n => n
set_option maxRecDepth 20000 in
set_option maxHeartbeats 2000000 in
theorem mB_Row_commandEmit_49 {N : Nat} {p0 : Nat} : ∀ (n : Nat) (l1 : Int32) (H : Hp) (r : Unit × Hp), B_Row_commandEmit_49 N p0 n l1 H = some r → Sa H r.2 := by
  intro n
  induction n with
  | zero => intro l1 H r hF; rw [B_Row_commandEmit_49] at hF; cases hF
  | succ n ih =>
    intro l1 H r hF
    rw [B_Row_commandEmit_49] at hF
    have hm := Sa.rf H
    rcases ite_s hF with ⟨q_12, hG⟩ | ⟨q_12, hG⟩
    · clear hF
      obtain ⟨q74, hF⟩ := ck_s hG; clear hG
      obtain ⟨a75, e76, hG⟩ := rf_s hF; clear hF
      obtain ⟨n77, q78, hF⟩ := ar_s hG; clear hG
      obtain ⟨q79, hG⟩ := ck_s hF; clear hF
      obtain ⟨x80, -, hF⟩ := bnd_g hG; clear hG
      rcases ite_s hF with ⟨q_13, hG⟩ | ⟨q_13, hG⟩
      · clear hF
        obtain ⟨H82, eH82, hF⟩ := bnd_g hG; clear hG
        replace hm : Sa H H82 := by rw [eH82]; exact hm
        have hr := Option.some.inj hF; subst hr
        exact hm
      · clear hF
        obtain ⟨a83, e84, hF⟩ := rf_s hG; clear hG
        obtain ⟨n85, q86, hG⟩ := ar_s hF; clear hF
        obtain ⟨q87, hF⟩ := ck_s hG; clear hG
        obtain ⟨x88, -, hG⟩ := bnd_g hF; clear hF
        rcases ite_s hG with ⟨q_15, hF⟩ | ⟨q_15, hF⟩
        · clear hG
          have hr := Option.some.inj hF; subst hr
          exact hm
        · clear hG
          obtain ⟨H90, eH90, hG⟩ := bnd_g hF; clear hF
          replace hm : Sa H H90 := by rw [eH90]; exact hm
          have hr := Option.some.inj hG; subst hr
          exact hm
    · clear hF
      obtain ⟨q91, hF⟩ := ck_s hG; clear hG
      obtain ⟨a92, e93, hG⟩ := rf_s hF; clear hF
      obtain ⟨v95, H96, z94, hF⟩ := bC_s hG; clear hG
      replace hm : Sa H H96 := hm.tr (m_Row_pop z94)
      obtain ⟨n97, q98, hG⟩ := ar_s hF; clear hF
      obtain ⟨q99, hF⟩ := ck_s hG; clear hG
      obtain ⟨H100, eH100, hG⟩ := bnd_g hF; clear hF
      replace hm : Sa H H100 := by rw [eH100]; exact hm
      exact hm.tr (ih (l1 + (-1)) H100 r hG)
set_option maxRecDepth 20000 in
set_option maxHeartbeats 2000000 in
theorem kB_Row_commandEmit_49 {N : Nat} {p0 : Nat} : ∀ (n : Nat) (l1 : Int32) (H : Hp) (r : Unit × Hp), B_Row_commandEmit_49 N p0 n l1 H = some r → ab_V y_Row_commandEmit { frames := 1, cells := 0, slots := 0, locals := 21 } (po (.returned none) r.2) 0 0 0 0 49 [some (.ref p0), some (.int l1)] [] (hpw H) := by
  intro n
  induction n with
  | zero => intro l1 H r hF; rw [B_Row_commandEmit_49] at hF; cases hF
  | succ n ih =>
    intro l1 H r hF
    rw [B_Row_commandEmit_49] at hF
    refine ab_iload_n d_Row_commandEmit_49 rfl rfl ?_
    refine ab_if_lt (tgt := 71) d_Row_commandEmit_50 (by decide) (fun q45 => ?_) (fun q45 => ?_)
    · rw [if_pos q45] at hF
      refine ab_aload_n d_Row_commandEmit_71 rfl rfl rfl ?_
      obtain ⟨q46, hG⟩ := ck_s hF; clear hF
      obtain ⟨a47, e48, hF⟩ := rf_s hG; clear hG
      refine hp_getR (f := 10) d_Row_commandEmit_72 q46 (by decide) rfl (by decide) (k2 72 rfl rfl) rfl e48 ?_
      refine ab_iconst (v := 2) d_Row_commandEmit_75 (by decide) ?_
      obtain ⟨n49, q50, hG⟩ := ar_s hF; clear hF
      obtain ⟨q51, hF⟩ := ck_s hG; clear hG
      refine hp_iald d_Row_commandEmit_76 tI q50 q51 ?_
      refine ab_topi (fun x52 ex52 => ?_)
      replace hF := bnd_s ex52 hF
      refine ab_iconst (v := 1) d_Row_commandEmit_77 (by decide) ?_
      refine ab_icmp_lt (tgt := 92) d_Row_commandEmit_78 (by decide) (fun q53 => ?_) (fun q53 => ?_)
      · rw [if_pos q53] at hF
        refine ab_aload_n d_Row_commandEmit_92 rfl rfl rfl ?_
        refine ab_bipush (v := 8) d_Row_commandEmit_93 (by decide) ?_
        refine hp_putI (v := 8) (f := 16) d_Row_commandEmit_95 q46 (by decide) rfl (by decide) (k2 78 rfl rfl) rfl rfl (fun _ => rfl) (fun _ => rfl) rfl ?_
        refine hp_gen (fun H54 eH54 => ?_)
        replace hF := bnd_s eH54 hF
        have s_8 : Sa H H54 := by rw [eH54]; exact Sa.rf _
        exact ab_vret d_Row_commandEmit_98 rfl (Nat.le_refl _) (Nat.le_refl _) (by have hr := Option.some.inj hF; subst hr; exact ⟨rfl, rfl⟩)
      · rw [if_neg q53] at hF
        refine ab_aload_n d_Row_commandEmit_81 rfl rfl rfl ?_
        obtain ⟨a55, e56, hG⟩ := rf_s hF; clear hF
        refine hp_getR (f := 10) d_Row_commandEmit_82 q46 (by decide) rfl (by decide) (k2 72 rfl rfl) rfl e56 ?_
        refine ab_iconst (v := 2) d_Row_commandEmit_85 (by decide) ?_
        obtain ⟨n57, q58, hF⟩ := ar_s hG; clear hG
        obtain ⟨q59, hG⟩ := ck_s hF; clear hF
        refine hp_iald d_Row_commandEmit_86 tI q58 q59 ?_
        refine ab_topi (fun x60 ex60 => ?_)
        replace hG := bnd_s ex60 hG
        refine ab_bipush (v := 16) d_Row_commandEmit_87 (by decide) ?_
        refine ab_icmp_le (tgt := 98) d_Row_commandEmit_89 (by decide) (fun q61 => ?_) (fun q61 => ?_)
        · rw [if_pos q61] at hG
          exact ab_vret d_Row_commandEmit_98 rfl (Nat.le_refl _) (Nat.le_refl _) (by have hr := Option.some.inj hG; subst hr; exact ⟨rfl, rfl⟩)
        · rw [if_neg q61] at hG
          refine ab_aload_n d_Row_commandEmit_92 rfl rfl rfl ?_
          refine ab_bipush (v := 8) d_Row_commandEmit_93 (by decide) ?_
          refine hp_putI (v := 8) (f := 16) d_Row_commandEmit_95 q46 (by decide) rfl (by decide) (k2 78 rfl rfl) rfl rfl (fun _ => rfl) (fun _ => rfl) rfl ?_
          refine hp_gen (fun H62 eH62 => ?_)
          replace hG := bnd_s eH62 hG
          have s_9 : Sa H H62 := by rw [eH62]; exact Sa.rf _
          exact ab_vret d_Row_commandEmit_98 rfl (Nat.le_refl _) (Nat.le_refl _) (by have hr := Option.some.inj hG; subst hr; exact ⟨rfl, rfl⟩)
    · rw [if_neg q45] at hF
      refine ab_aload_n d_Row_commandEmit_53 rfl rfl rfl ?_
      obtain ⟨q63, hG⟩ := ck_s hF; clear hF
      obtain ⟨a64, e65, hF⟩ := rf_s hG; clear hG
      refine hp_getR (f := 10) d_Row_commandEmit_54 q63 (by decide) rfl (by decide) (k2 72 rfl rfl) rfl e65 ?_
      refine ab_iconst (v := 4) d_Row_commandEmit_57 (by decide) ?_
      refine ab_iload_n d_Row_commandEmit_58 rfl rfl ?_
      refine ab_iadd d_Row_commandEmit_59 ?_
      refine ab_aload_n d_Row_commandEmit_60 rfl rfl rfl ?_
      obtain ⟨v67, H68, z66, hG⟩ := bC_s hF; clear hF
      refine hp_callV_a (v := .int v67) (H1 := H68) (As := []) (rest := [.int ((4 : Int32) + l1), .ref a64]) d_Row_commandEmit_61 (k_Row_pop z66) (ab_mkC s_Row_pop (Nat.le_of_ble_eq_true rfl) (Nat.le_of_ble_eq_true rfl) (Nat.le_refl 0) (Nat.le_refl 0)) (k6 214 rfl rfl) i_Row_pop v_Row_pop q63 (by decide) rfl rfl (Nat.le_of_ble_eq_true rfl) ?_
      have s_10 : Sa H H68 := (m_Row_pop z66)
      obtain ⟨n69, q70, hF⟩ := ar_s hG; clear hG
      rw [(s_10).1] at q70
      obtain ⟨q71, hG⟩ := ck_s hF; clear hF
      refine hp_iast d_Row_commandEmit_64 tI (by rw [(s_10).1]; exact q70) q71 ?_
      refine hp_gen (fun H72 eH72 => ?_)
      replace hG := bnd_s eH72 hG
      have s_11 : Sa H H72 := by rw [eH72]; exact s_10
      refine ab_iinc (v := l1 + (-1)) (lv' := [some (.ref p0), some (.int (l1 + (-1)))]) d_Row_commandEmit_65 rfl rfl (by decide) rfl ?_
      refine ab_goto (tgt := 49) d_Row_commandEmit_68 (by decide) ?_
      exact ih (l1 + (-1)) H72 r hG
def F_Row_commandEmit (N : Nat) (p0 : Nat) (H : Hp) : Option (Unit × Hp) :=
    ck (H.sh[p0]? = some (8, 0)) <|
    rf (H.P p0 10) fun a2 =>
    bC (F_Row_nextCode N p0 H) fun v5 H6 =>
    ar H6 100 a2 fun n7 =>
    ck (inb (1 : Int32) n7) <|
    bnd (H6.sD a2 ((1 : Int32)).toNatClampNeg v5) fun H10 =>
    rf (H10.P p0 10) fun a11 =>
    bC (F_Row_pop N p0 H10) fun v14 H15 =>
    ar H15 100 a11 fun n16 =>
    ck (inb (2 : Int32) n16) <|
    bnd (H15.sD a11 ((2 : Int32)).toNatClampNeg v14) fun H19 =>
    rf (H19.P p0 10) fun a20 =>
    bC (F_Row_pop N p0 H19) fun v23 H24 =>
    ar H24 100 a20 fun n25 =>
    ck (inb (3 : Int32) n25) <|
    bnd (H24.sD a20 ((3 : Int32)).toNatClampNeg v23) fun H28 =>
    rf (H28.P p0 2) fun a29 =>
    ck (H28.sh[a29]? = some (4, 0)) <|
    rf (H28.P a29 3) fun a32 =>
    rf (H28.P p0 10) fun a34 =>
    ar H28 100 a34 fun n36 =>
    ck (inb (1 : Int32) n36) <|
    bnd ((H28.D a34 ((1 : Int32)).toNatClampNeg)) fun x39 =>
    ck (H28.sh[a32]? = some (3, 0)) <|
    bC (F_Shapes_sizeOf N a32 x39 H28) fun v42 H43 =>
    bnd ((v42 - (1 : Int32))) fun x44 =>
    B_Row_commandEmit_49 N p0 N x44 H43
set_option maxRecDepth 20000 in
set_option maxHeartbeats 2000000 in
theorem m_Row_commandEmit {N : Nat} {p0 : Nat} {H : Hp} {r : Unit × Hp} (hF : F_Row_commandEmit N p0 H = some r) : Sa H r.2 := by
  unfold F_Row_commandEmit at hF
  have hm := Sa.rf H
  obtain ⟨q101, hG⟩ := ck_s hF; clear hF
  obtain ⟨a102, e103, hF⟩ := rf_s hG; clear hG
  obtain ⟨v105, H106, z104, hG⟩ := bC_s hF; clear hF
  replace hm : Sa H H106 := hm.tr (m_Row_nextCode z104)
  obtain ⟨n107, q108, hF⟩ := ar_s hG; clear hG
  obtain ⟨q109, hG⟩ := ck_s hF; clear hF
  obtain ⟨H110, eH110, hF⟩ := bnd_g hG; clear hG
  replace hm : Sa H H110 := by rw [eH110]; exact hm
  obtain ⟨a111, e112, hG⟩ := rf_s hF; clear hF
  obtain ⟨v114, H115, z113, hF⟩ := bC_s hG; clear hG
  replace hm : Sa H H115 := hm.tr (m_Row_pop z113)
  obtain ⟨n116, q117, hG⟩ := ar_s hF; clear hF
  obtain ⟨q118, hF⟩ := ck_s hG; clear hG
  obtain ⟨H119, eH119, hG⟩ := bnd_g hF; clear hF
  replace hm : Sa H H119 := by rw [eH119]; exact hm
  obtain ⟨a120, e121, hF⟩ := rf_s hG; clear hG
  obtain ⟨v123, H124, z122, hG⟩ := bC_s hF; clear hF
  replace hm : Sa H H124 := hm.tr (m_Row_pop z122)
  obtain ⟨n125, q126, hF⟩ := ar_s hG; clear hG
  obtain ⟨q127, hG⟩ := ck_s hF; clear hF
  obtain ⟨H128, eH128, hF⟩ := bnd_g hG; clear hG
  replace hm : Sa H H128 := by rw [eH128]; exact hm
  obtain ⟨a129, e130, hG⟩ := rf_s hF; clear hF
  obtain ⟨q131, hF⟩ := ck_s hG; clear hG
  obtain ⟨a132, e133, hG⟩ := rf_s hF; clear hF
  obtain ⟨a134, e135, hF⟩ := rf_s hG; clear hG
  obtain ⟨n136, q137, hG⟩ := ar_s hF; clear hF
  obtain ⟨q138, hF⟩ := ck_s hG; clear hG
  obtain ⟨x139, -, hG⟩ := bnd_g hF; clear hF
  obtain ⟨q140, hF⟩ := ck_s hG; clear hG
  obtain ⟨v142, H143, z141, hG⟩ := bC_s hF; clear hF
  replace hm : Sa H H143 := hm.tr (m_Shapes_sizeOf z141)
  obtain ⟨x144, -, hF⟩ := bnd_g hG; clear hG
  exact hm.tr (mB_Row_commandEmit_49 N x144 H143 r hF)
set_option maxRecDepth 20000 in
set_option maxHeartbeats 2000000 in
theorem k_Row_commandEmit {N : Nat} {p0 : Nat} {H : Hp} {r : Unit × Hp} (hF : F_Row_commandEmit N p0 H = some r) : ab_M y_Row_commandEmit { frames := 1, cells := 0, slots := 0, locals := 21 } [.ref p0] (hpw H) (po (.returned none) r.2) := by
  unfold F_Row_commandEmit at hF
  refine ab_of2 (lv := [some (.ref p0), none]) 1 rfl rfl (Nat.le_of_ble_eq_true rfl) ?_
  refine ab_aload_n d_Row_commandEmit_0 rfl rfl rfl ?_
  obtain ⟨q1, hG⟩ := ck_s hF; clear hF
  obtain ⟨a2, e3, hF⟩ := rf_s hG; clear hG
  refine hp_getR (f := 10) d_Row_commandEmit_1 q1 (by decide) rfl (by decide) (k2 72 rfl rfl) rfl e3 ?_
  refine ab_iconst (v := 1) d_Row_commandEmit_4 (by decide) ?_
  refine ab_aload_n d_Row_commandEmit_5 rfl rfl rfl ?_
  obtain ⟨v5, H6, z4, hG⟩ := bC_s hF; clear hF
  refine hp_callV_a (v := .int v5) (H1 := H6) (As := []) (rest := [.int 1, .ref a2]) d_Row_commandEmit_6 (k_Row_nextCode z4) (ab_mkC s_Row_nextCode (Nat.le_of_ble_eq_true rfl) (Nat.le_of_ble_eq_true rfl) (Nat.le_refl 0) (Nat.le_refl 0)) (k6 205 rfl rfl) i_Row_nextCode v_Row_nextCode q1 (by decide) rfl rfl (Nat.le_of_ble_eq_true rfl) ?_
  have s_1 : Sa H H6 := (m_Row_nextCode z4)
  obtain ⟨n7, q8, hF⟩ := ar_s hG; clear hG
  rw [(s_1).1] at q8
  obtain ⟨q9, hG⟩ := ck_s hF; clear hF
  refine hp_iast d_Row_commandEmit_9 tI (by rw [(s_1).1]; exact q8) q9 ?_
  refine hp_gen (fun H10 eH10 => ?_)
  replace hG := bnd_s eH10 hG
  have s_2 : Sa H H10 := by rw [eH10]; exact s_1
  refine ab_aload_n d_Row_commandEmit_10 rfl rfl rfl ?_
  obtain ⟨a11, e12, hF⟩ := rf_s hG; clear hG
  refine hp_getR (f := 10) d_Row_commandEmit_11 (by rw [(s_2).1]; exact q1) (by decide) rfl (by decide) (k2 72 rfl rfl) rfl e12 ?_
  refine ab_iconst (v := 2) d_Row_commandEmit_14 (by decide) ?_
  refine ab_aload_n d_Row_commandEmit_15 rfl rfl rfl ?_
  obtain ⟨v14, H15, z13, hG⟩ := bC_s hF; clear hF
  refine hp_callV_a (v := .int v14) (H1 := H15) (As := []) (rest := [.int 2, .ref a11]) d_Row_commandEmit_16 (k_Row_pop z13) (ab_mkC s_Row_pop (Nat.le_of_ble_eq_true rfl) (Nat.le_of_ble_eq_true rfl) (Nat.le_refl 0) (Nat.le_refl 0)) (k6 214 rfl rfl) i_Row_pop v_Row_pop (by rw [(s_2).1]; exact q1) (by decide) rfl rfl (Nat.le_of_ble_eq_true rfl) ?_
  have s_3 : Sa H H15 := (s_2).tr (m_Row_pop z13)
  obtain ⟨n16, q17, hF⟩ := ar_s hG; clear hG
  rw [(s_3).1] at q17
  obtain ⟨q18, hG⟩ := ck_s hF; clear hF
  refine hp_iast d_Row_commandEmit_19 tI (by rw [(s_3).1]; exact q17) q18 ?_
  refine hp_gen (fun H19 eH19 => ?_)
  replace hG := bnd_s eH19 hG
  have s_4 : Sa H H19 := by rw [eH19]; exact s_3
  refine ab_aload_n d_Row_commandEmit_20 rfl rfl rfl ?_
  obtain ⟨a20, e21, hF⟩ := rf_s hG; clear hG
  refine hp_getR (f := 10) d_Row_commandEmit_21 (by rw [(s_4).1]; exact q1) (by decide) rfl (by decide) (k2 72 rfl rfl) rfl e21 ?_
  refine ab_iconst (v := 3) d_Row_commandEmit_24 (by decide) ?_
  refine ab_aload_n d_Row_commandEmit_25 rfl rfl rfl ?_
  obtain ⟨v23, H24, z22, hG⟩ := bC_s hF; clear hF
  refine hp_callV_a (v := .int v23) (H1 := H24) (As := []) (rest := [.int 3, .ref a20]) d_Row_commandEmit_26 (k_Row_pop z22) (ab_mkC s_Row_pop (Nat.le_of_ble_eq_true rfl) (Nat.le_of_ble_eq_true rfl) (Nat.le_refl 0) (Nat.le_refl 0)) (k6 214 rfl rfl) i_Row_pop v_Row_pop (by rw [(s_4).1]; exact q1) (by decide) rfl rfl (Nat.le_of_ble_eq_true rfl) ?_
  have s_5 : Sa H H24 := (s_4).tr (m_Row_pop z22)
  obtain ⟨n25, q26, hF⟩ := ar_s hG; clear hG
  rw [(s_5).1] at q26
  obtain ⟨q27, hG⟩ := ck_s hF; clear hF
  refine hp_iast d_Row_commandEmit_29 tI (by rw [(s_5).1]; exact q26) q27 ?_
  refine hp_gen (fun H28 eH28 => ?_)
  replace hG := bnd_s eH28 hG
  have s_6 : Sa H H28 := by rw [eH28]; exact s_5
  refine ab_aload_n d_Row_commandEmit_30 rfl rfl rfl ?_
  obtain ⟨a29, e30, hF⟩ := rf_s hG; clear hG
  refine hp_getR (f := 2) d_Row_commandEmit_31 (by rw [(s_6).1]; exact q1) (by decide) rfl (by decide) (k2 64 rfl rfl) rfl e30 ?_
  obtain ⟨q31, hG⟩ := ck_s hF; clear hF
  rw [(s_6).1] at q31
  obtain ⟨a32, e33, hF⟩ := rf_s hG; clear hG
  refine hp_getR (f := 3) d_Row_commandEmit_34 (by rw [(s_6).1]; exact q31) (by decide) rfl (by decide) (k3 65 rfl rfl) rfl e33 ?_
  refine ab_aload_n d_Row_commandEmit_37 rfl rfl rfl ?_
  obtain ⟨a34, e35, hG⟩ := rf_s hF; clear hF
  refine hp_getR (f := 10) d_Row_commandEmit_38 (by rw [(s_6).1]; exact q1) (by decide) rfl (by decide) (k2 72 rfl rfl) rfl e35 ?_
  refine ab_iconst (v := 1) d_Row_commandEmit_41 (by decide) ?_
  obtain ⟨n36, q37, hF⟩ := ar_s hG; clear hG
  rw [(s_6).1] at q37
  obtain ⟨q38, hG⟩ := ck_s hF; clear hF
  refine hp_iald d_Row_commandEmit_42 tI (by rw [(s_6).1]; exact q37) q38 ?_
  refine ab_topi (fun x39 ex39 => ?_)
  replace hG := bnd_s ex39 hG
  obtain ⟨q40, hF⟩ := ck_s hG; clear hG
  rw [(s_6).1] at q40
  obtain ⟨v42, H43, z41, hG⟩ := bC_s hF; clear hF
  refine hp_callV_a (v := .int v42) (H1 := H43) (As := [.int x39]) (rest := []) d_Row_commandEmit_43 (k_Shapes_sizeOf z41) (ab_mkC s_Shapes_sizeOf (Nat.le_of_ble_eq_true rfl) (Nat.le_of_ble_eq_true rfl) (Nat.le_refl 0) (Nat.le_refl 0)) (k7 12 rfl rfl) i_Shapes_sizeOf v_Shapes_sizeOf (by rw [(s_6).1]; exact q40) (by decide) rfl rfl (Nat.le_of_ble_eq_true rfl) ?_
  have s_7 : Sa H H43 := (s_6).tr (m_Shapes_sizeOf z41)
  refine ab_iconst (v := 1) d_Row_commandEmit_46 (by decide) ?_
  refine ab_isub d_Row_commandEmit_47 ?_
  refine ab_topi (fun x44 ex44 => ?_)
  replace hG := bnd_s ex44 hG
  refine ab_istore_n (lv' := [some (.ref p0), some (.int x44)]) d_Row_commandEmit_48 rfl (by decide) rfl ?_
  exact kB_Row_commandEmit_49 N x44 H43 r hG
def y_Arr_copyOf : ab_Y := (⟨"java/util/Arrays", "copyOf", "([II)[I"⟩, prog_30_method_123_code, 3, (some (FieldType.array FieldType.int)), [])
theorem d_Arr_copyOf_0 : decode y_Arr_copyOf.2.1 0 = .ok (.iload_n 1, 1) := by decide +kernel
theorem d_Arr_copyOf_1 : decode y_Arr_copyOf.2.1 1 = .ok (.aload_n 0, 1) := by decide +kernel
theorem d_Arr_copyOf_2 : decode y_Arr_copyOf.2.1 2 = .ok (.arraylength, 1) := by decide +kernel
theorem d_Arr_copyOf_3 : decode y_Arr_copyOf.2.1 3 = .ok (.if_icmp .ne 11, 3) := by decide +kernel
theorem d_Arr_copyOf_6 : decode y_Arr_copyOf.2.1 6 = .ok (.aload_n 0, 1) := by decide +kernel
theorem d_Arr_copyOf_7 : decode y_Arr_copyOf.2.1 7 = .ok (.invokevirtual 316, 3) := by decide +kernel
theorem d_Arr_copyOf_10 : decode y_Arr_copyOf.2.1 10 = .ok (.checkcast 317, 3) := by decide +kernel
theorem d_Arr_copyOf_13 : decode y_Arr_copyOf.2.1 13 = .ok (.areturn, 1) := by decide +kernel
theorem d_Arr_copyOf_14 : decode y_Arr_copyOf.2.1 14 = .ok (.iload_n 1, 1) := by decide +kernel
theorem d_Arr_copyOf_15 : decode y_Arr_copyOf.2.1 15 = .ok (.newarray .int, 2) := by decide +kernel
theorem d_Arr_copyOf_17 : decode y_Arr_copyOf.2.1 17 = .ok (.astore_n 2, 1) := by decide +kernel
theorem d_Arr_copyOf_18 : decode y_Arr_copyOf.2.1 18 = .ok (.aload_n 0, 1) := by decide +kernel
theorem d_Arr_copyOf_19 : decode y_Arr_copyOf.2.1 19 = .ok (.iconst 0, 1) := by decide +kernel
theorem d_Arr_copyOf_20 : decode y_Arr_copyOf.2.1 20 = .ok (.aload_n 2, 1) := by decide +kernel
theorem d_Arr_copyOf_21 : decode y_Arr_copyOf.2.1 21 = .ok (.iconst 0, 1) := by decide +kernel
theorem d_Arr_copyOf_22 : decode y_Arr_copyOf.2.1 22 = .ok (.aload_n 0, 1) := by decide +kernel
theorem d_Arr_copyOf_23 : decode y_Arr_copyOf.2.1 23 = .ok (.arraylength, 1) := by decide +kernel
theorem d_Arr_copyOf_24 : decode y_Arr_copyOf.2.1 24 = .ok (.iload_n 1, 1) := by decide +kernel
theorem d_Arr_copyOf_25 : decode y_Arr_copyOf.2.1 25 = .ok (.invokestatic 304, 3) := by decide +kernel
theorem d_Arr_copyOf_28 : decode y_Arr_copyOf.2.1 28 = .ok (.invokestatic 150, 3) := by decide +kernel
theorem d_Arr_copyOf_31 : decode y_Arr_copyOf.2.1 31 = .ok (.aload_n 2, 1) := by decide +kernel
theorem d_Arr_copyOf_32 : decode y_Arr_copyOf.2.1 32 = .ok (.areturn, 1) := by decide +kernel
theorem s_Arr_copyOf : ab_Stat y_Arr_copyOf 2 := ⟨(k7 19 rfl rfl), (k1 11 rfl rfl), ⟨by decide, by decide⟩, by decide +kernel⟩
theorem t_Arr_copyOf : Cond.static y_Arr_copyOf.1 ∈ ab_T := (k7 18 rfl rfl)
def F_Arr_copyOf (N : Nat) (p0 : Nat) (p1 : Int32) (H : Hp) : Option ((Option Nat) × Hp) :=
    ar H 100 p0 fun n1 =>
    if p1 = (Int32.ofNat n1) then
    none
    else
    ck (¬ p1 < 0) <|
    ck ((p1).toNatClampNeg * 4 ≤ 536870912) <|
    bnd (H.nw (100, (p1).toNatClampNeg) (p1).toNatClampNeg) fun H6 =>
    bnd H.sh.length fun a7 =>
    bC (F_Math_min N (Int32.ofNat n1) p1 H6) fun v9 H10 =>
    ar H10 100 a7 fun n11 =>
    ck (¬ (0 : Int32) < 0) <|
    ck (¬ (0 : Int32) < 0) <|
    ck (¬ v9 < 0) <|
    ck (((0 : Int32)).toNatClampNeg + (v9).toNatClampNeg ≤ n1) <|
    ck (((0 : Int32)).toNatClampNeg + (v9).toNatClampNeg ≤ n11) <|
    bnd (H10.cpy p0 a7 ((0 : Int32)).toNatClampNeg ((0 : Int32)).toNatClampNeg (v9).toNatClampNeg) fun H18 =>
    some (some a7, H18)
set_option maxRecDepth 20000 in
set_option maxHeartbeats 2000000 in
theorem m_Arr_copyOf {N : Nat} {p0 : Nat} {p1 : Int32} {H : Hp} {r : (Option Nat) × Hp} (hF : F_Arr_copyOf N p0 p1 H = some r) : Mo H r.2 := by
  unfold F_Arr_copyOf at hF
  have hm := Mo.rf H
  obtain ⟨n19, q20, hG⟩ := ar_s hF; clear hF
  rcases ite_s hG with ⟨q_9, hF⟩ | ⟨q_9, hF⟩
  · clear hG
    cases hF
  · clear hG
    obtain ⟨q22, hG⟩ := ck_s hF; clear hF
    obtain ⟨q23, hF⟩ := ck_s hG; clear hG
    obtain ⟨H24, eH24, hG⟩ := bnd_g hF; clear hF
    replace hm : Mo H H24 := hm.tr (by rw [eH24]; exact Mo.nw _ _ _)
    obtain ⟨a25, -, hF⟩ := bnd_g hG; clear hG
    obtain ⟨v27, H28, z26, hG⟩ := bC_s hF; clear hF
    replace hm : Mo H H28 := hm.tr ((m_Math_min z26)).mo
    obtain ⟨n29, q30, hF⟩ := ar_s hG; clear hG
    obtain ⟨q31, hG⟩ := ck_s hF; clear hF
    obtain ⟨q32, hF⟩ := ck_s hG; clear hG
    obtain ⟨q33, hG⟩ := ck_s hF; clear hF
    obtain ⟨q34, hF⟩ := ck_s hG; clear hG
    obtain ⟨q35, hG⟩ := ck_s hF; clear hF
    obtain ⟨H36, eH36, hF⟩ := bnd_g hG; clear hG
    replace hm : Mo H H36 := by rw [eH36]; exact hm
    have hr := Option.some.inj hF; subst hr
    exact hm
set_option maxRecDepth 20000 in
set_option maxHeartbeats 2000000 in
theorem k_Arr_copyOf {N : Nat} {p0 : Nat} {p1 : Int32} {H : Hp} {r : (Option Nat) × Hp} {C Sl : Nat} (hF : F_Arr_copyOf N p0 p1 H = some r) (hC : r.2.sh.length ≤ H.sh.length + C) (hS : r.2.sl ≤ H.sl + Sl) : ab_M y_Arr_copyOf { frames := 1, cells := C, slots := Sl, locals := 60 } [.ref p0, .int p1] (hpw H) (po (.returned (some (ab_rf r.1))) r.2) := by
  unfold F_Arr_copyOf at hF
  obtain ⟨c0, e0⟩ : ∃ q, q = H.sh.length := ⟨_, rfl⟩
  obtain ⟨s0, e1⟩ : ∃ q, q = H.sl := ⟨_, rfl⟩
  rw [← e0] at hC
  rw [← e1] at hS
  have hc0 : c0 ≤ H.sh.length := Nat.le_of_eq e0
  have hs0 : s0 ≤ H.sl := Nat.le_of_eq e1
  have hcc : H.sh.length ≤ c0 + C := by omega
  have hss : H.sl ≤ s0 + Sl := by omega
  refine ab_of2 (lv := [some (.ref p0), some (.int p1), none]) 1 rfl (by decide +kernel) (Nat.le_of_ble_eq_true rfl) ?_
  refine ab_widen (cells' := H.sh.length - c0) (slots' := H.sl - s0) (Nat.zero_le _) (Nat.zero_le _) ?_
  refine ab_iload_n d_Arr_copyOf_0 rfl rfl ?_
  refine ab_aload_n d_Arr_copyOf_1 rfl rfl rfl ?_
  obtain ⟨n1, q2, hG⟩ := ar_s hF; clear hF
  refine hp_alen (q := 100) d_Arr_copyOf_2 q2 (Or.inl ⟨by decide, by decide, rfl⟩) tI ?_
  refine ab_icmp_ne (tgt := 14) d_Arr_copyOf_3 (by decide) (fun q3 => ?_) (fun q3 => ?_)
  · rw [if_neg q3] at hG
    refine ab_iload_n d_Arr_copyOf_14 rfl rfl ?_
    obtain ⟨q4, hF⟩ := ck_s hG; clear hG
    obtain ⟨q5, hG⟩ := ck_s hF; clear hF
    obtain ⟨H6, eH6, hF⟩ := bnd_g hG; clear hG
    obtain ⟨a7, ea7, hG⟩ := bnd_g hF; clear hF
    have m_1 : Mo H H6 := by rw [eH6]; exact Mo.nw _ _ _
    have b_2l := (m_1).len
    have b_2s := (m_1).2
    have b_2c : c0 ≤ H6.sh.length := by omega
    have b_2d : s0 ≤ H6.sl := by omega
    have b_2x : H6.sh.length = H.sh.length + 1 := by rw [eH6]; simp [Hp.nw, mkH_sh]
    have b_2y : H6.sl = H.sl + (p1).toNatClampNeg := by rw [eH6]; rfl
    have q_3 := (m_1).get q2
    obtain ⟨v9, H10, z8, hF⟩ := bC_s hG; clear hG
    have jH10 : Mo H6 H10 := ((m_Math_min z8)).mo
    obtain ⟨n11, q12, hG⟩ := ar_s hF; clear hF
    obtain ⟨q13, hF⟩ := ck_s hG; clear hG
    obtain ⟨q14, hG⟩ := ck_s hF; clear hF
    obtain ⟨q15, hF⟩ := ck_s hG; clear hG
    obtain ⟨q16, hG⟩ := ck_s hF; clear hF
    obtain ⟨q17, hF⟩ := ck_s hG; clear hG
    obtain ⟨H18, eH18, hG⟩ := bnd_g hF; clear hF
    have jH18 : Mo H10 H18 := by rw [eH18]; exact Mo.rf _
    have fH18 : Mo H18 r.2 := by
      have hm := Mo.rf H18
      have hr := Option.some.inj hG; subst hr
      exact hm
    have fH10 : Mo H10 r.2 := jH18.tr fH18
    have fH6 : Mo H6 r.2 := jH10.tr fH10
    have b_2m := (fH6).len
    have b_2n := (fH6).2
    have b_2p : H6.sh.length ≤ c0 + C := by omega
    have b_2q : H6.sl ≤ s0 + Sl := by omega
    refine hp_newa (q := 100) d_Arr_copyOf_15 rfl (k1 143 rfl rfl) tI (Or.inl rfl) ⟨by decide, by decide, rfl⟩ rfl q4 q5 (by show _ ≤ C; omega) (by show _ + (p1).toNatClampNeg ≤ Sl; omega) ?_
    refine ab_widen (cells' := H6.sh.length - c0) (slots' := H6.sl - s0) (by omega) (by show _ + (p1).toNatClampNeg ≤ _; omega) ?_
    rw [← eH6, ← ea7]
    clear b_2l b_2s b_2x b_2y b_2m b_2n
    refine ab_astore_n (lv' := [some (.ref p0), some (.int p1), some (.ref a7)]) d_Arr_copyOf_17 rfl (by decide) rfl rfl ?_
    refine ab_aload_n d_Arr_copyOf_18 rfl rfl rfl ?_
    refine ab_iconst (v := 0) d_Arr_copyOf_19 (by decide) ?_
    refine ab_aload_n d_Arr_copyOf_20 rfl rfl rfl ?_
    refine ab_iconst (v := 0) d_Arr_copyOf_21 (by decide) ?_
    refine ab_aload_n d_Arr_copyOf_22 rfl rfl rfl ?_
    refine hp_alen (q := 100) d_Arr_copyOf_23 q_3 (Or.inl ⟨by decide, by decide, rfl⟩) tI ?_
    refine ab_iload_n d_Arr_copyOf_24 rfl rfl ?_
    refine hp_callS_a (v := .int v9) (H1 := H10) (As := [.int (Int32.ofNat n1), .int p1]) (rest := [.int 0, .ref a7, .int 0, .ref p0]) d_Arr_copyOf_25 (k_Math_min z8) (ab_mkC s_Math_min (Nat.le_of_ble_eq_true rfl) (Nat.le_of_ble_eq_true rfl) (show (H6.sh.length - c0) + 0 ≤ C from by omega) (show (H6.sl - s0) + 0 ≤ Sl from by omega)) (k7 27 rfl rfl) t_Math_min rfl (Nat.le_of_ble_eq_true rfl) ?_
    have s_7 : Sa H6 H10 := (m_Math_min z8)
    refine ab_widen (cells' := H6.sh.length - c0) (slots' := H6.sl - s0) (by show (H6.sh.length - c0) + 0 ≤ _; omega) (by show (H6.sl - s0) + 0 ≤ _; omega) ?_
    rw [(s_7).1] at q12
    refine hp_acopy d_Arr_copyOf_28 (k7 28 rfl rfl) (k6 113 rfl rfl) (k6 112 rfl rfl) (k1 29 rfl rfl) (by rw [(s_7).1]; exact q_3) (by rw [(s_7).1]; exact q12) q13 q14 q15 q16 q17 (Nat.le_of_ble_eq_true rfl) (Nat.le_of_ble_eq_true rfl) ?_
    refine hp_genx eH18 ?_
    have s_8 : Sa H6 H18 := by rw [eH18]; exact s_7
    refine ab_aload_n d_Arr_copyOf_31 rfl rfl rfl ?_
    exact ab_aret d_Arr_copyOf_32 rfl (Or.inr ⟨_, rfl⟩) rfl (by show _ ≤ C; omega) (by show _ ≤ Sl; omega) (by have hr := Option.some.inj hG; subst hr; exact ⟨rfl, rfl⟩)
  · rw [if_pos q3] at hG
    refine ab_aload_n d_Arr_copyOf_6 rfl rfl rfl ?_
    cases hG
