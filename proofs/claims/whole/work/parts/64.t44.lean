def y_M_feed : ab_Y := (⟨"WorldEngineModel", "feed", "(IIIII)Z"⟩, prog_14_method_5_code, 8, (some FieldType.boolean), [])
theorem d_M_feed_0 : decode y_M_feed.2.1 0 = .ok (.aload_n 0, 1) := by decide +kernel
theorem d_M_feed_1 : decode y_M_feed.2.1 1 = .ok (.iconst 0, 1) := by decide +kernel
theorem d_M_feed_2 : decode y_M_feed.2.1 2 = .ok (.putfield 83, 3) := by decide +kernel
theorem d_M_feed_5 : decode y_M_feed.2.1 5 = .ok (.aload_n 0, 1) := by decide +kernel
theorem d_M_feed_6 : decode y_M_feed.2.1 6 = .ok (.getfield 96, 3) := by decide +kernel
theorem d_M_feed_9 : decode y_M_feed.2.1 9 = .ok (.bipush 20, 2) := by decide +kernel
theorem d_M_feed_11 : decode y_M_feed.2.1 11 = .ok (.iadd, 1) := by decide +kernel
theorem d_M_feed_12 : decode y_M_feed.2.1 12 = .ok (.sipush 6000, 3) := by decide +kernel
theorem d_M_feed_15 : decode y_M_feed.2.1 15 = .ok (.if_icmp .le 5, 3) := by decide +kernel
theorem d_M_feed_18 : decode y_M_feed.2.1 18 = .ok (.iconst 0, 1) := by decide +kernel
theorem d_M_feed_19 : decode y_M_feed.2.1 19 = .ok (.ireturn, 1) := by decide +kernel
theorem d_M_feed_20 : decode y_M_feed.2.1 20 = .ok (.iconst 0, 1) := by decide +kernel
theorem d_M_feed_21 : decode y_M_feed.2.1 21 = .ok (.istore 6, 2) := by decide +kernel
theorem d_M_feed_23 : decode y_M_feed.2.1 23 = .ok (.iload 6, 2) := by decide +kernel
theorem d_M_feed_25 : decode y_M_feed.2.1 25 = .ok (.bipush 20, 2) := by decide +kernel
theorem d_M_feed_27 : decode y_M_feed.2.1 27 = .ok (.if_icmp .ge 90, 3) := by decide +kernel
theorem d_M_feed_30 : decode y_M_feed.2.1 30 = .ok (.iload 6, 2) := by decide +kernel
theorem d_M_feed_32 : decode y_M_feed.2.1 32 = .ok (.iconst 4, 1) := by decide +kernel
theorem d_M_feed_33 : decode y_M_feed.2.1 33 = .ok (.if_icmp .ge 7, 3) := by decide +kernel
theorem d_M_feed_36 : decode y_M_feed.2.1 36 = .ok (.iload_n 1, 1) := by decide +kernel
theorem d_M_feed_37 : decode y_M_feed.2.1 37 = .ok (.goto 39, 3) := by decide +kernel
theorem d_M_feed_40 : decode y_M_feed.2.1 40 = .ok (.iload 6, 2) := by decide +kernel
theorem d_M_feed_42 : decode y_M_feed.2.1 42 = .ok (.bipush 8, 2) := by decide +kernel
theorem d_M_feed_44 : decode y_M_feed.2.1 44 = .ok (.if_icmp .ge 7, 3) := by decide +kernel
theorem d_M_feed_47 : decode y_M_feed.2.1 47 = .ok (.iload_n 2, 1) := by decide +kernel
theorem d_M_feed_48 : decode y_M_feed.2.1 48 = .ok (.goto 28, 3) := by decide +kernel
theorem d_M_feed_51 : decode y_M_feed.2.1 51 = .ok (.iload 6, 2) := by decide +kernel
theorem d_M_feed_53 : decode y_M_feed.2.1 53 = .ok (.bipush 12, 2) := by decide +kernel
theorem d_M_feed_55 : decode y_M_feed.2.1 55 = .ok (.if_icmp .ge 7, 3) := by decide +kernel
theorem d_M_feed_58 : decode y_M_feed.2.1 58 = .ok (.iload_n 3, 1) := by decide +kernel
theorem d_M_feed_59 : decode y_M_feed.2.1 59 = .ok (.goto 17, 3) := by decide +kernel
theorem d_M_feed_62 : decode y_M_feed.2.1 62 = .ok (.iload 6, 2) := by decide +kernel
theorem d_M_feed_64 : decode y_M_feed.2.1 64 = .ok (.bipush 16, 2) := by decide +kernel
theorem d_M_feed_66 : decode y_M_feed.2.1 66 = .ok (.if_icmp .ge 8, 3) := by decide +kernel
theorem d_M_feed_69 : decode y_M_feed.2.1 69 = .ok (.iload 4, 2) := by decide +kernel
theorem d_M_feed_71 : decode y_M_feed.2.1 71 = .ok (.goto 5, 3) := by decide +kernel
theorem d_M_feed_74 : decode y_M_feed.2.1 74 = .ok (.iload 5, 2) := by decide +kernel
theorem d_M_feed_76 : decode y_M_feed.2.1 76 = .ok (.istore 7, 2) := by decide +kernel
theorem d_M_feed_78 : decode y_M_feed.2.1 78 = .ok (.aload_n 0, 1) := by decide +kernel
theorem d_M_feed_79 : decode y_M_feed.2.1 79 = .ok (.getfield 9, 3) := by decide +kernel
theorem d_M_feed_82 : decode y_M_feed.2.1 82 = .ok (.aload_n 0, 1) := by decide +kernel
theorem d_M_feed_83 : decode y_M_feed.2.1 83 = .ok (.getfield 96, 3) := by decide +kernel
theorem d_M_feed_86 : decode y_M_feed.2.1 86 = .ok (.iload 7, 2) := by decide +kernel
theorem d_M_feed_88 : decode y_M_feed.2.1 88 = .ok (.bipush 24, 2) := by decide +kernel
theorem d_M_feed_90 : decode y_M_feed.2.1 90 = .ok (.bipush 8, 2) := by decide +kernel
theorem d_M_feed_92 : decode y_M_feed.2.1 92 = .ok (.iload 6, 2) := by decide +kernel
theorem d_M_feed_94 : decode y_M_feed.2.1 94 = .ok (.iconst 4, 1) := by decide +kernel
theorem d_M_feed_95 : decode y_M_feed.2.1 95 = .ok (.irem, 1) := by decide +kernel
theorem d_M_feed_96 : decode y_M_feed.2.1 96 = .ok (.imul, 1) := by decide +kernel
theorem d_M_feed_97 : decode y_M_feed.2.1 97 = .ok (.isub, 1) := by decide +kernel
theorem d_M_feed_98 : decode y_M_feed.2.1 98 = .ok (.ishr, 1) := by decide +kernel
theorem d_M_feed_99 : decode y_M_feed.2.1 99 = .ok (.i2b, 1) := by decide +kernel
theorem d_M_feed_100 : decode y_M_feed.2.1 100 = .ok (.bastore, 1) := by decide +kernel
theorem d_M_feed_101 : decode y_M_feed.2.1 101 = .ok (.aload_n 0, 1) := by decide +kernel
theorem d_M_feed_102 : decode y_M_feed.2.1 102 = .ok (.dup, 1) := by decide +kernel
theorem d_M_feed_103 : decode y_M_feed.2.1 103 = .ok (.getfield 96, 3) := by decide +kernel
theorem d_M_feed_106 : decode y_M_feed.2.1 106 = .ok (.iconst 1, 1) := by decide +kernel
theorem d_M_feed_107 : decode y_M_feed.2.1 107 = .ok (.iadd, 1) := by decide +kernel
theorem d_M_feed_108 : decode y_M_feed.2.1 108 = .ok (.putfield 96, 3) := by decide +kernel
theorem d_M_feed_111 : decode y_M_feed.2.1 111 = .ok (.iinc 6 1, 3) := by decide +kernel
theorem d_M_feed_114 : decode y_M_feed.2.1 114 = .ok (.goto (-91), 3) := by decide +kernel
theorem d_M_feed_117 : decode y_M_feed.2.1 117 = .ok (.iconst 1, 1) := by decide +kernel
theorem d_M_feed_118 : decode y_M_feed.2.1 118 = .ok (.ireturn, 1) := by decide +kernel
theorem s_M_feed : ab_Stat y_M_feed 5 := ⟨(k10 88 rfl rfl), (k1 19 rfl rfl), ⟨by decide, by decide⟩, by decide +kernel⟩
theorem i_M_feed : Cond.instanceMethod y_M_feed.1 ∈ ab_T := (k10 86 rfl rfl)
theorem v_M_feed : Cond.selects "WorldEngineModel" y_M_feed.1 y_M_feed.1 ∈ ab_T := (k10 87 rfl rfl)
def B_M_feed_76 (N : Nat) (p0 : Nat) (p1 : Int32) (p2 : Int32) (p3 : Int32) (p4 : Int32) (p5 : Int32) (kq23 : Int32 → Hp → Option (Int32 × Hp)) (l6 : Int32) (w0 : Int32) (H : Hp) : Option (Int32 × Hp) :=
    ck (H.sh[p0]? = some (12, 0)) <|
    rf (H.P p0 1) fun a11 =>
    bnd ((H.D p0 2)) fun x13 =>
    bnd (((24 : Int32) - ((8 : Int32) * (l6 - l6 / (4 : Int32) * (4 : Int32))))) fun x14 =>
    ar H 101 a11 fun n15 =>
    ck (inb x13 n15) <|
    bnd (H.sD a11 (x13).toNatClampNeg (vp_nar .byte (((w0 >>> (x14 &&& 31)) : Int32).toInt8.toInt32))) fun H18 =>
    bnd ((H18.D p0 2)) fun x19 =>
    bnd (H18.sD p0 2 (x19 + (1 : Int32))) fun H20 =>
    kq23 (l6 + 1) H20
set_option maxRecDepth 20000 in
set_option maxHeartbeats 2000000 in
theorem mB_M_feed_76 {N : Nat} {p0 : Nat} {p1 : Int32} {p2 : Int32} {p3 : Int32} {p4 : Int32} {p5 : Int32} {kq23 : Int32 → Hp → Option (Int32 × Hp)} (hm23 : ∀ (l6 : Int32) (H : Hp) (r : Int32 × Hp), kq23 l6 H = some r → Sa H r.2) {l6 : Int32} {w0 : Int32} {H : Hp} {r : Int32 × Hp} (hF : B_M_feed_76 N p0 p1 p2 p3 p4 p5 kq23 l6 w0 H = some r) : Sa H r.2 := by
  unfold B_M_feed_76 at hF
  have hm := Sa.rf H
  obtain ⟨q21, hG⟩ := ck_s hF; clear hF
  obtain ⟨a22, e23, hF⟩ := rf_s hG; clear hG
  obtain ⟨x24, -, hG⟩ := bnd_g hF; clear hF
  obtain ⟨x25, -, hF⟩ := bnd_g hG; clear hG
  obtain ⟨n26, q27, hG⟩ := ar_s hF; clear hF
  obtain ⟨q28, hF⟩ := ck_s hG; clear hG
  obtain ⟨H29, eH29, hG⟩ := bnd_g hF; clear hF
  replace hm : Sa H H29 := by rw [eH29]; exact hm
  obtain ⟨x30, -, hF⟩ := bnd_g hG; clear hG
  obtain ⟨H31, eH31, hG⟩ := bnd_g hF; clear hF
  replace hm : Sa H H31 := by rw [eH31]; exact hm
  exact hm.tr (hm23 (l6 + 1) H31 r hG)
set_option maxRecDepth 20000 in
set_option maxHeartbeats 2000000 in
theorem kB_M_feed_76 {N : Nat} {p0 : Nat} {p1 : Int32} {p2 : Int32} {p3 : Int32} {p4 : Int32} {p5 : Int32} {kq23 : Int32 → Hp → Option (Int32 × Hp)} (hm23 : ∀ (l6 : Int32) (H : Hp) (r : Int32 × Hp), kq23 l6 H = some r → Sa H r.2) (hk23 : ∀ (l6 : Int32) (H : Hp) (r : Int32 × Hp), kq23 l6 H = some r → ab_V y_M_feed { frames := 0, cells := 0, slots := 0, locals := 0 } (po (.returned (some (.int r.1))) r.2) 0 0 0 0 23 [some (.ref p0), some (.int p1), some (.int p2), some (.int p3), some (.int p4), some (.int p5), some (.int l6), none] [] (hpw H)) {l6 : Int32} {w0 : Int32} {H : Hp} {r : Int32 × Hp} (hF : B_M_feed_76 N p0 p1 p2 p3 p4 p5 kq23 l6 w0 H = some r) : ab_V y_M_feed { frames := 0, cells := 0, slots := 0, locals := 0 } (po (.returned (some (.int r.1))) r.2) 0 0 0 0 76 [some (.ref p0), some (.int p1), some (.int p2), some (.int p3), some (.int p4), some (.int p5), some (.int l6), none] [.int w0] (hpw H) := by
  unfold B_M_feed_76 at hF
  refine ab_istore (lv' := [some (.ref p0), some (.int p1), some (.int p2), some (.int p3), some (.int p4), some (.int p5), some (.int l6), some (.int w0)]) d_M_feed_76 (by decide) rfl ?_
  refine ab_aload_n d_M_feed_78 rfl rfl rfl ?_
  obtain ⟨q10, hG⟩ := ck_s hF; clear hF
  obtain ⟨a11, e12, hF⟩ := rf_s hG; clear hG
  refine hp_getR (f := 1) d_M_feed_79 q10 (by decide) rfl (by decide) (k9 234 rfl rfl) rfl e12 ?_
  refine ab_aload_n d_M_feed_82 rfl rfl rfl ?_
  refine hp_getI (f := 2) d_M_feed_83 q10 (by decide) rfl (by decide) (k9 235 rfl rfl) rfl ?_
  refine ab_topi (fun x13 ex13 => ?_)
  replace hF := bnd_s ex13 hF
  refine ab_iload d_M_feed_86 rfl ?_
  refine ab_bipush (v := 24) d_M_feed_88 (by decide) ?_
  refine ab_bipush (v := 8) d_M_feed_90 (by decide) ?_
  refine ab_iload d_M_feed_92 rfl ?_
  refine ab_iconst (v := 4) d_M_feed_94 (by decide) ?_
  refine ab_irem d_M_feed_95 (by decide) ?_
  refine ab_imul d_M_feed_96 ?_
  refine ab_isub d_M_feed_97 ?_
  refine ab_topi (fun x14 ex14 => ?_)
  replace hF := bnd_s ex14 hF
  refine ab_ishr d_M_feed_98 ?_
  refine ab_i2b d_M_feed_99 ?_
  obtain ⟨n15, q16, hG⟩ := ar_s hF; clear hF
  obtain ⟨q17, hF⟩ := ck_s hG; clear hG
  refine hp_bast d_M_feed_100 tB q16 q17 ?_
  refine hp_gen (fun H18 eH18 => ?_)
  replace hF := bnd_s eH18 hF
  have s_2 : Sa H H18 := by rw [eH18]; exact Sa.rf _
  refine ab_aload_n d_M_feed_101 rfl rfl rfl ?_
  refine ab_dup d_M_feed_102 rfl ?_
  refine hp_getI (f := 2) d_M_feed_103 (by rw [(s_2).1]; exact q10) (by decide) rfl (by decide) (k9 235 rfl rfl) rfl ?_
  refine ab_topi (fun x19 ex19 => ?_)
  replace hF := bnd_s ex19 hF
  refine ab_iconst (v := 1) d_M_feed_106 (by decide) ?_
  refine ab_iadd d_M_feed_107 ?_
  refine hp_putI (v := x19 + (1 : Int32)) (f := 2) d_M_feed_108 (by rw [(s_2).1]; exact q10) (by decide) rfl (by decide) (k9 235 rfl rfl) rfl rfl (fun _ => rfl) (fun _ => rfl) rfl ?_
  refine hp_gen (fun H20 eH20 => ?_)
  replace hF := bnd_s eH20 hF
  have s_3 : Sa H H20 := by rw [eH20]; exact s_2
  refine ab_iinc (v := l6 + 1) (lv' := [some (.ref p0), some (.int p1), some (.int p2), some (.int p3), some (.int p4), some (.int p5), some (.int (l6 + 1)), some (.int w0)]) d_M_feed_111 rfl rfl (by decide) rfl ?_
  refine ab_goto (tgt := 23) d_M_feed_114 (by decide) ?_
  refine ab_le (lv' := [some (.ref p0), some (.int p1), some (.int p2), some (.int p3), some (.int p4), some (.int p5), some (.int (l6 + 1)), none]) ⟨rfl, ⟨rfl, ⟨rfl, ⟨rfl, ⟨rfl, ⟨rfl, ⟨rfl, trivial⟩⟩⟩⟩⟩⟩⟩ ?_
  exact hk23 (l6 + 1) H20 r hF
def B_M_feed_23 (N : Nat) (p0 : Nat) (p1 : Int32) (p2 : Int32) (p3 : Int32) (p4 : Int32) (p5 : Int32) : Nat → Int32 → Hp → Option (Int32 × Hp)
  | 0, _, _ => none
  | n + 1, l6, H =>
    if (20 : Int32) ≤ l6 then
    some (1, H)
    else
    if (4 : Int32) ≤ l6 then
    if (8 : Int32) ≤ l6 then
    if (12 : Int32) ≤ l6 then
    if (16 : Int32) ≤ l6 then
    B_M_feed_76 N p0 p1 p2 p3 p4 p5 (fun l6 H => B_M_feed_23 N p0 p1 p2 p3 p4 p5 n l6 H) l6 p5 H
    else
    B_M_feed_76 N p0 p1 p2 p3 p4 p5 (fun l6 H => B_M_feed_23 N p0 p1 p2 p3 p4 p5 n l6 H) l6 p4 H
    else
    B_M_feed_76 N p0 p1 p2 p3 p4 p5 (fun l6 H => B_M_feed_23 N p0 p1 p2 p3 p4 p5 n l6 H) l6 p3 H
    else
    B_M_feed_76 N p0 p1 p2 p3 p4 p5 (fun l6 H => B_M_feed_23 N p0 p1 p2 p3 p4 p5 n l6 H) l6 p2 H
    else
    B_M_feed_76 N p0 p1 p2 p3 p4 p5 (fun l6 H => B_M_feed_23 N p0 p1 p2 p3 p4 p5 n l6 H) l6 p1 H
termination_by structural n => n
set_option maxRecDepth 20000 in
set_option maxHeartbeats 2000000 in
theorem mB_M_feed_23 {N : Nat} {p0 : Nat} {p1 : Int32} {p2 : Int32} {p3 : Int32} {p4 : Int32} {p5 : Int32} : ∀ (n : Nat) (l6 : Int32) (H : Hp) (r : Int32 × Hp), B_M_feed_23 N p0 p1 p2 p3 p4 p5 n l6 H = some r → Sa H r.2 := by
  intro n
  induction n with
  | zero => intro l6 H r hF; rw [B_M_feed_23] at hF; cases hF
  | succ n ih =>
    intro l6 H r hF
    rw [B_M_feed_23] at hF
    have hm := Sa.rf H
    rcases ite_s hF with ⟨q_6, hG⟩ | ⟨q_6, hG⟩
    · clear hF
      have hr := Option.some.inj hG; subst hr
      exact hm
    · clear hF
      rcases ite_s hG with ⟨q_7, hF⟩ | ⟨q_7, hF⟩
      · clear hG
        rcases ite_s hF with ⟨q_8, hG⟩ | ⟨q_8, hG⟩
        · clear hF
          rcases ite_s hG with ⟨q_9, hF⟩ | ⟨q_9, hF⟩
          · clear hG
            rcases ite_s hF with ⟨q_10, hG⟩ | ⟨q_10, hG⟩
            · clear hF
              exact hm.tr (mB_M_feed_76 ih hG)
            · clear hF
              exact hm.tr (mB_M_feed_76 ih hG)
          · clear hG
            exact hm.tr (mB_M_feed_76 ih hF)
        · clear hF
          exact hm.tr (mB_M_feed_76 ih hG)
      · clear hG
        exact hm.tr (mB_M_feed_76 ih hF)
set_option maxRecDepth 20000 in
set_option maxHeartbeats 2000000 in
theorem kB_M_feed_23 {N : Nat} {p0 : Nat} {p1 : Int32} {p2 : Int32} {p3 : Int32} {p4 : Int32} {p5 : Int32} : ∀ (n : Nat) (l6 : Int32) (H : Hp) (r : Int32 × Hp), B_M_feed_23 N p0 p1 p2 p3 p4 p5 n l6 H = some r → ab_V y_M_feed { frames := 0, cells := 0, slots := 0, locals := 0 } (po (.returned (some (.int r.1))) r.2) 0 0 0 0 23 [some (.ref p0), some (.int p1), some (.int p2), some (.int p3), some (.int p4), some (.int p5), some (.int l6), none] [] (hpw H) := by
  intro n
  induction n with
  | zero => intro l6 H r hF; rw [B_M_feed_23] at hF; cases hF
  | succ n ih =>
    intro l6 H r hF
    rw [B_M_feed_23] at hF
    refine ab_iload d_M_feed_23 rfl ?_
    refine ab_bipush (v := 20) d_M_feed_25 (by decide) ?_
    refine ab_icmp_ge (tgt := 117) d_M_feed_27 (by decide) (fun q5 => ?_) (fun q5 => ?_)
    · rw [if_pos q5] at hF
      refine ab_iconst (v := 1) d_M_feed_117 (by decide) ?_
      exact ab_zret d_M_feed_118 rfl rfl (Nat.le_refl _) (Nat.le_refl _) (by have hr := Option.some.inj hF; subst hr; exact ⟨rfl, rfl⟩)
    · rw [if_neg q5] at hF
      refine ab_iload d_M_feed_30 rfl ?_
      refine ab_iconst (v := 4) d_M_feed_32 (by decide) ?_
      refine ab_icmp_ge (tgt := 40) d_M_feed_33 (by decide) (fun q6 => ?_) (fun q6 => ?_)
      · rw [if_pos q6] at hF
        refine ab_iload d_M_feed_40 rfl ?_
        refine ab_bipush (v := 8) d_M_feed_42 (by decide) ?_
        refine ab_icmp_ge (tgt := 51) d_M_feed_44 (by decide) (fun q7 => ?_) (fun q7 => ?_)
        · rw [if_pos q7] at hF
          refine ab_iload d_M_feed_51 rfl ?_
          refine ab_bipush (v := 12) d_M_feed_53 (by decide) ?_
          refine ab_icmp_ge (tgt := 62) d_M_feed_55 (by decide) (fun q8 => ?_) (fun q8 => ?_)
          · rw [if_pos q8] at hF
            refine ab_iload d_M_feed_62 rfl ?_
            refine ab_bipush (v := 16) d_M_feed_64 (by decide) ?_
            refine ab_icmp_ge (tgt := 74) d_M_feed_66 (by decide) (fun q9 => ?_) (fun q9 => ?_)
            · rw [if_pos q9] at hF
              refine ab_iload d_M_feed_74 rfl ?_
              exact kB_M_feed_76 (mB_M_feed_23 n) ih hF
            · rw [if_neg q9] at hF
              refine ab_iload d_M_feed_69 rfl ?_
              refine ab_goto (tgt := 76) d_M_feed_71 (by decide) ?_
              exact kB_M_feed_76 (mB_M_feed_23 n) ih hF
          · rw [if_neg q8] at hF
            refine ab_iload_n d_M_feed_58 rfl rfl ?_
            refine ab_goto (tgt := 76) d_M_feed_59 (by decide) ?_
            exact kB_M_feed_76 (mB_M_feed_23 n) ih hF
        · rw [if_neg q7] at hF
          refine ab_iload_n d_M_feed_47 rfl rfl ?_
          refine ab_goto (tgt := 76) d_M_feed_48 (by decide) ?_
          exact kB_M_feed_76 (mB_M_feed_23 n) ih hF
      · rw [if_neg q6] at hF
        refine ab_iload_n d_M_feed_36 rfl rfl ?_
        refine ab_goto (tgt := 76) d_M_feed_37 (by decide) ?_
        exact kB_M_feed_76 (mB_M_feed_23 n) ih hF
def F_M_feed (N : Nat) (p0 : Nat) (p1 : Int32) (p2 : Int32) (p3 : Int32) (p4 : Int32) (p5 : Int32) (H : Hp) : Option (Int32 × Hp) :=
    ck (H.sh[p0]? = some (12, 0)) <|
    bnd (H.sD p0 0 (0 : Int32)) fun H2 =>
    bnd ((H2.D p0 2)) fun x3 =>
    if (x3 + (20 : Int32)) ≤ (6000 : Int32) then
    B_M_feed_23 N p0 p1 p2 p3 p4 p5 N 0 H2
    else
    some (0, H2)
set_option maxRecDepth 20000 in
set_option maxHeartbeats 2000000 in
theorem m_M_feed {N : Nat} {p0 : Nat} {p1 : Int32} {p2 : Int32} {p3 : Int32} {p4 : Int32} {p5 : Int32} {H : Hp} {r : Int32 × Hp} (hF : F_M_feed N p0 p1 p2 p3 p4 p5 H = some r) : Sa H r.2 := by
  unfold F_M_feed at hF
  have hm := Sa.rf H
  obtain ⟨q37, hG⟩ := ck_s hF; clear hF
  obtain ⟨H38, eH38, hF⟩ := bnd_g hG; clear hG
  replace hm : Sa H H38 := by rw [eH38]; exact hm
  obtain ⟨x39, -, hG⟩ := bnd_g hF; clear hF
  rcases ite_s hG with ⟨q_12, hF⟩ | ⟨q_12, hF⟩
  · clear hG
    exact hm.tr (mB_M_feed_23 N 0 H38 r hF)
  · clear hG
    have hr := Option.some.inj hF; subst hr
    exact hm
set_option maxRecDepth 20000 in
set_option maxHeartbeats 2000000 in
theorem k_M_feed {N : Nat} {p0 : Nat} {p1 : Int32} {p2 : Int32} {p3 : Int32} {p4 : Int32} {p5 : Int32} {H : Hp} {r : Int32 × Hp} (hF : F_M_feed N p0 p1 p2 p3 p4 p5 H = some r) : ab_M y_M_feed { frames := 0, cells := 0, slots := 0, locals := 0 } [.ref p0, .int p1, .int p2, .int p3, .int p4, .int p5] (hpw H) (po (.returned (some (.int r.1))) r.2) := by
  unfold F_M_feed at hF
  refine ab_of2 (lv := [some (.ref p0), some (.int p1), some (.int p2), some (.int p3), some (.int p4), some (.int p5), none, none]) 2 rfl rfl (Nat.le_of_ble_eq_true rfl) ?_
  refine ab_aload_n d_M_feed_0 rfl rfl rfl ?_
  refine ab_iconst (v := 0) d_M_feed_1 (by decide) ?_
  obtain ⟨q1, hG⟩ := ck_s hF; clear hF
  refine hp_putI (v := 0) (f := 0) d_M_feed_2 q1 (by decide) rfl (by decide) (k9 233 rfl rfl) rfl rfl (fun _ => rfl) (fun _ => rfl) rfl ?_
  refine hp_gen (fun H2 eH2 => ?_)
  replace hG := bnd_s eH2 hG
  have s_1 : Sa H H2 := by rw [eH2]; exact Sa.rf _
  refine ab_aload_n d_M_feed_5 rfl rfl rfl ?_
  refine hp_getI (f := 2) d_M_feed_6 (by rw [(s_1).1]; exact q1) (by decide) rfl (by decide) (k9 235 rfl rfl) rfl ?_
  refine ab_topi (fun x3 ex3 => ?_)
  replace hG := bnd_s ex3 hG
  refine ab_bipush (v := 20) d_M_feed_9 (by decide) ?_
  refine ab_iadd d_M_feed_11 ?_
  refine ab_sipush (v := 6000) d_M_feed_12 (by decide) ?_
  refine ab_icmp_le (tgt := 20) d_M_feed_15 (by decide) (fun q4 => ?_) (fun q4 => ?_)
  · rw [if_pos q4] at hG
    refine ab_iconst (v := 0) d_M_feed_20 (by decide) ?_
    refine ab_istore (lv' := [some (.ref p0), some (.int p1), some (.int p2), some (.int p3), some (.int p4), some (.int p5), some (.int 0), none]) d_M_feed_21 (by decide) rfl ?_
    exact kB_M_feed_23 N 0 H2 r hG
  · rw [if_neg q4] at hG
    refine ab_iconst (v := 0) d_M_feed_18 (by decide) ?_
    exact ab_zret d_M_feed_19 rfl rfl (Nat.le_refl _) (Nat.le_refl _) (by have hr := Option.some.inj hG; subst hr; exact ⟨rfl, rfl⟩)
def y_M_in : ab_Y := (⟨"WorldEngineModel", "in", "(JJJ)Z"⟩, prog_14_method_3_code, 6, (some FieldType.boolean), [])
theorem d_M_in_0 : decode y_M_in.2.1 0 = .ok (.lload_n 0, 1) := by decide +kernel
theorem d_M_in_1 : decode y_M_in.2.1 1 = .ok (.lload_n 2, 1) := by decide +kernel
theorem d_M_in_2 : decode y_M_in.2.1 2 = .ok (.lcmp, 1) := by decide +kernel
theorem d_M_in_3 : decode y_M_in.2.1 3 = .ok (.ifCond .lt 14, 3) := by decide +kernel
theorem d_M_in_6 : decode y_M_in.2.1 6 = .ok (.lload_n 0, 1) := by decide +kernel
theorem d_M_in_7 : decode y_M_in.2.1 7 = .ok (.lload 4, 2) := by decide +kernel
theorem d_M_in_9 : decode y_M_in.2.1 9 = .ok (.lcmp, 1) := by decide +kernel
theorem d_M_in_10 : decode y_M_in.2.1 10 = .ok (.ifCond .gt 7, 3) := by decide +kernel
theorem d_M_in_13 : decode y_M_in.2.1 13 = .ok (.iconst 1, 1) := by decide +kernel
theorem d_M_in_14 : decode y_M_in.2.1 14 = .ok (.goto 4, 3) := by decide +kernel
theorem d_M_in_17 : decode y_M_in.2.1 17 = .ok (.iconst 0, 1) := by decide +kernel
theorem d_M_in_18 : decode y_M_in.2.1 18 = .ok (.ireturn, 1) := by decide +kernel
theorem s_M_in : ab_Stat y_M_in 3 := ⟨(k10 95 rfl rfl), (k1 19 rfl rfl), ⟨by decide, by decide⟩, by decide +kernel⟩
theorem t_M_in : Cond.static y_M_in.1 ∈ ab_T := (k10 94 rfl rfl)
def F_M_in (N : Nat) (p0 : Int64) (p2 : Int64) (p4 : Int64) (H : Hp) : Option (Int32 × Hp) :=
    if (lg_cmp p0 p2) < (0 : Int32) then
    some (0, H)
    else
    if (0 : Int32) < (lg_cmp p0 p4) then
    some (0, H)
    else
    some (1, H)
set_option maxRecDepth 20000 in
set_option maxHeartbeats 2000000 in
theorem m_M_in {N : Nat} {p0 : Int64} {p2 : Int64} {p4 : Int64} {H : Hp} {r : Int32 × Hp} (hF : F_M_in N p0 p2 p4 H = some r) : Sa H r.2 := by
  unfold F_M_in at hF
  have hm := Sa.rf H
  rcases ite_s hF with ⟨q_1, hG⟩ | ⟨q_1, hG⟩
  · clear hF
    have hr := Option.some.inj hG; subst hr
    exact hm
  · clear hF
    rcases ite_s hG with ⟨q_2, hF⟩ | ⟨q_2, hF⟩
    · clear hG
      have hr := Option.some.inj hF; subst hr
      exact hm
    · clear hG
      have hr := Option.some.inj hF; subst hr
      exact hm
set_option maxRecDepth 20000 in
set_option maxHeartbeats 2000000 in
theorem k_M_in {N : Nat} {p0 : Int64} {p2 : Int64} {p4 : Int64} {H : Hp} {r : Int32 × Hp} (hF : F_M_in N p0 p2 p4 H = some r) : ab_M y_M_in { frames := 0, cells := 0, slots := 0, locals := 0 } [.long p0, .long p2, .long p4] (hpw H) (po (.returned (some (.int r.1))) r.2) := by
  unfold F_M_in at hF
  refine ab_of2 (lv := [some (.long p0), none, some (.long p2), none, some (.long p4), none]) 0 rfl rfl (Nat.le_of_ble_eq_true rfl) ?_
  refine ab_lload_n d_M_in_0 rfl rfl ?_
  refine ab_lload_n d_M_in_1 rfl rfl ?_
  refine ab_lcmp d_M_in_2 ?_
  refine ab_if_lt (tgt := 17) d_M_in_3 (by decide) (fun q1 => ?_) (fun q1 => ?_)
  · rw [if_pos q1] at hF
    refine ab_iconst (v := 0) d_M_in_17 (by decide) ?_
    exact ab_zret d_M_in_18 rfl rfl (Nat.le_refl _) (Nat.le_refl _) (by have hr := Option.some.inj hF; subst hr; exact ⟨rfl, rfl⟩)
  · rw [if_neg q1] at hF
    refine ab_lload_n d_M_in_6 rfl rfl ?_
    refine ab_lload d_M_in_7 rfl ?_
    refine ab_lcmp d_M_in_9 ?_
    refine ab_if_gt (tgt := 17) d_M_in_10 (by decide) (fun q2 => ?_) (fun q2 => ?_)
    · rw [if_pos q2] at hF
      refine ab_iconst (v := 0) d_M_in_17 (by decide) ?_
      exact ab_zret d_M_in_18 rfl rfl (Nat.le_refl _) (Nat.le_refl _) (by have hr := Option.some.inj hF; subst hr; exact ⟨rfl, rfl⟩)
    · rw [if_neg q2] at hF
      refine ab_iconst (v := 1) d_M_in_13 (by decide) ?_
      refine ab_goto (tgt := 18) d_M_in_14 (by decide) ?_
      exact ab_zret d_M_in_18 rfl rfl (Nat.le_refl _) (Nat.le_refl _) (by have hr := Option.some.inj hF; subst hr; exact ⟨rfl, rfl⟩)
def y_M_end : ab_Y := (⟨"WorldEngineModel", "end", "(I)Z"⟩, prog_14_method_6_code, 2, (some FieldType.boolean), [])
theorem d_M_end_0 : decode y_M_end.2.1 0 = .ok (.aload_n 0, 1) := by decide +kernel
theorem d_M_end_1 : decode y_M_end.2.1 1 = .ok (.iconst 0, 1) := by decide +kernel
theorem d_M_end_2 : decode y_M_end.2.1 2 = .ok (.putfield 83, 3) := by decide +kernel
theorem d_M_end_5 : decode y_M_end.2.1 5 = .ok (.iload_n 1, 1) := by decide +kernel
theorem d_M_end_6 : decode y_M_end.2.1 6 = .ok (.i2l, 1) := by decide +kernel
theorem d_M_end_7 : decode y_M_end.2.1 7 = .ok (.lconst 0, 1) := by decide +kernel
theorem d_M_end_8 : decode y_M_end.2.1 8 = .ok (.aload_n 0, 1) := by decide +kernel
theorem d_M_end_9 : decode y_M_end.2.1 9 = .ok (.getfield 96, 3) := by decide +kernel
theorem d_M_end_12 : decode y_M_end.2.1 12 = .ok (.i2l, 1) := by decide +kernel
theorem d_M_end_13 : decode y_M_end.2.1 13 = .ok (.invokestatic 99, 3) := by decide +kernel
theorem d_M_end_16 : decode y_M_end.2.1 16 = .ok (.ifCond .ne 5, 3) := by decide +kernel
theorem d_M_end_19 : decode y_M_end.2.1 19 = .ok (.iconst 0, 1) := by decide +kernel
theorem d_M_end_20 : decode y_M_end.2.1 20 = .ok (.ireturn, 1) := by decide +kernel
theorem d_M_end_21 : decode y_M_end.2.1 21 = .ok (.aload_n 0, 1) := by decide +kernel
theorem d_M_end_22 : decode y_M_end.2.1 22 = .ok (.iload_n 1, 1) := by decide +kernel
theorem d_M_end_23 : decode y_M_end.2.1 23 = .ok (.putfield 96, 3) := by decide +kernel
theorem d_M_end_26 : decode y_M_end.2.1 26 = .ok (.iconst 1, 1) := by decide +kernel
theorem d_M_end_27 : decode y_M_end.2.1 27 = .ok (.ireturn, 1) := by decide +kernel
theorem s_M_end : ab_Stat y_M_end 1 := ⟨(k10 92 rfl rfl), (k1 19 rfl rfl), ⟨by decide, by decide⟩, by decide +kernel⟩
theorem i_M_end : Cond.instanceMethod y_M_end.1 ∈ ab_T := (k10 90 rfl rfl)
theorem v_M_end : Cond.selects "WorldEngineModel" y_M_end.1 y_M_end.1 ∈ ab_T := (k10 91 rfl rfl)
def F_M_end (N : Nat) (p0 : Nat) (p1 : Int32) (H : Hp) : Option (Int32 × Hp) :=
    ck (H.sh[p0]? = some (12, 0)) <|
    bnd (H.sD p0 0 (0 : Int32)) fun H2 =>
    bnd ((H2.D p0 2)) fun x3 =>
    bC (F_M_in N ((p1 : Int32).toInt64) (0 : Int64) ((x3 : Int32).toInt64) H2) fun v5 H6 =>
    if v5 = (0 : Int32) then
    some (0, H6)
    else
    bnd (H6.sD p0 2 p1) fun H8 =>
    some (1, H8)
set_option maxRecDepth 20000 in
set_option maxHeartbeats 2000000 in
theorem m_M_end {N : Nat} {p0 : Nat} {p1 : Int32} {H : Hp} {r : Int32 × Hp} (hF : F_M_end N p0 p1 H = some r) : Sa H r.2 := by
  unfold F_M_end at hF
  have hm := Sa.rf H
  obtain ⟨q9, hG⟩ := ck_s hF; clear hF
  obtain ⟨H10, eH10, hF⟩ := bnd_g hG; clear hG
  replace hm : Sa H H10 := by rw [eH10]; exact hm
  obtain ⟨x11, -, hG⟩ := bnd_g hF; clear hF
  obtain ⟨v13, H14, z12, hF⟩ := bC_s hG; clear hG
  replace hm : Sa H H14 := hm.tr (m_M_in z12)
  rcases ite_s hF with ⟨q_6, hG⟩ | ⟨q_6, hG⟩
  · clear hF
    have hr := Option.some.inj hG; subst hr
    exact hm
  · clear hF
    obtain ⟨H16, eH16, hF⟩ := bnd_g hG; clear hG
    replace hm : Sa H H16 := by rw [eH16]; exact hm
    have hr := Option.some.inj hF; subst hr
    exact hm
set_option maxRecDepth 20000 in
set_option maxHeartbeats 2000000 in
theorem k_M_end {N : Nat} {p0 : Nat} {p1 : Int32} {H : Hp} {r : Int32 × Hp} (hF : F_M_end N p0 p1 H = some r) : ab_M y_M_end { frames := 1, cells := 0, slots := 0, locals := 25 } [.ref p0, .int p1] (hpw H) (po (.returned (some (.int r.1))) r.2) := by
  unfold F_M_end at hF
  refine ab_of2 (lv := [some (.ref p0), some (.int p1)]) 0 rfl rfl (Nat.le_of_ble_eq_true rfl) ?_
  refine ab_aload_n d_M_end_0 rfl rfl rfl ?_
  refine ab_iconst (v := 0) d_M_end_1 (by decide) ?_
  obtain ⟨q1, hG⟩ := ck_s hF; clear hF
  refine hp_putI (v := 0) (f := 0) d_M_end_2 q1 (by decide) rfl (by decide) (k9 233 rfl rfl) rfl rfl (fun _ => rfl) (fun _ => rfl) rfl ?_
  refine hp_gen (fun H2 eH2 => ?_)
  replace hG := bnd_s eH2 hG
  have s_1 : Sa H H2 := by rw [eH2]; exact Sa.rf _
  refine ab_iload_n d_M_end_5 rfl rfl ?_
  refine ab_i2l d_M_end_6 ?_
  refine ab_lconst (v := 0) d_M_end_7 (by decide) ?_
  refine ab_aload_n d_M_end_8 rfl rfl rfl ?_
  refine hp_getI (f := 2) d_M_end_9 (by rw [(s_1).1]; exact q1) (by decide) rfl (by decide) (k9 235 rfl rfl) rfl ?_
  refine ab_topi (fun x3 ex3 => ?_)
  replace hG := bnd_s ex3 hG
  refine ab_i2l d_M_end_12 ?_
  obtain ⟨v5, H6, z4, hF⟩ := bC_s hG; clear hG
  refine hp_callS_a (v := .int v5) (H1 := H6) (As := [.long ((p1 : Int32).toInt64), .long 0, .long ((x3 : Int32).toInt64)]) (rest := []) d_M_end_13 (k_M_in z4) (ab_mkC s_M_in (Nat.le_of_ble_eq_true rfl) (Nat.le_of_ble_eq_true rfl) (Nat.le_refl 0) (Nat.le_refl 0)) (k10 93 rfl rfl) t_M_in rfl (Nat.le_of_ble_eq_true rfl) ?_
  have s_2 : Sa H H6 := (s_1).tr (m_M_in z4)
  refine ab_if_ne (tgt := 21) d_M_end_16 (by decide) (fun q7 => ?_) (fun q7 => ?_)
  · rw [if_neg q7] at hF
    refine ab_aload_n d_M_end_21 rfl rfl rfl ?_
    refine ab_iload_n d_M_end_22 rfl rfl ?_
    refine hp_putI (v := p1) (f := 2) d_M_end_23 (by rw [(s_2).1]; exact q1) (by decide) rfl (by decide) (k9 235 rfl rfl) rfl rfl (fun _ => rfl) (fun _ => rfl) rfl ?_
    refine hp_gen (fun H8 eH8 => ?_)
    replace hF := bnd_s eH8 hF
    have s_3 : Sa H H8 := by rw [eH8]; exact s_2
    refine ab_iconst (v := 1) d_M_end_26 (by decide) ?_
    exact ab_zret d_M_end_27 rfl rfl (Nat.le_refl _) (Nat.le_refl _) (by have hr := Option.some.inj hF; subst hr; exact ⟨rfl, rfl⟩)
  · rw [if_pos q7] at hF
    refine ab_iconst (v := 0) d_M_end_19 (by decide) ?_
    exact ab_zret d_M_end_20 rfl rfl (Nat.le_refl _) (Nat.le_refl _) (by have hr := Option.some.inj hF; subst hr; exact ⟨rfl, rfl⟩)
def y_MText_skips : ab_Y := (⟨"WorldEngineModel$Text", "skips", "(I)I"⟩, prog_16_method_7_code, 5, (some FieldType.int), [])
theorem d_MText_skips_0 : decode y_MText_skips.2.1 0 = .ok (.iload_n 1, 1) := by decide +kernel
theorem d_MText_skips_1 : decode y_MText_skips.2.1 1 = .ok (.istore_n 2, 1) := by decide +kernel
theorem d_MText_skips_2 : decode y_MText_skips.2.1 2 = .ok (.iconst 1, 1) := by decide +kernel
theorem d_MText_skips_3 : decode y_MText_skips.2.1 3 = .ok (.istore_n 3, 1) := by decide +kernel
theorem d_MText_skips_4 : decode y_MText_skips.2.1 4 = .ok (.iload_n 3, 1) := by decide +kernel
theorem d_MText_skips_5 : decode y_MText_skips.2.1 5 = .ok (.ifCond .eq 100, 3) := by decide +kernel
theorem d_MText_skips_8 : decode y_MText_skips.2.1 8 = .ok (.iload_n 2, 1) := by decide +kernel
theorem d_MText_skips_9 : decode y_MText_skips.2.1 9 = .ok (.aload_n 0, 1) := by decide +kernel
theorem d_MText_skips_10 : decode y_MText_skips.2.1 10 = .ok (.getfield 104, 3) := by decide +kernel
theorem d_MText_skips_13 : decode y_MText_skips.2.1 13 = .ok (.if_icmp .ge 92, 3) := by decide +kernel
theorem d_MText_skips_16 : decode y_MText_skips.2.1 16 = .ok (.aload_n 0, 1) := by decide +kernel
theorem d_MText_skips_17 : decode y_MText_skips.2.1 17 = .ok (.getfield 11, 3) := by decide +kernel
theorem d_MText_skips_20 : decode y_MText_skips.2.1 20 = .ok (.iload_n 2, 1) := by decide +kernel
theorem d_MText_skips_21 : decode y_MText_skips.2.1 21 = .ok (.baload, 1) := by decide +kernel
theorem d_MText_skips_22 : decode y_MText_skips.2.1 22 = .ok (.istore 4, 2) := by decide +kernel
theorem d_MText_skips_24 : decode y_MText_skips.2.1 24 = .ok (.iload 4, 2) := by decide +kernel
theorem d_MText_skips_26 : decode y_MText_skips.2.1 26 = .ok (.bipush 35, 2) := by decide +kernel
theorem d_MText_skips_28 : decode y_MText_skips.2.1 28 = .ok (.if_icmp .ne 28, 3) := by decide +kernel
theorem d_MText_skips_31 : decode y_MText_skips.2.1 31 = .ok (.iload_n 2, 1) := by decide +kernel
theorem d_MText_skips_32 : decode y_MText_skips.2.1 32 = .ok (.aload_n 0, 1) := by decide +kernel
theorem d_MText_skips_33 : decode y_MText_skips.2.1 33 = .ok (.getfield 104, 3) := by decide +kernel
theorem d_MText_skips_36 : decode y_MText_skips.2.1 36 = .ok (.if_icmp .ge 66, 3) := by decide +kernel
theorem d_MText_skips_39 : decode y_MText_skips.2.1 39 = .ok (.aload_n 0, 1) := by decide +kernel
theorem d_MText_skips_40 : decode y_MText_skips.2.1 40 = .ok (.getfield 11, 3) := by decide +kernel
theorem d_MText_skips_43 : decode y_MText_skips.2.1 43 = .ok (.iload_n 2, 1) := by decide +kernel
theorem d_MText_skips_44 : decode y_MText_skips.2.1 44 = .ok (.baload, 1) := by decide +kernel
theorem d_MText_skips_45 : decode y_MText_skips.2.1 45 = .ok (.bipush 10, 2) := by decide +kernel
theorem d_MText_skips_47 : decode y_MText_skips.2.1 47 = .ok (.if_icmp .eq 55, 3) := by decide +kernel
theorem d_MText_skips_50 : decode y_MText_skips.2.1 50 = .ok (.iinc 2 1, 3) := by decide +kernel
theorem d_MText_skips_53 : decode y_MText_skips.2.1 53 = .ok (.goto (-22), 3) := by decide +kernel
theorem d_MText_skips_56 : decode y_MText_skips.2.1 56 = .ok (.iload 4, 2) := by decide +kernel
theorem d_MText_skips_58 : decode y_MText_skips.2.1 58 = .ok (.bipush 9, 2) := by decide +kernel
theorem d_MText_skips_60 : decode y_MText_skips.2.1 60 = .ok (.if_icmp .eq 24, 3) := by decide +kernel
theorem d_MText_skips_63 : decode y_MText_skips.2.1 63 = .ok (.iload 4, 2) := by decide +kernel
theorem d_MText_skips_65 : decode y_MText_skips.2.1 65 = .ok (.bipush 10, 2) := by decide +kernel
theorem d_MText_skips_67 : decode y_MText_skips.2.1 67 = .ok (.if_icmp .eq 17, 3) := by decide +kernel
theorem d_MText_skips_70 : decode y_MText_skips.2.1 70 = .ok (.iload 4, 2) := by decide +kernel
theorem d_MText_skips_72 : decode y_MText_skips.2.1 72 = .ok (.bipush 13, 2) := by decide +kernel
theorem d_MText_skips_74 : decode y_MText_skips.2.1 74 = .ok (.if_icmp .eq 10, 3) := by decide +kernel
theorem d_MText_skips_77 : decode y_MText_skips.2.1 77 = .ok (.iload 4, 2) := by decide +kernel
theorem d_MText_skips_79 : decode y_MText_skips.2.1 79 = .ok (.bipush 32, 2) := by decide +kernel
theorem d_MText_skips_81 : decode y_MText_skips.2.1 81 = .ok (.if_icmp .ne 7, 3) := by decide +kernel
theorem d_MText_skips_84 : decode y_MText_skips.2.1 84 = .ok (.iconst 1, 1) := by decide +kernel
theorem d_MText_skips_85 : decode y_MText_skips.2.1 85 = .ok (.goto 4, 3) := by decide +kernel
theorem d_MText_skips_88 : decode y_MText_skips.2.1 88 = .ok (.iconst 0, 1) := by decide +kernel
theorem d_MText_skips_89 : decode y_MText_skips.2.1 89 = .ok (.istore_n 3, 1) := by decide +kernel
theorem d_MText_skips_90 : decode y_MText_skips.2.1 90 = .ok (.iload_n 2, 1) := by decide +kernel
theorem d_MText_skips_91 : decode y_MText_skips.2.1 91 = .ok (.iload_n 3, 1) := by decide +kernel
theorem d_MText_skips_92 : decode y_MText_skips.2.1 92 = .ok (.ifCond .eq 7, 3) := by decide +kernel
theorem d_MText_skips_95 : decode y_MText_skips.2.1 95 = .ok (.iconst 1, 1) := by decide +kernel
theorem d_MText_skips_96 : decode y_MText_skips.2.1 96 = .ok (.goto 4, 3) := by decide +kernel
theorem d_MText_skips_99 : decode y_MText_skips.2.1 99 = .ok (.iconst 0, 1) := by decide +kernel
theorem d_MText_skips_100 : decode y_MText_skips.2.1 100 = .ok (.iadd, 1) := by decide +kernel
theorem d_MText_skips_101 : decode y_MText_skips.2.1 101 = .ok (.istore_n 2, 1) := by decide +kernel
theorem d_MText_skips_102 : decode y_MText_skips.2.1 102 = .ok (.goto (-98), 3) := by decide +kernel
theorem d_MText_skips_105 : decode y_MText_skips.2.1 105 = .ok (.iload_n 2, 1) := by decide +kernel
theorem d_MText_skips_106 : decode y_MText_skips.2.1 106 = .ok (.ireturn, 1) := by decide +kernel
theorem s_MText_skips : ab_Stat y_MText_skips 1 := ⟨(k10 115 rfl rfl), (k1 20 rfl rfl), ⟨by decide, by decide⟩, by decide +kernel⟩
theorem i_MText_skips : Cond.instanceMethod y_MText_skips.1 ∈ ab_T := (k10 114 rfl rfl)
theorem v_MText_skips : Cond.selects "WorldEngineModel$Text" y_MText_skips.1 y_MText_skips.1 ∈ ab_T := ab_s (List.mem_of_getElem? (i := 108) rfl) rfl
def B_MText_skips_102 (N : Nat) (p0 : Nat) (p1 : Int32) (kq4 : Int32 → Int32 → Hp → Option (Int32 × Hp)) (l2 : Int32) (l3 : Int32) (H : Hp) : Option (Int32 × Hp) :=
    kq4 l2 l3 H
set_option maxRecDepth 20000 in
set_option maxHeartbeats 2000000 in
theorem mB_MText_skips_102 {N : Nat} {p0 : Nat} {p1 : Int32} {kq4 : Int32 → Int32 → Hp → Option (Int32 × Hp)} (hm4 : ∀ (l2 : Int32) (l3 : Int32) (H : Hp) (r : Int32 × Hp), kq4 l2 l3 H = some r → Sa H r.2) {l2 : Int32} {l3 : Int32} {H : Hp} {r : Int32 × Hp} (hF : B_MText_skips_102 N p0 p1 kq4 l2 l3 H = some r) : Sa H r.2 := by
  unfold B_MText_skips_102 at hF
  have hm := Sa.rf H
  exact hm.tr (hm4 l2 l3 H r hF)
set_option maxRecDepth 20000 in
set_option maxHeartbeats 2000000 in
theorem kB_MText_skips_102 {N : Nat} {p0 : Nat} {p1 : Int32} {kq4 : Int32 → Int32 → Hp → Option (Int32 × Hp)} (hm4 : ∀ (l2 : Int32) (l3 : Int32) (H : Hp) (r : Int32 × Hp), kq4 l2 l3 H = some r → Sa H r.2) (hk4 : ∀ (l2 : Int32) (l3 : Int32) (H : Hp) (r : Int32 × Hp), kq4 l2 l3 H = some r → ab_V y_MText_skips { frames := 0, cells := 0, slots := 0, locals := 0 } (po (.returned (some (.int r.1))) r.2) 0 0 0 0 4 [some (.ref p0), some (.int p1), some (.int l2), some (.int l3), none] [] (hpw H)) {l2 : Int32} {l3 : Int32} {H : Hp} {r : Int32 × Hp} (hF : B_MText_skips_102 N p0 p1 kq4 l2 l3 H = some r) : ab_V y_MText_skips { frames := 0, cells := 0, slots := 0, locals := 0 } (po (.returned (some (.int r.1))) r.2) 0 0 0 0 102 [some (.ref p0), some (.int p1), some (.int l2), some (.int l3), none] [] (hpw H) := by
  unfold B_MText_skips_102 at hF
  refine ab_goto (tgt := 4) d_MText_skips_102 (by decide) ?_
  exact hk4 l2 l3 H r hF
def B_MText_skips_100 (N : Nat) (p0 : Nat) (p1 : Int32) (kq4 : Int32 → Int32 → Hp → Option (Int32 × Hp)) (l3 : Int32) (w0 : Int32) (w1 : Int32) (H : Hp) : Option (Int32 × Hp) :=
    B_MText_skips_102 N p0 p1 kq4 (w0 + w1) l3 H
set_option maxRecDepth 20000 in
set_option maxHeartbeats 2000000 in
theorem mB_MText_skips_100 {N : Nat} {p0 : Nat} {p1 : Int32} {kq4 : Int32 → Int32 → Hp → Option (Int32 × Hp)} (hm4 : ∀ (l2 : Int32) (l3 : Int32) (H : Hp) (r : Int32 × Hp), kq4 l2 l3 H = some r → Sa H r.2) {l3 : Int32} {w0 : Int32} {w1 : Int32} {H : Hp} {r : Int32 × Hp} (hF : B_MText_skips_100 N p0 p1 kq4 l3 w0 w1 H = some r) : Sa H r.2 := by
  unfold B_MText_skips_100 at hF
  have hm := Sa.rf H
  exact hm.tr (mB_MText_skips_102 hm4 hF)
set_option maxRecDepth 20000 in
set_option maxHeartbeats 2000000 in
theorem kB_MText_skips_100 {N : Nat} {p0 : Nat} {p1 : Int32} {kq4 : Int32 → Int32 → Hp → Option (Int32 × Hp)} (hm4 : ∀ (l2 : Int32) (l3 : Int32) (H : Hp) (r : Int32 × Hp), kq4 l2 l3 H = some r → Sa H r.2) (hk4 : ∀ (l2 : Int32) (l3 : Int32) (H : Hp) (r : Int32 × Hp), kq4 l2 l3 H = some r → ab_V y_MText_skips { frames := 0, cells := 0, slots := 0, locals := 0 } (po (.returned (some (.int r.1))) r.2) 0 0 0 0 4 [some (.ref p0), some (.int p1), some (.int l2), some (.int l3), none] [] (hpw H)) {l3 : Int32} {w0 : Int32} {w1 : Int32} {H : Hp} {r : Int32 × Hp} (hF : B_MText_skips_100 N p0 p1 kq4 l3 w0 w1 H = some r) : ab_V y_MText_skips { frames := 0, cells := 0, slots := 0, locals := 0 } (po (.returned (some (.int r.1))) r.2) 0 0 0 0 100 [some (.ref p0), some (.int p1), none, some (.int l3), none] [.int w1, .int w0] (hpw H) := by
  unfold B_MText_skips_100 at hF
  refine ab_iadd d_MText_skips_100 ?_
  refine ab_istore_n (lv' := [some (.ref p0), some (.int p1), some (.int (w0 + w1)), some (.int l3), none]) d_MText_skips_101 rfl (by decide) rfl ?_
  exact kB_MText_skips_102 hm4 hk4 hF
def B_MText_skips_89 (N : Nat) (p0 : Nat) (p1 : Int32) (kq4 : Int32 → Int32 → Hp → Option (Int32 × Hp)) (l2 : Int32) (w0 : Int32) (H : Hp) : Option (Int32 × Hp) :=
    if w0 = (0 : Int32) then
    B_MText_skips_100 N p0 p1 kq4 w0 l2 0 H
    else
    B_MText_skips_100 N p0 p1 kq4 w0 l2 1 H
set_option maxRecDepth 20000 in
set_option maxHeartbeats 2000000 in
theorem mB_MText_skips_89 {N : Nat} {p0 : Nat} {p1 : Int32} {kq4 : Int32 → Int32 → Hp → Option (Int32 × Hp)} (hm4 : ∀ (l2 : Int32) (l3 : Int32) (H : Hp) (r : Int32 × Hp), kq4 l2 l3 H = some r → Sa H r.2) {l2 : Int32} {w0 : Int32} {H : Hp} {r : Int32 × Hp} (hF : B_MText_skips_89 N p0 p1 kq4 l2 w0 H = some r) : Sa H r.2 := by
  unfold B_MText_skips_89 at hF
  have hm := Sa.rf H
  rcases ite_s hF with ⟨q_1, hG⟩ | ⟨q_1, hG⟩
  · clear hF
    exact hm.tr (mB_MText_skips_100 hm4 hG)
  · clear hF
    exact hm.tr (mB_MText_skips_100 hm4 hG)
set_option maxRecDepth 20000 in
set_option maxHeartbeats 2000000 in
theorem kB_MText_skips_89 {N : Nat} {p0 : Nat} {p1 : Int32} {kq4 : Int32 → Int32 → Hp → Option (Int32 × Hp)} (hm4 : ∀ (l2 : Int32) (l3 : Int32) (H : Hp) (r : Int32 × Hp), kq4 l2 l3 H = some r → Sa H r.2) (hk4 : ∀ (l2 : Int32) (l3 : Int32) (H : Hp) (r : Int32 × Hp), kq4 l2 l3 H = some r → ab_V y_MText_skips { frames := 0, cells := 0, slots := 0, locals := 0 } (po (.returned (some (.int r.1))) r.2) 0 0 0 0 4 [some (.ref p0), some (.int p1), some (.int l2), some (.int l3), none] [] (hpw H)) {l2 : Int32} {w0 : Int32} {H : Hp} {r : Int32 × Hp} (hF : B_MText_skips_89 N p0 p1 kq4 l2 w0 H = some r) : ab_V y_MText_skips { frames := 0, cells := 0, slots := 0, locals := 0 } (po (.returned (some (.int r.1))) r.2) 0 0 0 0 89 [some (.ref p0), some (.int p1), some (.int l2), none, none] [.int w0] (hpw H) := by
  unfold B_MText_skips_89 at hF
  refine ab_istore_n (lv' := [some (.ref p0), some (.int p1), some (.int l2), some (.int w0), none]) d_MText_skips_89 rfl (by decide) rfl ?_
  refine ab_iload_n d_MText_skips_90 rfl rfl ?_
  refine ab_iload_n d_MText_skips_91 rfl rfl ?_
  refine ab_if_eq (tgt := 99) d_MText_skips_92 (by decide) (fun q13 => ?_) (fun q13 => ?_)
  · rw [if_pos q13] at hF
    refine ab_iconst (v := 0) d_MText_skips_99 (by decide) ?_
    refine ab_le (lv' := [some (.ref p0), some (.int p1), none, some (.int w0), none]) ⟨rfl, ⟨rfl, ⟨rfl, trivial⟩⟩⟩ ?_
    exact kB_MText_skips_100 hm4 hk4 hF
  · rw [if_neg q13] at hF
    refine ab_iconst (v := 1) d_MText_skips_95 (by decide) ?_
    refine ab_goto (tgt := 100) d_MText_skips_96 (by decide) ?_
    refine ab_le (lv' := [some (.ref p0), some (.int p1), none, some (.int w0), none]) ⟨rfl, ⟨rfl, ⟨rfl, trivial⟩⟩⟩ ?_
    exact kB_MText_skips_100 hm4 hk4 hF
def B_MText_skips_84 (N : Nat) (p0 : Nat) (p1 : Int32) (kq4 : Int32 → Int32 → Hp → Option (Int32 × Hp)) (l2 : Int32) (H : Hp) : Option (Int32 × Hp) :=
    B_MText_skips_89 N p0 p1 kq4 l2 1 H
set_option maxRecDepth 20000 in
set_option maxHeartbeats 2000000 in
theorem mB_MText_skips_84 {N : Nat} {p0 : Nat} {p1 : Int32} {kq4 : Int32 → Int32 → Hp → Option (Int32 × Hp)} (hm4 : ∀ (l2 : Int32) (l3 : Int32) (H : Hp) (r : Int32 × Hp), kq4 l2 l3 H = some r → Sa H r.2) {l2 : Int32} {H : Hp} {r : Int32 × Hp} (hF : B_MText_skips_84 N p0 p1 kq4 l2 H = some r) : Sa H r.2 := by
  unfold B_MText_skips_84 at hF
  have hm := Sa.rf H
  exact hm.tr (mB_MText_skips_89 hm4 hF)
set_option maxRecDepth 20000 in
set_option maxHeartbeats 2000000 in
theorem kB_MText_skips_84 {N : Nat} {p0 : Nat} {p1 : Int32} {kq4 : Int32 → Int32 → Hp → Option (Int32 × Hp)} (hm4 : ∀ (l2 : Int32) (l3 : Int32) (H : Hp) (r : Int32 × Hp), kq4 l2 l3 H = some r → Sa H r.2) (hk4 : ∀ (l2 : Int32) (l3 : Int32) (H : Hp) (r : Int32 × Hp), kq4 l2 l3 H = some r → ab_V y_MText_skips { frames := 0, cells := 0, slots := 0, locals := 0 } (po (.returned (some (.int r.1))) r.2) 0 0 0 0 4 [some (.ref p0), some (.int p1), some (.int l2), some (.int l3), none] [] (hpw H)) {l2 : Int32} {H : Hp} {r : Int32 × Hp} (hF : B_MText_skips_84 N p0 p1 kq4 l2 H = some r) : ab_V y_MText_skips { frames := 0, cells := 0, slots := 0, locals := 0 } (po (.returned (some (.int r.1))) r.2) 0 0 0 0 84 [some (.ref p0), some (.int p1), some (.int l2), none, none] [] (hpw H) := by
  unfold B_MText_skips_84 at hF
  refine ab_iconst (v := 1) d_MText_skips_84 (by decide) ?_
  refine ab_goto (tgt := 89) d_MText_skips_85 (by decide) ?_
  exact kB_MText_skips_89 hm4 hk4 hF
def B_MText_skips_31 (N : Nat) (p0 : Nat) (p1 : Int32) (kq4 : Int32 → Int32 → Hp → Option (Int32 × Hp)) : Nat → Int32 → Int32 → Hp → Option (Int32 × Hp)
  | 0, _, _, _ => none
  | n + 1, l2, l3, H =>
    ck (H.sh[p0]? = some (14, 0)) <|
    bnd ((H.D p0 1)) fun x19 =>
    if x19 ≤ l2 then
    B_MText_skips_102 N p0 p1 kq4 l2 l3 H
    else
    rf (H.P p0 0) fun a21 =>
    ar H 101 a21 fun n23 =>
    ck (inb l2 n23) <|
    bnd ((H.D a21 (l2).toNatClampNeg)) fun x26 =>
    if x26 = (10 : Int32) then
    B_MText_skips_102 N p0 p1 kq4 l2 l3 H
    else
    B_MText_skips_31 N p0 p1 kq4 n (l2 + 1) l3 H
termination_by structural n => n
set_option maxRecDepth 20000 in
set_option maxHeartbeats 2000000 in
theorem mB_MText_skips_31 {N : Nat} {p0 : Nat} {p1 : Int32} {kq4 : Int32 → Int32 → Hp → Option (Int32 × Hp)} (hm4 : ∀ (l2 : Int32) (l3 : Int32) (H : Hp) (r : Int32 × Hp), kq4 l2 l3 H = some r → Sa H r.2) : ∀ (n : Nat) (l2 : Int32) (l3 : Int32) (H : Hp) (r : Int32 × Hp), B_MText_skips_31 N p0 p1 kq4 n l2 l3 H = some r → Sa H r.2 := by
  intro n
  induction n with
  | zero => intro l2 l3 H r hF; rw [B_MText_skips_31] at hF; cases hF
  | succ n ih =>
    intro l2 l3 H r hF
    rw [B_MText_skips_31] at hF
    have hm := Sa.rf H
    obtain ⟨q28, hG⟩ := ck_s hF; clear hF
    obtain ⟨x29, -, hF⟩ := bnd_g hG; clear hG
    rcases ite_s hF with ⟨q_2, hG⟩ | ⟨q_2, hG⟩
    · clear hF
      exact hm.tr (mB_MText_skips_102 hm4 hG)
    · clear hF
      obtain ⟨a31, e32, hF⟩ := rf_s hG; clear hG
      obtain ⟨n33, q34, hG⟩ := ar_s hF; clear hF
      obtain ⟨q35, hF⟩ := ck_s hG; clear hG
      obtain ⟨x36, -, hG⟩ := bnd_g hF; clear hF
      rcases ite_s hG with ⟨q_3, hF⟩ | ⟨q_3, hF⟩
      · clear hG
        exact hm.tr (mB_MText_skips_102 hm4 hF)
      · clear hG
        exact hm.tr (ih (l2 + 1) l3 H r hF)
set_option maxRecDepth 20000 in
set_option maxHeartbeats 2000000 in
theorem kB_MText_skips_31 {N : Nat} {p0 : Nat} {p1 : Int32} {kq4 : Int32 → Int32 → Hp → Option (Int32 × Hp)} (hm4 : ∀ (l2 : Int32) (l3 : Int32) (H : Hp) (r : Int32 × Hp), kq4 l2 l3 H = some r → Sa H r.2) (hk4 : ∀ (l2 : Int32) (l3 : Int32) (H : Hp) (r : Int32 × Hp), kq4 l2 l3 H = some r → ab_V y_MText_skips { frames := 0, cells := 0, slots := 0, locals := 0 } (po (.returned (some (.int r.1))) r.2) 0 0 0 0 4 [some (.ref p0), some (.int p1), some (.int l2), some (.int l3), none] [] (hpw H)) : ∀ (n : Nat) (l2 : Int32) (l3 : Int32) (H : Hp) (r : Int32 × Hp), B_MText_skips_31 N p0 p1 kq4 n l2 l3 H = some r → ab_V y_MText_skips { frames := 0, cells := 0, slots := 0, locals := 0 } (po (.returned (some (.int r.1))) r.2) 0 0 0 0 31 [some (.ref p0), some (.int p1), some (.int l2), some (.int l3), none] [] (hpw H) := by
  intro n
  induction n with
  | zero => intro l2 l3 H r hF; rw [B_MText_skips_31] at hF; cases hF
  | succ n ih =>
    intro l2 l3 H r hF
    rw [B_MText_skips_31] at hF
    refine ab_iload_n d_MText_skips_31 rfl rfl ?_
    refine ab_aload_n d_MText_skips_32 rfl rfl rfl ?_
    obtain ⟨q18, hG⟩ := ck_s hF; clear hF
    refine hp_getI (f := 1) d_MText_skips_33 q18 (by decide) rfl (by decide) (k8 160 rfl rfl) rfl ?_
    refine ab_topi (fun x19 ex19 => ?_)
    replace hG := bnd_s ex19 hG
    refine ab_icmp_ge (tgt := 102) d_MText_skips_36 (by decide) (fun q20 => ?_) (fun q20 => ?_)
    · rw [if_pos q20] at hG
      exact kB_MText_skips_102 hm4 hk4 hG
    · rw [if_neg q20] at hG
      refine ab_aload_n d_MText_skips_39 rfl rfl rfl ?_
      obtain ⟨a21, e22, hF⟩ := rf_s hG; clear hG
      refine hp_getR (f := 0) d_MText_skips_40 q18 (by decide) rfl (by decide) (k8 159 rfl rfl) rfl e22 ?_
      refine ab_iload_n d_MText_skips_43 rfl rfl ?_
      obtain ⟨n23, q24, hG⟩ := ar_s hF; clear hF
      obtain ⟨q25, hF⟩ := ck_s hG; clear hG
      refine hp_bald d_MText_skips_44 tB q24 q25 ?_
      refine ab_topi (fun x26 ex26 => ?_)
      replace hF := bnd_s ex26 hF
      refine ab_bipush (v := 10) d_MText_skips_45 (by decide) ?_
      refine ab_icmp_eq (tgt := 102) d_MText_skips_47 (by decide) (fun q27 => ?_) (fun q27 => ?_)
      · rw [if_pos q27] at hF
        exact kB_MText_skips_102 hm4 hk4 hF
      · rw [if_neg q27] at hF
        refine ab_iinc (v := l2 + 1) (lv' := [some (.ref p0), some (.int p1), some (.int (l2 + 1)), some (.int l3), none]) d_MText_skips_50 rfl rfl (by decide) rfl ?_
        refine ab_goto (tgt := 31) d_MText_skips_53 (by decide) ?_
        exact ih (l2 + 1) l3 H r hF
def B_MText_skips_4 (N : Nat) (p0 : Nat) (p1 : Int32) : Nat → Int32 → Int32 → Hp → Option (Int32 × Hp)
  | 0, _, _, _ => none
  | n + 1, l2, l3, H =>
    if l3 = (0 : Int32) then
    some (l2, H)
    else
    ck (H.sh[p0]? = some (14, 0)) <|
    bnd ((H.D p0 1)) fun x3 =>
    if x3 ≤ l2 then
    some (l2, H)
    else
    rf (H.P p0 0) fun a5 =>
    ar H 101 a5 fun n7 =>
    ck (inb l2 n7) <|
    bnd ((H.D a5 (l2).toNatClampNeg)) fun x10 =>
    if x10 = (35 : Int32) then
    B_MText_skips_31 N p0 p1 (fun l2 l3 H => B_MText_skips_4 N p0 p1 n l2 l3 H) N l2 l3 H
    else
    if x10 = (9 : Int32) then
    B_MText_skips_84 N p0 p1 (fun l2 l3 H => B_MText_skips_4 N p0 p1 n l2 l3 H) l2 H
    else
    if x10 = (10 : Int32) then
    B_MText_skips_84 N p0 p1 (fun l2 l3 H => B_MText_skips_4 N p0 p1 n l2 l3 H) l2 H
    else
    if x10 = (13 : Int32) then
    B_MText_skips_84 N p0 p1 (fun l2 l3 H => B_MText_skips_4 N p0 p1 n l2 l3 H) l2 H
    else
    if x10 = (32 : Int32) then
    B_MText_skips_84 N p0 p1 (fun l2 l3 H => B_MText_skips_4 N p0 p1 n l2 l3 H) l2 H
    else
    B_MText_skips_89 N p0 p1 (fun l2 l3 H => B_MText_skips_4 N p0 p1 n l2 l3 H) l2 0 H
termination_by structural n => n
set_option maxRecDepth 20000 in
set_option maxHeartbeats 2000000 in
theorem mB_MText_skips_4 {N : Nat} {p0 : Nat} {p1 : Int32} : ∀ (n : Nat) (l2 : Int32) (l3 : Int32) (H : Hp) (r : Int32 × Hp), B_MText_skips_4 N p0 p1 n l2 l3 H = some r → Sa H r.2 := by
  intro n
  induction n with
  | zero => intro l2 l3 H r hF; rw [B_MText_skips_4] at hF; cases hF
  | succ n ih =>
    intro l2 l3 H r hF
    rw [B_MText_skips_4] at hF
    have hm := Sa.rf H
    rcases ite_s hF with ⟨q_4, hG⟩ | ⟨q_4, hG⟩
    · clear hF
      have hr := Option.some.inj hG; subst hr
      exact hm
    · clear hF
      obtain ⟨q39, hF⟩ := ck_s hG; clear hG
      obtain ⟨x40, -, hG⟩ := bnd_g hF; clear hF
      rcases ite_s hG with ⟨q_5, hF⟩ | ⟨q_5, hF⟩
      · clear hG
        have hr := Option.some.inj hF; subst hr
        exact hm
      · clear hG
        obtain ⟨a42, e43, hG⟩ := rf_s hF; clear hF
        obtain ⟨n44, q45, hF⟩ := ar_s hG; clear hG
        obtain ⟨q46, hG⟩ := ck_s hF; clear hF
        obtain ⟨x47, -, hF⟩ := bnd_g hG; clear hG
        rcases ite_s hF with ⟨q_6, hG⟩ | ⟨q_6, hG⟩
        · clear hF
          exact hm.tr (mB_MText_skips_31 ih N l2 l3 H r hG)
        · clear hF
          rcases ite_s hG with ⟨q_7, hF⟩ | ⟨q_7, hF⟩
          · clear hG
            exact hm.tr (mB_MText_skips_84 ih hF)
          · clear hG
            rcases ite_s hF with ⟨q_8, hG⟩ | ⟨q_8, hG⟩
            · clear hF
              exact hm.tr (mB_MText_skips_84 ih hG)
            · clear hF
              rcases ite_s hG with ⟨q_9, hF⟩ | ⟨q_9, hF⟩
              · clear hG
                exact hm.tr (mB_MText_skips_84 ih hF)
              · clear hG
                rcases ite_s hF with ⟨q_10, hG⟩ | ⟨q_10, hG⟩
                · clear hF
                  exact hm.tr (mB_MText_skips_84 ih hG)
                · clear hF
                  exact hm.tr (mB_MText_skips_89 ih hG)
set_option maxRecDepth 20000 in
set_option maxHeartbeats 2000000 in
theorem kB_MText_skips_4 {N : Nat} {p0 : Nat} {p1 : Int32} : ∀ (n : Nat) (l2 : Int32) (l3 : Int32) (H : Hp) (r : Int32 × Hp), B_MText_skips_4 N p0 p1 n l2 l3 H = some r → ab_V y_MText_skips { frames := 0, cells := 0, slots := 0, locals := 0 } (po (.returned (some (.int r.1))) r.2) 0 0 0 0 4 [some (.ref p0), some (.int p1), some (.int l2), some (.int l3), none] [] (hpw H) := by
  intro n
  induction n with
  | zero => intro l2 l3 H r hF; rw [B_MText_skips_4] at hF; cases hF
  | succ n ih =>
    intro l2 l3 H r hF
    rw [B_MText_skips_4] at hF
    refine ab_iload_n d_MText_skips_4 rfl rfl ?_
    refine ab_if_eq (tgt := 105) d_MText_skips_5 (by decide) (fun q1 => ?_) (fun q1 => ?_)
    · rw [if_pos q1] at hF
      refine ab_iload_n d_MText_skips_105 rfl rfl ?_
      exact ab_iret d_MText_skips_106 rfl (Nat.le_refl _) (Nat.le_refl _) (by have hr := Option.some.inj hF; subst hr; exact ⟨rfl, rfl⟩)
    · rw [if_neg q1] at hF
      refine ab_iload_n d_MText_skips_8 rfl rfl ?_
      refine ab_aload_n d_MText_skips_9 rfl rfl rfl ?_
      obtain ⟨q2, hG⟩ := ck_s hF; clear hF
      refine hp_getI (f := 1) d_MText_skips_10 q2 (by decide) rfl (by decide) (k8 160 rfl rfl) rfl ?_
      refine ab_topi (fun x3 ex3 => ?_)
      replace hG := bnd_s ex3 hG
      refine ab_icmp_ge (tgt := 105) d_MText_skips_13 (by decide) (fun q4 => ?_) (fun q4 => ?_)
      · rw [if_pos q4] at hG
        refine ab_iload_n d_MText_skips_105 rfl rfl ?_
        exact ab_iret d_MText_skips_106 rfl (Nat.le_refl _) (Nat.le_refl _) (by have hr := Option.some.inj hG; subst hr; exact ⟨rfl, rfl⟩)
      · rw [if_neg q4] at hG
        refine ab_aload_n d_MText_skips_16 rfl rfl rfl ?_
        obtain ⟨a5, e6, hF⟩ := rf_s hG; clear hG
        refine hp_getR (f := 0) d_MText_skips_17 q2 (by decide) rfl (by decide) (k8 159 rfl rfl) rfl e6 ?_
        refine ab_iload_n d_MText_skips_20 rfl rfl ?_
        obtain ⟨n7, q8, hG⟩ := ar_s hF; clear hF
        obtain ⟨q9, hF⟩ := ck_s hG; clear hG
        refine hp_bald d_MText_skips_21 tB q8 q9 ?_
        refine ab_topi (fun x10 ex10 => ?_)
        replace hF := bnd_s ex10 hF
        refine ab_istore (lv' := [some (.ref p0), some (.int p1), some (.int l2), some (.int l3), some (.int x10)]) d_MText_skips_22 (by decide) rfl ?_
        refine ab_iload d_MText_skips_24 rfl ?_
        refine ab_bipush (v := 35) d_MText_skips_26 (by decide) ?_
        refine ab_icmp_ne (tgt := 56) d_MText_skips_28 (by decide) (fun q11 => ?_) (fun q11 => ?_)
        · rw [if_neg q11] at hF
          refine ab_iload d_MText_skips_56 rfl ?_
          refine ab_bipush (v := 9) d_MText_skips_58 (by decide) ?_
          refine ab_icmp_eq (tgt := 84) d_MText_skips_60 (by decide) (fun q12 => ?_) (fun q12 => ?_)
          · rw [if_pos q12] at hF
            refine ab_le (lv' := [some (.ref p0), some (.int p1), some (.int l2), none, none]) ⟨rfl, ⟨rfl, ⟨rfl, trivial⟩⟩⟩ ?_
            exact kB_MText_skips_84 (mB_MText_skips_4 n) ih hF
          · rw [if_neg q12] at hF
            refine ab_iload d_MText_skips_63 rfl ?_
            refine ab_bipush (v := 10) d_MText_skips_65 (by decide) ?_
            refine ab_icmp_eq (tgt := 84) d_MText_skips_67 (by decide) (fun q15 => ?_) (fun q15 => ?_)
            · rw [if_pos q15] at hF
              refine ab_le (lv' := [some (.ref p0), some (.int p1), some (.int l2), none, none]) ⟨rfl, ⟨rfl, ⟨rfl, trivial⟩⟩⟩ ?_
              exact kB_MText_skips_84 (mB_MText_skips_4 n) ih hF
            · rw [if_neg q15] at hF
              refine ab_iload d_MText_skips_70 rfl ?_
              refine ab_bipush (v := 13) d_MText_skips_72 (by decide) ?_
              refine ab_icmp_eq (tgt := 84) d_MText_skips_74 (by decide) (fun q16 => ?_) (fun q16 => ?_)
              · rw [if_pos q16] at hF
                refine ab_le (lv' := [some (.ref p0), some (.int p1), some (.int l2), none, none]) ⟨rfl, ⟨rfl, ⟨rfl, trivial⟩⟩⟩ ?_
                exact kB_MText_skips_84 (mB_MText_skips_4 n) ih hF
              · rw [if_neg q16] at hF
                refine ab_iload d_MText_skips_77 rfl ?_
                refine ab_bipush (v := 32) d_MText_skips_79 (by decide) ?_
                refine ab_icmp_ne (tgt := 88) d_MText_skips_81 (by decide) (fun q17 => ?_) (fun q17 => ?_)
                · rw [if_neg q17] at hF
                  refine ab_iconst (v := 0) d_MText_skips_88 (by decide) ?_
                  refine ab_le (lv' := [some (.ref p0), some (.int p1), some (.int l2), none, none]) ⟨rfl, ⟨rfl, ⟨rfl, trivial⟩⟩⟩ ?_
                  exact kB_MText_skips_89 (mB_MText_skips_4 n) ih hF
                · rw [if_pos q17] at hF
                  refine ab_le (lv' := [some (.ref p0), some (.int p1), some (.int l2), none, none]) ⟨rfl, ⟨rfl, ⟨rfl, trivial⟩⟩⟩ ?_
                  exact kB_MText_skips_84 (mB_MText_skips_4 n) ih hF
        · rw [if_pos q11] at hF
          refine ab_le (lv' := [some (.ref p0), some (.int p1), some (.int l2), some (.int l3), none]) ⟨rfl, ⟨rfl, ⟨rfl, ⟨rfl, trivial⟩⟩⟩⟩ ?_
          exact kB_MText_skips_31 (mB_MText_skips_4 n) ih N l2 l3 H r hF
def F_MText_skips (N : Nat) (p0 : Nat) (p1 : Int32) (H : Hp) : Option (Int32 × Hp) :=
    B_MText_skips_4 N p0 p1 N p1 1 H
set_option maxRecDepth 20000 in
set_option maxHeartbeats 2000000 in
theorem m_MText_skips {N : Nat} {p0 : Nat} {p1 : Int32} {H : Hp} {r : Int32 × Hp} (hF : F_MText_skips N p0 p1 H = some r) : Sa H r.2 := by
  unfold F_MText_skips at hF
  have hm := Sa.rf H
  exact hm.tr (mB_MText_skips_4 N p1 1 H r hF)
set_option maxRecDepth 20000 in
set_option maxHeartbeats 2000000 in
theorem k_MText_skips {N : Nat} {p0 : Nat} {p1 : Int32} {H : Hp} {r : Int32 × Hp} (hF : F_MText_skips N p0 p1 H = some r) : ab_M y_MText_skips { frames := 0, cells := 0, slots := 0, locals := 0 } [.ref p0, .int p1] (hpw H) (po (.returned (some (.int r.1))) r.2) := by
  unfold F_MText_skips at hF
  refine ab_of2 (lv := [some (.ref p0), some (.int p1), none, none, none]) 3 rfl rfl (Nat.le_of_ble_eq_true rfl) ?_
  refine ab_iload_n d_MText_skips_0 rfl rfl ?_
  refine ab_istore_n (lv' := [some (.ref p0), some (.int p1), some (.int p1), none, none]) d_MText_skips_1 rfl (by decide) rfl ?_
  refine ab_iconst (v := 1) d_MText_skips_2 (by decide) ?_
  refine ab_istore_n (lv' := [some (.ref p0), some (.int p1), some (.int p1), some (.int 1), none]) d_MText_skips_3 rfl (by decide) rfl ?_
  exact kB_MText_skips_4 N p1 1 H r hF
def y_MText_letter : ab_Y := (⟨"WorldEngineModel$Text", "letter", "(I)I"⟩, prog_16_method_4_code, 2, (some FieldType.int), [])
theorem d_MText_letter_0 : decode y_MText_letter.2.1 0 = .ok (.iload_n 1, 1) := by decide +kernel
theorem d_MText_letter_1 : decode y_MText_letter.2.1 1 = .ok (.aload_n 0, 1) := by decide +kernel
theorem d_MText_letter_2 : decode y_MText_letter.2.1 2 = .ok (.getfield 104, 3) := by decide +kernel
theorem d_MText_letter_5 : decode y_MText_letter.2.1 5 = .ok (.if_icmp .ge 12, 3) := by decide +kernel
theorem d_MText_letter_8 : decode y_MText_letter.2.1 8 = .ok (.aload_n 0, 1) := by decide +kernel
theorem d_MText_letter_9 : decode y_MText_letter.2.1 9 = .ok (.getfield 11, 3) := by decide +kernel
theorem d_MText_letter_12 : decode y_MText_letter.2.1 12 = .ok (.iload_n 1, 1) := by decide +kernel
theorem d_MText_letter_13 : decode y_MText_letter.2.1 13 = .ok (.baload, 1) := by decide +kernel
theorem d_MText_letter_14 : decode y_MText_letter.2.1 14 = .ok (.goto 4, 3) := by decide +kernel
theorem d_MText_letter_17 : decode y_MText_letter.2.1 17 = .ok (.iconst 0, 1) := by decide +kernel
theorem d_MText_letter_18 : decode y_MText_letter.2.1 18 = .ok (.ireturn, 1) := by decide +kernel
theorem s_MText_letter : ab_Stat y_MText_letter 1 := ⟨(k10 119 rfl rfl), (k1 20 rfl rfl), ⟨by decide, by decide⟩, by decide +kernel⟩
theorem i_MText_letter : Cond.instanceMethod y_MText_letter.1 ∈ ab_T := (k10 118 rfl rfl)
theorem v_MText_letter : Cond.selects "WorldEngineModel$Text" y_MText_letter.1 y_MText_letter.1 ∈ ab_T := ab_s (List.mem_of_getElem? (i := 109) rfl) rfl
def F_MText_letter (N : Nat) (p0 : Nat) (p1 : Int32) (H : Hp) : Option (Int32 × Hp) :=
    ck (H.sh[p0]? = some (14, 0)) <|
    bnd ((H.D p0 1)) fun x2 =>
    if x2 ≤ p1 then
    some (0, H)
    else
    rf (H.P p0 0) fun a4 =>
    ar H 101 a4 fun n6 =>
    ck (inb p1 n6) <|
    bnd ((H.D a4 (p1).toNatClampNeg)) fun x9 =>
    some (x9, H)
set_option maxRecDepth 20000 in
set_option maxHeartbeats 2000000 in
theorem m_MText_letter {N : Nat} {p0 : Nat} {p1 : Int32} {H : Hp} {r : Int32 × Hp} (hF : F_MText_letter N p0 p1 H = some r) : Sa H r.2 := by
  unfold F_MText_letter at hF
  have hm := Sa.rf H
  obtain ⟨q10, hG⟩ := ck_s hF; clear hF
  obtain ⟨x11, -, hF⟩ := bnd_g hG; clear hG
  rcases ite_s hF with ⟨q_1, hG⟩ | ⟨q_1, hG⟩
  · clear hF
    have hr := Option.some.inj hG; subst hr
    exact hm
  · clear hF
    obtain ⟨a13, e14, hF⟩ := rf_s hG; clear hG
    obtain ⟨n15, q16, hG⟩ := ar_s hF; clear hF
    obtain ⟨q17, hF⟩ := ck_s hG; clear hG
    obtain ⟨x18, -, hG⟩ := bnd_g hF; clear hF
    have hr := Option.some.inj hG; subst hr
    exact hm
set_option maxRecDepth 20000 in
set_option maxHeartbeats 2000000 in
theorem k_MText_letter {N : Nat} {p0 : Nat} {p1 : Int32} {H : Hp} {r : Int32 × Hp} (hF : F_MText_letter N p0 p1 H = some r) : ab_M y_MText_letter { frames := 0, cells := 0, slots := 0, locals := 0 } [.ref p0, .int p1] (hpw H) (po (.returned (some (.int r.1))) r.2) := by
  unfold F_MText_letter at hF
  refine ab_of2 (lv := [some (.ref p0), some (.int p1)]) 0 rfl rfl (Nat.le_of_ble_eq_true rfl) ?_
  refine ab_iload_n d_MText_letter_0 rfl rfl ?_
  refine ab_aload_n d_MText_letter_1 rfl rfl rfl ?_
  obtain ⟨q1, hG⟩ := ck_s hF; clear hF
  refine hp_getI (f := 1) d_MText_letter_2 q1 (by decide) rfl (by decide) (k8 160 rfl rfl) rfl ?_
  refine ab_topi (fun x2 ex2 => ?_)
  replace hG := bnd_s ex2 hG
  refine ab_icmp_ge (tgt := 17) d_MText_letter_5 (by decide) (fun q3 => ?_) (fun q3 => ?_)
  · rw [if_pos q3] at hG
    refine ab_iconst (v := 0) d_MText_letter_17 (by decide) ?_
    exact ab_iret d_MText_letter_18 rfl (Nat.le_refl _) (Nat.le_refl _) (by have hr := Option.some.inj hG; subst hr; exact ⟨rfl, rfl⟩)
  · rw [if_neg q3] at hG
    refine ab_aload_n d_MText_letter_8 rfl rfl rfl ?_
    obtain ⟨a4, e5, hF⟩ := rf_s hG; clear hG
    refine hp_getR (f := 0) d_MText_letter_9 q1 (by decide) rfl (by decide) (k8 159 rfl rfl) rfl e5 ?_
    refine ab_iload_n d_MText_letter_12 rfl rfl ?_
    obtain ⟨n6, q7, hG⟩ := ar_s hF; clear hF
    obtain ⟨q8, hF⟩ := ck_s hG; clear hG
    refine hp_bald d_MText_letter_13 tB q7 q8 ?_
    refine ab_topi (fun x9 ex9 => ?_)
    replace hF := bnd_s ex9 hF
    refine ab_goto (tgt := 18) d_MText_letter_14 (by decide) ?_
    exact ab_iret d_MText_letter_18 rfl (Nat.le_refl _) (Nat.le_refl _) (by have hr := Option.some.inj hF; subst hr; exact ⟨rfl, rfl⟩)
def y_MText_token : ab_Y := (⟨"WorldEngineModel$Text", "token", "(III)V"⟩, prog_16_method_5_code, 4, none, [])
theorem d_MText_token_0 : decode y_MText_token.2.1 0 = .ok (.aload_n 0, 1) := by decide +kernel
theorem d_MText_token_1 : decode y_MText_token.2.1 1 = .ok (.getfield 15, 3) := by decide +kernel
theorem d_MText_token_4 : decode y_MText_token.2.1 4 = .ok (.aload_n 0, 1) := by decide +kernel
theorem d_MText_token_5 : decode y_MText_token.2.1 5 = .ok (.getfield 108, 3) := by decide +kernel
theorem d_MText_token_8 : decode y_MText_token.2.1 8 = .ok (.iload_n 1, 1) := by decide +kernel
theorem d_MText_token_9 : decode y_MText_token.2.1 9 = .ok (.iastore, 1) := by decide +kernel
theorem d_MText_token_10 : decode y_MText_token.2.1 10 = .ok (.aload_n 0, 1) := by decide +kernel
theorem d_MText_token_11 : decode y_MText_token.2.1 11 = .ok (.getfield 19, 3) := by decide +kernel
theorem d_MText_token_14 : decode y_MText_token.2.1 14 = .ok (.aload_n 0, 1) := by decide +kernel
theorem d_MText_token_15 : decode y_MText_token.2.1 15 = .ok (.getfield 108, 3) := by decide +kernel
theorem d_MText_token_18 : decode y_MText_token.2.1 18 = .ok (.iload_n 2, 1) := by decide +kernel
theorem d_MText_token_19 : decode y_MText_token.2.1 19 = .ok (.iastore, 1) := by decide +kernel
theorem d_MText_token_20 : decode y_MText_token.2.1 20 = .ok (.aload_n 0, 1) := by decide +kernel
theorem d_MText_token_21 : decode y_MText_token.2.1 21 = .ok (.getfield 22, 3) := by decide +kernel
theorem d_MText_token_24 : decode y_MText_token.2.1 24 = .ok (.aload_n 0, 1) := by decide +kernel
theorem d_MText_token_25 : decode y_MText_token.2.1 25 = .ok (.getfield 108, 3) := by decide +kernel
theorem d_MText_token_28 : decode y_MText_token.2.1 28 = .ok (.iload_n 3, 1) := by decide +kernel
theorem d_MText_token_29 : decode y_MText_token.2.1 29 = .ok (.iload_n 2, 1) := by decide +kernel
theorem d_MText_token_30 : decode y_MText_token.2.1 30 = .ok (.isub, 1) := by decide +kernel
theorem d_MText_token_31 : decode y_MText_token.2.1 31 = .ok (.iastore, 1) := by decide +kernel
theorem d_MText_token_32 : decode y_MText_token.2.1 32 = .ok (.aload_n 0, 1) := by decide +kernel
theorem d_MText_token_33 : decode y_MText_token.2.1 33 = .ok (.getfield 28, 3) := by decide +kernel
theorem d_MText_token_36 : decode y_MText_token.2.1 36 = .ok (.aload_n 0, 1) := by decide +kernel
theorem d_MText_token_37 : decode y_MText_token.2.1 37 = .ok (.getfield 108, 3) := by decide +kernel
theorem d_MText_token_40 : decode y_MText_token.2.1 40 = .ok (.iconst 0, 1) := by decide +kernel
theorem d_MText_token_41 : decode y_MText_token.2.1 41 = .ok (.bastore, 1) := by decide +kernel
theorem d_MText_token_42 : decode y_MText_token.2.1 42 = .ok (.aload_n 0, 1) := by decide +kernel
theorem d_MText_token_43 : decode y_MText_token.2.1 43 = .ok (.getfield 32, 3) := by decide +kernel
theorem d_MText_token_46 : decode y_MText_token.2.1 46 = .ok (.aload_n 0, 1) := by decide +kernel
theorem d_MText_token_47 : decode y_MText_token.2.1 47 = .ok (.getfield 108, 3) := by decide +kernel
theorem d_MText_token_50 : decode y_MText_token.2.1 50 = .ok (.iconst (-1), 1) := by decide +kernel
theorem d_MText_token_51 : decode y_MText_token.2.1 51 = .ok (.iastore, 1) := by decide +kernel
theorem d_MText_token_52 : decode y_MText_token.2.1 52 = .ok (.aload_n 0, 1) := by decide +kernel
theorem d_MText_token_53 : decode y_MText_token.2.1 53 = .ok (.dup, 1) := by decide +kernel
theorem d_MText_token_54 : decode y_MText_token.2.1 54 = .ok (.getfield 108, 3) := by decide +kernel
theorem d_MText_token_57 : decode y_MText_token.2.1 57 = .ok (.iconst 1, 1) := by decide +kernel
theorem d_MText_token_58 : decode y_MText_token.2.1 58 = .ok (.iadd, 1) := by decide +kernel
theorem d_MText_token_59 : decode y_MText_token.2.1 59 = .ok (.putfield 108, 3) := by decide +kernel
theorem d_MText_token_62 : decode y_MText_token.2.1 62 = .ok (.return_, 1) := by decide +kernel
theorem s_MText_token : ab_Stat y_MText_token 3 := ⟨(k10 123 rfl rfl), (k1 20 rfl rfl), ⟨by decide, by decide⟩, by decide +kernel⟩
theorem i_MText_token : Cond.instanceMethod y_MText_token.1 ∈ ab_T := (k10 122 rfl rfl)
theorem v_MText_token : Cond.selects "WorldEngineModel$Text" y_MText_token.1 y_MText_token.1 ∈ ab_T := ab_s (List.mem_of_getElem? (i := 110) rfl) rfl
def F_MText_token (N : Nat) (p0 : Nat) (p1 : Int32) (p2 : Int32) (p3 : Int32) (H : Hp) : Option (Unit × Hp) :=
    ck (H.sh[p0]? = some (14, 0)) <|
    rf (H.P p0 3) fun a2 =>
    bnd ((H.D p0 2)) fun x4 =>
    ar H 100 a2 fun n5 =>
    ck (inb x4 n5) <|
    bnd (H.sD a2 (x4).toNatClampNeg p1) fun H8 =>
    rf (H8.P p0 4) fun a9 =>
    bnd ((H8.D p0 2)) fun x11 =>
    ar H8 100 a9 fun n12 =>
    ck (inb x11 n12) <|
    bnd (H8.sD a9 (x11).toNatClampNeg p2) fun H15 =>
    rf (H15.P p0 5) fun a16 =>
    bnd ((H15.D p0 2)) fun x18 =>
    ar H15 100 a16 fun n19 =>
    ck (inb x18 n19) <|
    bnd (H15.sD a16 (x18).toNatClampNeg (p3 - p2)) fun H22 =>
    rf (H22.P p0 7) fun a23 =>
    bnd ((H22.D p0 2)) fun x25 =>
    ar H22 102 a23 fun n26 =>
    ck (inb x25 n26) <|
    bnd (H22.sD a23 (x25).toNatClampNeg (vp_nar .boolean (0 : Int32))) fun H29 =>
    rf (H29.P p0 8) fun a30 =>
    bnd ((H29.D p0 2)) fun x32 =>
    ar H29 100 a30 fun n33 =>
    ck (inb x32 n33) <|
    bnd (H29.sD a30 (x32).toNatClampNeg ((-1) : Int32)) fun H36 =>
    bnd ((H36.D p0 2)) fun x37 =>
    bnd (H36.sD p0 2 (x37 + (1 : Int32))) fun H38 =>
    some ((), H38)
set_option maxRecDepth 20000 in
set_option maxHeartbeats 2000000 in
theorem m_MText_token {N : Nat} {p0 : Nat} {p1 : Int32} {p2 : Int32} {p3 : Int32} {H : Hp} {r : Unit × Hp} (hF : F_MText_token N p0 p1 p2 p3 H = some r) : Sa H r.2 := by
  unfold F_MText_token at hF
  have hm := Sa.rf H
  obtain ⟨q39, hG⟩ := ck_s hF; clear hF
  obtain ⟨a40, e41, hF⟩ := rf_s hG; clear hG
  obtain ⟨x42, -, hG⟩ := bnd_g hF; clear hF
  obtain ⟨n43, q44, hF⟩ := ar_s hG; clear hG
  obtain ⟨q45, hG⟩ := ck_s hF; clear hF
  obtain ⟨H46, eH46, hF⟩ := bnd_g hG; clear hG
  replace hm : Sa H H46 := by rw [eH46]; exact hm
  obtain ⟨a47, e48, hG⟩ := rf_s hF; clear hF
  obtain ⟨x49, -, hF⟩ := bnd_g hG; clear hG
  obtain ⟨n50, q51, hG⟩ := ar_s hF; clear hF
  obtain ⟨q52, hF⟩ := ck_s hG; clear hG
  obtain ⟨H53, eH53, hG⟩ := bnd_g hF; clear hF
  replace hm : Sa H H53 := by rw [eH53]; exact hm
  obtain ⟨a54, e55, hF⟩ := rf_s hG; clear hG
  obtain ⟨x56, -, hG⟩ := bnd_g hF; clear hF
  obtain ⟨n57, q58, hF⟩ := ar_s hG; clear hG
  obtain ⟨q59, hG⟩ := ck_s hF; clear hF
  obtain ⟨H60, eH60, hF⟩ := bnd_g hG; clear hG
  replace hm : Sa H H60 := by rw [eH60]; exact hm
  obtain ⟨a61, e62, hG⟩ := rf_s hF; clear hF
  obtain ⟨x63, -, hF⟩ := bnd_g hG; clear hG
  obtain ⟨n64, q65, hG⟩ := ar_s hF; clear hF
  obtain ⟨q66, hF⟩ := ck_s hG; clear hG
  obtain ⟨H67, eH67, hG⟩ := bnd_g hF; clear hF
  replace hm : Sa H H67 := by rw [eH67]; exact hm
  obtain ⟨a68, e69, hF⟩ := rf_s hG; clear hG
  obtain ⟨x70, -, hG⟩ := bnd_g hF; clear hF
  obtain ⟨n71, q72, hF⟩ := ar_s hG; clear hG
  obtain ⟨q73, hG⟩ := ck_s hF; clear hF
  obtain ⟨H74, eH74, hF⟩ := bnd_g hG; clear hG
  replace hm : Sa H H74 := by rw [eH74]; exact hm
  obtain ⟨x75, -, hG⟩ := bnd_g hF; clear hF
  obtain ⟨H76, eH76, hF⟩ := bnd_g hG; clear hG
  replace hm : Sa H H76 := by rw [eH76]; exact hm
  have hr := Option.some.inj hF; subst hr
  exact hm
set_option maxRecDepth 20000 in
set_option maxHeartbeats 2000000 in
theorem k_MText_token {N : Nat} {p0 : Nat} {p1 : Int32} {p2 : Int32} {p3 : Int32} {H : Hp} {r : Unit × Hp} (hF : F_MText_token N p0 p1 p2 p3 H = some r) : ab_M y_MText_token { frames := 0, cells := 0, slots := 0, locals := 0 } [.ref p0, .int p1, .int p2, .int p3] (hpw H) (po (.returned none) r.2) := by
  unfold F_MText_token at hF
  refine ab_of2 (lv := [some (.ref p0), some (.int p1), some (.int p2), some (.int p3)]) 0 rfl rfl (Nat.le_of_ble_eq_true rfl) ?_
  refine ab_aload_n d_MText_token_0 rfl rfl rfl ?_
  obtain ⟨q1, hG⟩ := ck_s hF; clear hF
  obtain ⟨a2, e3, hF⟩ := rf_s hG; clear hG
  refine hp_getR (f := 3) d_MText_token_1 q1 (by decide) rfl (by decide) (k8 162 rfl rfl) rfl e3 ?_
  refine ab_aload_n d_MText_token_4 rfl rfl rfl ?_
  refine hp_getI (f := 2) d_MText_token_5 q1 (by decide) rfl (by decide) (k8 161 rfl rfl) rfl ?_
  refine ab_topi (fun x4 ex4 => ?_)
  replace hF := bnd_s ex4 hF
  refine ab_iload_n d_MText_token_8 rfl rfl ?_
  obtain ⟨n5, q6, hG⟩ := ar_s hF; clear hF
  obtain ⟨q7, hF⟩ := ck_s hG; clear hG
  refine hp_iast d_MText_token_9 tI q6 q7 ?_
  refine hp_gen (fun H8 eH8 => ?_)
  replace hF := bnd_s eH8 hF
  have s_1 : Sa H H8 := by rw [eH8]; exact Sa.rf _
  refine ab_aload_n d_MText_token_10 rfl rfl rfl ?_
  obtain ⟨a9, e10, hG⟩ := rf_s hF; clear hF
  refine hp_getR (f := 4) d_MText_token_11 (by rw [(s_1).1]; exact q1) (by decide) rfl (by decide) (k8 164 rfl rfl) rfl e10 ?_
  refine ab_aload_n d_MText_token_14 rfl rfl rfl ?_
  refine hp_getI (f := 2) d_MText_token_15 (by rw [(s_1).1]; exact q1) (by decide) rfl (by decide) (k8 161 rfl rfl) rfl ?_
  refine ab_topi (fun x11 ex11 => ?_)
  replace hG := bnd_s ex11 hG
  refine ab_iload_n d_MText_token_18 rfl rfl ?_
  obtain ⟨n12, q13, hF⟩ := ar_s hG; clear hG
  rw [(s_1).1] at q13
  obtain ⟨q14, hG⟩ := ck_s hF; clear hF
  refine hp_iast d_MText_token_19 tI (by rw [(s_1).1]; exact q13) q14 ?_
  refine hp_gen (fun H15 eH15 => ?_)
  replace hG := bnd_s eH15 hG
  have s_2 : Sa H H15 := by rw [eH15]; exact s_1
  refine ab_aload_n d_MText_token_20 rfl rfl rfl ?_
  obtain ⟨a16, e17, hF⟩ := rf_s hG; clear hG
  refine hp_getR (f := 5) d_MText_token_21 (by rw [(s_2).1]; exact q1) (by decide) rfl (by decide) (k8 165 rfl rfl) rfl e17 ?_
  refine ab_aload_n d_MText_token_24 rfl rfl rfl ?_
  refine hp_getI (f := 2) d_MText_token_25 (by rw [(s_2).1]; exact q1) (by decide) rfl (by decide) (k8 161 rfl rfl) rfl ?_
  refine ab_topi (fun x18 ex18 => ?_)
  replace hF := bnd_s ex18 hF
  refine ab_iload_n d_MText_token_28 rfl rfl ?_
  refine ab_iload_n d_MText_token_29 rfl rfl ?_
  refine ab_isub d_MText_token_30 ?_
  obtain ⟨n19, q20, hG⟩ := ar_s hF; clear hF
  rw [(s_2).1] at q20
  obtain ⟨q21, hF⟩ := ck_s hG; clear hG
  refine hp_iast d_MText_token_31 tI (by rw [(s_2).1]; exact q20) q21 ?_
  refine hp_gen (fun H22 eH22 => ?_)
  replace hF := bnd_s eH22 hF
  have s_3 : Sa H H22 := by rw [eH22]; exact s_2
  refine ab_aload_n d_MText_token_32 rfl rfl rfl ?_
  obtain ⟨a23, e24, hG⟩ := rf_s hF; clear hF
  refine hp_getR (f := 7) d_MText_token_33 (by rw [(s_3).1]; exact q1) (by decide) rfl (by decide) (k8 168 rfl rfl) rfl e24 ?_
  refine ab_aload_n d_MText_token_36 rfl rfl rfl ?_
  refine hp_getI (f := 2) d_MText_token_37 (by rw [(s_3).1]; exact q1) (by decide) rfl (by decide) (k8 161 rfl rfl) rfl ?_
  refine ab_topi (fun x25 ex25 => ?_)
  replace hG := bnd_s ex25 hG
  refine ab_iconst (v := 0) d_MText_token_40 (by decide) ?_
  obtain ⟨n26, q27, hF⟩ := ar_s hG; clear hG
  rw [(s_3).1] at q27
  obtain ⟨q28, hG⟩ := ck_s hF; clear hF
  refine hp_zast d_MText_token_41 tZ (by rw [(s_3).1]; exact q27) q28 ?_
  refine hp_gen (fun H29 eH29 => ?_)
  replace hG := bnd_s eH29 hG
  have s_4 : Sa H H29 := by rw [eH29]; exact s_3
  refine ab_aload_n d_MText_token_42 rfl rfl rfl ?_
  obtain ⟨a30, e31, hF⟩ := rf_s hG; clear hG
  refine hp_getR (f := 8) d_MText_token_43 (by rw [(s_4).1]; exact q1) (by decide) rfl (by decide) (k8 169 rfl rfl) rfl e31 ?_
  refine ab_aload_n d_MText_token_46 rfl rfl rfl ?_
  refine hp_getI (f := 2) d_MText_token_47 (by rw [(s_4).1]; exact q1) (by decide) rfl (by decide) (k8 161 rfl rfl) rfl ?_
  refine ab_topi (fun x32 ex32 => ?_)
  replace hF := bnd_s ex32 hF
  refine ab_iconst (v := (-1)) d_MText_token_50 (by decide) ?_
  obtain ⟨n33, q34, hG⟩ := ar_s hF; clear hF
  rw [(s_4).1] at q34
  obtain ⟨q35, hF⟩ := ck_s hG; clear hG
  refine hp_iast d_MText_token_51 tI (by rw [(s_4).1]; exact q34) q35 ?_
  refine hp_gen (fun H36 eH36 => ?_)
  replace hF := bnd_s eH36 hF
  have s_5 : Sa H H36 := by rw [eH36]; exact s_4
  refine ab_aload_n d_MText_token_52 rfl rfl rfl ?_
  refine ab_dup d_MText_token_53 rfl ?_
  refine hp_getI (f := 2) d_MText_token_54 (by rw [(s_5).1]; exact q1) (by decide) rfl (by decide) (k8 161 rfl rfl) rfl ?_
  refine ab_topi (fun x37 ex37 => ?_)
  replace hF := bnd_s ex37 hF
  refine ab_iconst (v := 1) d_MText_token_57 (by decide) ?_
  refine ab_iadd d_MText_token_58 ?_
  refine hp_putI (v := x37 + (1 : Int32)) (f := 2) d_MText_token_59 (by rw [(s_5).1]; exact q1) (by decide) rfl (by decide) (k8 161 rfl rfl) rfl rfl (fun _ => rfl) (fun _ => rfl) rfl ?_
  refine hp_gen (fun H38 eH38 => ?_)
  replace hF := bnd_s eH38 hF
  have s_6 : Sa H H38 := by rw [eH38]; exact s_5
  exact ab_vret d_MText_token_62 rfl (Nat.le_refl _) (Nat.le_refl _) (by have hr := Option.some.inj hF; subst hr; exact ⟨rfl, rfl⟩)
def y_MText_isLetter : ab_Y := (⟨"WorldEngineModel$Text", "isLetter", "(I)Z"⟩, prog_16_method_3_code, 1, (some FieldType.boolean), [])
theorem d_MText_isLetter_0 : decode y_MText_isLetter.2.1 0 = .ok (.iload_n 0, 1) := by decide +kernel
theorem d_MText_isLetter_1 : decode y_MText_isLetter.2.1 1 = .ok (.bipush 97, 2) := by decide +kernel
theorem d_MText_isLetter_3 : decode y_MText_isLetter.2.1 3 = .ok (.if_icmp .lt 9, 3) := by decide +kernel
theorem d_MText_isLetter_6 : decode y_MText_isLetter.2.1 6 = .ok (.iload_n 0, 1) := by decide +kernel
theorem d_MText_isLetter_7 : decode y_MText_isLetter.2.1 7 = .ok (.bipush 122, 2) := by decide +kernel
theorem d_MText_isLetter_9 : decode y_MText_isLetter.2.1 9 = .ok (.if_icmp .le 15, 3) := by decide +kernel
theorem d_MText_isLetter_12 : decode y_MText_isLetter.2.1 12 = .ok (.iload_n 0, 1) := by decide +kernel
theorem d_MText_isLetter_13 : decode y_MText_isLetter.2.1 13 = .ok (.bipush 65, 2) := by decide +kernel
theorem d_MText_isLetter_15 : decode y_MText_isLetter.2.1 15 = .ok (.if_icmp .lt 13, 3) := by decide +kernel
theorem d_MText_isLetter_18 : decode y_MText_isLetter.2.1 18 = .ok (.iload_n 0, 1) := by decide +kernel
theorem d_MText_isLetter_19 : decode y_MText_isLetter.2.1 19 = .ok (.bipush 90, 2) := by decide +kernel
theorem d_MText_isLetter_21 : decode y_MText_isLetter.2.1 21 = .ok (.if_icmp .gt 7, 3) := by decide +kernel
theorem d_MText_isLetter_24 : decode y_MText_isLetter.2.1 24 = .ok (.iconst 1, 1) := by decide +kernel
theorem d_MText_isLetter_25 : decode y_MText_isLetter.2.1 25 = .ok (.goto 4, 3) := by decide +kernel
theorem d_MText_isLetter_28 : decode y_MText_isLetter.2.1 28 = .ok (.iconst 0, 1) := by decide +kernel
theorem d_MText_isLetter_29 : decode y_MText_isLetter.2.1 29 = .ok (.ireturn, 1) := by decide +kernel
theorem s_MText_isLetter : ab_Stat y_MText_isLetter 1 := ⟨(k10 126 rfl rfl), (k1 20 rfl rfl), ⟨by decide, by decide⟩, by decide +kernel⟩
theorem t_MText_isLetter : Cond.static y_MText_isLetter.1 ∈ ab_T := (k10 125 rfl rfl)
def B_MText_isLetter_24 (N : Nat) (p0 : Int32)  (H : Hp) : Option (Int32 × Hp) :=
    some (1, H)
set_option maxRecDepth 20000 in
set_option maxHeartbeats 2000000 in
theorem mB_MText_isLetter_24 {N : Nat} {p0 : Int32}  {H : Hp} {r : Int32 × Hp} (hF : B_MText_isLetter_24 N p0  H = some r) : Sa H r.2 := by
  unfold B_MText_isLetter_24 at hF
  have hm := Sa.rf H
  have hr := Option.some.inj hF; subst hr
  exact hm
set_option maxRecDepth 20000 in
set_option maxHeartbeats 2000000 in
theorem kB_MText_isLetter_24 {N : Nat} {p0 : Int32}  {H : Hp} {r : Int32 × Hp} (hF : B_MText_isLetter_24 N p0  H = some r) : ab_V y_MText_isLetter { frames := 0, cells := 0, slots := 0, locals := 0 } (po (.returned (some (.int r.1))) r.2) 0 0 0 0 24 [some (.int p0)] [] (hpw H) := by
  unfold B_MText_isLetter_24 at hF
  refine ab_iconst (v := 1) d_MText_isLetter_24 (by decide) ?_
  refine ab_goto (tgt := 29) d_MText_isLetter_25 (by decide) ?_
  exact ab_zret d_MText_isLetter_29 rfl rfl (Nat.le_refl _) (Nat.le_refl _) (by have hr := Option.some.inj hF; subst hr; exact ⟨rfl, rfl⟩)
def B_MText_isLetter_12 (N : Nat) (p0 : Int32)  (H : Hp) : Option (Int32 × Hp) :=
    if p0 < (65 : Int32) then
    some (0, H)
    else
    if (90 : Int32) < p0 then
    some (0, H)
    else
    B_MText_isLetter_24 N p0  H
set_option maxRecDepth 20000 in
set_option maxHeartbeats 2000000 in
theorem mB_MText_isLetter_12 {N : Nat} {p0 : Int32}  {H : Hp} {r : Int32 × Hp} (hF : B_MText_isLetter_12 N p0  H = some r) : Sa H r.2 := by
  unfold B_MText_isLetter_12 at hF
  have hm := Sa.rf H
  rcases ite_s hF with ⟨q_1, hG⟩ | ⟨q_1, hG⟩
  · clear hF
    have hr := Option.some.inj hG; subst hr
    exact hm
  · clear hF
    rcases ite_s hG with ⟨q_2, hF⟩ | ⟨q_2, hF⟩
    · clear hG
      have hr := Option.some.inj hF; subst hr
      exact hm
    · clear hG
      exact hm.tr (mB_MText_isLetter_24 hF)
set_option maxRecDepth 20000 in
set_option maxHeartbeats 2000000 in
theorem kB_MText_isLetter_12 {N : Nat} {p0 : Int32}  {H : Hp} {r : Int32 × Hp} (hF : B_MText_isLetter_12 N p0  H = some r) : ab_V y_MText_isLetter { frames := 0, cells := 0, slots := 0, locals := 0 } (po (.returned (some (.int r.1))) r.2) 0 0 0 0 12 [some (.int p0)] [] (hpw H) := by
  unfold B_MText_isLetter_12 at hF
  refine ab_iload_n d_MText_isLetter_12 rfl rfl ?_
  refine ab_bipush (v := 65) d_MText_isLetter_13 (by decide) ?_
  refine ab_icmp_lt (tgt := 28) d_MText_isLetter_15 (by decide) (fun q2 => ?_) (fun q2 => ?_)
  · rw [if_pos q2] at hF
    refine ab_iconst (v := 0) d_MText_isLetter_28 (by decide) ?_
    exact ab_zret d_MText_isLetter_29 rfl rfl (Nat.le_refl _) (Nat.le_refl _) (by have hr := Option.some.inj hF; subst hr; exact ⟨rfl, rfl⟩)
  · rw [if_neg q2] at hF
    refine ab_iload_n d_MText_isLetter_18 rfl rfl ?_
    refine ab_bipush (v := 90) d_MText_isLetter_19 (by decide) ?_
    refine ab_icmp_gt (tgt := 28) d_MText_isLetter_21 (by decide) (fun q3 => ?_) (fun q3 => ?_)
    · rw [if_pos q3] at hF
      refine ab_iconst (v := 0) d_MText_isLetter_28 (by decide) ?_
      exact ab_zret d_MText_isLetter_29 rfl rfl (Nat.le_refl _) (Nat.le_refl _) (by have hr := Option.some.inj hF; subst hr; exact ⟨rfl, rfl⟩)
    · rw [if_neg q3] at hF
      exact kB_MText_isLetter_24 hF
def F_MText_isLetter (N : Nat) (p0 : Int32) (H : Hp) : Option (Int32 × Hp) :=
    if p0 < (97 : Int32) then
    B_MText_isLetter_12 N p0  H
    else
    if p0 ≤ (122 : Int32) then
    B_MText_isLetter_24 N p0  H
    else
    B_MText_isLetter_12 N p0  H
set_option maxRecDepth 20000 in
set_option maxHeartbeats 2000000 in
theorem m_MText_isLetter {N : Nat} {p0 : Int32} {H : Hp} {r : Int32 × Hp} (hF : F_MText_isLetter N p0 H = some r) : Sa H r.2 := by
  unfold F_MText_isLetter at hF
  have hm := Sa.rf H
  rcases ite_s hF with ⟨q_3, hG⟩ | ⟨q_3, hG⟩
  · clear hF
    exact hm.tr (mB_MText_isLetter_12 hG)
  · clear hF
    rcases ite_s hG with ⟨q_4, hF⟩ | ⟨q_4, hF⟩
    · clear hG
      exact hm.tr (mB_MText_isLetter_24 hF)
    · clear hG
      exact hm.tr (mB_MText_isLetter_12 hF)
set_option maxRecDepth 20000 in
set_option maxHeartbeats 2000000 in
theorem k_MText_isLetter {N : Nat} {p0 : Int32} {H : Hp} {r : Int32 × Hp} (hF : F_MText_isLetter N p0 H = some r) : ab_M y_MText_isLetter { frames := 0, cells := 0, slots := 0, locals := 0 } [.int p0] (hpw H) (po (.returned (some (.int r.1))) r.2) := by
  unfold F_MText_isLetter at hF
  refine ab_of2 (lv := [some (.int p0)]) 0 rfl rfl (Nat.le_of_ble_eq_true rfl) ?_
  refine ab_iload_n d_MText_isLetter_0 rfl rfl ?_
  refine ab_bipush (v := 97) d_MText_isLetter_1 (by decide) ?_
  refine ab_icmp_lt (tgt := 12) d_MText_isLetter_3 (by decide) (fun q1 => ?_) (fun q1 => ?_)
  · rw [if_pos q1] at hF
    exact kB_MText_isLetter_12 hF
  · rw [if_neg q1] at hF
    refine ab_iload_n d_MText_isLetter_6 rfl rfl ?_
    refine ab_bipush (v := 122) d_MText_isLetter_7 (by decide) ?_
    refine ab_icmp_le (tgt := 24) d_MText_isLetter_9 (by decide) (fun q6 => ?_) (fun q6 => ?_)
    · rw [if_pos q6] at hF
      exact kB_MText_isLetter_24 hF
    · rw [if_neg q6] at hF
      exact kB_MText_isLetter_12 hF
def y_MText_isDigit : ab_Y := (⟨"WorldEngineModel$Text", "isDigit", "(I)Z"⟩, prog_16_method_2_code, 1, (some FieldType.boolean), [])
theorem d_MText_isDigit_0 : decode y_MText_isDigit.2.1 0 = .ok (.iload_n 0, 1) := by decide +kernel
theorem d_MText_isDigit_1 : decode y_MText_isDigit.2.1 1 = .ok (.bipush 48, 2) := by decide +kernel
theorem d_MText_isDigit_3 : decode y_MText_isDigit.2.1 3 = .ok (.if_icmp .lt 13, 3) := by decide +kernel
theorem d_MText_isDigit_6 : decode y_MText_isDigit.2.1 6 = .ok (.iload_n 0, 1) := by decide +kernel
theorem d_MText_isDigit_7 : decode y_MText_isDigit.2.1 7 = .ok (.bipush 57, 2) := by decide +kernel
theorem d_MText_isDigit_9 : decode y_MText_isDigit.2.1 9 = .ok (.if_icmp .gt 7, 3) := by decide +kernel
theorem d_MText_isDigit_12 : decode y_MText_isDigit.2.1 12 = .ok (.iconst 1, 1) := by decide +kernel
theorem d_MText_isDigit_13 : decode y_MText_isDigit.2.1 13 = .ok (.goto 4, 3) := by decide +kernel
theorem d_MText_isDigit_16 : decode y_MText_isDigit.2.1 16 = .ok (.iconst 0, 1) := by decide +kernel
theorem d_MText_isDigit_17 : decode y_MText_isDigit.2.1 17 = .ok (.ireturn, 1) := by decide +kernel
theorem s_MText_isDigit : ab_Stat y_MText_isDigit 1 := ⟨(k10 133 rfl rfl), (k1 20 rfl rfl), ⟨by decide, by decide⟩, by decide +kernel⟩
theorem t_MText_isDigit : Cond.static y_MText_isDigit.1 ∈ ab_T := (k10 132 rfl rfl)
def F_MText_isDigit (N : Nat) (p0 : Int32) (H : Hp) : Option (Int32 × Hp) :=
    if p0 < (48 : Int32) then
    some (0, H)
    else
    if (57 : Int32) < p0 then
    some (0, H)
    else
    some (1, H)
set_option maxRecDepth 20000 in
set_option maxHeartbeats 2000000 in
theorem m_MText_isDigit {N : Nat} {p0 : Int32} {H : Hp} {r : Int32 × Hp} (hF : F_MText_isDigit N p0 H = some r) : Sa H r.2 := by
  unfold F_MText_isDigit at hF
  have hm := Sa.rf H
  rcases ite_s hF with ⟨q_1, hG⟩ | ⟨q_1, hG⟩
  · clear hF
    have hr := Option.some.inj hG; subst hr
    exact hm
  · clear hF
    rcases ite_s hG with ⟨q_2, hF⟩ | ⟨q_2, hF⟩
    · clear hG
      have hr := Option.some.inj hF; subst hr
      exact hm
    · clear hG
      have hr := Option.some.inj hF; subst hr
      exact hm
set_option maxRecDepth 20000 in
set_option maxHeartbeats 2000000 in
theorem k_MText_isDigit {N : Nat} {p0 : Int32} {H : Hp} {r : Int32 × Hp} (hF : F_MText_isDigit N p0 H = some r) : ab_M y_MText_isDigit { frames := 0, cells := 0, slots := 0, locals := 0 } [.int p0] (hpw H) (po (.returned (some (.int r.1))) r.2) := by
  unfold F_MText_isDigit at hF
  refine ab_of2 (lv := [some (.int p0)]) 0 rfl rfl (Nat.le_of_ble_eq_true rfl) ?_
  refine ab_iload_n d_MText_isDigit_0 rfl rfl ?_
  refine ab_bipush (v := 48) d_MText_isDigit_1 (by decide) ?_
  refine ab_icmp_lt (tgt := 16) d_MText_isDigit_3 (by decide) (fun q1 => ?_) (fun q1 => ?_)
  · rw [if_pos q1] at hF
    refine ab_iconst (v := 0) d_MText_isDigit_16 (by decide) ?_
    exact ab_zret d_MText_isDigit_17 rfl rfl (Nat.le_refl _) (Nat.le_refl _) (by have hr := Option.some.inj hF; subst hr; exact ⟨rfl, rfl⟩)
  · rw [if_neg q1] at hF
    refine ab_iload_n d_MText_isDigit_6 rfl rfl ?_
    refine ab_bipush (v := 57) d_MText_isDigit_7 (by decide) ?_
    refine ab_icmp_gt (tgt := 16) d_MText_isDigit_9 (by decide) (fun q2 => ?_) (fun q2 => ?_)
    · rw [if_pos q2] at hF
      refine ab_iconst (v := 0) d_MText_isDigit_16 (by decide) ?_
      exact ab_zret d_MText_isDigit_17 rfl rfl (Nat.le_refl _) (Nat.le_refl _) (by have hr := Option.some.inj hF; subst hr; exact ⟨rfl, rfl⟩)
    · rw [if_neg q2] at hF
      refine ab_iconst (v := 1) d_MText_isDigit_12 (by decide) ?_
      refine ab_goto (tgt := 17) d_MText_isDigit_13 (by decide) ?_
      exact ab_zret d_MText_isDigit_17 rfl rfl (Nat.le_refl _) (Nat.le_refl _) (by have hr := Option.some.inj hF; subst hr; exact ⟨rfl, rfl⟩)
