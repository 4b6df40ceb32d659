def y_MText_isSame : ab_Y := (⟨"WorldEngineModel$Text", "isSame", "(ILWorldEngineModel$Text;I)Z"⟩, prog_16_method_11_code, 6, (some FieldType.boolean), [])
theorem d_MText_isSame_0 : decode y_MText_isSame.2.1 0 = .ok (.aload_n 0, 1) := by decide +kernel
theorem d_MText_isSame_1 : decode y_MText_isSame.2.1 1 = .ok (.getfield 22, 3) := by decide +kernel
theorem d_MText_isSame_4 : decode y_MText_isSame.2.1 4 = .ok (.iload_n 1, 1) := by decide +kernel
theorem d_MText_isSame_5 : decode y_MText_isSame.2.1 5 = .ok (.iaload, 1) := by decide +kernel
theorem d_MText_isSame_6 : decode y_MText_isSame.2.1 6 = .ok (.aload_n 2, 1) := by decide +kernel
theorem d_MText_isSame_7 : decode y_MText_isSame.2.1 7 = .ok (.getfield 22, 3) := by decide +kernel
theorem d_MText_isSame_10 : decode y_MText_isSame.2.1 10 = .ok (.iload_n 3, 1) := by decide +kernel
theorem d_MText_isSame_11 : decode y_MText_isSame.2.1 11 = .ok (.iaload, 1) := by decide +kernel
theorem d_MText_isSame_12 : decode y_MText_isSame.2.1 12 = .ok (.if_icmp .ne 7, 3) := by decide +kernel
theorem d_MText_isSame_15 : decode y_MText_isSame.2.1 15 = .ok (.iconst 1, 1) := by decide +kernel
theorem d_MText_isSame_16 : decode y_MText_isSame.2.1 16 = .ok (.goto 4, 3) := by decide +kernel
theorem d_MText_isSame_19 : decode y_MText_isSame.2.1 19 = .ok (.iconst 0, 1) := by decide +kernel
theorem d_MText_isSame_20 : decode y_MText_isSame.2.1 20 = .ok (.istore 4, 2) := by decide +kernel
theorem d_MText_isSame_22 : decode y_MText_isSame.2.1 22 = .ok (.iconst 0, 1) := by decide +kernel
theorem d_MText_isSame_23 : decode y_MText_isSame.2.1 23 = .ok (.istore 5, 2) := by decide +kernel
theorem d_MText_isSame_25 : decode y_MText_isSame.2.1 25 = .ok (.iload 5, 2) := by decide +kernel
theorem d_MText_isSame_27 : decode y_MText_isSame.2.1 27 = .ok (.aload_n 0, 1) := by decide +kernel
theorem d_MText_isSame_28 : decode y_MText_isSame.2.1 28 = .ok (.getfield 22, 3) := by decide +kernel
theorem d_MText_isSame_31 : decode y_MText_isSame.2.1 31 = .ok (.iload_n 1, 1) := by decide +kernel
theorem d_MText_isSame_32 : decode y_MText_isSame.2.1 32 = .ok (.iaload, 1) := by decide +kernel
theorem d_MText_isSame_33 : decode y_MText_isSame.2.1 33 = .ok (.if_icmp .ge 52, 3) := by decide +kernel
theorem d_MText_isSame_36 : decode y_MText_isSame.2.1 36 = .ok (.iload 4, 2) := by decide +kernel
theorem d_MText_isSame_38 : decode y_MText_isSame.2.1 38 = .ok (.ifCond .eq 47, 3) := by decide +kernel
theorem d_MText_isSame_41 : decode y_MText_isSame.2.1 41 = .ok (.aload_n 0, 1) := by decide +kernel
theorem d_MText_isSame_42 : decode y_MText_isSame.2.1 42 = .ok (.getfield 11, 3) := by decide +kernel
theorem d_MText_isSame_45 : decode y_MText_isSame.2.1 45 = .ok (.aload_n 0, 1) := by decide +kernel
theorem d_MText_isSame_46 : decode y_MText_isSame.2.1 46 = .ok (.getfield 19, 3) := by decide +kernel
theorem d_MText_isSame_49 : decode y_MText_isSame.2.1 49 = .ok (.iload_n 1, 1) := by decide +kernel
theorem d_MText_isSame_50 : decode y_MText_isSame.2.1 50 = .ok (.iaload, 1) := by decide +kernel
theorem d_MText_isSame_51 : decode y_MText_isSame.2.1 51 = .ok (.iload 5, 2) := by decide +kernel
theorem d_MText_isSame_53 : decode y_MText_isSame.2.1 53 = .ok (.iadd, 1) := by decide +kernel
theorem d_MText_isSame_54 : decode y_MText_isSame.2.1 54 = .ok (.baload, 1) := by decide +kernel
theorem d_MText_isSame_55 : decode y_MText_isSame.2.1 55 = .ok (.aload_n 2, 1) := by decide +kernel
theorem d_MText_isSame_56 : decode y_MText_isSame.2.1 56 = .ok (.getfield 11, 3) := by decide +kernel
theorem d_MText_isSame_59 : decode y_MText_isSame.2.1 59 = .ok (.aload_n 2, 1) := by decide +kernel
theorem d_MText_isSame_60 : decode y_MText_isSame.2.1 60 = .ok (.getfield 19, 3) := by decide +kernel
theorem d_MText_isSame_63 : decode y_MText_isSame.2.1 63 = .ok (.iload_n 3, 1) := by decide +kernel
theorem d_MText_isSame_64 : decode y_MText_isSame.2.1 64 = .ok (.iaload, 1) := by decide +kernel
theorem d_MText_isSame_65 : decode y_MText_isSame.2.1 65 = .ok (.iload 5, 2) := by decide +kernel
theorem d_MText_isSame_67 : decode y_MText_isSame.2.1 67 = .ok (.iadd, 1) := by decide +kernel
theorem d_MText_isSame_68 : decode y_MText_isSame.2.1 68 = .ok (.baload, 1) := by decide +kernel
theorem d_MText_isSame_69 : decode y_MText_isSame.2.1 69 = .ok (.if_icmp .ne 7, 3) := by decide +kernel
theorem d_MText_isSame_72 : decode y_MText_isSame.2.1 72 = .ok (.iconst 1, 1) := by decide +kernel
theorem d_MText_isSame_73 : decode y_MText_isSame.2.1 73 = .ok (.goto 4, 3) := by decide +kernel
theorem d_MText_isSame_76 : decode y_MText_isSame.2.1 76 = .ok (.iconst 0, 1) := by decide +kernel
theorem d_MText_isSame_77 : decode y_MText_isSame.2.1 77 = .ok (.istore 4, 2) := by decide +kernel
theorem d_MText_isSame_79 : decode y_MText_isSame.2.1 79 = .ok (.iinc 5 1, 3) := by decide +kernel
theorem d_MText_isSame_82 : decode y_MText_isSame.2.1 82 = .ok (.goto (-57), 3) := by decide +kernel
theorem d_MText_isSame_85 : decode y_MText_isSame.2.1 85 = .ok (.iload 4, 2) := by decide +kernel
theorem d_MText_isSame_87 : decode y_MText_isSame.2.1 87 = .ok (.ireturn, 1) := by decide +kernel
theorem s_MText_isSame : ab_Stat y_MText_isSame 3 := ⟨(k10 191 rfl rfl), (k1 20 rfl rfl), ⟨by decide, by decide⟩, by decide +kernel⟩
theorem i_MText_isSame : Cond.instanceMethod y_MText_isSame.1 ∈ ab_T := (k10 190 rfl rfl)
theorem v_MText_isSame : Cond.selects "WorldEngineModel$Text" y_MText_isSame.1 y_MText_isSame.1 ∈ ab_T := ab_s (List.mem_of_getElem? (i := 123) rfl) rfl
def B_MText_isSame_77 (N : Nat) (p0 : Nat) (p1 : Int32) (p2 : Nat) (p3 : Int32) (kq25 : Int32 → Int32 → Hp → Option (Int32 × Hp)) (l5 : Int32) (w0 : Int32) (H : Hp) : Option (Int32 × Hp) :=
    kq25 w0 (l5 + 1) H
set_option maxRecDepth 20000 in
set_option maxHeartbeats 2000000 in
theorem mB_MText_isSame_77 {N : Nat} {p0 : Nat} {p1 : Int32} {p2 : Nat} {p3 : Int32} {kq25 : Int32 → Int32 → Hp → Option (Int32 × Hp)} (hm25 : ∀ (l4 : Int32) (l5 : Int32) (H : Hp) (r : Int32 × Hp), kq25 l4 l5 H = some r → Sa H r.2) {l5 : Int32} {w0 : Int32} {H : Hp} {r : Int32 × Hp} (hF : B_MText_isSame_77 N p0 p1 p2 p3 kq25 l5 w0 H = some r) : Sa H r.2 := by
  unfold B_MText_isSame_77 at hF
  have hm := Sa.rf H
  exact hm.tr (hm25 w0 (l5 + 1) H r hF)
set_option maxRecDepth 20000 in
set_option maxHeartbeats 2000000 in
theorem kB_MText_isSame_77 {N : Nat} {p0 : Nat} {p1 : Int32} {p2 : Nat} {p3 : Int32} {kq25 : Int32 → Int32 → Hp → Option (Int32 × Hp)} (hm25 : ∀ (l4 : Int32) (l5 : Int32) (H : Hp) (r : Int32 × Hp), kq25 l4 l5 H = some r → Sa H r.2) (hk25 : ∀ (l4 : Int32) (l5 : Int32) (H : Hp) (r : Int32 × Hp), kq25 l4 l5 H = some r → ab_V y_MText_isSame { frames := 0, cells := 0, slots := 0, locals := 0 } (po (.returned (some (.int r.1))) r.2) 0 0 0 0 25 [some (.ref p0), some (.int p1), some (.ref p2), some (.int p3), some (.int l4), some (.int l5)] [] (hpw H)) {l5 : Int32} {w0 : Int32} {H : Hp} {r : Int32 × Hp} (hF : B_MText_isSame_77 N p0 p1 p2 p3 kq25 l5 w0 H = some r) : ab_V y_MText_isSame { frames := 0, cells := 0, slots := 0, locals := 0 } (po (.returned (some (.int r.1))) r.2) 0 0 0 0 77 [some (.ref p0), some (.int p1), some (.ref p2), some (.int p3), none, some (.int l5)] [.int w0] (hpw H) := by
  unfold B_MText_isSame_77 at hF
  refine ab_istore (lv' := [some (.ref p0), some (.int p1), some (.ref p2), some (.int p3), some (.int w0), some (.int l5)]) d_MText_isSame_77 (by decide) rfl ?_
  refine ab_iinc (v := l5 + 1) (lv' := [some (.ref p0), some (.int p1), some (.ref p2), some (.int p3), some (.int w0), some (.int (l5 + 1))]) d_MText_isSame_79 rfl rfl (by decide) rfl ?_
  refine ab_goto (tgt := 25) d_MText_isSame_82 (by decide) ?_
  exact hk25 w0 (l5 + 1) H r hF
def B_MText_isSame_25 (N : Nat) (p0 : Nat) (p1 : Int32) (p2 : Nat) (p3 : Int32) : Nat → Int32 → Int32 → Hp → Option (Int32 × Hp)
  | 0, _, _, _ => none
  | n + 1, l4, l5, H =>
    ck (H.sh[p0]? = some (14, 0)) <|
    rf (H.P p0 5) fun a17 =>
    ar H 100 a17 fun n19 =>
    ck (inb p1 n19) <|
    bnd ((H.D a17 (p1).toNatClampNeg)) fun x22 =>
    if x22 ≤ l5 then
    ck (l4 &&& 1 = l4) <|
    some (l4, H)
    else
    if l4 = (0 : Int32) then
    ck (l4 &&& 1 = l4) <|
    some (l4, H)
    else
    rf (H.P p0 0) fun a27 =>
    rf (H.P p0 4) fun a29 =>
    ar H 100 a29 fun n31 =>
    ck (inb p1 n31) <|
    bnd ((H.D a29 (p1).toNatClampNeg)) fun x34 =>
    ar H 101 a27 fun n35 =>
    ck (inb (x34 + l5) n35) <|
    bnd ((H.D a27 ((x34 + l5)).toNatClampNeg)) fun x38 =>
    ck (H.sh[p2]? = some (14, 0)) <|
    rf (H.P p2 0) fun a40 =>
    rf (H.P p2 4) fun a42 =>
    ar H 100 a42 fun n44 =>
    ck (inb p3 n44) <|
    bnd ((H.D a42 (p3).toNatClampNeg)) fun x47 =>
    ar H 101 a40 fun n48 =>
    ck (inb (x47 + l5) n48) <|
    bnd ((H.D a40 ((x47 + l5)).toNatClampNeg)) fun x51 =>
    if x38 = x51 then
    B_MText_isSame_77 N p0 p1 p2 p3 (fun l4 l5 H => B_MText_isSame_25 N p0 p1 p2 p3 n l4 l5 H) l5 1 H
    else
    B_MText_isSame_77 N p0 p1 p2 p3 (fun l4 l5 H => B_MText_isSame_25 N p0 p1 p2 p3 n l4 l5 H) l5 0 H
termination_by structural n => n
set_option maxRecDepth 20000 in
set_option maxHeartbeats 2000000 in
theorem mB_MText_isSame_25 {N : Nat} {p0 : Nat} {p1 : Int32} {p2 : Nat} {p3 : Int32} : ∀ (n : Nat) (l4 : Int32) (l5 : Int32) (H : Hp) (r : Int32 × Hp), B_MText_isSame_25 N p0 p1 p2 p3 n l4 l5 H = some r → Sa H r.2 := by
  intro n
  induction n with
  | zero => intro l4 l5 H r hF; rw [B_MText_isSame_25] at hF; cases hF
  | succ n ih =>
    intro l4 l5 H r hF
    rw [B_MText_isSame_25] at hF
    have hm := Sa.rf H
    obtain ⟨q53, hG⟩ := ck_s hF; clear hF
    obtain ⟨a54, e55, hF⟩ := rf_s hG; clear hG
    obtain ⟨n56, q57, hG⟩ := ar_s hF; clear hF
    obtain ⟨q58, hF⟩ := ck_s hG; clear hG
    obtain ⟨x59, -, hG⟩ := bnd_g hF; clear hF
    rcases ite_s hG with ⟨q_1, hF⟩ | ⟨q_1, hF⟩
    · clear hG
      obtain ⟨q61, hG⟩ := ck_s hF; clear hF
      have hr := Option.some.inj hG; subst hr
      exact hm
    · clear hG
      rcases ite_s hF with ⟨q_2, hG⟩ | ⟨q_2, hG⟩
      · clear hF
        obtain ⟨q63, hF⟩ := ck_s hG; clear hG
        have hr := Option.some.inj hF; subst hr
        exact hm
      · clear hF
        obtain ⟨a64, e65, hF⟩ := rf_s hG; clear hG
        obtain ⟨a66, e67, hG⟩ := rf_s hF; clear hF
        obtain ⟨n68, q69, hF⟩ := ar_s hG; clear hG
        obtain ⟨q70, hG⟩ := ck_s hF; clear hF
        obtain ⟨x71, -, hF⟩ := bnd_g hG; clear hG
        obtain ⟨n72, q73, hG⟩ := ar_s hF; clear hF
        obtain ⟨q74, hF⟩ := ck_s hG; clear hG
        obtain ⟨x75, -, hG⟩ := bnd_g hF; clear hF
        obtain ⟨q76, hF⟩ := ck_s hG; clear hG
        obtain ⟨a77, e78, hG⟩ := rf_s hF; clear hF
        obtain ⟨a79, e80, hF⟩ := rf_s hG; clear hG
        obtain ⟨n81, q82, hG⟩ := ar_s hF; clear hF
        obtain ⟨q83, hF⟩ := ck_s hG; clear hG
        obtain ⟨x84, -, hG⟩ := bnd_g hF; clear hF
        obtain ⟨n85, q86, hF⟩ := ar_s hG; clear hG
        obtain ⟨q87, hG⟩ := ck_s hF; clear hF
        obtain ⟨x88, -, hF⟩ := bnd_g hG; clear hG
        rcases ite_s hF with ⟨q_3, hG⟩ | ⟨q_3, hG⟩
        · clear hF
          exact hm.tr (mB_MText_isSame_77 ih hG)
        · clear hF
          exact hm.tr (mB_MText_isSame_77 ih hG)
set_option maxRecDepth 20000 in
set_option maxHeartbeats 2000000 in
theorem kB_MText_isSame_25 {N : Nat} {p0 : Nat} {p1 : Int32} {p2 : Nat} {p3 : Int32} : ∀ (n : Nat) (l4 : Int32) (l5 : Int32) (H : Hp) (r : Int32 × Hp), B_MText_isSame_25 N p0 p1 p2 p3 n l4 l5 H = some r → ab_V y_MText_isSame { frames := 0, cells := 0, slots := 0, locals := 0 } (po (.returned (some (.int r.1))) r.2) 0 0 0 0 25 [some (.ref p0), some (.int p1), some (.ref p2), some (.int p3), some (.int l4), some (.int l5)] [] (hpw H) := by
  intro n
  induction n with
  | zero => intro l4 l5 H r hF; rw [B_MText_isSame_25] at hF; cases hF
  | succ n ih =>
    intro l4 l5 H r hF
    rw [B_MText_isSame_25] at hF
    refine ab_iload d_MText_isSame_25 rfl ?_
    refine ab_aload_n d_MText_isSame_27 rfl rfl rfl ?_
    obtain ⟨q16, hG⟩ := ck_s hF; clear hF
    obtain ⟨a17, e18, hF⟩ := rf_s hG; clear hG
    refine hp_getR (f := 5) d_MText_isSame_28 q16 (by decide) rfl (by decide) (k8 165 rfl rfl) rfl e18 ?_
    refine ab_iload_n d_MText_isSame_31 rfl rfl ?_
    obtain ⟨n19, q20, hG⟩ := ar_s hF; clear hF
    obtain ⟨q21, hF⟩ := ck_s hG; clear hG
    refine hp_iald d_MText_isSame_32 tI q20 q21 ?_
    refine ab_topi (fun x22 ex22 => ?_)
    replace hF := bnd_s ex22 hF
    refine ab_icmp_ge (tgt := 85) d_MText_isSame_33 (by decide) (fun q23 => ?_) (fun q23 => ?_)
    · rw [if_pos q23] at hF
      refine ab_iload d_MText_isSame_85 rfl ?_
      obtain ⟨q24, hG⟩ := ck_s hF; clear hF
      exact ab_zret d_MText_isSame_87 rfl (congrArg Value.int q24) (Nat.le_refl _) (Nat.le_refl _) (by have hr := Option.some.inj hG; subst hr; exact ⟨rfl, rfl⟩)
    · rw [if_neg q23] at hF
      refine ab_iload d_MText_isSame_36 rfl ?_
      refine ab_if_eq (tgt := 85) d_MText_isSame_38 (by decide) (fun q25 => ?_) (fun q25 => ?_)
      · rw [if_pos q25] at hF
        refine ab_iload d_MText_isSame_85 rfl ?_
        obtain ⟨q26, hG⟩ := ck_s hF; clear hF
        exact ab_zret d_MText_isSame_87 rfl (congrArg Value.int q26) (Nat.le_refl _) (Nat.le_refl _) (by have hr := Option.some.inj hG; subst hr; exact ⟨rfl, rfl⟩)
      · rw [if_neg q25] at hF
        refine ab_aload_n d_MText_isSame_41 rfl rfl rfl ?_
        obtain ⟨a27, e28, hG⟩ := rf_s hF; clear hF
        refine hp_getR (f := 0) d_MText_isSame_42 q16 (by decide) rfl (by decide) (k8 159 rfl rfl) rfl e28 ?_
        refine ab_aload_n d_MText_isSame_45 rfl rfl rfl ?_
        obtain ⟨a29, e30, hF⟩ := rf_s hG; clear hG
        refine hp_getR (f := 4) d_MText_isSame_46 q16 (by decide) rfl (by decide) (k8 164 rfl rfl) rfl e30 ?_
        refine ab_iload_n d_MText_isSame_49 rfl rfl ?_
        obtain ⟨n31, q32, hG⟩ := ar_s hF; clear hF
        obtain ⟨q33, hF⟩ := ck_s hG; clear hG
        refine hp_iald d_MText_isSame_50 tI q32 q33 ?_
        refine ab_topi (fun x34 ex34 => ?_)
        replace hF := bnd_s ex34 hF
        refine ab_iload d_MText_isSame_51 rfl ?_
        refine ab_iadd d_MText_isSame_53 ?_
        obtain ⟨n35, q36, hG⟩ := ar_s hF; clear hF
        obtain ⟨q37, hF⟩ := ck_s hG; clear hG
        refine hp_bald d_MText_isSame_54 tB q36 q37 ?_
        refine ab_topi (fun x38 ex38 => ?_)
        replace hF := bnd_s ex38 hF
        refine ab_aload_n d_MText_isSame_55 rfl rfl rfl ?_
        obtain ⟨q39, hG⟩ := ck_s hF; clear hF
        obtain ⟨a40, e41, hF⟩ := rf_s hG; clear hG
        refine hp_getR (f := 0) d_MText_isSame_56 q39 (by decide) rfl (by decide) (k8 159 rfl rfl) rfl e41 ?_
        refine ab_aload_n d_MText_isSame_59 rfl rfl rfl ?_
        obtain ⟨a42, e43, hG⟩ := rf_s hF; clear hF
        refine hp_getR (f := 4) d_MText_isSame_60 q39 (by decide) rfl (by decide) (k8 164 rfl rfl) rfl e43 ?_
        refine ab_iload_n d_MText_isSame_63 rfl rfl ?_
        obtain ⟨n44, q45, hF⟩ := ar_s hG; clear hG
        obtain ⟨q46, hG⟩ := ck_s hF; clear hF
        refine hp_iald d_MText_isSame_64 tI q45 q46 ?_
        refine ab_topi (fun x47 ex47 => ?_)
        replace hG := bnd_s ex47 hG
        refine ab_iload d_MText_isSame_65 rfl ?_
        refine ab_iadd d_MText_isSame_67 ?_
        obtain ⟨n48, q49, hF⟩ := ar_s hG; clear hG
        obtain ⟨q50, hG⟩ := ck_s hF; clear hF
        refine hp_bald d_MText_isSame_68 tB q49 q50 ?_
        refine ab_topi (fun x51 ex51 => ?_)
        replace hG := bnd_s ex51 hG
        refine ab_icmp_ne (tgt := 76) d_MText_isSame_69 (by decide) (fun q52 => ?_) (fun q52 => ?_)
        · rw [if_neg q52] at hG
          refine ab_iconst (v := 0) d_MText_isSame_76 (by decide) ?_
          refine ab_le (lv' := [some (.ref p0), some (.int p1), some (.ref p2), some (.int p3), none, some (.int l5)]) ⟨rfl, ⟨rfl, ⟨rfl, ⟨rfl, ⟨rfl, trivial⟩⟩⟩⟩⟩ ?_
          exact kB_MText_isSame_77 (mB_MText_isSame_25 n) ih hG
        · rw [if_pos q52] at hG
          refine ab_iconst (v := 1) d_MText_isSame_72 (by decide) ?_
          refine ab_goto (tgt := 77) d_MText_isSame_73 (by decide) ?_
          refine ab_le (lv' := [some (.ref p0), some (.int p1), some (.ref p2), some (.int p3), none, some (.int l5)]) ⟨rfl, ⟨rfl, ⟨rfl, ⟨rfl, ⟨rfl, trivial⟩⟩⟩⟩⟩ ?_
          exact kB_MText_isSame_77 (mB_MText_isSame_25 n) ih hG
def B_MText_isSame_20 (N : Nat) (p0 : Nat) (p1 : Int32) (p2 : Nat) (p3 : Int32) (w0 : Int32) (H : Hp) : Option (Int32 × Hp) :=
    B_MText_isSame_25 N p0 p1 p2 p3 N w0 0 H
set_option maxRecDepth 20000 in
set_option maxHeartbeats 2000000 in
theorem mB_MText_isSame_20 {N : Nat} {p0 : Nat} {p1 : Int32} {p2 : Nat} {p3 : Int32} {w0 : Int32} {H : Hp} {r : Int32 × Hp} (hF : B_MText_isSame_20 N p0 p1 p2 p3 w0 H = some r) : Sa H r.2 := by
  unfold B_MText_isSame_20 at hF
  have hm := Sa.rf H
  exact hm.tr (mB_MText_isSame_25 N w0 0 H r hF)
set_option maxRecDepth 20000 in
set_option maxHeartbeats 2000000 in
theorem kB_MText_isSame_20 {N : Nat} {p0 : Nat} {p1 : Int32} {p2 : Nat} {p3 : Int32} {w0 : Int32} {H : Hp} {r : Int32 × Hp} (hF : B_MText_isSame_20 N p0 p1 p2 p3 w0 H = some r) : ab_V y_MText_isSame { frames := 0, cells := 0, slots := 0, locals := 0 } (po (.returned (some (.int r.1))) r.2) 0 0 0 0 20 [some (.ref p0), some (.int p1), some (.ref p2), some (.int p3), none, none] [.int w0] (hpw H) := by
  unfold B_MText_isSame_20 at hF
  refine ab_istore (lv' := [some (.ref p0), some (.int p1), some (.ref p2), some (.int p3), some (.int w0), none]) d_MText_isSame_20 (by decide) rfl ?_
  refine ab_iconst (v := 0) d_MText_isSame_22 (by decide) ?_
  refine ab_istore (lv' := [some (.ref p0), some (.int p1), some (.ref p2), some (.int p3), some (.int w0), some (.int 0)]) d_MText_isSame_23 (by decide) rfl ?_
  exact kB_MText_isSame_25 N w0 0 H r hF
def F_MText_isSame (N : Nat) (p0 : Nat) (p1 : Int32) (p2 : Nat) (p3 : Int32) (H : Hp) : Option (Int32 × Hp) :=
    ck (H.sh[p0]? = some (14, 0)) <|
    rf (H.P p0 5) fun a2 =>
    ar H 100 a2 fun n4 =>
    ck (inb p1 n4) <|
    bnd ((H.D a2 (p1).toNatClampNeg)) fun x7 =>
    ck (H.sh[p2]? = some (14, 0)) <|
    rf (H.P p2 5) fun a9 =>
    ar H 100 a9 fun n11 =>
    ck (inb p3 n11) <|
    bnd ((H.D a9 (p3).toNatClampNeg)) fun x14 =>
    if x7 = x14 then
    B_MText_isSame_20 N p0 p1 p2 p3 1 H
    else
    B_MText_isSame_20 N p0 p1 p2 p3 0 H
set_option maxRecDepth 20000 in
set_option maxHeartbeats 2000000 in
theorem m_MText_isSame {N : Nat} {p0 : Nat} {p1 : Int32} {p2 : Nat} {p3 : Int32} {H : Hp} {r : Int32 × Hp} (hF : F_MText_isSame N p0 p1 p2 p3 H = some r) : Sa H r.2 := by
  unfold F_MText_isSame at hF
  have hm := Sa.rf H
  obtain ⟨q90, hG⟩ := ck_s hF; clear hF
  obtain ⟨a91, e92, hF⟩ := rf_s hG; clear hG
  obtain ⟨n93, q94, hG⟩ := ar_s hF; clear hF
  obtain ⟨q95, hF⟩ := ck_s hG; clear hG
  obtain ⟨x96, -, hG⟩ := bnd_g hF; clear hF
  obtain ⟨q97, hF⟩ := ck_s hG; clear hG
  obtain ⟨a98, e99, hG⟩ := rf_s hF; clear hF
  obtain ⟨n100, q101, hF⟩ := ar_s hG; clear hG
  obtain ⟨q102, hG⟩ := ck_s hF; clear hF
  obtain ⟨x103, -, hF⟩ := bnd_g hG; clear hG
  rcases ite_s hF with ⟨q_4, hG⟩ | ⟨q_4, hG⟩
  · clear hF
    exact hm.tr (mB_MText_isSame_20 hG)
  · clear hF
    exact hm.tr (mB_MText_isSame_20 hG)
set_option maxRecDepth 20000 in
set_option maxHeartbeats 2000000 in
theorem k_MText_isSame {N : Nat} {p0 : Nat} {p1 : Int32} {p2 : Nat} {p3 : Int32} {H : Hp} {r : Int32 × Hp} (hF : F_MText_isSame N p0 p1 p2 p3 H = some r) : ab_M y_MText_isSame { frames := 0, cells := 0, slots := 0, locals := 0 } [.ref p0, .int p1, .ref p2, .int p3] (hpw H) (po (.returned (some (.int r.1))) r.2) := by
  unfold F_MText_isSame at hF
  refine ab_of2 (lv := [some (.ref p0), some (.int p1), some (.ref p2), some (.int p3), none, none]) 2 rfl rfl (Nat.le_of_ble_eq_true rfl) ?_
  refine ab_aload_n d_MText_isSame_0 rfl rfl rfl ?_
  obtain ⟨q1, hG⟩ := ck_s hF; clear hF
  obtain ⟨a2, e3, hF⟩ := rf_s hG; clear hG
  refine hp_getR (f := 5) d_MText_isSame_1 q1 (by decide) rfl (by decide) (k8 165 rfl rfl) rfl e3 ?_
  refine ab_iload_n d_MText_isSame_4 rfl rfl ?_
  obtain ⟨n4, q5, hG⟩ := ar_s hF; clear hF
  obtain ⟨q6, hF⟩ := ck_s hG; clear hG
  refine hp_iald d_MText_isSame_5 tI q5 q6 ?_
  refine ab_topi (fun x7 ex7 => ?_)
  replace hF := bnd_s ex7 hF
  refine ab_aload_n d_MText_isSame_6 rfl rfl rfl ?_
  obtain ⟨q8, hG⟩ := ck_s hF; clear hF
  obtain ⟨a9, e10, hF⟩ := rf_s hG; clear hG
  refine hp_getR (f := 5) d_MText_isSame_7 q8 (by decide) rfl (by decide) (k8 165 rfl rfl) rfl e10 ?_
  refine ab_iload_n d_MText_isSame_10 rfl rfl ?_
  obtain ⟨n11, q12, hG⟩ := ar_s hF; clear hF
  obtain ⟨q13, hF⟩ := ck_s hG; clear hG
  refine hp_iald d_MText_isSame_11 tI q12 q13 ?_
  refine ab_topi (fun x14 ex14 => ?_)
  replace hF := bnd_s ex14 hF
  refine ab_icmp_ne (tgt := 19) d_MText_isSame_12 (by decide) (fun q15 => ?_) (fun q15 => ?_)
  · rw [if_neg q15] at hF
    refine ab_iconst (v := 0) d_MText_isSame_19 (by decide) ?_
    exact kB_MText_isSame_20 hF
  · rw [if_pos q15] at hF
    refine ab_iconst (v := 1) d_MText_isSame_15 (by decide) ?_
    refine ab_goto (tgt := 20) d_MText_isSame_16 (by decide) ?_
    exact kB_MText_isSame_20 hF
def y_MText_index : ab_Y := (⟨"WorldEngineModel$Text", "index", "(I)I"⟩, prog_16_method_27_code, 3, (some FieldType.int), [])
theorem d_MText_index_0 : decode y_MText_index.2.1 0 = .ok (.iconst 0, 1) := by decide +kernel
theorem d_MText_index_1 : decode y_MText_index.2.1 1 = .ok (.istore_n 2, 1) := by decide +kernel
theorem d_MText_index_2 : decode y_MText_index.2.1 2 = .ok (.iload_n 2, 1) := by decide +kernel
theorem d_MText_index_3 : decode y_MText_index.2.1 3 = .ok (.aload_n 0, 1) := by decide +kernel
theorem d_MText_index_4 : decode y_MText_index.2.1 4 = .ok (.getfield 167, 3) := by decide +kernel
theorem d_MText_index_7 : decode y_MText_index.2.1 7 = .ok (.if_icmp .ge 26, 3) := by decide +kernel
theorem d_MText_index_10 : decode y_MText_index.2.1 10 = .ok (.aload_n 0, 1) := by decide +kernel
theorem d_MText_index_11 : decode y_MText_index.2.1 11 = .ok (.aload_n 0, 1) := by decide +kernel
theorem d_MText_index_12 : decode y_MText_index.2.1 12 = .ok (.getfield 35, 3) := by decide +kernel
theorem d_MText_index_15 : decode y_MText_index.2.1 15 = .ok (.iload_n 2, 1) := by decide +kernel
theorem d_MText_index_16 : decode y_MText_index.2.1 16 = .ok (.iaload, 1) := by decide +kernel
theorem d_MText_index_17 : decode y_MText_index.2.1 17 = .ok (.aload_n 0, 1) := by decide +kernel
theorem d_MText_index_18 : decode y_MText_index.2.1 18 = .ok (.iload_n 1, 1) := by decide +kernel
theorem d_MText_index_19 : decode y_MText_index.2.1 19 = .ok (.invokevirtual 170, 3) := by decide +kernel
theorem d_MText_index_22 : decode y_MText_index.2.1 22 = .ok (.ifCond .eq 5, 3) := by decide +kernel
theorem d_MText_index_25 : decode y_MText_index.2.1 25 = .ok (.iload_n 2, 1) := by decide +kernel
theorem d_MText_index_26 : decode y_MText_index.2.1 26 = .ok (.ireturn, 1) := by decide +kernel
theorem d_MText_index_27 : decode y_MText_index.2.1 27 = .ok (.iinc 2 1, 3) := by decide +kernel
theorem d_MText_index_30 : decode y_MText_index.2.1 30 = .ok (.goto (-28), 3) := by decide +kernel
theorem d_MText_index_33 : decode y_MText_index.2.1 33 = .ok (.iconst (-1), 1) := by decide +kernel
theorem d_MText_index_34 : decode y_MText_index.2.1 34 = .ok (.ireturn, 1) := by decide +kernel
theorem s_MText_index : ab_Stat y_MText_index 1 := ⟨(k10 187 rfl rfl), (k1 20 rfl rfl), ⟨by decide, by decide⟩, by decide +kernel⟩
theorem i_MText_index : Cond.instanceMethod y_MText_index.1 ∈ ab_T := (k10 186 rfl rfl)
theorem v_MText_index : Cond.selects "WorldEngineModel$Text" y_MText_index.1 y_MText_index.1 ∈ ab_T := ab_s (List.mem_of_getElem? (i := 122) rfl) rfl
def B_MText_index_2 (N : Nat) (p0 : Nat) (p1 : Int32) : Nat → Int32 → Hp → Option (Int32 × Hp)
  | 0, _, _ => none
  | n + 1, l2, H =>
    ck (H.sh[p0]? = some (14, 0)) <|
    bnd ((H.D p0 12)) fun x2 =>
    if x2 ≤ l2 then
    some ((-1), H)
    else
    rf (H.P p0 13) fun a4 =>
    ar H 100 a4 fun n6 =>
    ck (inb l2 n6) <|
    bnd ((H.D a4 (l2).toNatClampNeg)) fun x9 =>
    bC (F_MText_isSame N p0 x9 p0 p1 H) fun v11 H12 =>
    if v11 = (0 : Int32) then
    B_MText_index_2 N p0 p1 n (l2 + 1) H12
    else
    some (l2, H12)
termination_by structural n => n
set_option maxRecDepth 20000 in
set_option maxHeartbeats 2000000 in
theorem mB_MText_index_2 {N : Nat} {p0 : Nat} {p1 : Int32} : ∀ (n : Nat) (l2 : Int32) (H : Hp) (r : Int32 × Hp), B_MText_index_2 N p0 p1 n l2 H = some r → Sa H r.2 := by
  intro n
  induction n with
  | zero => intro l2 H r hF; rw [B_MText_index_2] at hF; cases hF
  | succ n ih =>
    intro l2 H r hF
    rw [B_MText_index_2] at hF
    have hm := Sa.rf H
    obtain ⟨q14, hG⟩ := ck_s hF; clear hF
    obtain ⟨x15, -, hF⟩ := bnd_g hG; clear hG
    rcases ite_s hF with ⟨q_2, hG⟩ | ⟨q_2, hG⟩
    · clear hF
      have hr := Option.some.inj hG; subst hr
      exact hm
    · clear hF
      obtain ⟨a17, e18, hF⟩ := rf_s hG; clear hG
      obtain ⟨n19, q20, hG⟩ := ar_s hF; clear hF
      obtain ⟨q21, hF⟩ := ck_s hG; clear hG
      obtain ⟨x22, -, hG⟩ := bnd_g hF; clear hF
      obtain ⟨v24, H25, z23, hF⟩ := bC_s hG; clear hG
      replace hm : Sa H H25 := hm.tr (m_MText_isSame z23)
      rcases ite_s hF with ⟨q_4, hG⟩ | ⟨q_4, hG⟩
      · clear hF
        exact hm.tr (ih (l2 + 1) H25 r hG)
      · clear hF
        have hr := Option.some.inj hG; subst hr
        exact hm
set_option maxRecDepth 20000 in
set_option maxHeartbeats 2000000 in
theorem kB_MText_index_2 {N : Nat} {p0 : Nat} {p1 : Int32} : ∀ (n : Nat) (l2 : Int32) (H : Hp) (r : Int32 × Hp), B_MText_index_2 N p0 p1 n l2 H = some r → ab_V y_MText_index { frames := 1, cells := 0, slots := 0, locals := 25 } (po (.returned (some (.int r.1))) r.2) 0 0 0 0 2 [some (.ref p0), some (.int p1), some (.int l2)] [] (hpw H) := by
  intro n
  induction n with
  | zero => intro l2 H r hF; rw [B_MText_index_2] at hF; cases hF
  | succ n ih =>
    intro l2 H r hF
    rw [B_MText_index_2] at hF
    refine ab_iload_n d_MText_index_2 rfl rfl ?_
    refine ab_aload_n d_MText_index_3 rfl rfl rfl ?_
    obtain ⟨q1, hG⟩ := ck_s hF; clear hF
    refine hp_getI (f := 12) d_MText_index_4 q1 (by decide) rfl (by decide) (k8 176 rfl rfl) rfl ?_
    refine ab_topi (fun x2 ex2 => ?_)
    replace hG := bnd_s ex2 hG
    refine ab_icmp_ge (tgt := 33) d_MText_index_7 (by decide) (fun q3 => ?_) (fun q3 => ?_)
    · rw [if_pos q3] at hG
      refine ab_iconst (v := (-1)) d_MText_index_33 (by decide) ?_
      exact ab_iret d_MText_index_34 rfl (Nat.le_refl _) (Nat.le_refl _) (by have hr := Option.some.inj hG; subst hr; exact ⟨rfl, rfl⟩)
    · rw [if_neg q3] at hG
      refine ab_aload_n d_MText_index_10 rfl rfl rfl ?_
      refine ab_aload_n d_MText_index_11 rfl rfl rfl ?_
      obtain ⟨a4, e5, hF⟩ := rf_s hG; clear hG
      refine hp_getR (f := 13) d_MText_index_12 q1 (by decide) rfl (by decide) (k8 177 rfl rfl) rfl e5 ?_
      refine ab_iload_n d_MText_index_15 rfl rfl ?_
      obtain ⟨n6, q7, hG⟩ := ar_s hF; clear hF
      obtain ⟨q8, hF⟩ := ck_s hG; clear hG
      refine hp_iald d_MText_index_16 tI q7 q8 ?_
      refine ab_topi (fun x9 ex9 => ?_)
      replace hF := bnd_s ex9 hF
      refine ab_aload_n d_MText_index_17 rfl rfl rfl ?_
      refine ab_iload_n d_MText_index_18 rfl rfl ?_
      obtain ⟨v11, H12, z10, hG⟩ := bC_s hF; clear hF
      refine hp_callV_a (v := .int v11) (H1 := H12) (As := [.int x9, .ref p0, .int p1]) (rest := []) d_MText_index_19 (k_MText_isSame z10) (ab_mkC s_MText_isSame (Nat.le_of_ble_eq_true rfl) (Nat.le_of_ble_eq_true rfl) (Nat.le_refl 0) (Nat.le_refl 0)) (k10 188 rfl rfl) i_MText_isSame v_MText_isSame q1 (by decide) rfl rfl (Nat.le_of_ble_eq_true rfl) ?_
      have s_1 : Sa H H12 := (m_MText_isSame z10)
      refine ab_if_eq (tgt := 27) d_MText_index_22 (by decide) (fun q13 => ?_) (fun q13 => ?_)
      · rw [if_pos q13] at hG
        refine ab_iinc (v := l2 + 1) (lv' := [some (.ref p0), some (.int p1), some (.int (l2 + 1))]) d_MText_index_27 rfl rfl (by decide) rfl ?_
        refine ab_goto (tgt := 2) d_MText_index_30 (by decide) ?_
        exact ih (l2 + 1) H12 r hG
      · rw [if_neg q13] at hG
        refine ab_iload_n d_MText_index_25 rfl rfl ?_
        exact ab_iret d_MText_index_26 rfl (Nat.le_refl _) (Nat.le_refl _) (by have hr := Option.some.inj hG; subst hr; exact ⟨rfl, rfl⟩)
def F_MText_index (N : Nat) (p0 : Nat) (p1 : Int32) (H : Hp) : Option (Int32 × Hp) :=
    B_MText_index_2 N p0 p1 N 0 H
set_option maxRecDepth 20000 in
set_option maxHeartbeats 2000000 in
theorem m_MText_index {N : Nat} {p0 : Nat} {p1 : Int32} {H : Hp} {r : Int32 × Hp} (hF : F_MText_index N p0 p1 H = some r) : Sa H r.2 := by
  unfold F_MText_index at hF
  have hm := Sa.rf H
  exact hm.tr (mB_MText_index_2 N 0 H r hF)
set_option maxRecDepth 20000 in
set_option maxHeartbeats 2000000 in
theorem k_MText_index {N : Nat} {p0 : Nat} {p1 : Int32} {H : Hp} {r : Int32 × Hp} (hF : F_MText_index N p0 p1 H = some r) : ab_M y_MText_index { frames := 1, cells := 0, slots := 0, locals := 25 } [.ref p0, .int p1] (hpw H) (po (.returned (some (.int r.1))) r.2) := by
  unfold F_MText_index at hF
  refine ab_of2 (lv := [some (.ref p0), some (.int p1), none]) 1 rfl rfl (Nat.le_of_ble_eq_true rfl) ?_
  refine ab_iconst (v := 0) d_MText_index_0 (by decide) ?_
  refine ab_istore_n (lv' := [some (.ref p0), some (.int p1), some (.int 0)]) d_MText_index_1 rfl (by decide) rfl ?_
  exact kB_MText_index_2 N 0 H r hF
def y_MText_told : ab_Y := (⟨"WorldEngineModel$Text", "told", "(II)I"⟩, prog_16_method_26_code, 4, (some FieldType.int), [])
theorem d_MText_told_0 : decode y_MText_told.2.1 0 = .ok (.aload_n 0, 1) := by decide +kernel
theorem d_MText_told_1 : decode y_MText_told.2.1 1 = .ok (.invokevirtual 240, 3) := by decide +kernel
theorem d_MText_told_4 : decode y_MText_told.2.1 4 = .ok (.istore_n 3, 1) := by decide +kernel
theorem d_MText_told_5 : decode y_MText_told.2.1 5 = .ok (.aload_n 0, 1) := by decide +kernel
theorem d_MText_told_6 : decode y_MText_told.2.1 6 = .ok (.getfield 185, 3) := by decide +kernel
theorem d_MText_told_9 : decode y_MText_told.2.1 9 = .ok (.ifCond .ne 17, 3) := by decide +kernel
theorem d_MText_told_12 : decode y_MText_told.2.1 12 = .ok (.aload_n 0, 1) := by decide +kernel
theorem d_MText_told_13 : decode y_MText_told.2.1 13 = .ok (.iload_n 3, 1) := by decide +kernel
theorem d_MText_told_14 : decode y_MText_told.2.1 14 = .ok (.invokevirtual 243, 3) := by decide +kernel
theorem d_MText_told_17 : decode y_MText_told.2.1 17 = .ok (.ifCond .lt 9, 3) := by decide +kernel
theorem d_MText_told_20 : decode y_MText_told.2.1 20 = .ok (.aload_n 0, 1) := by decide +kernel
theorem d_MText_told_21 : decode y_MText_told.2.1 21 = .ok (.iconst 3, 1) := by decide +kernel
theorem d_MText_told_22 : decode y_MText_told.2.1 22 = .ok (.iload_n 3, 1) := by decide +kernel
theorem d_MText_told_23 : decode y_MText_told.2.1 23 = .ok (.invokevirtual 200, 3) := by decide +kernel
theorem d_MText_told_26 : decode y_MText_told.2.1 26 = .ok (.aload_n 0, 1) := by decide +kernel
theorem d_MText_told_27 : decode y_MText_told.2.1 27 = .ok (.getfield 185, 3) := by decide +kernel
theorem d_MText_told_30 : decode y_MText_told.2.1 30 = .ok (.ifCond .le 5, 3) := by decide +kernel
theorem d_MText_told_33 : decode y_MText_told.2.1 33 = .ok (.iload_n 3, 1) := by decide +kernel
theorem d_MText_told_34 : decode y_MText_told.2.1 34 = .ok (.ireturn, 1) := by decide +kernel
theorem d_MText_told_35 : decode y_MText_told.2.1 35 = .ok (.aload_n 0, 1) := by decide +kernel
theorem d_MText_told_36 : decode y_MText_told.2.1 36 = .ok (.getfield 35, 3) := by decide +kernel
theorem d_MText_told_39 : decode y_MText_told.2.1 39 = .ok (.aload_n 0, 1) := by decide +kernel
theorem d_MText_told_40 : decode y_MText_told.2.1 40 = .ok (.getfield 167, 3) := by decide +kernel
theorem d_MText_told_43 : decode y_MText_told.2.1 43 = .ok (.iload_n 3, 1) := by decide +kernel
theorem d_MText_told_44 : decode y_MText_told.2.1 44 = .ok (.iastore, 1) := by decide +kernel
theorem d_MText_told_45 : decode y_MText_told.2.1 45 = .ok (.aload_n 0, 1) := by decide +kernel
theorem d_MText_told_46 : decode y_MText_told.2.1 46 = .ok (.getfield 38, 3) := by decide +kernel
theorem d_MText_told_49 : decode y_MText_told.2.1 49 = .ok (.aload_n 0, 1) := by decide +kernel
theorem d_MText_told_50 : decode y_MText_told.2.1 50 = .ok (.getfield 167, 3) := by decide +kernel
theorem d_MText_told_53 : decode y_MText_told.2.1 53 = .ok (.iload_n 1, 1) := by decide +kernel
theorem d_MText_told_54 : decode y_MText_told.2.1 54 = .ok (.iastore, 1) := by decide +kernel
theorem d_MText_told_55 : decode y_MText_told.2.1 55 = .ok (.aload_n 0, 1) := by decide +kernel
theorem d_MText_told_56 : decode y_MText_told.2.1 56 = .ok (.getfield 41, 3) := by decide +kernel
theorem d_MText_told_59 : decode y_MText_told.2.1 59 = .ok (.aload_n 0, 1) := by decide +kernel
theorem d_MText_told_60 : decode y_MText_told.2.1 60 = .ok (.getfield 167, 3) := by decide +kernel
theorem d_MText_told_63 : decode y_MText_told.2.1 63 = .ok (.iload_n 2, 1) := by decide +kernel
theorem d_MText_told_64 : decode y_MText_told.2.1 64 = .ok (.iastore, 1) := by decide +kernel
theorem d_MText_told_65 : decode y_MText_told.2.1 65 = .ok (.aload_n 0, 1) := by decide +kernel
theorem d_MText_told_66 : decode y_MText_told.2.1 66 = .ok (.dup, 1) := by decide +kernel
theorem d_MText_told_67 : decode y_MText_told.2.1 67 = .ok (.getfield 167, 3) := by decide +kernel
theorem d_MText_told_70 : decode y_MText_told.2.1 70 = .ok (.iconst 1, 1) := by decide +kernel
theorem d_MText_told_71 : decode y_MText_told.2.1 71 = .ok (.iadd, 1) := by decide +kernel
theorem d_MText_told_72 : decode y_MText_told.2.1 72 = .ok (.putfield 167, 3) := by decide +kernel
theorem d_MText_told_75 : decode y_MText_told.2.1 75 = .ok (.iload_n 3, 1) := by decide +kernel
theorem d_MText_told_76 : decode y_MText_told.2.1 76 = .ok (.ireturn, 1) := by decide +kernel
theorem s_MText_told : ab_Stat y_MText_told 2 := ⟨(k10 167 rfl rfl), (k1 20 rfl rfl), ⟨by decide, by decide⟩, by decide +kernel⟩
theorem i_MText_told : Cond.instanceMethod y_MText_told.1 ∈ ab_T := (k10 166 rfl rfl)
theorem v_MText_told : Cond.selects "WorldEngineModel$Text" y_MText_told.1 y_MText_told.1 ∈ ab_T := ab_s (List.mem_of_getElem? (i := 117) rfl) rfl
def B_MText_told_26 (N : Nat) (p0 : Nat) (p1 : Int32) (p2 : Int32) (l3 : Int32) (H : Hp) : Option (Int32 × Hp) :=
    ck (H.sh[p0]? = some (14, 0)) <|
    bnd ((H.D p0 9)) fun x8 =>
    if x8 ≤ (0 : Int32) then
    rf (H.P p0 13) fun a10 =>
    bnd ((H.D p0 12)) fun x12 =>
    ar H 100 a10 fun n13 =>
    ck (inb x12 n13) <|
    bnd (H.sD a10 (x12).toNatClampNeg l3) fun H16 =>
    rf (H16.P p0 14) fun a17 =>
    bnd ((H16.D p0 12)) fun x19 =>
    ar H16 100 a17 fun n20 =>
    ck (inb x19 n20) <|
    bnd (H16.sD a17 (x19).toNatClampNeg p1) fun H23 =>
    rf (H23.P p0 15) fun a24 =>
    bnd ((H23.D p0 12)) fun x26 =>
    ar H23 100 a24 fun n27 =>
    ck (inb x26 n27) <|
    bnd (H23.sD a24 (x26).toNatClampNeg p2) fun H30 =>
    bnd ((H30.D p0 12)) fun x31 =>
    bnd (H30.sD p0 12 (x31 + (1 : Int32))) fun H32 =>
    some (l3, H32)
    else
    some (l3, H)
set_option maxRecDepth 20000 in
set_option maxHeartbeats 2000000 in
theorem mB_MText_told_26 {N : Nat} {p0 : Nat} {p1 : Int32} {p2 : Int32} {l3 : Int32} {H : Hp} {r : Int32 × Hp} (hF : B_MText_told_26 N p0 p1 p2 l3 H = some r) : Sa H r.2 := by
  unfold B_MText_told_26 at hF
  have hm := Sa.rf H
  obtain ⟨q33, hG⟩ := ck_s hF; clear hF
  obtain ⟨x34, -, hF⟩ := bnd_g hG; clear hG
  rcases ite_s hF with ⟨q_6, hG⟩ | ⟨q_6, hG⟩
  · clear hF
    obtain ⟨a36, e37, hF⟩ := rf_s hG; clear hG
    obtain ⟨x38, -, hG⟩ := bnd_g hF; clear hF
    obtain ⟨n39, q40, hF⟩ := ar_s hG; clear hG
    obtain ⟨q41, hG⟩ := ck_s hF; clear hF
    obtain ⟨H42, eH42, hF⟩ := bnd_g hG; clear hG
    replace hm : Sa H H42 := by rw [eH42]; exact hm
    obtain ⟨a43, e44, hG⟩ := rf_s hF; clear hF
    obtain ⟨x45, -, hF⟩ := bnd_g hG; clear hG
    obtain ⟨n46, q47, hG⟩ := ar_s hF; clear hF
    obtain ⟨q48, hF⟩ := ck_s hG; clear hG
    obtain ⟨H49, eH49, hG⟩ := bnd_g hF; clear hF
    replace hm : Sa H H49 := by rw [eH49]; exact hm
    obtain ⟨a50, e51, hF⟩ := rf_s hG; clear hG
    obtain ⟨x52, -, hG⟩ := bnd_g hF; clear hF
    obtain ⟨n53, q54, hF⟩ := ar_s hG; clear hG
    obtain ⟨q55, hG⟩ := ck_s hF; clear hF
    obtain ⟨H56, eH56, hF⟩ := bnd_g hG; clear hG
    replace hm : Sa H H56 := by rw [eH56]; exact hm
    obtain ⟨x57, -, hG⟩ := bnd_g hF; clear hF
    obtain ⟨H58, eH58, hF⟩ := bnd_g hG; clear hG
    replace hm : Sa H H58 := by rw [eH58]; exact hm
    have hr := Option.some.inj hF; subst hr
    exact hm
  · clear hF
    have hr := Option.some.inj hG; subst hr
    exact hm
set_option maxRecDepth 20000 in
set_option maxHeartbeats 2000000 in
theorem kB_MText_told_26 {N : Nat} {p0 : Nat} {p1 : Int32} {p2 : Int32} {l3 : Int32} {H : Hp} {r : Int32 × Hp} (hF : B_MText_told_26 N p0 p1 p2 l3 H = some r) : ab_V y_MText_told { frames := 4, cells := 0, slots := 0, locals := 85 } (po (.returned (some (.int r.1))) r.2) 0 0 0 0 26 [some (.ref p0), some (.int p1), some (.int p2), some (.int l3)] [] (hpw H) := by
  unfold B_MText_told_26 at hF
  refine ab_aload_n d_MText_told_26 rfl rfl rfl ?_
  obtain ⟨q7, hG⟩ := ck_s hF; clear hF
  refine hp_getI (f := 9) d_MText_told_27 q7 (by decide) rfl (by decide) (k8 172 rfl rfl) rfl ?_
  refine ab_topi (fun x8 ex8 => ?_)
  replace hG := bnd_s ex8 hG
  refine ab_if_le (tgt := 35) d_MText_told_30 (by decide) (fun q9 => ?_) (fun q9 => ?_)
  · rw [if_pos q9] at hG
    refine ab_aload_n d_MText_told_35 rfl rfl rfl ?_
    obtain ⟨a10, e11, hF⟩ := rf_s hG; clear hG
    refine hp_getR (f := 13) d_MText_told_36 q7 (by decide) rfl (by decide) (k8 177 rfl rfl) rfl e11 ?_
    refine ab_aload_n d_MText_told_39 rfl rfl rfl ?_
    refine hp_getI (f := 12) d_MText_told_40 q7 (by decide) rfl (by decide) (k8 176 rfl rfl) rfl ?_
    refine ab_topi (fun x12 ex12 => ?_)
    replace hF := bnd_s ex12 hF
    refine ab_iload_n d_MText_told_43 rfl rfl ?_
    obtain ⟨n13, q14, hG⟩ := ar_s hF; clear hF
    obtain ⟨q15, hF⟩ := ck_s hG; clear hG
    refine hp_iast d_MText_told_44 tI q14 q15 ?_
    refine hp_gen (fun H16 eH16 => ?_)
    replace hF := bnd_s eH16 hF
    have s_2 : Sa H H16 := by rw [eH16]; exact Sa.rf _
    refine ab_aload_n d_MText_told_45 rfl rfl rfl ?_
    obtain ⟨a17, e18, hG⟩ := rf_s hF; clear hF
    refine hp_getR (f := 14) d_MText_told_46 (by rw [(s_2).1]; exact q7) (by decide) rfl (by decide) (k8 178 rfl rfl) rfl e18 ?_
    refine ab_aload_n d_MText_told_49 rfl rfl rfl ?_
    refine hp_getI (f := 12) d_MText_told_50 (by rw [(s_2).1]; exact q7) (by decide) rfl (by decide) (k8 176 rfl rfl) rfl ?_
    refine ab_topi (fun x19 ex19 => ?_)
    replace hG := bnd_s ex19 hG
    refine ab_iload_n d_MText_told_53 rfl rfl ?_
    obtain ⟨n20, q21, hF⟩ := ar_s hG; clear hG
    rw [(s_2).1] at q21
    obtain ⟨q22, hG⟩ := ck_s hF; clear hF
    refine hp_iast d_MText_told_54 tI (by rw [(s_2).1]; exact q21) q22 ?_
    refine hp_gen (fun H23 eH23 => ?_)
    replace hG := bnd_s eH23 hG
    have s_3 : Sa H H23 := by rw [eH23]; exact s_2
    refine ab_aload_n d_MText_told_55 rfl rfl rfl ?_
    obtain ⟨a24, e25, hF⟩ := rf_s hG; clear hG
    refine hp_getR (f := 15) d_MText_told_56 (by rw [(s_3).1]; exact q7) (by decide) rfl (by decide) (k8 179 rfl rfl) rfl e25 ?_
    refine ab_aload_n d_MText_told_59 rfl rfl rfl ?_
    refine hp_getI (f := 12) d_MText_told_60 (by rw [(s_3).1]; exact q7) (by decide) rfl (by decide) (k8 176 rfl rfl) rfl ?_
    refine ab_topi (fun x26 ex26 => ?_)
    replace hF := bnd_s ex26 hF
    refine ab_iload_n d_MText_told_63 rfl rfl ?_
    obtain ⟨n27, q28, hG⟩ := ar_s hF; clear hF
    rw [(s_3).1] at q28
    obtain ⟨q29, hF⟩ := ck_s hG; clear hG
    refine hp_iast d_MText_told_64 tI (by rw [(s_3).1]; exact q28) q29 ?_
    refine hp_gen (fun H30 eH30 => ?_)
    replace hF := bnd_s eH30 hF
    have s_4 : Sa H H30 := by rw [eH30]; exact s_3
    refine ab_aload_n d_MText_told_65 rfl rfl rfl ?_
    refine ab_dup d_MText_told_66 rfl ?_
    refine hp_getI (f := 12) d_MText_told_67 (by rw [(s_4).1]; exact q7) (by decide) rfl (by decide) (k8 176 rfl rfl) rfl ?_
    refine ab_topi (fun x31 ex31 => ?_)
    replace hF := bnd_s ex31 hF
    refine ab_iconst (v := 1) d_MText_told_70 (by decide) ?_
    refine ab_iadd d_MText_told_71 ?_
    refine hp_putI (v := x31 + (1 : Int32)) (f := 12) d_MText_told_72 (by rw [(s_4).1]; exact q7) (by decide) rfl (by decide) (k8 176 rfl rfl) rfl rfl (fun _ => rfl) (fun _ => rfl) rfl ?_
    refine hp_gen (fun H32 eH32 => ?_)
    replace hF := bnd_s eH32 hF
    have s_5 : Sa H H32 := by rw [eH32]; exact s_4
    refine ab_iload_n d_MText_told_75 rfl rfl ?_
    exact ab_iret d_MText_told_76 rfl (Nat.le_refl _) (Nat.le_refl _) (by have hr := Option.some.inj hF; subst hr; exact ⟨rfl, rfl⟩)
  · rw [if_neg q9] at hG
    refine ab_iload_n d_MText_told_33 rfl rfl ?_
    exact ab_iret d_MText_told_34 rfl (Nat.le_refl _) (Nat.le_refl _) (by have hr := Option.some.inj hG; subst hr; exact ⟨rfl, rfl⟩)
def F_MText_told (N : Nat) (p0 : Nat) (p1 : Int32) (p2 : Int32) (H : Hp) : Option (Int32 × Hp) :=
    ck (H.sh[p0]? = some (14, 0)) <|
    bC (F_MText_name N p0 H) fun v3 H4 =>
    bnd ((H4.D p0 9)) fun x5 =>
    if x5 = (0 : Int32) then
    bC (F_MText_index N p0 v3 H4) fun v60 H61 =>
    if v60 < (0 : Int32) then
    B_MText_told_26 N p0 p1 p2 v3 H61
    else
    bC (F_MText_fails N p0 (3 : Int32) v3 H61) fun v64 H65 =>
    B_MText_told_26 N p0 p1 p2 v3 H65
    else
    B_MText_told_26 N p0 p1 p2 v3 H4
set_option maxRecDepth 20000 in
set_option maxHeartbeats 2000000 in
theorem m_MText_told {N : Nat} {p0 : Nat} {p1 : Int32} {p2 : Int32} {H : Hp} {r : Int32 × Hp} (hF : F_MText_told N p0 p1 p2 H = some r) : Sa H r.2 := by
  unfold F_MText_told at hF
  have hm := Sa.rf H
  obtain ⟨q66, hG⟩ := ck_s hF; clear hF
  obtain ⟨v68, H69, z67, hF⟩ := bC_s hG; clear hG
  replace hm : Sa H H69 := hm.tr (m_MText_name z67)
  obtain ⟨x70, -, hG⟩ := bnd_g hF; clear hF
  rcases ite_s hG with ⟨q_14, hF⟩ | ⟨q_14, hF⟩
  · clear hG
    obtain ⟨v73, H74, z72, hG⟩ := bC_s hF; clear hF
    replace hm : Sa H H74 := hm.tr (m_MText_index z72)
    rcases ite_s hG with ⟨q_16, hF⟩ | ⟨q_16, hF⟩
    · clear hG
      exact hm.tr (mB_MText_told_26 hF)
    · clear hG
      obtain ⟨v77, H78, z76, hG⟩ := bC_s hF; clear hF
      replace hm : Sa H H78 := hm.tr (m_MText_fails z76)
      exact hm.tr (mB_MText_told_26 hG)
  · clear hG
    exact hm.tr (mB_MText_told_26 hF)
set_option maxRecDepth 20000 in
set_option maxHeartbeats 2000000 in
theorem k_MText_told {N : Nat} {p0 : Nat} {p1 : Int32} {p2 : Int32} {H : Hp} {r : Int32 × Hp} (hF : F_MText_told N p0 p1 p2 H = some r) : ab_M y_MText_told { frames := 4, cells := 0, slots := 0, locals := 85 } [.ref p0, .int p1, .int p2] (hpw H) (po (.returned (some (.int r.1))) r.2) := by
  unfold F_MText_told at hF
  refine ab_of2 (lv := [some (.ref p0), some (.int p1), some (.int p2), none]) 1 rfl rfl (Nat.le_of_ble_eq_true rfl) ?_
  refine ab_aload_n d_MText_told_0 rfl rfl rfl ?_
  obtain ⟨q1, hG⟩ := ck_s hF; clear hF
  obtain ⟨v3, H4, z2, hF⟩ := bC_s hG; clear hG
  refine hp_callV_a (v := .int v3) (H1 := H4) (As := []) (rest := []) d_MText_told_1 (k_MText_name z2) (ab_mkC s_MText_name (Nat.le_of_ble_eq_true rfl) (Nat.le_of_ble_eq_true rfl) (Nat.le_refl 0) (Nat.le_refl 0)) (k10 168 rfl rfl) i_MText_name v_MText_name q1 (by decide) rfl rfl (Nat.le_of_ble_eq_true rfl) ?_
  have s_1 : Sa H H4 := (m_MText_name z2)
  refine ab_istore_n (lv' := [some (.ref p0), some (.int p1), some (.int p2), some (.int v3)]) d_MText_told_4 rfl (by decide) rfl ?_
  refine ab_aload_n d_MText_told_5 rfl rfl rfl ?_
  refine hp_getI (f := 9) d_MText_told_6 (by rw [(s_1).1]; exact q1) (by decide) rfl (by decide) (k8 172 rfl rfl) rfl ?_
  refine ab_topi (fun x5 ex5 => ?_)
  replace hF := bnd_s ex5 hF
  refine ab_if_ne (tgt := 26) d_MText_told_9 (by decide) (fun q6 => ?_) (fun q6 => ?_)
  · rw [if_neg q6] at hF
    exact kB_MText_told_26 hF
  · rw [if_pos q6] at hF
    refine ab_aload_n d_MText_told_12 rfl rfl rfl ?_
    refine ab_iload_n d_MText_told_13 rfl rfl ?_
    obtain ⟨v60, H61, z59, hG⟩ := bC_s hF; clear hF
    refine hp_callV_a (v := .int v60) (H1 := H61) (As := [.int v3]) (rest := []) d_MText_told_14 (k_MText_index z59) (ab_mkC s_MText_index (Nat.le_of_ble_eq_true rfl) (Nat.le_of_ble_eq_true rfl) (Nat.le_refl 0) (Nat.le_refl 0)) (k10 184 rfl rfl) i_MText_index v_MText_index (by rw [(s_1).1]; exact q1) (by decide) rfl rfl (Nat.le_of_ble_eq_true rfl) ?_
    have s_11 : Sa H H61 := (s_1).tr (m_MText_index z59)
    refine ab_if_lt (tgt := 26) d_MText_told_17 (by decide) (fun q62 => ?_) (fun q62 => ?_)
    · rw [if_pos q62] at hG
      exact kB_MText_told_26 hG
    · rw [if_neg q62] at hG
      refine ab_aload_n d_MText_told_20 rfl rfl rfl ?_
      refine ab_iconst (v := 3) d_MText_told_21 (by decide) ?_
      refine ab_iload_n d_MText_told_22 rfl rfl ?_
      obtain ⟨v64, H65, z63, hF⟩ := bC_s hG; clear hG
      refine hp_callV_v (H1 := H65) (As := [.int 3, .int v3]) (rest := []) d_MText_told_23 (k_MText_fails z63) (ab_mkC s_MText_fails (Nat.le_of_ble_eq_true rfl) (Nat.le_of_ble_eq_true rfl) (Nat.le_refl 0) (Nat.le_refl 0)) (k10 160 rfl rfl) i_MText_fails v_MText_fails (by rw [(s_11).1]; exact q1) (by decide) rfl rfl (Nat.le_of_ble_eq_true rfl) ?_
      have s_12 : Sa H H65 := (s_11).tr (m_MText_fails z63)
      exact kB_MText_told_26 hF
def y_MText_isKind : ab_Y := (⟨"WorldEngineModel$Text", "isKind", "()Z"⟩, prog_16_method_22_code, 1, (some FieldType.boolean), [])
theorem d_MText_isKind_0 : decode y_MText_isKind.2.1 0 = .ok (.aload_n 0, 1) := by decide +kernel
theorem d_MText_isKind_1 : decode y_MText_isKind.2.1 1 = .ok (.getfield 185, 3) := by decide +kernel
theorem d_MText_isKind_4 : decode y_MText_isKind.2.1 4 = .ok (.ifCond .ne 37, 3) := by decide +kernel
theorem d_MText_isKind_7 : decode y_MText_isKind.2.1 7 = .ok (.aload_n 0, 1) := by decide +kernel
theorem d_MText_isKind_8 : decode y_MText_isKind.2.1 8 = .ok (.getfield 15, 3) := by decide +kernel
theorem d_MText_isKind_11 : decode y_MText_isKind.2.1 11 = .ok (.aload_n 0, 1) := by decide +kernel
theorem d_MText_isKind_12 : decode y_MText_isKind.2.1 12 = .ok (.getfield 191, 3) := by decide +kernel
theorem d_MText_isKind_15 : decode y_MText_isKind.2.1 15 = .ok (.iaload, 1) := by decide +kernel
theorem d_MText_isKind_16 : decode y_MText_isKind.2.1 16 = .ok (.sipush 209, 3) := by decide +kernel
theorem d_MText_isKind_19 : decode y_MText_isKind.2.1 19 = .ok (.if_icmp .lt 22, 3) := by decide +kernel
theorem d_MText_isKind_22 : decode y_MText_isKind.2.1 22 = .ok (.aload_n 0, 1) := by decide +kernel
theorem d_MText_isKind_23 : decode y_MText_isKind.2.1 23 = .ok (.getfield 15, 3) := by decide +kernel
theorem d_MText_isKind_26 : decode y_MText_isKind.2.1 26 = .ok (.aload_n 0, 1) := by decide +kernel
theorem d_MText_isKind_27 : decode y_MText_isKind.2.1 27 = .ok (.getfield 191, 3) := by decide +kernel
theorem d_MText_isKind_30 : decode y_MText_isKind.2.1 30 = .ok (.iaload, 1) := by decide +kernel
theorem d_MText_isKind_31 : decode y_MText_isKind.2.1 31 = .ok (.sipush 213, 3) := by decide +kernel
theorem d_MText_isKind_34 : decode y_MText_isKind.2.1 34 = .ok (.if_icmp .gt 7, 3) := by decide +kernel
theorem d_MText_isKind_37 : decode y_MText_isKind.2.1 37 = .ok (.iconst 1, 1) := by decide +kernel
theorem d_MText_isKind_38 : decode y_MText_isKind.2.1 38 = .ok (.goto 4, 3) := by decide +kernel
theorem d_MText_isKind_41 : decode y_MText_isKind.2.1 41 = .ok (.iconst 0, 1) := by decide +kernel
theorem d_MText_isKind_42 : decode y_MText_isKind.2.1 42 = .ok (.ireturn, 1) := by decide +kernel
theorem s_MText_isKind : ab_Stat y_MText_isKind 0 := ⟨(k10 195 rfl rfl), (k1 20 rfl rfl), ⟨by decide, by decide⟩, by decide +kernel⟩
theorem i_MText_isKind : Cond.instanceMethod y_MText_isKind.1 ∈ ab_T := (k10 194 rfl rfl)
theorem v_MText_isKind : Cond.selects "WorldEngineModel$Text" y_MText_isKind.1 y_MText_isKind.1 ∈ ab_T := ab_s (List.mem_of_getElem? (i := 124) rfl) rfl
def F_MText_isKind (N : Nat) (p0 : Nat) (H : Hp) : Option (Int32 × Hp) :=
    ck (H.sh[p0]? = some (14, 0)) <|
    bnd ((H.D p0 9)) fun x2 =>
    if x2 = (0 : Int32) then
    rf (H.P p0 3) fun a4 =>
    bnd ((H.D p0 11)) fun x6 =>
    ar H 100 a4 fun n7 =>
    ck (inb x6 n7) <|
    bnd ((H.D a4 (x6).toNatClampNeg)) fun x10 =>
    if x10 < (209 : Int32) then
    some (0, H)
    else
    rf (H.P p0 3) fun a12 =>
    bnd ((H.D p0 11)) fun x14 =>
    ar H 100 a12 fun n15 =>
    ck (inb x14 n15) <|
    bnd ((H.D a12 (x14).toNatClampNeg)) fun x18 =>
    if (213 : Int32) < x18 then
    some (0, H)
    else
    some (1, H)
    else
    some (0, H)
set_option maxRecDepth 20000 in
set_option maxHeartbeats 2000000 in
theorem m_MText_isKind {N : Nat} {p0 : Nat} {H : Hp} {r : Int32 × Hp} (hF : F_MText_isKind N p0 H = some r) : Sa H r.2 := by
  unfold F_MText_isKind at hF
  have hm := Sa.rf H
  obtain ⟨q20, hG⟩ := ck_s hF; clear hF
  obtain ⟨x21, -, hF⟩ := bnd_g hG; clear hG
  rcases ite_s hF with ⟨q_1, hG⟩ | ⟨q_1, hG⟩
  · clear hF
    obtain ⟨a23, e24, hF⟩ := rf_s hG; clear hG
    obtain ⟨x25, -, hG⟩ := bnd_g hF; clear hF
    obtain ⟨n26, q27, hF⟩ := ar_s hG; clear hG
    obtain ⟨q28, hG⟩ := ck_s hF; clear hF
    obtain ⟨x29, -, hF⟩ := bnd_g hG; clear hG
    rcases ite_s hF with ⟨q_2, hG⟩ | ⟨q_2, hG⟩
    · clear hF
      have hr := Option.some.inj hG; subst hr
      exact hm
    · clear hF
      obtain ⟨a31, e32, hF⟩ := rf_s hG; clear hG
      obtain ⟨x33, -, hG⟩ := bnd_g hF; clear hF
      obtain ⟨n34, q35, hF⟩ := ar_s hG; clear hG
      obtain ⟨q36, hG⟩ := ck_s hF; clear hF
      obtain ⟨x37, -, hF⟩ := bnd_g hG; clear hG
      rcases ite_s hF with ⟨q_3, hG⟩ | ⟨q_3, hG⟩
      · clear hF
        have hr := Option.some.inj hG; subst hr
        exact hm
      · clear hF
        have hr := Option.some.inj hG; subst hr
        exact hm
  · clear hF
    have hr := Option.some.inj hG; subst hr
    exact hm
set_option maxRecDepth 20000 in
set_option maxHeartbeats 2000000 in
theorem k_MText_isKind {N : Nat} {p0 : Nat} {H : Hp} {r : Int32 × Hp} (hF : F_MText_isKind N p0 H = some r) : ab_M y_MText_isKind { frames := 0, cells := 0, slots := 0, locals := 0 } [.ref p0] (hpw H) (po (.returned (some (.int r.1))) r.2) := by
  unfold F_MText_isKind at hF
  refine ab_of2 (lv := [some (.ref p0)]) 0 rfl rfl (Nat.le_of_ble_eq_true rfl) ?_
  refine ab_aload_n d_MText_isKind_0 rfl rfl rfl ?_
  obtain ⟨q1, hG⟩ := ck_s hF; clear hF
  refine hp_getI (f := 9) d_MText_isKind_1 q1 (by decide) rfl (by decide) (k8 172 rfl rfl) rfl ?_
  refine ab_topi (fun x2 ex2 => ?_)
  replace hG := bnd_s ex2 hG
  refine ab_if_ne (tgt := 41) d_MText_isKind_4 (by decide) (fun q3 => ?_) (fun q3 => ?_)
  · rw [if_neg q3] at hG
    refine ab_iconst (v := 0) d_MText_isKind_41 (by decide) ?_
    exact ab_zret d_MText_isKind_42 rfl rfl (Nat.le_refl _) (Nat.le_refl _) (by have hr := Option.some.inj hG; subst hr; exact ⟨rfl, rfl⟩)
  · rw [if_pos q3] at hG
    refine ab_aload_n d_MText_isKind_7 rfl rfl rfl ?_
    obtain ⟨a4, e5, hF⟩ := rf_s hG; clear hG
    refine hp_getR (f := 3) d_MText_isKind_8 q1 (by decide) rfl (by decide) (k8 162 rfl rfl) rfl e5 ?_
    refine ab_aload_n d_MText_isKind_11 rfl rfl rfl ?_
    refine hp_getI (f := 11) d_MText_isKind_12 q1 (by decide) rfl (by decide) (k8 175 rfl rfl) rfl ?_
    refine ab_topi (fun x6 ex6 => ?_)
    replace hF := bnd_s ex6 hF
    obtain ⟨n7, q8, hG⟩ := ar_s hF; clear hF
    obtain ⟨q9, hF⟩ := ck_s hG; clear hG
    refine hp_iald d_MText_isKind_15 tI q8 q9 ?_
    refine ab_topi (fun x10 ex10 => ?_)
    replace hF := bnd_s ex10 hF
    refine ab_sipush (v := 209) d_MText_isKind_16 (by decide) ?_
    refine ab_icmp_lt (tgt := 41) d_MText_isKind_19 (by decide) (fun q11 => ?_) (fun q11 => ?_)
    · rw [if_pos q11] at hF
      refine ab_iconst (v := 0) d_MText_isKind_41 (by decide) ?_
      exact ab_zret d_MText_isKind_42 rfl rfl (Nat.le_refl _) (Nat.le_refl _) (by have hr := Option.some.inj hF; subst hr; exact ⟨rfl, rfl⟩)
    · rw [if_neg q11] at hF
      refine ab_aload_n d_MText_isKind_22 rfl rfl rfl ?_
      obtain ⟨a12, e13, hG⟩ := rf_s hF; clear hF
      refine hp_getR (f := 3) d_MText_isKind_23 q1 (by decide) rfl (by decide) (k8 162 rfl rfl) rfl e13 ?_
      refine ab_aload_n d_MText_isKind_26 rfl rfl rfl ?_
      refine hp_getI (f := 11) d_MText_isKind_27 q1 (by decide) rfl (by decide) (k8 175 rfl rfl) rfl ?_
      refine ab_topi (fun x14 ex14 => ?_)
      replace hG := bnd_s ex14 hG
      obtain ⟨n15, q16, hF⟩ := ar_s hG; clear hG
      obtain ⟨q17, hG⟩ := ck_s hF; clear hF
      refine hp_iald d_MText_isKind_30 tI q16 q17 ?_
      refine ab_topi (fun x18 ex18 => ?_)
      replace hG := bnd_s ex18 hG
      refine ab_sipush (v := 213) d_MText_isKind_31 (by decide) ?_
      refine ab_icmp_gt (tgt := 41) d_MText_isKind_34 (by decide) (fun q19 => ?_) (fun q19 => ?_)
      · rw [if_pos q19] at hG
        refine ab_iconst (v := 0) d_MText_isKind_41 (by decide) ?_
        exact ab_zret d_MText_isKind_42 rfl rfl (Nat.le_refl _) (Nat.le_refl _) (by have hr := Option.some.inj hG; subst hr; exact ⟨rfl, rfl⟩)
      · rw [if_neg q19] at hG
        refine ab_iconst (v := 1) d_MText_isKind_37 (by decide) ?_
        refine ab_goto (tgt := 42) d_MText_isKind_38 (by decide) ?_
        exact ab_zret d_MText_isKind_42 rfl rfl (Nat.le_refl _) (Nat.le_refl _) (by have hr := Option.some.inj hG; subst hr; exact ⟨rfl, rfl⟩)
def y_MText_kind : ab_Y := (⟨"WorldEngineModel$Text", "kind", "()I"⟩, prog_16_method_23_code, 2, (some FieldType.int), [])
theorem d_MText_kind_0 : decode y_MText_kind.2.1 0 = .ok (.aload_n 0, 1) := by decide +kernel
theorem d_MText_kind_1 : decode y_MText_kind.2.1 1 = .ok (.getfield 15, 3) := by decide +kernel
theorem d_MText_kind_4 : decode y_MText_kind.2.1 4 = .ok (.aload_n 0, 1) := by decide +kernel
theorem d_MText_kind_5 : decode y_MText_kind.2.1 5 = .ok (.getfield 191, 3) := by decide +kernel
theorem d_MText_kind_8 : decode y_MText_kind.2.1 8 = .ok (.iaload, 1) := by decide +kernel
theorem d_MText_kind_9 : decode y_MText_kind.2.1 9 = .ok (.sipush 209, 3) := by decide +kernel
theorem d_MText_kind_12 : decode y_MText_kind.2.1 12 = .ok (.isub, 1) := by decide +kernel
theorem d_MText_kind_13 : decode y_MText_kind.2.1 13 = .ok (.istore_n 1, 1) := by decide +kernel
theorem d_MText_kind_14 : decode y_MText_kind.2.1 14 = .ok (.aload_n 0, 1) := by decide +kernel
theorem d_MText_kind_15 : decode y_MText_kind.2.1 15 = .ok (.invokevirtual 208, 3) := by decide +kernel
theorem d_MText_kind_18 : decode y_MText_kind.2.1 18 = .ok (.ifCond .ne 12, 3) := by decide +kernel
theorem d_MText_kind_21 : decode y_MText_kind.2.1 21 = .ok (.aload_n 0, 1) := by decide +kernel
theorem d_MText_kind_22 : decode y_MText_kind.2.1 22 = .ok (.iconst 1, 1) := by decide +kernel
theorem d_MText_kind_23 : decode y_MText_kind.2.1 23 = .ok (.aload_n 0, 1) := by decide +kernel
theorem d_MText_kind_24 : decode y_MText_kind.2.1 24 = .ok (.getfield 191, 3) := by decide +kernel
theorem d_MText_kind_27 : decode y_MText_kind.2.1 27 = .ok (.invokevirtual 200, 3) := by decide +kernel
theorem d_MText_kind_30 : decode y_MText_kind.2.1 30 = .ok (.aload_n 0, 1) := by decide +kernel
theorem d_MText_kind_31 : decode y_MText_kind.2.1 31 = .ok (.dup, 1) := by decide +kernel
theorem d_MText_kind_32 : decode y_MText_kind.2.1 32 = .ok (.getfield 191, 3) := by decide +kernel
theorem d_MText_kind_35 : decode y_MText_kind.2.1 35 = .ok (.aload_n 0, 1) := by decide +kernel
theorem d_MText_kind_36 : decode y_MText_kind.2.1 36 = .ok (.getfield 185, 3) := by decide +kernel
theorem d_MText_kind_39 : decode y_MText_kind.2.1 39 = .ok (.ifCond .ne 7, 3) := by decide +kernel
theorem d_MText_kind_42 : decode y_MText_kind.2.1 42 = .ok (.iconst 1, 1) := by decide +kernel
theorem d_MText_kind_43 : decode y_MText_kind.2.1 43 = .ok (.goto 4, 3) := by decide +kernel
theorem d_MText_kind_46 : decode y_MText_kind.2.1 46 = .ok (.iconst 0, 1) := by decide +kernel
theorem d_MText_kind_47 : decode y_MText_kind.2.1 47 = .ok (.iadd, 1) := by decide +kernel
theorem d_MText_kind_48 : decode y_MText_kind.2.1 48 = .ok (.putfield 191, 3) := by decide +kernel
theorem d_MText_kind_51 : decode y_MText_kind.2.1 51 = .ok (.aload_n 0, 1) := by decide +kernel
theorem d_MText_kind_52 : decode y_MText_kind.2.1 52 = .ok (.getfield 185, 3) := by decide +kernel
theorem d_MText_kind_55 : decode y_MText_kind.2.1 55 = .ok (.ifCond .ne 7, 3) := by decide +kernel
theorem d_MText_kind_58 : decode y_MText_kind.2.1 58 = .ok (.iload_n 1, 1) := by decide +kernel
theorem d_MText_kind_59 : decode y_MText_kind.2.1 59 = .ok (.goto 4, 3) := by decide +kernel
theorem d_MText_kind_62 : decode y_MText_kind.2.1 62 = .ok (.iconst 0, 1) := by decide +kernel
theorem d_MText_kind_63 : decode y_MText_kind.2.1 63 = .ok (.ireturn, 1) := by decide +kernel
theorem s_MText_kind : ab_Stat y_MText_kind 0 := ⟨(k10 199 rfl rfl), (k1 20 rfl rfl), ⟨by decide, by decide⟩, by decide +kernel⟩
theorem i_MText_kind : Cond.instanceMethod y_MText_kind.1 ∈ ab_T := (k10 198 rfl rfl)
theorem v_MText_kind : Cond.selects "WorldEngineModel$Text" y_MText_kind.1 y_MText_kind.1 ∈ ab_T := ab_s (List.mem_of_getElem? (i := 125) rfl) rfl
def B_MText_kind_47 (N : Nat) (p0 : Nat) (l1 : Int32) (w0 : Nat) (w1 : Int32) (w2 : Int32) (H : Hp) : Option (Int32 × Hp) :=
    ck (H.sh[w0]? = some (14, 0)) <|
    bnd (H.sD w0 11 (w1 + w2)) fun H19 =>
    ck (H19.sh[p0]? = some (14, 0)) <|
    bnd ((H19.D p0 9)) fun x21 =>
    if x21 = (0 : Int32) then
    some (l1, H19)
    else
    some (0, H19)
set_option maxRecDepth 20000 in
set_option maxHeartbeats 2000000 in
theorem mB_MText_kind_47 {N : Nat} {p0 : Nat} {l1 : Int32} {w0 : Nat} {w1 : Int32} {w2 : Int32} {H : Hp} {r : Int32 × Hp} (hF : B_MText_kind_47 N p0 l1 w0 w1 w2 H = some r) : Sa H r.2 := by
  unfold B_MText_kind_47 at hF
  have hm := Sa.rf H
  obtain ⟨q23, hG⟩ := ck_s hF; clear hF
  obtain ⟨H24, eH24, hF⟩ := bnd_g hG; clear hG
  replace hm : Sa H H24 := by rw [eH24]; exact hm
  obtain ⟨q25, hG⟩ := ck_s hF; clear hF
  obtain ⟨x26, -, hF⟩ := bnd_g hG; clear hG
  rcases ite_s hF with ⟨q_4, hG⟩ | ⟨q_4, hG⟩
  · clear hF
    have hr := Option.some.inj hG; subst hr
    exact hm
  · clear hF
    have hr := Option.some.inj hG; subst hr
    exact hm
set_option maxRecDepth 20000 in
set_option maxHeartbeats 2000000 in
theorem kB_MText_kind_47 {N : Nat} {p0 : Nat} {l1 : Int32} {w0 : Nat} {w1 : Int32} {w2 : Int32} {H : Hp} {r : Int32 × Hp} (hF : B_MText_kind_47 N p0 l1 w0 w1 w2 H = some r) : ab_V y_MText_kind { frames := 1, cells := 0, slots := 0, locals := 22 } (po (.returned (some (.int r.1))) r.2) 0 0 0 0 47 [some (.ref p0), some (.int l1)] [.int w2, .int w1, .ref w0] (hpw H) := by
  unfold B_MText_kind_47 at hF
  refine ab_iadd d_MText_kind_47 ?_
  obtain ⟨q18, hG⟩ := ck_s hF; clear hF
  refine hp_putI (v := w1 + w2) (f := 11) d_MText_kind_48 q18 (by decide) rfl (by decide) (k8 175 rfl rfl) rfl rfl (fun _ => rfl) (fun _ => rfl) rfl ?_
  refine hp_gen (fun H19 eH19 => ?_)
  replace hG := bnd_s eH19 hG
  have s_2 : Sa H H19 := by rw [eH19]; exact Sa.rf _
  refine ab_aload_n d_MText_kind_51 rfl rfl rfl ?_
  obtain ⟨q20, hF⟩ := ck_s hG; clear hG
  rw [(s_2).1] at q20
  refine hp_getI (f := 9) d_MText_kind_52 (by rw [(s_2).1]; exact q20) (by decide) rfl (by decide) (k8 172 rfl rfl) rfl ?_
  refine ab_topi (fun x21 ex21 => ?_)
  replace hF := bnd_s ex21 hF
  refine ab_if_ne (tgt := 62) d_MText_kind_55 (by decide) (fun q22 => ?_) (fun q22 => ?_)
  · rw [if_neg q22] at hF
    refine ab_iconst (v := 0) d_MText_kind_62 (by decide) ?_
    exact ab_iret d_MText_kind_63 rfl (Nat.le_refl _) (Nat.le_refl _) (by have hr := Option.some.inj hF; subst hr; exact ⟨rfl, rfl⟩)
  · rw [if_pos q22] at hF
    refine ab_iload_n d_MText_kind_58 rfl rfl ?_
    refine ab_goto (tgt := 63) d_MText_kind_59 (by decide) ?_
    exact ab_iret d_MText_kind_63 rfl (Nat.le_refl _) (Nat.le_refl _) (by have hr := Option.some.inj hF; subst hr; exact ⟨rfl, rfl⟩)
def B_MText_kind_30 (N : Nat) (p0 : Nat) (l1 : Int32) (H : Hp) : Option (Int32 × Hp) :=
    ck (H.sh[p0]? = some (14, 0)) <|
    bnd ((H.D p0 11)) fun x15 =>
    bnd ((H.D p0 9)) fun x16 =>
    if x16 = (0 : Int32) then
    B_MText_kind_47 N p0 l1 p0 x15 1 H
    else
    B_MText_kind_47 N p0 l1 p0 x15 0 H
set_option maxRecDepth 20000 in
set_option maxHeartbeats 2000000 in
theorem mB_MText_kind_30 {N : Nat} {p0 : Nat} {l1 : Int32} {H : Hp} {r : Int32 × Hp} (hF : B_MText_kind_30 N p0 l1 H = some r) : Sa H r.2 := by
  unfold B_MText_kind_30 at hF
  have hm := Sa.rf H
  obtain ⟨q28, hG⟩ := ck_s hF; clear hF
  obtain ⟨x29, -, hF⟩ := bnd_g hG; clear hG
  obtain ⟨x30, -, hG⟩ := bnd_g hF; clear hF
  rcases ite_s hG with ⟨q_5, hF⟩ | ⟨q_5, hF⟩
  · clear hG
    exact hm.tr (mB_MText_kind_47 hF)
  · clear hG
    exact hm.tr (mB_MText_kind_47 hF)
set_option maxRecDepth 20000 in
set_option maxHeartbeats 2000000 in
theorem kB_MText_kind_30 {N : Nat} {p0 : Nat} {l1 : Int32} {H : Hp} {r : Int32 × Hp} (hF : B_MText_kind_30 N p0 l1 H = some r) : ab_V y_MText_kind { frames := 1, cells := 0, slots := 0, locals := 22 } (po (.returned (some (.int r.1))) r.2) 0 0 0 0 30 [some (.ref p0), some (.int l1)] [] (hpw H) := by
  unfold B_MText_kind_30 at hF
  refine ab_aload_n d_MText_kind_30 rfl rfl rfl ?_
  refine ab_dup d_MText_kind_31 rfl ?_
  obtain ⟨q14, hG⟩ := ck_s hF; clear hF
  refine hp_getI (f := 11) d_MText_kind_32 q14 (by decide) rfl (by decide) (k8 175 rfl rfl) rfl ?_
  refine ab_topi (fun x15 ex15 => ?_)
  replace hG := bnd_s ex15 hG
  refine ab_aload_n d_MText_kind_35 rfl rfl rfl ?_
  refine hp_getI (f := 9) d_MText_kind_36 q14 (by decide) rfl (by decide) (k8 172 rfl rfl) rfl ?_
  refine ab_topi (fun x16 ex16 => ?_)
  replace hG := bnd_s ex16 hG
  refine ab_if_ne (tgt := 46) d_MText_kind_39 (by decide) (fun q17 => ?_) (fun q17 => ?_)
  · rw [if_neg q17] at hG
    refine ab_iconst (v := 0) d_MText_kind_46 (by decide) ?_
    exact kB_MText_kind_47 hG
  · rw [if_pos q17] at hG
    refine ab_iconst (v := 1) d_MText_kind_42 (by decide) ?_
    refine ab_goto (tgt := 47) d_MText_kind_43 (by decide) ?_
    exact kB_MText_kind_47 hG
def F_MText_kind (N : Nat) (p0 : Nat) (H : Hp) : Option (Int32 × Hp) :=
    ck (H.sh[p0]? = some (14, 0)) <|
    rf (H.P p0 3) fun a2 =>
    bnd ((H.D p0 11)) fun x4 =>
    ar H 100 a2 fun n5 =>
    ck (inb x4 n5) <|
    bnd ((H.D a2 (x4).toNatClampNeg)) fun x8 =>
    bnd ((x8 - (209 : Int32))) fun x9 =>
    bC (F_MText_isKind N p0 H) fun v11 H12 =>
    if v11 = (0 : Int32) then
    bnd ((H12.D p0 11)) fun x32 =>
    bC (F_MText_fails N p0 (1 : Int32) x32 H12) fun v34 H35 =>
    B_MText_kind_30 N p0 x9 H35
    else
    B_MText_kind_30 N p0 x9 H12
set_option maxRecDepth 20000 in
set_option maxHeartbeats 2000000 in
theorem m_MText_kind {N : Nat} {p0 : Nat} {H : Hp} {r : Int32 × Hp} (hF : F_MText_kind N p0 H = some r) : Sa H r.2 := by
  unfold F_MText_kind at hF
  have hm := Sa.rf H
  obtain ⟨q36, hG⟩ := ck_s hF; clear hF
  obtain ⟨a37, e38, hF⟩ := rf_s hG; clear hG
  obtain ⟨x39, -, hG⟩ := bnd_g hF; clear hF
  obtain ⟨n40, q41, hF⟩ := ar_s hG; clear hG
  obtain ⟨q42, hG⟩ := ck_s hF; clear hF
  obtain ⟨x43, -, hF⟩ := bnd_g hG; clear hG
  obtain ⟨x44, -, hG⟩ := bnd_g hF; clear hF
  obtain ⟨v46, H47, z45, hF⟩ := bC_s hG; clear hG
  replace hm : Sa H H47 := hm.tr (m_MText_isKind z45)
  rcases ite_s hF with ⟨q_8, hG⟩ | ⟨q_8, hG⟩
  · clear hF
    obtain ⟨x49, -, hF⟩ := bnd_g hG; clear hG
    obtain ⟨v51, H52, z50, hG⟩ := bC_s hF; clear hF
    replace hm : Sa H H52 := hm.tr (m_MText_fails z50)
    exact hm.tr (mB_MText_kind_30 hG)
  · clear hF
    exact hm.tr (mB_MText_kind_30 hG)
set_option maxRecDepth 20000 in
set_option maxHeartbeats 2000000 in
theorem k_MText_kind {N : Nat} {p0 : Nat} {H : Hp} {r : Int32 × Hp} (hF : F_MText_kind N p0 H = some r) : ab_M y_MText_kind { frames := 1, cells := 0, slots := 0, locals := 22 } [.ref p0] (hpw H) (po (.returned (some (.int r.1))) r.2) := by
  unfold F_MText_kind at hF
  refine ab_of2 (lv := [some (.ref p0), none]) 1 rfl rfl (Nat.le_of_ble_eq_true rfl) ?_
  refine ab_aload_n d_MText_kind_0 rfl rfl rfl ?_
  obtain ⟨q1, hG⟩ := ck_s hF; clear hF
  obtain ⟨a2, e3, hF⟩ := rf_s hG; clear hG
  refine hp_getR (f := 3) d_MText_kind_1 q1 (by decide) rfl (by decide) (k8 162 rfl rfl) rfl e3 ?_
  refine ab_aload_n d_MText_kind_4 rfl rfl rfl ?_
  refine hp_getI (f := 11) d_MText_kind_5 q1 (by decide) rfl (by decide) (k8 175 rfl rfl) rfl ?_
  refine ab_topi (fun x4 ex4 => ?_)
  replace hF := bnd_s ex4 hF
  obtain ⟨n5, q6, hG⟩ := ar_s hF; clear hF
  obtain ⟨q7, hF⟩ := ck_s hG; clear hG
  refine hp_iald d_MText_kind_8 tI q6 q7 ?_
  refine ab_topi (fun x8 ex8 => ?_)
  replace hF := bnd_s ex8 hF
  refine ab_sipush (v := 209) d_MText_kind_9 (by decide) ?_
  refine ab_isub d_MText_kind_12 ?_
  refine ab_topi (fun x9 ex9 => ?_)
  replace hF := bnd_s ex9 hF
  refine ab_istore_n (lv' := [some (.ref p0), some (.int x9)]) d_MText_kind_13 rfl (by decide) rfl ?_
  refine ab_aload_n d_MText_kind_14 rfl rfl rfl ?_
  obtain ⟨v11, H12, z10, hG⟩ := bC_s hF; clear hF
  refine hp_callV_a (v := .int v11) (H1 := H12) (As := []) (rest := []) d_MText_kind_15 (k_MText_isKind z10) (ab_mkC s_MText_isKind (Nat.le_of_ble_eq_true rfl) (Nat.le_of_ble_eq_true rfl) (Nat.le_refl 0) (Nat.le_refl 0)) (k10 192 rfl rfl) i_MText_isKind v_MText_isKind q1 (by decide) rfl rfl (Nat.le_of_ble_eq_true rfl) ?_
  have s_1 : Sa H H12 := (m_MText_isKind z10)
  refine ab_if_ne (tgt := 30) d_MText_kind_18 (by decide) (fun q13 => ?_) (fun q13 => ?_)
  · rw [if_neg q13] at hG
    exact kB_MText_kind_30 hG
  · rw [if_pos q13] at hG
    refine ab_aload_n d_MText_kind_21 rfl rfl rfl ?_
    refine ab_iconst (v := 1) d_MText_kind_22 (by decide) ?_
    refine ab_aload_n d_MText_kind_23 rfl rfl rfl ?_
    refine hp_getI (f := 11) d_MText_kind_24 (by rw [(s_1).1]; exact q1) (by decide) rfl (by decide) (k8 175 rfl rfl) rfl ?_
    refine ab_topi (fun x32 ex32 => ?_)
    replace hG := bnd_s ex32 hG
    obtain ⟨v34, H35, z33, hF⟩ := bC_s hG; clear hG
    refine hp_callV_v (H1 := H35) (As := [.int 1, .int x32]) (rest := []) d_MText_kind_27 (k_MText_fails z33) (ab_mkC s_MText_fails (Nat.le_of_ble_eq_true rfl) (Nat.le_of_ble_eq_true rfl) (Nat.le_refl 0) (Nat.le_refl 0)) (k10 160 rfl rfl) i_MText_fails v_MText_fails (by rw [(s_1).1]; exact q1) (by decide) rfl rfl (Nat.le_of_ble_eq_true rfl) ?_
    have s_6 : Sa H H35 := (s_1).tr (m_MText_fails z33)
    exact kB_MText_kind_30 hF
def y_MText_member : ab_Y := (⟨"WorldEngineModel$Text", "member", "(ILWorldEngineModel$Text;I)I"⟩, prog_16_method_13_code, 5, (some FieldType.int), [])
theorem d_MText_member_0 : decode y_MText_member.2.1 0 = .ok (.aload_n 0, 1) := by decide +kernel
theorem d_MText_member_1 : decode y_MText_member.2.1 1 = .ok (.getfield 47, 3) := by decide +kernel
theorem d_MText_member_4 : decode y_MText_member.2.1 4 = .ok (.iload_n 1, 1) := by decide +kernel
theorem d_MText_member_5 : decode y_MText_member.2.1 5 = .ok (.iaload, 1) := by decide +kernel
theorem d_MText_member_6 : decode y_MText_member.2.1 6 = .ok (.istore 4, 2) := by decide +kernel
theorem d_MText_member_8 : decode y_MText_member.2.1 8 = .ok (.iload 4, 2) := by decide +kernel
theorem d_MText_member_10 : decode y_MText_member.2.1 10 = .ok (.aload_n 0, 1) := by decide +kernel
theorem d_MText_member_11 : decode y_MText_member.2.1 11 = .ok (.getfield 47, 3) := by decide +kernel
theorem d_MText_member_14 : decode y_MText_member.2.1 14 = .ok (.iload_n 1, 1) := by decide +kernel
theorem d_MText_member_15 : decode y_MText_member.2.1 15 = .ok (.iconst 1, 1) := by decide +kernel
theorem d_MText_member_16 : decode y_MText_member.2.1 16 = .ok (.iadd, 1) := by decide +kernel
theorem d_MText_member_17 : decode y_MText_member.2.1 17 = .ok (.iaload, 1) := by decide +kernel
theorem d_MText_member_18 : decode y_MText_member.2.1 18 = .ok (.if_icmp .ge 28, 3) := by decide +kernel
theorem d_MText_member_21 : decode y_MText_member.2.1 21 = .ok (.aload_n 0, 1) := by decide +kernel
theorem d_MText_member_22 : decode y_MText_member.2.1 22 = .ok (.aload_n 0, 1) := by decide +kernel
theorem d_MText_member_23 : decode y_MText_member.2.1 23 = .ok (.getfield 53, 3) := by decide +kernel
theorem d_MText_member_26 : decode y_MText_member.2.1 26 = .ok (.iload 4, 2) := by decide +kernel
theorem d_MText_member_28 : decode y_MText_member.2.1 28 = .ok (.iaload, 1) := by decide +kernel
theorem d_MText_member_29 : decode y_MText_member.2.1 29 = .ok (.aload_n 2, 1) := by decide +kernel
theorem d_MText_member_30 : decode y_MText_member.2.1 30 = .ok (.iload_n 3, 1) := by decide +kernel
theorem d_MText_member_31 : decode y_MText_member.2.1 31 = .ok (.invokevirtual 170, 3) := by decide +kernel
theorem d_MText_member_34 : decode y_MText_member.2.1 34 = .ok (.ifCond .eq 6, 3) := by decide +kernel
theorem d_MText_member_37 : decode y_MText_member.2.1 37 = .ok (.iload 4, 2) := by decide +kernel
theorem d_MText_member_39 : decode y_MText_member.2.1 39 = .ok (.ireturn, 1) := by decide +kernel
theorem d_MText_member_40 : decode y_MText_member.2.1 40 = .ok (.iinc 4 1, 3) := by decide +kernel
theorem d_MText_member_43 : decode y_MText_member.2.1 43 = .ok (.goto (-35), 3) := by decide +kernel
theorem d_MText_member_46 : decode y_MText_member.2.1 46 = .ok (.iconst (-1), 1) := by decide +kernel
theorem d_MText_member_47 : decode y_MText_member.2.1 47 = .ok (.ireturn, 1) := by decide +kernel
theorem s_MText_member : ab_Stat y_MText_member 3 := ⟨(k10 203 rfl rfl), (k1 20 rfl rfl), ⟨by decide, by decide⟩, by decide +kernel⟩
theorem i_MText_member : Cond.instanceMethod y_MText_member.1 ∈ ab_T := (k10 201 rfl rfl)
theorem v_MText_member : Cond.selects "WorldEngineModel$Text" y_MText_member.1 y_MText_member.1 ∈ ab_T := (k10 202 rfl rfl)
def B_MText_member_8 (N : Nat) (p0 : Nat) (p1 : Int32) (p2 : Nat) (p3 : Int32) : Nat → Int32 → Hp → Option (Int32 × Hp)
  | 0, _, _ => none
  | n + 1, l4, H =>
    ck (H.sh[p0]? = some (14, 0)) <|
    rf (H.P p0 18) fun a9 =>
    ar H 100 a9 fun n11 =>
    ck (inb (p1 + (1 : Int32)) n11) <|
    bnd ((H.D a9 ((p1 + (1 : Int32))).toNatClampNeg)) fun x14 =>
    if x14 ≤ l4 then
    some ((-1), H)
    else
    rf (H.P p0 20) fun a16 =>
    ar H 100 a16 fun n18 =>
    ck (inb l4 n18) <|
    bnd ((H.D a16 (l4).toNatClampNeg)) fun x21 =>
    bC (F_MText_isSame N p0 x21 p2 p3 H) fun v23 H24 =>
    if v23 = (0 : Int32) then
    B_MText_member_8 N p0 p1 p2 p3 n (l4 + 1) H24
    else
    some (l4, H24)
termination_by structural n => n
set_option maxRecDepth 20000 in
set_option maxHeartbeats 2000000 in
theorem mB_MText_member_8 {N : Nat} {p0 : Nat} {p1 : Int32} {p2 : Nat} {p3 : Int32} : ∀ (n : Nat) (l4 : Int32) (H : Hp) (r : Int32 × Hp), B_MText_member_8 N p0 p1 p2 p3 n l4 H = some r → Sa H r.2 := by
  intro n
  induction n with
  | zero => intro l4 H r hF; rw [B_MText_member_8] at hF; cases hF
  | succ n ih =>
    intro l4 H r hF
    rw [B_MText_member_8] at hF
    have hm := Sa.rf H
    obtain ⟨q26, hG⟩ := ck_s hF; clear hF
    obtain ⟨a27, e28, hF⟩ := rf_s hG; clear hG
    obtain ⟨n29, q30, hG⟩ := ar_s hF; clear hF
    obtain ⟨q31, hF⟩ := ck_s hG; clear hG
    obtain ⟨x32, -, hG⟩ := bnd_g hF; clear hF
    rcases ite_s hG with ⟨q_2, hF⟩ | ⟨q_2, hF⟩
    · clear hG
      have hr := Option.some.inj hF; subst hr
      exact hm
    · clear hG
      obtain ⟨a34, e35, hG⟩ := rf_s hF; clear hF
      obtain ⟨n36, q37, hF⟩ := ar_s hG; clear hG
      obtain ⟨q38, hG⟩ := ck_s hF; clear hF
      obtain ⟨x39, -, hF⟩ := bnd_g hG; clear hG
      obtain ⟨v41, H42, z40, hG⟩ := bC_s hF; clear hF
      replace hm : Sa H H42 := hm.tr (m_MText_isSame z40)
      rcases ite_s hG with ⟨q_4, hF⟩ | ⟨q_4, hF⟩
      · clear hG
        exact hm.tr (ih (l4 + 1) H42 r hF)
      · clear hG
        have hr := Option.some.inj hF; subst hr
        exact hm
set_option maxRecDepth 20000 in
set_option maxHeartbeats 2000000 in
theorem kB_MText_member_8 {N : Nat} {p0 : Nat} {p1 : Int32} {p2 : Nat} {p3 : Int32} : ∀ (n : Nat) (l4 : Int32) (H : Hp) (r : Int32 × Hp), B_MText_member_8 N p0 p1 p2 p3 n l4 H = some r → ab_V y_MText_member { frames := 1, cells := 0, slots := 0, locals := 25 } (po (.returned (some (.int r.1))) r.2) 0 0 0 0 8 [some (.ref p0), some (.int p1), some (.ref p2), some (.int p3), some (.int l4)] [] (hpw H) := by
  intro n
  induction n with
  | zero => intro l4 H r hF; rw [B_MText_member_8] at hF; cases hF
  | succ n ih =>
    intro l4 H r hF
    rw [B_MText_member_8] at hF
    refine ab_iload d_MText_member_8 rfl ?_
    refine ab_aload_n d_MText_member_10 rfl rfl rfl ?_
    obtain ⟨q8, hG⟩ := ck_s hF; clear hF
    obtain ⟨a9, e10, hF⟩ := rf_s hG; clear hG
    refine hp_getR (f := 18) d_MText_member_11 q8 (by decide) rfl (by decide) (k8 184 rfl rfl) rfl e10 ?_
    refine ab_iload_n d_MText_member_14 rfl rfl ?_
    refine ab_iconst (v := 1) d_MText_member_15 (by decide) ?_
    refine ab_iadd d_MText_member_16 ?_
    obtain ⟨n11, q12, hG⟩ := ar_s hF; clear hF
    obtain ⟨q13, hF⟩ := ck_s hG; clear hG
    refine hp_iald d_MText_member_17 tI q12 q13 ?_
    refine ab_topi (fun x14 ex14 => ?_)
    replace hF := bnd_s ex14 hF
    refine ab_icmp_ge (tgt := 46) d_MText_member_18 (by decide) (fun q15 => ?_) (fun q15 => ?_)
    · rw [if_pos q15] at hF
      refine ab_iconst (v := (-1)) d_MText_member_46 (by decide) ?_
      exact ab_iret d_MText_member_47 rfl (Nat.le_refl _) (Nat.le_refl _) (by have hr := Option.some.inj hF; subst hr; exact ⟨rfl, rfl⟩)
    · rw [if_neg q15] at hF
      refine ab_aload_n d_MText_member_21 rfl rfl rfl ?_
      refine ab_aload_n d_MText_member_22 rfl rfl rfl ?_
      obtain ⟨a16, e17, hG⟩ := rf_s hF; clear hF
      refine hp_getR (f := 20) d_MText_member_23 q8 (by decide) rfl (by decide) (k8 192 rfl rfl) rfl e17 ?_
      refine ab_iload d_MText_member_26 rfl ?_
      obtain ⟨n18, q19, hF⟩ := ar_s hG; clear hG
      obtain ⟨q20, hG⟩ := ck_s hF; clear hF
      refine hp_iald d_MText_member_28 tI q19 q20 ?_
      refine ab_topi (fun x21 ex21 => ?_)
      replace hG := bnd_s ex21 hG
      refine ab_aload_n d_MText_member_29 rfl rfl rfl ?_
      refine ab_iload_n d_MText_member_30 rfl rfl ?_
      obtain ⟨v23, H24, z22, hF⟩ := bC_s hG; clear hG
      refine hp_callV_a (v := .int v23) (H1 := H24) (As := [.int x21, .ref p2, .int p3]) (rest := []) d_MText_member_31 (k_MText_isSame z22) (ab_mkC s_MText_isSame (Nat.le_of_ble_eq_true rfl) (Nat.le_of_ble_eq_true rfl) (Nat.le_refl 0) (Nat.le_refl 0)) (k10 188 rfl rfl) i_MText_isSame v_MText_isSame q8 (by decide) rfl rfl (Nat.le_of_ble_eq_true rfl) ?_
      have s_1 : Sa H H24 := (m_MText_isSame z22)
      refine ab_if_eq (tgt := 40) d_MText_member_34 (by decide) (fun q25 => ?_) (fun q25 => ?_)
      · rw [if_pos q25] at hF
        refine ab_iinc (v := l4 + 1) (lv' := [some (.ref p0), some (.int p1), some (.ref p2), some (.int p3), some (.int (l4 + 1))]) d_MText_member_40 rfl rfl (by decide) rfl ?_
        refine ab_goto (tgt := 8) d_MText_member_43 (by decide) ?_
        exact ih (l4 + 1) H24 r hF
      · rw [if_neg q25] at hF
        refine ab_iload d_MText_member_37 rfl ?_
        exact ab_iret d_MText_member_39 rfl (Nat.le_refl _) (Nat.le_refl _) (by have hr := Option.some.inj hF; subst hr; exact ⟨rfl, rfl⟩)
def F_MText_member (N : Nat) (p0 : Nat) (p1 : Int32) (p2 : Nat) (p3 : Int32) (H : Hp) : Option (Int32 × Hp) :=
    ck (H.sh[p0]? = some (14, 0)) <|
    rf (H.P p0 18) fun a2 =>
    ar H 100 a2 fun n4 =>
    ck (inb p1 n4) <|
    bnd ((H.D a2 (p1).toNatClampNeg)) fun x7 =>
    B_MText_member_8 N p0 p1 p2 p3 N x7 H
set_option maxRecDepth 20000 in
set_option maxHeartbeats 2000000 in
theorem m_MText_member {N : Nat} {p0 : Nat} {p1 : Int32} {p2 : Nat} {p3 : Int32} {H : Hp} {r : Int32 × Hp} (hF : F_MText_member N p0 p1 p2 p3 H = some r) : Sa H r.2 := by
  unfold F_MText_member at hF
  have hm := Sa.rf H
  obtain ⟨q44, hG⟩ := ck_s hF; clear hF
  obtain ⟨a45, e46, hF⟩ := rf_s hG; clear hG
  obtain ⟨n47, q48, hG⟩ := ar_s hF; clear hF
  obtain ⟨q49, hF⟩ := ck_s hG; clear hG
  obtain ⟨x50, -, hG⟩ := bnd_g hF; clear hF
  exact hm.tr (mB_MText_member_8 N x50 H r hG)
set_option maxRecDepth 20000 in
set_option maxHeartbeats 2000000 in
theorem k_MText_member {N : Nat} {p0 : Nat} {p1 : Int32} {p2 : Nat} {p3 : Int32} {H : Hp} {r : Int32 × Hp} (hF : F_MText_member N p0 p1 p2 p3 H = some r) : ab_M y_MText_member { frames := 1, cells := 0, slots := 0, locals := 25 } [.ref p0, .int p1, .ref p2, .int p3] (hpw H) (po (.returned (some (.int r.1))) r.2) := by
  unfold F_MText_member at hF
  refine ab_of2 (lv := [some (.ref p0), some (.int p1), some (.ref p2), some (.int p3), none]) 1 rfl rfl (Nat.le_of_ble_eq_true rfl) ?_
  refine ab_aload_n d_MText_member_0 rfl rfl rfl ?_
  obtain ⟨q1, hG⟩ := ck_s hF; clear hF
  obtain ⟨a2, e3, hF⟩ := rf_s hG; clear hG
  refine hp_getR (f := 18) d_MText_member_1 q1 (by decide) rfl (by decide) (k8 184 rfl rfl) rfl e3 ?_
  refine ab_iload_n d_MText_member_4 rfl rfl ?_
  obtain ⟨n4, q5, hG⟩ := ar_s hF; clear hF
  obtain ⟨q6, hF⟩ := ck_s hG; clear hG
  refine hp_iald d_MText_member_5 tI q5 q6 ?_
  refine ab_topi (fun x7 ex7 => ?_)
  replace hF := bnd_s ex7 hF
  refine ab_istore (lv' := [some (.ref p0), some (.int p1), some (.ref p2), some (.int p3), some (.int x7)]) d_MText_member_6 (by decide) rfl ?_
  exact kB_MText_member_8 N x7 H r hF
def y_MText_component : ab_Y := (⟨"WorldEngineModel$Text", "component", "()V"⟩, prog_16_method_28_code, 6, none, [])
theorem d_MText_component_0 : decode y_MText_component.2.1 0 = .ok (.aload_n 0, 1) := by decide +kernel
theorem d_MText_component_1 : decode y_MText_component.2.1 1 = .ok (.aload_n 0, 1) := by decide +kernel
theorem d_MText_component_2 : decode y_MText_component.2.1 2 = .ok (.getfield 216, 3) := by decide +kernel
theorem d_MText_component_5 : decode y_MText_component.2.1 5 = .ok (.bipush 16, 2) := by decide +kernel
theorem d_MText_component_7 : decode y_MText_component.2.1 7 = .ok (.invokevirtual 246, 3) := by decide +kernel
theorem d_MText_component_10 : decode y_MText_component.2.1 10 = .ok (.aload_n 0, 1) := by decide +kernel
theorem d_MText_component_11 : decode y_MText_component.2.1 11 = .ok (.getfield 216, 3) := by decide +kernel
theorem d_MText_component_14 : decode y_MText_component.2.1 14 = .ok (.istore_n 1, 1) := by decide +kernel
theorem d_MText_component_15 : decode y_MText_component.2.1 15 = .ok (.aload_n 0, 1) := by decide +kernel
theorem d_MText_component_16 : decode y_MText_component.2.1 16 = .ok (.iconst 2, 1) := by decide +kernel
theorem d_MText_component_17 : decode y_MText_component.2.1 17 = .ok (.iload_n 1, 1) := by decide +kernel
theorem d_MText_component_18 : decode y_MText_component.2.1 18 = .ok (.invokevirtual 249, 3) := by decide +kernel
theorem d_MText_component_21 : decode y_MText_component.2.1 21 = .ok (.istore_n 2, 1) := by decide +kernel
theorem d_MText_component_22 : decode y_MText_component.2.1 22 = .ok (.aload_n 0, 1) := by decide +kernel
theorem d_MText_component_23 : decode y_MText_component.2.1 23 = .ok (.getfield 185, 3) := by decide +kernel
theorem d_MText_component_26 : decode y_MText_component.2.1 26 = .ok (.ifCond .le 4, 3) := by decide +kernel
theorem d_MText_component_29 : decode y_MText_component.2.1 29 = .ok (.return_, 1) := by decide +kernel
theorem d_MText_component_30 : decode y_MText_component.2.1 30 = .ok (.aload_n 0, 1) := by decide +kernel
theorem d_MText_component_31 : decode y_MText_component.2.1 31 = .ok (.getfield 44, 3) := by decide +kernel
theorem d_MText_component_34 : decode y_MText_component.2.1 34 = .ok (.iload_n 1, 1) := by decide +kernel
theorem d_MText_component_35 : decode y_MText_component.2.1 35 = .ok (.iload_n 2, 1) := by decide +kernel
theorem d_MText_component_36 : decode y_MText_component.2.1 36 = .ok (.iastore, 1) := by decide +kernel
theorem d_MText_component_37 : decode y_MText_component.2.1 37 = .ok (.aload_n 0, 1) := by decide +kernel
theorem d_MText_component_38 : decode y_MText_component.2.1 38 = .ok (.getfield 47, 3) := by decide +kernel
theorem d_MText_component_41 : decode y_MText_component.2.1 41 = .ok (.iload_n 1, 1) := by decide +kernel
theorem d_MText_component_42 : decode y_MText_component.2.1 42 = .ok (.iconst 1, 1) := by decide +kernel
theorem d_MText_component_43 : decode y_MText_component.2.1 43 = .ok (.iadd, 1) := by decide +kernel
theorem d_MText_component_44 : decode y_MText_component.2.1 44 = .ok (.aload_n 0, 1) := by decide +kernel
theorem d_MText_component_45 : decode y_MText_component.2.1 45 = .ok (.getfield 47, 3) := by decide +kernel
theorem d_MText_component_48 : decode y_MText_component.2.1 48 = .ok (.iload_n 1, 1) := by decide +kernel
theorem d_MText_component_49 : decode y_MText_component.2.1 49 = .ok (.iaload, 1) := by decide +kernel
theorem d_MText_component_50 : decode y_MText_component.2.1 50 = .ok (.iastore, 1) := by decide +kernel
theorem d_MText_component_51 : decode y_MText_component.2.1 51 = .ok (.aload_n 0, 1) := by decide +kernel
theorem d_MText_component_52 : decode y_MText_component.2.1 52 = .ok (.dup, 1) := by decide +kernel
theorem d_MText_component_53 : decode y_MText_component.2.1 53 = .ok (.getfield 216, 3) := by decide +kernel
theorem d_MText_component_56 : decode y_MText_component.2.1 56 = .ok (.iconst 1, 1) := by decide +kernel
theorem d_MText_component_57 : decode y_MText_component.2.1 57 = .ok (.iadd, 1) := by decide +kernel
theorem d_MText_component_58 : decode y_MText_component.2.1 58 = .ok (.putfield 216, 3) := by decide +kernel
theorem d_MText_component_61 : decode y_MText_component.2.1 61 = .ok (.aload_n 0, 1) := by decide +kernel
theorem d_MText_component_62 : decode y_MText_component.2.1 62 = .ok (.bipush 123, 2) := by decide +kernel
theorem d_MText_component_64 : decode y_MText_component.2.1 64 = .ok (.invokevirtual 204, 3) := by decide +kernel
theorem d_MText_component_67 : decode y_MText_component.2.1 67 = .ok (.aload_n 0, 1) := by decide +kernel
theorem d_MText_component_68 : decode y_MText_component.2.1 68 = .ok (.getfield 185, 3) := by decide +kernel
theorem d_MText_component_71 : decode y_MText_component.2.1 71 = .ok (.ifCond .ne 138, 3) := by decide +kernel
theorem d_MText_component_74 : decode y_MText_component.2.1 74 = .ok (.aload_n 0, 1) := by decide +kernel
theorem d_MText_component_75 : decode y_MText_component.2.1 75 = .ok (.bipush 125, 2) := by decide +kernel
theorem d_MText_component_77 : decode y_MText_component.2.1 77 = .ok (.invokevirtual 197, 3) := by decide +kernel
theorem d_MText_component_80 : decode y_MText_component.2.1 80 = .ok (.ifCond .ne 129, 3) := by decide +kernel
theorem d_MText_component_83 : decode y_MText_component.2.1 83 = .ok (.aload_n 0, 1) := by decide +kernel
theorem d_MText_component_84 : decode y_MText_component.2.1 84 = .ok (.getfield 47, 3) := by decide +kernel
theorem d_MText_component_87 : decode y_MText_component.2.1 87 = .ok (.iload_n 1, 1) := by decide +kernel
theorem d_MText_component_88 : decode y_MText_component.2.1 88 = .ok (.iconst 1, 1) := by decide +kernel
theorem d_MText_component_89 : decode y_MText_component.2.1 89 = .ok (.iadd, 1) := by decide +kernel
theorem d_MText_component_90 : decode y_MText_component.2.1 90 = .ok (.iaload, 1) := by decide +kernel
theorem d_MText_component_91 : decode y_MText_component.2.1 91 = .ok (.istore_n 3, 1) := by decide +kernel
theorem d_MText_component_92 : decode y_MText_component.2.1 92 = .ok (.aload_n 0, 1) := by decide +kernel
theorem d_MText_component_93 : decode y_MText_component.2.1 93 = .ok (.invokevirtual 208, 3) := by decide +kernel
theorem d_MText_component_96 : decode y_MText_component.2.1 96 = .ok (.ifCond .eq 31, 3) := by decide +kernel
theorem d_MText_component_99 : decode y_MText_component.2.1 99 = .ok (.iload_n 3, 1) := by decide +kernel
theorem d_MText_component_100 : decode y_MText_component.2.1 100 = .ok (.aload_n 0, 1) := by decide +kernel
theorem d_MText_component_101 : decode y_MText_component.2.1 101 = .ok (.getfield 47, 3) := by decide +kernel
theorem d_MText_component_104 : decode y_MText_component.2.1 104 = .ok (.iload_n 1, 1) := by decide +kernel
theorem d_MText_component_105 : decode y_MText_component.2.1 105 = .ok (.iaload, 1) := by decide +kernel
theorem d_MText_component_106 : decode y_MText_component.2.1 106 = .ok (.isub, 1) := by decide +kernel
theorem d_MText_component_107 : decode y_MText_component.2.1 107 = .ok (.bipush 8, 2) := by decide +kernel
theorem d_MText_component_109 : decode y_MText_component.2.1 109 = .ok (.if_icmp .eq 9, 3) := by decide +kernel
theorem d_MText_component_112 : decode y_MText_component.2.1 112 = .ok (.iload_n 3, 1) := by decide +kernel
theorem d_MText_component_113 : decode y_MText_component.2.1 113 = .ok (.bipush 48, 2) := by decide +kernel
theorem d_MText_component_115 : decode y_MText_component.2.1 115 = .ok (.if_icmp .ne 12, 3) := by decide +kernel
theorem d_MText_component_118 : decode y_MText_component.2.1 118 = .ok (.aload_n 0, 1) := by decide +kernel
theorem d_MText_component_119 : decode y_MText_component.2.1 119 = .ok (.iconst 2, 1) := by decide +kernel
theorem d_MText_component_120 : decode y_MText_component.2.1 120 = .ok (.aload_n 0, 1) := by decide +kernel
theorem d_MText_component_121 : decode y_MText_component.2.1 121 = .ok (.getfield 191, 3) := by decide +kernel
theorem d_MText_component_124 : decode y_MText_component.2.1 124 = .ok (.invokevirtual 200, 3) := by decide +kernel
theorem d_MText_component_127 : decode y_MText_component.2.1 127 = .ok (.aload_n 0, 1) := by decide +kernel
theorem d_MText_component_128 : decode y_MText_component.2.1 128 = .ok (.invokevirtual 253, 3) := by decide +kernel
theorem d_MText_component_131 : decode y_MText_component.2.1 131 = .ok (.istore 4, 2) := by decide +kernel
theorem d_MText_component_133 : decode y_MText_component.2.1 133 = .ok (.aload_n 0, 1) := by decide +kernel
theorem d_MText_component_134 : decode y_MText_component.2.1 134 = .ok (.invokevirtual 240, 3) := by decide +kernel
theorem d_MText_component_137 : decode y_MText_component.2.1 137 = .ok (.istore 5, 2) := by decide +kernel
theorem d_MText_component_139 : decode y_MText_component.2.1 139 = .ok (.aload_n 0, 1) := by decide +kernel
theorem d_MText_component_140 : decode y_MText_component.2.1 140 = .ok (.getfield 185, 3) := by decide +kernel
theorem d_MText_component_143 : decode y_MText_component.2.1 143 = .ok (.ifCond .ne 21, 3) := by decide +kernel
theorem d_MText_component_146 : decode y_MText_component.2.1 146 = .ok (.aload_n 0, 1) := by decide +kernel
theorem d_MText_component_147 : decode y_MText_component.2.1 147 = .ok (.iload_n 1, 1) := by decide +kernel
theorem d_MText_component_148 : decode y_MText_component.2.1 148 = .ok (.aload_n 0, 1) := by decide +kernel
theorem d_MText_component_149 : decode y_MText_component.2.1 149 = .ok (.iload 5, 2) := by decide +kernel
theorem d_MText_component_151 : decode y_MText_component.2.1 151 = .ok (.invokevirtual 256, 3) := by decide +kernel
theorem d_MText_component_154 : decode y_MText_component.2.1 154 = .ok (.ifCond .lt 10, 3) := by decide +kernel
theorem d_MText_component_157 : decode y_MText_component.2.1 157 = .ok (.aload_n 0, 1) := by decide +kernel
theorem d_MText_component_158 : decode y_MText_component.2.1 158 = .ok (.iconst 3, 1) := by decide +kernel
theorem d_MText_component_159 : decode y_MText_component.2.1 159 = .ok (.iload 5, 2) := by decide +kernel
theorem d_MText_component_161 : decode y_MText_component.2.1 161 = .ok (.invokevirtual 200, 3) := by decide +kernel
theorem d_MText_component_164 : decode y_MText_component.2.1 164 = .ok (.aload_n 0, 1) := by decide +kernel
theorem d_MText_component_165 : decode y_MText_component.2.1 165 = .ok (.bipush 59, 2) := by decide +kernel
theorem d_MText_component_167 : decode y_MText_component.2.1 167 = .ok (.invokevirtual 204, 3) := by decide +kernel
theorem d_MText_component_170 : decode y_MText_component.2.1 170 = .ok (.aload_n 0, 1) := by decide +kernel
theorem d_MText_component_171 : decode y_MText_component.2.1 171 = .ok (.getfield 185, 3) := by decide +kernel
theorem d_MText_component_174 : decode y_MText_component.2.1 174 = .ok (.ifCond .le 4, 3) := by decide +kernel
theorem d_MText_component_177 : decode y_MText_component.2.1 177 = .ok (.return_, 1) := by decide +kernel
theorem d_MText_component_178 : decode y_MText_component.2.1 178 = .ok (.aload_n 0, 1) := by decide +kernel
theorem d_MText_component_179 : decode y_MText_component.2.1 179 = .ok (.getfield 50, 3) := by decide +kernel
theorem d_MText_component_182 : decode y_MText_component.2.1 182 = .ok (.iload_n 3, 1) := by decide +kernel
theorem d_MText_component_183 : decode y_MText_component.2.1 183 = .ok (.iload 4, 2) := by decide +kernel
theorem d_MText_component_185 : decode y_MText_component.2.1 185 = .ok (.iastore, 1) := by decide +kernel
theorem d_MText_component_186 : decode y_MText_component.2.1 186 = .ok (.aload_n 0, 1) := by decide +kernel
theorem d_MText_component_187 : decode y_MText_component.2.1 187 = .ok (.getfield 53, 3) := by decide +kernel
theorem d_MText_component_190 : decode y_MText_component.2.1 190 = .ok (.iload_n 3, 1) := by decide +kernel
theorem d_MText_component_191 : decode y_MText_component.2.1 191 = .ok (.iload 5, 2) := by decide +kernel
theorem d_MText_component_193 : decode y_MText_component.2.1 193 = .ok (.iastore, 1) := by decide +kernel
theorem d_MText_component_194 : decode y_MText_component.2.1 194 = .ok (.aload_n 0, 1) := by decide +kernel
theorem d_MText_component_195 : decode y_MText_component.2.1 195 = .ok (.getfield 47, 3) := by decide +kernel
theorem d_MText_component_198 : decode y_MText_component.2.1 198 = .ok (.iload_n 1, 1) := by decide +kernel
theorem d_MText_component_199 : decode y_MText_component.2.1 199 = .ok (.iconst 1, 1) := by decide +kernel
theorem d_MText_component_200 : decode y_MText_component.2.1 200 = .ok (.iadd, 1) := by decide +kernel
theorem d_MText_component_201 : decode y_MText_component.2.1 201 = .ok (.dup2, 1) := by decide +kernel
theorem d_MText_component_202 : decode y_MText_component.2.1 202 = .ok (.iaload, 1) := by decide +kernel
theorem d_MText_component_203 : decode y_MText_component.2.1 203 = .ok (.iconst 1, 1) := by decide +kernel
theorem d_MText_component_204 : decode y_MText_component.2.1 204 = .ok (.iadd, 1) := by decide +kernel
theorem d_MText_component_205 : decode y_MText_component.2.1 205 = .ok (.iastore, 1) := by decide +kernel
theorem d_MText_component_206 : decode y_MText_component.2.1 206 = .ok (.goto (-139), 3) := by decide +kernel
theorem d_MText_component_209 : decode y_MText_component.2.1 209 = .ok (.return_, 1) := by decide +kernel
theorem s_MText_component : ab_Stat y_MText_component 0 := ⟨(k10 155 rfl rfl), (k1 20 rfl rfl), ⟨by decide, by decide⟩, by decide +kernel⟩
theorem i_MText_component : Cond.instanceMethod y_MText_component.1 ∈ ab_T := (k10 154 rfl rfl)
theorem v_MText_component : Cond.selects "WorldEngineModel$Text" y_MText_component.1 y_MText_component.1 ∈ ab_T := ab_s (List.mem_of_getElem? (i := 114) rfl) rfl
def B_MText_component_164 (N : Nat) (p0 : Nat) (kq67 : Int32 → Hp → Option (Unit × Hp)) (l1 : Int32) (l3 : Int32) (l4 : Int32) (l5 : Int32) (H : Hp) : Option (Unit × Hp) :=
    ck (H.sh[p0]? = some (14, 0)) <|
    bC (F_MText_takes N p0 (59 : Int32) H) fun v63 H64 =>
    bnd ((H64.D p0 9)) fun x65 =>
    if x65 ≤ (0 : Int32) then
    rf (H64.P p0 19) fun a67 =>
    ar H64 100 a67 fun n69 =>
    ck (inb l3 n69) <|
    bnd (H64.sD a67 (l3).toNatClampNeg l4) fun H72 =>
    rf (H72.P p0 20) fun a73 =>
    ar H72 100 a73 fun n75 =>
    ck (inb l3 n75) <|
    bnd (H72.sD a73 (l3).toNatClampNeg l5) fun H78 =>
    rf (H78.P p0 18) fun a79 =>
    ar H78 100 a79 fun n81 =>
    ck (inb (l1 + (1 : Int32)) n81) <|
    bnd ((H78.D a79 ((l1 + (1 : Int32))).toNatClampNeg)) fun x84 =>
    ck (inb (l1 + (1 : Int32)) n81) <|
    bnd (H78.sD a79 ((l1 + (1 : Int32))).toNatClampNeg (x84 + (1 : Int32))) fun H86 =>
    kq67 l1 H86
    else
    some ((), H64)
set_option maxRecDepth 20000 in
set_option maxHeartbeats 2000000 in
theorem mB_MText_component_164 {N : Nat} {p0 : Nat} {kq67 : Int32 → Hp → Option (Unit × Hp)} (hm67 : ∀ (l1 : Int32) (H : Hp) (r : Unit × Hp), kq67 l1 H = some r → Sa H r.2) {l1 : Int32} {l3 : Int32} {l4 : Int32} {l5 : Int32} {H : Hp} {r : Unit × Hp} (hF : B_MText_component_164 N p0 kq67 l1 l3 l4 l5 H = some r) : Sa H r.2 := by
  unfold B_MText_component_164 at hF
  have hm := Sa.rf H
  obtain ⟨q87, hG⟩ := ck_s hF; clear hF
  obtain ⟨v89, H90, z88, hF⟩ := bC_s hG; clear hG
  replace hm : Sa H H90 := hm.tr (m_MText_takes z88)
  obtain ⟨x91, -, hG⟩ := bnd_g hF; clear hF
  rcases ite_s hG with ⟨q_16, hF⟩ | ⟨q_16, hF⟩
  · clear hG
    obtain ⟨a93, e94, hG⟩ := rf_s hF; clear hF
    obtain ⟨n95, q96, hF⟩ := ar_s hG; clear hG
    obtain ⟨q97, hG⟩ := ck_s hF; clear hF
    obtain ⟨H98, eH98, hF⟩ := bnd_g hG; clear hG
    replace hm : Sa H H98 := by rw [eH98]; exact hm
    obtain ⟨a99, e100, hG⟩ := rf_s hF; clear hF
    obtain ⟨n101, q102, hF⟩ := ar_s hG; clear hG
    obtain ⟨q103, hG⟩ := ck_s hF; clear hF
    obtain ⟨H104, eH104, hF⟩ := bnd_g hG; clear hG
    replace hm : Sa H H104 := by rw [eH104]; exact hm
    obtain ⟨a105, e106, hG⟩ := rf_s hF; clear hF
    obtain ⟨n107, q108, hF⟩ := ar_s hG; clear hG
    obtain ⟨q109, hG⟩ := ck_s hF; clear hF
    obtain ⟨x110, -, hF⟩ := bnd_g hG; clear hG
    obtain ⟨q111, hG⟩ := ck_s hF; clear hF
    obtain ⟨H112, eH112, hF⟩ := bnd_g hG; clear hG
    replace hm : Sa H H112 := by rw [eH112]; exact hm
    exact hm.tr (hm67 l1 H112 r hF)
  · clear hG
    have hr := Option.some.inj hF; subst hr
    exact hm
set_option maxRecDepth 20000 in
set_option maxHeartbeats 2000000 in
theorem kB_MText_component_164 {N : Nat} {p0 : Nat} {kq67 : Int32 → Hp → Option (Unit × Hp)} (hm67 : ∀ (l1 : Int32) (H : Hp) (r : Unit × Hp), kq67 l1 H = some r → Sa H r.2) (hk67 : ∀ (l1 : Int32) (H : Hp) (r : Unit × Hp), kq67 l1 H = some r → ab_V y_MText_component { frames := 5, cells := 0, slots := 0, locals := 108 } (po (.returned none) r.2) 0 0 0 0 67 [some (.ref p0), some (.int l1), none, none, none, none] [] (hpw H)) {l1 : Int32} {l3 : Int32} {l4 : Int32} {l5 : Int32} {H : Hp} {r : Unit × Hp} (hF : B_MText_component_164 N p0 kq67 l1 l3 l4 l5 H = some r) : ab_V y_MText_component { frames := 5, cells := 0, slots := 0, locals := 108 } (po (.returned none) r.2) 0 0 0 0 164 [some (.ref p0), some (.int l1), none, some (.int l3), some (.int l4), some (.int l5)] [] (hpw H) := by
  unfold B_MText_component_164 at hF
  refine ab_aload_n d_MText_component_164 rfl rfl rfl ?_
  refine ab_bipush (v := 59) d_MText_component_165 (by decide) ?_
  obtain ⟨q61, hG⟩ := ck_s hF; clear hF
  obtain ⟨v63, H64, z62, hF⟩ := bC_s hG; clear hG
  refine hp_callV_v (H1 := H64) (As := [.int 59]) (rest := []) d_MText_component_167 (k_MText_takes z62) (ab_mkC s_MText_takes (Nat.le_of_ble_eq_true rfl) (Nat.le_of_ble_eq_true rfl) (Nat.le_refl 0) (Nat.le_refl 0)) (k10 172 rfl rfl) i_MText_takes v_MText_takes q61 (by decide) rfl rfl (Nat.le_of_ble_eq_true rfl) ?_
  have s_11 : Sa H H64 := (m_MText_takes z62)
  refine ab_aload_n d_MText_component_170 rfl rfl rfl ?_
  refine hp_getI (f := 9) d_MText_component_171 (by rw [(s_11).1]; exact q61) (by decide) rfl (by decide) (k8 172 rfl rfl) rfl ?_
  refine ab_topi (fun x65 ex65 => ?_)
  replace hF := bnd_s ex65 hF
  refine ab_if_le (tgt := 178) d_MText_component_174 (by decide) (fun q66 => ?_) (fun q66 => ?_)
  · rw [if_pos q66] at hF
    refine ab_aload_n d_MText_component_178 rfl rfl rfl ?_
    obtain ⟨a67, e68, hG⟩ := rf_s hF; clear hF
    refine hp_getR (f := 19) d_MText_component_179 (by rw [(s_11).1]; exact q61) (by decide) rfl (by decide) (k8 188 rfl rfl) rfl e68 ?_
    refine ab_iload_n d_MText_component_182 rfl rfl ?_
    refine ab_iload d_MText_component_183 rfl ?_
    obtain ⟨n69, q70, hF⟩ := ar_s hG; clear hG
    rw [(s_11).1] at q70
    obtain ⟨q71, hG⟩ := ck_s hF; clear hF
    refine hp_iast d_MText_component_185 tI (by rw [(s_11).1]; exact q70) q71 ?_
    refine hp_gen (fun H72 eH72 => ?_)
    replace hG := bnd_s eH72 hG
    have s_12 : Sa H H72 := by rw [eH72]; exact s_11
    refine ab_aload_n d_MText_component_186 rfl rfl rfl ?_
    obtain ⟨a73, e74, hF⟩ := rf_s hG; clear hG
    refine hp_getR (f := 20) d_MText_component_187 (by rw [(s_12).1]; exact q61) (by decide) rfl (by decide) (k8 192 rfl rfl) rfl e74 ?_
    refine ab_iload_n d_MText_component_190 rfl rfl ?_
    refine ab_iload d_MText_component_191 rfl ?_
    obtain ⟨n75, q76, hG⟩ := ar_s hF; clear hF
    rw [(s_12).1] at q76
    obtain ⟨q77, hF⟩ := ck_s hG; clear hG
    refine hp_iast d_MText_component_193 tI (by rw [(s_12).1]; exact q76) q77 ?_
    refine hp_gen (fun H78 eH78 => ?_)
    replace hF := bnd_s eH78 hF
    have s_13 : Sa H H78 := by rw [eH78]; exact s_12
    refine ab_aload_n d_MText_component_194 rfl rfl rfl ?_
    obtain ⟨a79, e80, hG⟩ := rf_s hF; clear hF
    refine hp_getR (f := 18) d_MText_component_195 (by rw [(s_13).1]; exact q61) (by decide) rfl (by decide) (k8 184 rfl rfl) rfl e80 ?_
    refine ab_iload_n d_MText_component_198 rfl rfl ?_
    refine ab_iconst (v := 1) d_MText_component_199 (by decide) ?_
    refine ab_iadd d_MText_component_200 ?_
    refine ab_dup2_11 d_MText_component_201 rfl rfl ?_
    obtain ⟨n81, q82, hF⟩ := ar_s hG; clear hG
    rw [(s_13).1] at q82
    obtain ⟨q83, hG⟩ := ck_s hF; clear hF
    refine hp_iald d_MText_component_202 tI (by rw [(s_13).1]; exact q82) q83 ?_
    refine ab_topi (fun x84 ex84 => ?_)
    replace hG := bnd_s ex84 hG
    refine ab_iconst (v := 1) d_MText_component_203 (by decide) ?_
    refine ab_iadd d_MText_component_204 ?_
    obtain ⟨q85, hF⟩ := ck_s hG; clear hG
    refine hp_iast d_MText_component_205 tI (by rw [(s_13).1]; exact q82) q85 ?_
    refine hp_gen (fun H86 eH86 => ?_)
    replace hF := bnd_s eH86 hF
    have s_14 : Sa H H86 := by rw [eH86]; exact s_13
    refine ab_goto (tgt := 67) d_MText_component_206 (by decide) ?_
    refine ab_le (lv' := [some (.ref p0), some (.int l1), none, none, none, none]) ⟨rfl, ⟨rfl, trivial⟩⟩ ?_
    exact hk67 l1 H86 r hF
  · rw [if_neg q66] at hF
    exact ab_vret d_MText_component_177 rfl (Nat.le_refl _) (Nat.le_refl _) (by have hr := Option.some.inj hF; subst hr; exact ⟨rfl, rfl⟩)
def B_MText_component_127 (N : Nat) (p0 : Nat) (kq67 : Int32 → Hp → Option (Unit × Hp)) (l1 : Int32) (l3 : Int32) (H : Hp) : Option (Unit × Hp) :=
    ck (H.sh[p0]? = some (14, 0)) <|
    bC (F_MText_kind N p0 H) fun v54 H55 =>
    bC (F_MText_name N p0 H55) fun v57 H58 =>
    bnd ((H58.D p0 9)) fun x59 =>
    if x59 = (0 : Int32) then
    bC (F_MText_member N p0 l1 p0 v57 H58) fun v114 H115 =>
    if v114 < (0 : Int32) then
    B_MText_component_164 N p0 kq67 l1 l3 v54 v57 H115
    else
    bC (F_MText_fails N p0 (3 : Int32) v57 H115) fun v118 H119 =>
    B_MText_component_164 N p0 kq67 l1 l3 v54 v57 H119
    else
    B_MText_component_164 N p0 kq67 l1 l3 v54 v57 H58
set_option maxRecDepth 20000 in
set_option maxHeartbeats 2000000 in
theorem mB_MText_component_127 {N : Nat} {p0 : Nat} {kq67 : Int32 → Hp → Option (Unit × Hp)} (hm67 : ∀ (l1 : Int32) (H : Hp) (r : Unit × Hp), kq67 l1 H = some r → Sa H r.2) {l1 : Int32} {l3 : Int32} {H : Hp} {r : Unit × Hp} (hF : B_MText_component_127 N p0 kq67 l1 l3 H = some r) : Sa H r.2 := by
  unfold B_MText_component_127 at hF
  have hm := Sa.rf H
  obtain ⟨q120, hG⟩ := ck_s hF; clear hF
  obtain ⟨v122, H123, z121, hF⟩ := bC_s hG; clear hG
  replace hm : Sa H H123 := hm.tr (m_MText_kind z121)
  obtain ⟨v125, H126, z124, hG⟩ := bC_s hF; clear hF
  replace hm : Sa H H126 := hm.tr (m_MText_name z124)
  obtain ⟨x127, -, hF⟩ := bnd_g hG; clear hG
  rcases ite_s hF with ⟨q_24, hG⟩ | ⟨q_24, hG⟩
  · clear hF
    obtain ⟨v130, H131, z129, hF⟩ := bC_s hG; clear hG
    replace hm : Sa H H131 := hm.tr (m_MText_member z129)
    rcases ite_s hF with ⟨q_26, hG⟩ | ⟨q_26, hG⟩
    · clear hF
      exact hm.tr (mB_MText_component_164 hm67 hG)
    · clear hF
      obtain ⟨v134, H135, z133, hF⟩ := bC_s hG; clear hG
      replace hm : Sa H H135 := hm.tr (m_MText_fails z133)
      exact hm.tr (mB_MText_component_164 hm67 hF)
  · clear hF
    exact hm.tr (mB_MText_component_164 hm67 hG)
set_option maxRecDepth 20000 in
set_option maxHeartbeats 2000000 in
theorem kB_MText_component_127 {N : Nat} {p0 : Nat} {kq67 : Int32 → Hp → Option (Unit × Hp)} (hm67 : ∀ (l1 : Int32) (H : Hp) (r : Unit × Hp), kq67 l1 H = some r → Sa H r.2) (hk67 : ∀ (l1 : Int32) (H : Hp) (r : Unit × Hp), kq67 l1 H = some r → ab_V y_MText_component { frames := 5, cells := 0, slots := 0, locals := 108 } (po (.returned none) r.2) 0 0 0 0 67 [some (.ref p0), some (.int l1), none, none, none, none] [] (hpw H)) {l1 : Int32} {l3 : Int32} {H : Hp} {r : Unit × Hp} (hF : B_MText_component_127 N p0 kq67 l1 l3 H = some r) : ab_V y_MText_component { frames := 5, cells := 0, slots := 0, locals := 108 } (po (.returned none) r.2) 0 0 0 0 127 [some (.ref p0), some (.int l1), none, some (.int l3), none, none] [] (hpw H) := by
  unfold B_MText_component_127 at hF
  refine ab_aload_n d_MText_component_127 rfl rfl rfl ?_
  obtain ⟨q52, hG⟩ := ck_s hF; clear hF
  obtain ⟨v54, H55, z53, hF⟩ := bC_s hG; clear hG
  refine hp_callV_a (v := .int v54) (H1 := H55) (As := []) (rest := []) d_MText_component_128 (k_MText_kind z53) (ab_mkC s_MText_kind (Nat.le_of_ble_eq_true rfl) (Nat.le_of_ble_eq_true rfl) (Nat.le_refl 0) (Nat.le_refl 0)) (k10 196 rfl rfl) i_MText_kind v_MText_kind q52 (by decide) rfl rfl (Nat.le_of_ble_eq_true rfl) ?_
  have s_9 : Sa H H55 := (m_MText_kind z53)
  refine ab_istore (lv' := [some (.ref p0), some (.int l1), none, some (.int l3), some (.int v54), none]) d_MText_component_131 (by decide) rfl ?_
  refine ab_aload_n d_MText_component_133 rfl rfl rfl ?_
  obtain ⟨v57, H58, z56, hG⟩ := bC_s hF; clear hF
  refine hp_callV_a (v := .int v57) (H1 := H58) (As := []) (rest := []) d_MText_component_134 (k_MText_name z56) (ab_mkC s_MText_name (Nat.le_of_ble_eq_true rfl) (Nat.le_of_ble_eq_true rfl) (Nat.le_refl 0) (Nat.le_refl 0)) (k10 168 rfl rfl) i_MText_name v_MText_name (by rw [(s_9).1]; exact q52) (by decide) rfl rfl (Nat.le_of_ble_eq_true rfl) ?_
  have s_10 : Sa H H58 := (s_9).tr (m_MText_name z56)
  refine ab_istore (lv' := [some (.ref p0), some (.int l1), none, some (.int l3), some (.int v54), some (.int v57)]) d_MText_component_137 (by decide) rfl ?_
  refine ab_aload_n d_MText_component_139 rfl rfl rfl ?_
  refine hp_getI (f := 9) d_MText_component_140 (by rw [(s_10).1]; exact q52) (by decide) rfl (by decide) (k8 172 rfl rfl) rfl ?_
  refine ab_topi (fun x59 ex59 => ?_)
  replace hG := bnd_s ex59 hG
  refine ab_if_ne (tgt := 164) d_MText_component_143 (by decide) (fun q60 => ?_) (fun q60 => ?_)
  · rw [if_neg q60] at hG
    exact kB_MText_component_164 hm67 hk67 hG
  · rw [if_pos q60] at hG
    refine ab_aload_n d_MText_component_146 rfl rfl rfl ?_
    refine ab_iload_n d_MText_component_147 rfl rfl ?_
    refine ab_aload_n d_MText_component_148 rfl rfl rfl ?_
    refine ab_iload d_MText_component_149 rfl ?_
    obtain ⟨v114, H115, z113, hF⟩ := bC_s hG; clear hG
    refine hp_callV_a (v := .int v114) (H1 := H115) (As := [.int l1, .ref p0, .int v57]) (rest := []) d_MText_component_151 (k_MText_member z113) (ab_mkC s_MText_member (Nat.le_of_ble_eq_true rfl) (Nat.le_of_ble_eq_true rfl) (Nat.le_refl 0) (Nat.le_refl 0)) (k10 200 rfl rfl) i_MText_member v_MText_member (by rw [(s_10).1]; exact q52) (by decide) rfl rfl (Nat.le_of_ble_eq_true rfl) ?_
    have s_20 : Sa H H115 := (s_10).tr (m_MText_member z113)
    refine ab_if_lt (tgt := 164) d_MText_component_154 (by decide) (fun q116 => ?_) (fun q116 => ?_)
    · rw [if_pos q116] at hF
      exact kB_MText_component_164 hm67 hk67 hF
    · rw [if_neg q116] at hF
      refine ab_aload_n d_MText_component_157 rfl rfl rfl ?_
      refine ab_iconst (v := 3) d_MText_component_158 (by decide) ?_
      refine ab_iload d_MText_component_159 rfl ?_
      obtain ⟨v118, H119, z117, hG⟩ := bC_s hF; clear hF
      refine hp_callV_v (H1 := H119) (As := [.int 3, .int v57]) (rest := []) d_MText_component_161 (k_MText_fails z117) (ab_mkC s_MText_fails (Nat.le_of_ble_eq_true rfl) (Nat.le_of_ble_eq_true rfl) (Nat.le_refl 0) (Nat.le_refl 0)) (k10 160 rfl rfl) i_MText_fails v_MText_fails (by rw [(s_20).1]; exact q52) (by decide) rfl rfl (Nat.le_of_ble_eq_true rfl) ?_
      have s_21 : Sa H H119 := (s_20).tr (m_MText_fails z117)
      exact kB_MText_component_164 hm67 hk67 hG
def B_MText_component_118 (N : Nat) (p0 : Nat) (kq67 : Int32 → Hp → Option (Unit × Hp)) (l1 : Int32) (l3 : Int32) (H : Hp) : Option (Unit × Hp) :=
    ck (H.sh[p0]? = some (14, 0)) <|
    bnd ((H.D p0 11)) fun x144 =>
    bC (F_MText_fails N p0 (2 : Int32) x144 H) fun v146 H147 =>
    B_MText_component_127 N p0 kq67 l1 l3 H147
set_option maxRecDepth 20000 in
set_option maxHeartbeats 2000000 in
theorem mB_MText_component_118 {N : Nat} {p0 : Nat} {kq67 : Int32 → Hp → Option (Unit × Hp)} (hm67 : ∀ (l1 : Int32) (H : Hp) (r : Unit × Hp), kq67 l1 H = some r → Sa H r.2) {l1 : Int32} {l3 : Int32} {H : Hp} {r : Unit × Hp} (hF : B_MText_component_118 N p0 kq67 l1 l3 H = some r) : Sa H r.2 := by
  unfold B_MText_component_118 at hF
  have hm := Sa.rf H
  obtain ⟨q148, hG⟩ := ck_s hF; clear hF
  obtain ⟨x149, -, hF⟩ := bnd_g hG; clear hG
  obtain ⟨v151, H152, z150, hG⟩ := bC_s hF; clear hF
  replace hm : Sa H H152 := hm.tr (m_MText_fails z150)
  exact hm.tr (mB_MText_component_127 hm67 hG)
set_option maxRecDepth 20000 in
set_option maxHeartbeats 2000000 in
theorem kB_MText_component_118 {N : Nat} {p0 : Nat} {kq67 : Int32 → Hp → Option (Unit × Hp)} (hm67 : ∀ (l1 : Int32) (H : Hp) (r : Unit × Hp), kq67 l1 H = some r → Sa H r.2) (hk67 : ∀ (l1 : Int32) (H : Hp) (r : Unit × Hp), kq67 l1 H = some r → ab_V y_MText_component { frames := 5, cells := 0, slots := 0, locals := 108 } (po (.returned none) r.2) 0 0 0 0 67 [some (.ref p0), some (.int l1), none, none, none, none] [] (hpw H)) {l1 : Int32} {l3 : Int32} {H : Hp} {r : Unit × Hp} (hF : B_MText_component_118 N p0 kq67 l1 l3 H = some r) : ab_V y_MText_component { frames := 5, cells := 0, slots := 0, locals := 108 } (po (.returned none) r.2) 0 0 0 0 118 [some (.ref p0), some (.int l1), none, some (.int l3), none, none] [] (hpw H) := by
  unfold B_MText_component_118 at hF
  refine ab_aload_n d_MText_component_118 rfl rfl rfl ?_
  refine ab_iconst (v := 2) d_MText_component_119 (by decide) ?_
  refine ab_aload_n d_MText_component_120 rfl rfl rfl ?_
  obtain ⟨q143, hG⟩ := ck_s hF; clear hF
  refine hp_getI (f := 11) d_MText_component_121 q143 (by decide) rfl (by decide) (k8 175 rfl rfl) rfl ?_
  refine ab_topi (fun x144 ex144 => ?_)
  replace hG := bnd_s ex144 hG
  obtain ⟨v146, H147, z145, hF⟩ := bC_s hG; clear hG
  refine hp_callV_v (H1 := H147) (As := [.int 2, .int x144]) (rest := []) d_MText_component_124 (k_MText_fails z145) (ab_mkC s_MText_fails (Nat.le_of_ble_eq_true rfl) (Nat.le_of_ble_eq_true rfl) (Nat.le_refl 0) (Nat.le_refl 0)) (k10 160 rfl rfl) i_MText_fails v_MText_fails q143 (by decide) rfl rfl (Nat.le_of_ble_eq_true rfl) ?_
  have s_28 : Sa H H147 := (m_MText_fails z145)
  exact kB_MText_component_127 hm67 hk67 hF
def B_MText_component_67 (N : Nat) (p0 : Nat) : Nat → Int32 → Hp → Option (Unit × Hp)
  | 0, _, _ => none
  | n + 1, l1, H =>
    ck (H.sh[p0]? = some (14, 0)) <|
    bnd ((H.D p0 9)) fun x36 =>
    if x36 = (0 : Int32) then
    bC (F_MText_accepts N p0 (125 : Int32) H) fun v39 H40 =>
    if v39 = (0 : Int32) then
    rf (H40.P p0 18) fun a42 =>
    ar H40 100 a42 fun n44 =>
    ck (inb (l1 + (1 : Int32)) n44) <|
    bnd ((H40.D a42 ((l1 + (1 : Int32))).toNatClampNeg)) fun x47 =>
    bC (F_MText_isKind N p0 H40) fun v49 H50 =>
    if v49 = (0 : Int32) then
    B_MText_component_127 N p0 (fun l1 H => B_MText_component_67 N p0 n l1 H) l1 x47 H50
    else
    rf (H50.P p0 18) fun a136 =>
    ar H50 100 a136 fun n138 =>
    ck (inb l1 n138) <|
    bnd ((H50.D a136 (l1).toNatClampNeg)) fun x141 =>
    if (x47 - x141) = (8 : Int32) then
    B_MText_component_118 N p0 (fun l1 H => B_MText_component_67 N p0 n l1 H) l1 x47 H50
    else
    if x47 = (48 : Int32) then
    B_MText_component_118 N p0 (fun l1 H => B_MText_component_67 N p0 n l1 H) l1 x47 H50
    else
    B_MText_component_127 N p0 (fun l1 H => B_MText_component_67 N p0 n l1 H) l1 x47 H50
    else
    some ((), H40)
    else
    some ((), H)
termination_by structural n => n
set_option maxRecDepth 20000 in
set_option maxHeartbeats 2000000 in
theorem mB_MText_component_67 {N : Nat} {p0 : Nat} : ∀ (n : Nat) (l1 : Int32) (H : Hp) (r : Unit × Hp), B_MText_component_67 N p0 n l1 H = some r → Sa H r.2 := by
  intro n
  induction n with
  | zero => intro l1 H r hF; rw [B_MText_component_67] at hF; cases hF
  | succ n ih =>
    intro l1 H r hF
    rw [B_MText_component_67] at hF
    have hm := Sa.rf H
    obtain ⟨q154, hG⟩ := ck_s hF; clear hF
    obtain ⟨x155, -, hF⟩ := bnd_g hG; clear hG
    rcases ite_s hF with ⟨q_30, hG⟩ | ⟨q_30, hG⟩
    · clear hF
      obtain ⟨v158, H159, z157, hF⟩ := bC_s hG; clear hG
      replace hm : Sa H H159 := hm.tr (m_MText_accepts z157)
      rcases ite_s hF with ⟨q_32, hG⟩ | ⟨q_32, hG⟩
      · clear hF
        obtain ⟨a161, e162, hF⟩ := rf_s hG; clear hG
        obtain ⟨n163, q164, hG⟩ := ar_s hF; clear hF
        obtain ⟨q165, hF⟩ := ck_s hG; clear hG
        obtain ⟨x166, -, hG⟩ := bnd_g hF; clear hF
        obtain ⟨v168, H169, z167, hF⟩ := bC_s hG; clear hG
        replace hm : Sa H H169 := hm.tr (m_MText_isKind z167)
        rcases ite_s hF with ⟨q_34, hG⟩ | ⟨q_34, hG⟩
        · clear hF
          exact hm.tr (mB_MText_component_127 ih hG)
        · clear hF
          obtain ⟨a171, e172, hF⟩ := rf_s hG; clear hG
          obtain ⟨n173, q174, hG⟩ := ar_s hF; clear hF
          obtain ⟨q175, hF⟩ := ck_s hG; clear hG
          obtain ⟨x176, -, hG⟩ := bnd_g hF; clear hF
          rcases ite_s hG with ⟨q_35, hF⟩ | ⟨q_35, hF⟩
          · clear hG
            exact hm.tr (mB_MText_component_118 ih hF)
          · clear hG
            rcases ite_s hF with ⟨q_36, hG⟩ | ⟨q_36, hG⟩
            · clear hF
              exact hm.tr (mB_MText_component_118 ih hG)
            · clear hF
              exact hm.tr (mB_MText_component_127 ih hG)
      · clear hF
        have hr := Option.some.inj hG; subst hr
        exact hm
    · clear hF
      have hr := Option.some.inj hG; subst hr
      exact hm
set_option maxRecDepth 20000 in
set_option maxHeartbeats 2000000 in
theorem kB_MText_component_67 {N : Nat} {p0 : Nat} : ∀ (n : Nat) (l1 : Int32) (H : Hp) (r : Unit × Hp), B_MText_component_67 N p0 n l1 H = some r → ab_V y_MText_component { frames := 5, cells := 0, slots := 0, locals := 108 } (po (.returned none) r.2) 0 0 0 0 67 [some (.ref p0), some (.int l1), none, none, none, none] [] (hpw H) := by
  intro n
  induction n with
  | zero => intro l1 H r hF; rw [B_MText_component_67] at hF; cases hF
  | succ n ih =>
    intro l1 H r hF
    rw [B_MText_component_67] at hF
    refine ab_aload_n d_MText_component_67 rfl rfl rfl ?_
    obtain ⟨q35, hG⟩ := ck_s hF; clear hF
    refine hp_getI (f := 9) d_MText_component_68 q35 (by decide) rfl (by decide) (k8 172 rfl rfl) rfl ?_
    refine ab_topi (fun x36 ex36 => ?_)
    replace hG := bnd_s ex36 hG
    refine ab_if_ne (tgt := 209) d_MText_component_71 (by decide) (fun q37 => ?_) (fun q37 => ?_)
    · rw [if_neg q37] at hG
      exact ab_vret d_MText_component_209 rfl (Nat.le_refl _) (Nat.le_refl _) (by have hr := Option.some.inj hG; subst hr; exact ⟨rfl, rfl⟩)
    · rw [if_pos q37] at hG
      refine ab_aload_n d_MText_component_74 rfl rfl rfl ?_
      refine ab_bipush (v := 125) d_MText_component_75 (by decide) ?_
      obtain ⟨v39, H40, z38, hF⟩ := bC_s hG; clear hG
      refine hp_callV_a (v := .int v39) (H1 := H40) (As := [.int 125]) (rest := []) d_MText_component_77 (k_MText_accepts z38) (ab_mkC s_MText_accepts (Nat.le_of_ble_eq_true rfl) (Nat.le_of_ble_eq_true rfl) (Nat.le_refl 0) (Nat.le_refl 0)) (k10 176 rfl rfl) i_MText_accepts v_MText_accepts q35 (by decide) rfl rfl (Nat.le_of_ble_eq_true rfl) ?_
      have s_7 : Sa H H40 := (m_MText_accepts z38)
      refine ab_if_ne (tgt := 209) d_MText_component_80 (by decide) (fun q41 => ?_) (fun q41 => ?_)
      · rw [if_neg q41] at hF
        exact ab_vret d_MText_component_209 rfl (Nat.le_refl _) (Nat.le_refl _) (by have hr := Option.some.inj hF; subst hr; exact ⟨rfl, rfl⟩)
      · rw [if_pos q41] at hF
        refine ab_aload_n d_MText_component_83 rfl rfl rfl ?_
        obtain ⟨a42, e43, hG⟩ := rf_s hF; clear hF
        refine hp_getR (f := 18) d_MText_component_84 (by rw [(s_7).1]; exact q35) (by decide) rfl (by decide) (k8 184 rfl rfl) rfl e43 ?_
        refine ab_iload_n d_MText_component_87 rfl rfl ?_
        refine ab_iconst (v := 1) d_MText_component_88 (by decide) ?_
        refine ab_iadd d_MText_component_89 ?_
        obtain ⟨n44, q45, hF⟩ := ar_s hG; clear hG
        rw [(s_7).1] at q45
        obtain ⟨q46, hG⟩ := ck_s hF; clear hF
        refine hp_iald d_MText_component_90 tI (by rw [(s_7).1]; exact q45) q46 ?_
        refine ab_topi (fun x47 ex47 => ?_)
        replace hG := bnd_s ex47 hG
        refine ab_istore_n (lv' := [some (.ref p0), some (.int l1), none, some (.int x47), none, none]) d_MText_component_91 rfl (by decide) rfl ?_
        refine ab_aload_n d_MText_component_92 rfl rfl rfl ?_
        obtain ⟨v49, H50, z48, hF⟩ := bC_s hG; clear hG
        refine hp_callV_a (v := .int v49) (H1 := H50) (As := []) (rest := []) d_MText_component_93 (k_MText_isKind z48) (ab_mkC s_MText_isKind (Nat.le_of_ble_eq_true rfl) (Nat.le_of_ble_eq_true rfl) (Nat.le_refl 0) (Nat.le_refl 0)) (k10 192 rfl rfl) i_MText_isKind v_MText_isKind (by rw [(s_7).1]; exact q35) (by decide) rfl rfl (Nat.le_of_ble_eq_true rfl) ?_
        have s_8 : Sa H H50 := (s_7).tr (m_MText_isKind z48)
        refine ab_if_eq (tgt := 127) d_MText_component_96 (by decide) (fun q51 => ?_) (fun q51 => ?_)
        · rw [if_pos q51] at hF
          exact kB_MText_component_127 (mB_MText_component_67 n) ih hF
        · rw [if_neg q51] at hF
          refine ab_iload_n d_MText_component_99 rfl rfl ?_
          refine ab_aload_n d_MText_component_100 rfl rfl rfl ?_
          obtain ⟨a136, e137, hG⟩ := rf_s hF; clear hF
          refine hp_getR (f := 18) d_MText_component_101 (by rw [(s_8).1]; exact q35) (by decide) rfl (by decide) (k8 184 rfl rfl) rfl e137 ?_
          refine ab_iload_n d_MText_component_104 rfl rfl ?_
          obtain ⟨n138, q139, hF⟩ := ar_s hG; clear hG
          rw [(s_8).1] at q139
          obtain ⟨q140, hG⟩ := ck_s hF; clear hF
          refine hp_iald d_MText_component_105 tI (by rw [(s_8).1]; exact q139) q140 ?_
          refine ab_topi (fun x141 ex141 => ?_)
          replace hG := bnd_s ex141 hG
          refine ab_isub d_MText_component_106 ?_
          refine ab_bipush (v := 8) d_MText_component_107 (by decide) ?_
          refine ab_icmp_eq (tgt := 118) d_MText_component_109 (by decide) (fun q142 => ?_) (fun q142 => ?_)
          · rw [if_pos q142] at hG
            exact kB_MText_component_118 (mB_MText_component_67 n) ih hG
          · rw [if_neg q142] at hG
            refine ab_iload_n d_MText_component_112 rfl rfl ?_
            refine ab_bipush (v := 48) d_MText_component_113 (by decide) ?_
            refine ab_icmp_ne (tgt := 127) d_MText_component_115 (by decide) (fun q153 => ?_) (fun q153 => ?_)
            · rw [if_neg q153] at hG
              exact kB_MText_component_127 (mB_MText_component_67 n) ih hG
            · rw [if_pos q153] at hG
              exact kB_MText_component_118 (mB_MText_component_67 n) ih hG
def F_MText_component (N : Nat) (p0 : Nat) (H : Hp) : Option (Unit × Hp) :=
    ck (H.sh[p0]? = some (14, 0)) <|
    bnd ((H.D p0 16)) fun x2 =>
    bC (F_MText_begins N p0 x2 (16 : Int32) H) fun v4 H5 =>
    bnd ((H5.D p0 16)) fun x6 =>
    bC (F_MText_told N p0 (2 : Int32) x6 H5) fun v8 H9 =>
    bnd ((H9.D p0 9)) fun x10 =>
    if x10 ≤ (0 : Int32) then
    rf (H9.P p0 17) fun a12 =>
    ar H9 100 a12 fun n14 =>
    ck (inb x6 n14) <|
    bnd (H9.sD a12 (x6).toNatClampNeg v8) fun H17 =>
    rf (H17.P p0 18) fun a18 =>
    rf (H17.P p0 18) fun a20 =>
    ar H17 100 a20 fun n22 =>
    ck (inb x6 n22) <|
    bnd ((H17.D a20 (x6).toNatClampNeg)) fun x25 =>
    ar H17 100 a18 fun n26 =>
    ck (inb (x6 + (1 : Int32)) n26) <|
    bnd (H17.sD a18 ((x6 + (1 : Int32))).toNatClampNeg x25) fun H29 =>
    bnd ((H29.D p0 16)) fun x30 =>
    bnd (H29.sD p0 16 (x30 + (1 : Int32))) fun H31 =>
    bC (F_MText_takes N p0 (123 : Int32) H31) fun v33 H34 =>
    B_MText_component_67 N p0 N x6 H34
    else
    some ((), H9)
set_option maxRecDepth 20000 in
set_option maxHeartbeats 2000000 in
theorem m_MText_component {N : Nat} {p0 : Nat} {H : Hp} {r : Unit × Hp} (hF : F_MText_component N p0 H = some r) : Sa H r.2 := by
  unfold F_MText_component at hF
  have hm := Sa.rf H
  obtain ⟨q179, hG⟩ := ck_s hF; clear hF
  obtain ⟨x180, -, hF⟩ := bnd_g hG; clear hG
  obtain ⟨v182, H183, z181, hG⟩ := bC_s hF; clear hF
  replace hm : Sa H H183 := hm.tr (m_MText_begins z181)
  obtain ⟨x184, -, hF⟩ := bnd_g hG; clear hG
  obtain ⟨v186, H187, z185, hG⟩ := bC_s hF; clear hF
  replace hm : Sa H H187 := hm.tr (m_MText_told z185)
  obtain ⟨x188, -, hF⟩ := bnd_g hG; clear hG
  rcases ite_s hF with ⟨q_39, hG⟩ | ⟨q_39, hG⟩
  · clear hF
    obtain ⟨a190, e191, hF⟩ := rf_s hG; clear hG
    obtain ⟨n192, q193, hG⟩ := ar_s hF; clear hF
    obtain ⟨q194, hF⟩ := ck_s hG; clear hG
    obtain ⟨H195, eH195, hG⟩ := bnd_g hF; clear hF
    replace hm : Sa H H195 := by rw [eH195]; exact hm
    obtain ⟨a196, e197, hF⟩ := rf_s hG; clear hG
    obtain ⟨a198, e199, hG⟩ := rf_s hF; clear hF
    obtain ⟨n200, q201, hF⟩ := ar_s hG; clear hG
    obtain ⟨q202, hG⟩ := ck_s hF; clear hF
    obtain ⟨x203, -, hF⟩ := bnd_g hG; clear hG
    obtain ⟨n204, q205, hG⟩ := ar_s hF; clear hF
    obtain ⟨q206, hF⟩ := ck_s hG; clear hG
    obtain ⟨H207, eH207, hG⟩ := bnd_g hF; clear hF
    replace hm : Sa H H207 := by rw [eH207]; exact hm
    obtain ⟨x208, -, hF⟩ := bnd_g hG; clear hG
    obtain ⟨H209, eH209, hG⟩ := bnd_g hF; clear hF
    replace hm : Sa H H209 := by rw [eH209]; exact hm
    obtain ⟨v211, H212, z210, hF⟩ := bC_s hG; clear hG
    replace hm : Sa H H212 := hm.tr (m_MText_takes z210)
    exact hm.tr (mB_MText_component_67 N x184 H212 r hF)
  · clear hF
    have hr := Option.some.inj hG; subst hr
    exact hm
set_option maxRecDepth 20000 in
set_option maxHeartbeats 2000000 in
theorem k_MText_component {N : Nat} {p0 : Nat} {H : Hp} {r : Unit × Hp} (hF : F_MText_component N p0 H = some r) : ab_M y_MText_component { frames := 5, cells := 0, slots := 0, locals := 108 } [.ref p0] (hpw H) (po (.returned none) r.2) := by
  unfold F_MText_component at hF
  refine ab_of2 (lv := [some (.ref p0), none, none, none, none, none]) 5 rfl rfl (Nat.le_of_ble_eq_true rfl) ?_
  refine ab_aload_n d_MText_component_0 rfl rfl rfl ?_
  refine ab_aload_n d_MText_component_1 rfl rfl rfl ?_
  obtain ⟨q1, hG⟩ := ck_s hF; clear hF
  refine hp_getI (f := 16) d_MText_component_2 q1 (by decide) rfl (by decide) (k8 181 rfl rfl) rfl ?_
  refine ab_topi (fun x2 ex2 => ?_)
  replace hG := bnd_s ex2 hG
  refine ab_bipush (v := 16) d_MText_component_5 (by decide) ?_
  obtain ⟨v4, H5, z3, hF⟩ := bC_s hG; clear hG
  refine hp_callV_v (H1 := H5) (As := [.int x2, .int 16]) (rest := []) d_MText_component_7 (k_MText_begins z3) (ab_mkC s_MText_begins (Nat.le_of_ble_eq_true rfl) (Nat.le_of_ble_eq_true rfl) (Nat.le_refl 0) (Nat.le_refl 0)) (k10 156 rfl rfl) i_MText_begins v_MText_begins q1 (by decide) rfl rfl (Nat.le_of_ble_eq_true rfl) ?_
  have s_1 : Sa H H5 := (m_MText_begins z3)
  refine ab_aload_n d_MText_component_10 rfl rfl rfl ?_
  refine hp_getI (f := 16) d_MText_component_11 (by rw [(s_1).1]; exact q1) (by decide) rfl (by decide) (k8 181 rfl rfl) rfl ?_
  refine ab_topi (fun x6 ex6 => ?_)
  replace hF := bnd_s ex6 hF
  refine ab_istore_n (lv' := [some (.ref p0), some (.int x6), none, none, none, none]) d_MText_component_14 rfl (by decide) rfl ?_
  refine ab_aload_n d_MText_component_15 rfl rfl rfl ?_
  refine ab_iconst (v := 2) d_MText_component_16 (by decide) ?_
  refine ab_iload_n d_MText_component_17 rfl rfl ?_
  obtain ⟨v8, H9, z7, hG⟩ := bC_s hF; clear hF
  refine hp_callV_a (v := .int v8) (H1 := H9) (As := [.int 2, .int x6]) (rest := []) d_MText_component_18 (k_MText_told z7) (ab_mkC s_MText_told (Nat.le_of_ble_eq_true rfl) (Nat.le_of_ble_eq_true rfl) (Nat.le_refl 0) (Nat.le_refl 0)) (k10 164 rfl rfl) i_MText_told v_MText_told (by rw [(s_1).1]; exact q1) (by decide) rfl rfl (Nat.le_of_ble_eq_true rfl) ?_
  have s_2 : Sa H H9 := (s_1).tr (m_MText_told z7)
  refine ab_istore_n (lv' := [some (.ref p0), some (.int x6), some (.int v8), none, none, none]) d_MText_component_21 rfl (by decide) rfl ?_
  refine ab_aload_n d_MText_component_22 rfl rfl rfl ?_
  refine hp_getI (f := 9) d_MText_component_23 (by rw [(s_2).1]; exact q1) (by decide) rfl (by decide) (k8 172 rfl rfl) rfl ?_
  refine ab_topi (fun x10 ex10 => ?_)
  replace hG := bnd_s ex10 hG
  refine ab_if_le (tgt := 30) d_MText_component_26 (by decide) (fun q11 => ?_) (fun q11 => ?_)
  · rw [if_pos q11] at hG
    refine ab_aload_n d_MText_component_30 rfl rfl rfl ?_
    obtain ⟨a12, e13, hF⟩ := rf_s hG; clear hG
    refine hp_getR (f := 17) d_MText_component_31 (by rw [(s_2).1]; exact q1) (by decide) rfl (by decide) (k8 182 rfl rfl) rfl e13 ?_
    refine ab_iload_n d_MText_component_34 rfl rfl ?_
    refine ab_iload_n d_MText_component_35 rfl rfl ?_
    obtain ⟨n14, q15, hG⟩ := ar_s hF; clear hF
    rw [(s_2).1] at q15
    obtain ⟨q16, hF⟩ := ck_s hG; clear hG
    refine hp_iast d_MText_component_36 tI (by rw [(s_2).1]; exact q15) q16 ?_
    refine hp_gen (fun H17 eH17 => ?_)
    replace hF := bnd_s eH17 hF
    have s_3 : Sa H H17 := by rw [eH17]; exact s_2
    refine ab_aload_n d_MText_component_37 rfl rfl rfl ?_
    obtain ⟨a18, e19, hG⟩ := rf_s hF; clear hF
    refine hp_getR (f := 18) d_MText_component_38 (by rw [(s_3).1]; exact q1) (by decide) rfl (by decide) (k8 184 rfl rfl) rfl e19 ?_
    refine ab_iload_n d_MText_component_41 rfl rfl ?_
    refine ab_iconst (v := 1) d_MText_component_42 (by decide) ?_
    refine ab_iadd d_MText_component_43 ?_
    refine ab_aload_n d_MText_component_44 rfl rfl rfl ?_
    obtain ⟨a20, e21, hF⟩ := rf_s hG; clear hG
    refine hp_getR (f := 18) d_MText_component_45 (by rw [(s_3).1]; exact q1) (by decide) rfl (by decide) (k8 184 rfl rfl) rfl e21 ?_
    refine ab_iload_n d_MText_component_48 rfl rfl ?_
    obtain ⟨n22, q23, hG⟩ := ar_s hF; clear hF
    rw [(s_3).1] at q23
    obtain ⟨q24, hF⟩ := ck_s hG; clear hG
    refine hp_iald d_MText_component_49 tI (by rw [(s_3).1]; exact q23) q24 ?_
    refine ab_topi (fun x25 ex25 => ?_)
    replace hF := bnd_s ex25 hF
    obtain ⟨n26, q27, hG⟩ := ar_s hF; clear hF
    rw [(s_3).1] at q27
    obtain ⟨q28, hF⟩ := ck_s hG; clear hG
    refine hp_iast d_MText_component_50 tI (by rw [(s_3).1]; exact q27) q28 ?_
    refine hp_gen (fun H29 eH29 => ?_)
    replace hF := bnd_s eH29 hF
    have s_4 : Sa H H29 := by rw [eH29]; exact s_3
    refine ab_aload_n d_MText_component_51 rfl rfl rfl ?_
    refine ab_dup d_MText_component_52 rfl ?_
    refine hp_getI (f := 16) d_MText_component_53 (by rw [(s_4).1]; exact q1) (by decide) rfl (by decide) (k8 181 rfl rfl) rfl ?_
    refine ab_topi (fun x30 ex30 => ?_)
    replace hF := bnd_s ex30 hF
    refine ab_iconst (v := 1) d_MText_component_56 (by decide) ?_
    refine ab_iadd d_MText_component_57 ?_
    refine hp_putI (v := x30 + (1 : Int32)) (f := 16) d_MText_component_58 (by rw [(s_4).1]; exact q1) (by decide) rfl (by decide) (k8 181 rfl rfl) rfl rfl (fun _ => rfl) (fun _ => rfl) rfl ?_
    refine hp_gen (fun H31 eH31 => ?_)
    replace hF := bnd_s eH31 hF
    have s_5 : Sa H H31 := by rw [eH31]; exact s_4
    refine ab_aload_n d_MText_component_61 rfl rfl rfl ?_
    refine ab_bipush (v := 123) d_MText_component_62 (by decide) ?_
    obtain ⟨v33, H34, z32, hG⟩ := bC_s hF; clear hF
    refine hp_callV_v (H1 := H34) (As := [.int 123]) (rest := []) d_MText_component_64 (k_MText_takes z32) (ab_mkC s_MText_takes (Nat.le_of_ble_eq_true rfl) (Nat.le_of_ble_eq_true rfl) (Nat.le_refl 0) (Nat.le_refl 0)) (k10 172 rfl rfl) i_MText_takes v_MText_takes (by rw [(s_5).1]; exact q1) (by decide) rfl rfl (Nat.le_of_ble_eq_true rfl) ?_
    have s_6 : Sa H H34 := (s_5).tr (m_MText_takes z32)
    refine ab_le (lv' := [some (.ref p0), some (.int x6), none, none, none, none]) ⟨rfl, ⟨rfl, trivial⟩⟩ ?_
    exact kB_MText_component_67 N x6 H34 r hG
  · rw [if_neg q11] at hG
    exact ab_vret d_MText_component_29 rfl (Nat.le_refl _) (Nat.le_refl _) (by have hr := Option.some.inj hG; subst hr; exact ⟨rfl, rfl⟩)
