def y_SU_compress2 : ab_Y := (⟨"java/lang/StringUTF16", "compress", "([CI[BII)I"⟩, prog_27_method_21_code, 7, (some FieldType.int), [])
theorem d_SU_compress2_0 : decode y_SU_compress2.2.1 0 = .ok (.iconst 0, 1) := by decide +kernel
theorem d_SU_compress2_1 : decode y_SU_compress2.2.1 1 = .ok (.istore 5, 2) := by decide +kernel
theorem d_SU_compress2_3 : decode y_SU_compress2.2.1 3 = .ok (.iload 5, 2) := by decide +kernel
theorem d_SU_compress2_5 : decode y_SU_compress2.2.1 5 = .ok (.iload 4, 2) := by decide +kernel
theorem d_SU_compress2_7 : decode y_SU_compress2.2.1 7 = .ok (.if_icmp .ge 37, 3) := by decide +kernel
theorem d_SU_compress2_10 : decode y_SU_compress2.2.1 10 = .ok (.aload_n 0, 1) := by decide +kernel
theorem d_SU_compress2_11 : decode y_SU_compress2.2.1 11 = .ok (.iload_n 1, 1) := by decide +kernel
theorem d_SU_compress2_12 : decode y_SU_compress2.2.1 12 = .ok (.caload, 1) := by decide +kernel
theorem d_SU_compress2_13 : decode y_SU_compress2.2.1 13 = .ok (.istore 6, 2) := by decide +kernel
theorem d_SU_compress2_15 : decode y_SU_compress2.2.1 15 = .ok (.iload 6, 2) := by decide +kernel
theorem d_SU_compress2_17 : decode y_SU_compress2.2.1 17 = .ok (.sipush 255, 3) := by decide +kernel
theorem d_SU_compress2_20 : decode y_SU_compress2.2.1 20 = .ok (.if_icmp .le 6, 3) := by decide +kernel
theorem d_SU_compress2_23 : decode y_SU_compress2.2.1 23 = .ok (.iload 5, 2) := by decide +kernel
theorem d_SU_compress2_25 : decode y_SU_compress2.2.1 25 = .ok (.ireturn, 1) := by decide +kernel
theorem d_SU_compress2_26 : decode y_SU_compress2.2.1 26 = .ok (.aload_n 2, 1) := by decide +kernel
theorem d_SU_compress2_27 : decode y_SU_compress2.2.1 27 = .ok (.iload_n 3, 1) := by decide +kernel
theorem d_SU_compress2_28 : decode y_SU_compress2.2.1 28 = .ok (.iload 6, 2) := by decide +kernel
theorem d_SU_compress2_30 : decode y_SU_compress2.2.1 30 = .ok (.i2b, 1) := by decide +kernel
theorem d_SU_compress2_31 : decode y_SU_compress2.2.1 31 = .ok (.bastore, 1) := by decide +kernel
theorem d_SU_compress2_32 : decode y_SU_compress2.2.1 32 = .ok (.iinc 1 1, 3) := by decide +kernel
theorem d_SU_compress2_35 : decode y_SU_compress2.2.1 35 = .ok (.iinc 3 1, 3) := by decide +kernel
theorem d_SU_compress2_38 : decode y_SU_compress2.2.1 38 = .ok (.iinc 5 1, 3) := by decide +kernel
theorem d_SU_compress2_41 : decode y_SU_compress2.2.1 41 = .ok (.goto (-38), 3) := by decide +kernel
theorem d_SU_compress2_44 : decode y_SU_compress2.2.1 44 = .ok (.iload 4, 2) := by decide +kernel
theorem d_SU_compress2_46 : decode y_SU_compress2.2.1 46 = .ok (.ireturn, 1) := by decide +kernel
theorem s_SU_compress2 : ab_Stat y_SU_compress2 5 := ⟨(k4 197 rfl rfl), (k1 6 rfl rfl), ⟨by decide, by decide⟩, by decide +kernel⟩
theorem t_SU_compress2 : Cond.static y_SU_compress2.1 ∈ ab_T := (k4 196 rfl rfl)
def B_SU_compress2_3 (N : Nat) (p0 : Nat) (p2 : Nat) (p4 : Int32) : Nat → Int32 → Int32 → Int32 → Hp → Option (Int32 × Hp)
  | 0, _, _, _, _ => none
  | n + 1, l1, l3, l5, H =>
    if p4 ≤ l5 then
    some (p4, H)
    else
    ar H 103 p0 fun n2 =>
    ck (inb l1 n2) <|
    bnd ((H.D p0 (l1).toNatClampNeg)) fun x5 =>
    if x5 ≤ (255 : Int32) then
    ar H 101 p2 fun n7 =>
    ck (inb l3 n7) <|
    bnd (H.sD p2 (l3).toNatClampNeg (vp_nar .byte ((x5 : Int32).toInt8.toInt32))) fun H10 =>
    B_SU_compress2_3 N p0 p2 p4 n (l1 + 1) (l3 + 1) (l5 + 1) H10
    else
    some (l5, H)
termination_by structural n => n
set_option maxRecDepth 20000 in
set_option maxHeartbeats 2000000 in
theorem mB_SU_compress2_3 {N : Nat} {p0 : Nat} {p2 : Nat} {p4 : Int32} : ∀ (n : Nat) (l1 : Int32) (l3 : Int32) (l5 : Int32) (H : Hp) (r : Int32 × Hp), B_SU_compress2_3 N p0 p2 p4 n l1 l3 l5 H = some r → Sa H r.2 := by
  intro n
  induction n with
  | zero => intro l1 l3 l5 H r hF; rw [B_SU_compress2_3] at hF; cases hF
  | succ n ih =>
    intro l1 l3 l5 H r hF
    rw [B_SU_compress2_3] at hF
    have hm := Sa.rf H
    rcases ite_s hF with ⟨q_2, hG⟩ | ⟨q_2, hG⟩
    · clear hF
      have hr := Option.some.inj hG; subst hr
      exact hm
    · clear hF
      obtain ⟨n12, q13, hF⟩ := ar_s hG; clear hG
      obtain ⟨q14, hG⟩ := ck_s hF; clear hF
      obtain ⟨x15, -, hF⟩ := bnd_g hG; clear hG
      rcases ite_s hF with ⟨q_3, hG⟩ | ⟨q_3, hG⟩
      · clear hF
        obtain ⟨n17, q18, hF⟩ := ar_s hG; clear hG
        obtain ⟨q19, hG⟩ := ck_s hF; clear hF
        obtain ⟨H20, eH20, hF⟩ := bnd_g hG; clear hG
        replace hm : Sa H H20 := by rw [eH20]; exact hm
        exact hm.tr (ih (l1 + 1) (l3 + 1) (l5 + 1) H20 r hF)
      · clear hF
        have hr := Option.some.inj hG; subst hr
        exact hm
set_option maxRecDepth 20000 in
set_option maxHeartbeats 2000000 in
theorem kB_SU_compress2_3 {N : Nat} {p0 : Nat} {p2 : Nat} {p4 : Int32} : ∀ (n : Nat) (l1 : Int32) (l3 : Int32) (l5 : Int32) (H : Hp) (r : Int32 × Hp), B_SU_compress2_3 N p0 p2 p4 n l1 l3 l5 H = some r → ab_V y_SU_compress2 { frames := 0, cells := 0, slots := 0, locals := 0 } (po (.returned (some (.int r.1))) r.2) 0 0 0 0 3 [some (.ref p0), some (.int l1), some (.ref p2), some (.int l3), some (.int p4), some (.int l5), none] [] (hpw H) := by
  intro n
  induction n with
  | zero => intro l1 l3 l5 H r hF; rw [B_SU_compress2_3] at hF; cases hF
  | succ n ih =>
    intro l1 l3 l5 H r hF
    rw [B_SU_compress2_3] at hF
    refine ab_iload d_SU_compress2_3 rfl ?_
    refine ab_iload d_SU_compress2_5 rfl ?_
    refine ab_icmp_ge (tgt := 44) d_SU_compress2_7 (by decide) (fun q1 => ?_) (fun q1 => ?_)
    · rw [if_pos q1] at hF
      refine ab_iload d_SU_compress2_44 rfl ?_
      exact ab_iret d_SU_compress2_46 rfl (Nat.le_refl _) (Nat.le_refl _) (by have hr := Option.some.inj hF; subst hr; exact ⟨rfl, rfl⟩)
    · rw [if_neg q1] at hF
      refine ab_aload_n d_SU_compress2_10 rfl rfl rfl ?_
      refine ab_iload_n d_SU_compress2_11 rfl rfl ?_
      obtain ⟨n2, q3, hG⟩ := ar_s hF; clear hF
      obtain ⟨q4, hF⟩ := ck_s hG; clear hG
      refine hp_cald d_SU_compress2_12 tC q3 q4 ?_
      refine ab_topi (fun x5 ex5 => ?_)
      replace hF := bnd_s ex5 hF
      refine ab_istore (lv' := [some (.ref p0), some (.int l1), some (.ref p2), some (.int l3), some (.int p4), some (.int l5), some (.int x5)]) d_SU_compress2_13 (by decide) rfl ?_
      refine ab_iload d_SU_compress2_15 rfl ?_
      refine ab_sipush (v := 255) d_SU_compress2_17 (by decide) ?_
      refine ab_icmp_le (tgt := 26) d_SU_compress2_20 (by decide) (fun q6 => ?_) (fun q6 => ?_)
      · rw [if_pos q6] at hF
        refine ab_aload_n d_SU_compress2_26 rfl rfl rfl ?_
        refine ab_iload_n d_SU_compress2_27 rfl rfl ?_
        refine ab_iload d_SU_compress2_28 rfl ?_
        refine ab_i2b d_SU_compress2_30 ?_
        obtain ⟨n7, q8, hG⟩ := ar_s hF; clear hF
        obtain ⟨q9, hF⟩ := ck_s hG; clear hG
        refine hp_bast d_SU_compress2_31 tB q8 q9 ?_
        refine hp_gen (fun H10 eH10 => ?_)
        replace hF := bnd_s eH10 hF
        have s_1 : Sa H H10 := by rw [eH10]; exact Sa.rf _
        refine ab_iinc (v := l1 + 1) (lv' := [some (.ref p0), some (.int (l1 + 1)), some (.ref p2), some (.int l3), some (.int p4), some (.int l5), some (.int x5)]) d_SU_compress2_32 rfl rfl (by decide) rfl ?_
        refine ab_iinc (v := l3 + 1) (lv' := [some (.ref p0), some (.int (l1 + 1)), some (.ref p2), some (.int (l3 + 1)), some (.int p4), some (.int l5), some (.int x5)]) d_SU_compress2_35 rfl rfl (by decide) rfl ?_
        refine ab_iinc (v := l5 + 1) (lv' := [some (.ref p0), some (.int (l1 + 1)), some (.ref p2), some (.int (l3 + 1)), some (.int p4), some (.int (l5 + 1)), some (.int x5)]) d_SU_compress2_38 rfl rfl (by decide) rfl ?_
        refine ab_goto (tgt := 3) d_SU_compress2_41 (by decide) ?_
        refine ab_le (lv' := [some (.ref p0), some (.int (l1 + 1)), some (.ref p2), some (.int (l3 + 1)), some (.int p4), some (.int (l5 + 1)), none]) ⟨rfl, ⟨rfl, ⟨rfl, ⟨rfl, ⟨rfl, ⟨rfl, trivial⟩⟩⟩⟩⟩⟩ ?_
        exact ih (l1 + 1) (l3 + 1) (l5 + 1) H10 r hF
      · rw [if_neg q6] at hF
        refine ab_iload d_SU_compress2_23 rfl ?_
        exact ab_iret d_SU_compress2_25 rfl (Nat.le_refl _) (Nat.le_refl _) (by have hr := Option.some.inj hF; subst hr; exact ⟨rfl, rfl⟩)
def F_SU_compress2 (N : Nat) (p0 : Nat) (l1 : Int32) (p2 : Nat) (l3 : Int32) (p4 : Int32) (H : Hp) : Option (Int32 × Hp) :=
    B_SU_compress2_3 N p0 p2 p4 N l1 l3 0 H
set_option maxRecDepth 20000 in
set_option maxHeartbeats 2000000 in
theorem m_SU_compress2 {N : Nat} {p0 : Nat} {l1 : Int32} {p2 : Nat} {l3 : Int32} {p4 : Int32} {H : Hp} {r : Int32 × Hp} (hF : F_SU_compress2 N p0 l1 p2 l3 p4 H = some r) : Sa H r.2 := by
  unfold F_SU_compress2 at hF
  have hm := Sa.rf H
  exact hm.tr (mB_SU_compress2_3 N l1 l3 0 H r hF)
set_option maxRecDepth 20000 in
set_option maxHeartbeats 2000000 in
theorem k_SU_compress2 {N : Nat} {p0 : Nat} {l1 : Int32} {p2 : Nat} {l3 : Int32} {p4 : Int32} {H : Hp} {r : Int32 × Hp} (hF : F_SU_compress2 N p0 l1 p2 l3 p4 H = some r) : ab_M y_SU_compress2 { frames := 0, cells := 0, slots := 0, locals := 0 } [.ref p0, .int l1, .ref p2, .int l3, .int p4] (hpw H) (po (.returned (some (.int r.1))) r.2) := by
  unfold F_SU_compress2 at hF
  refine ab_of2 (lv := [some (.ref p0), some (.int l1), some (.ref p2), some (.int l3), some (.int p4), none, none]) 2 rfl (by decide +kernel) (Nat.le_of_ble_eq_true rfl) ?_
  refine ab_iconst (v := 0) d_SU_compress2_0 (by decide) ?_
  refine ab_istore (lv' := [some (.ref p0), some (.int l1), some (.ref p2), some (.int l3), some (.int p4), some (.int 0), none]) d_SU_compress2_1 (by decide) rfl ?_
  exact kB_SU_compress2_3 N l1 l3 0 H r hF
def y_SU_compress : ab_Y := (⟨"java/lang/StringUTF16", "compress", "([CII)[B"⟩, prog_27_method_16_code, 6, (some (FieldType.array FieldType.byte)), [])
theorem d_SU_compress_0 : decode y_SU_compress.2.1 0 = .ok (.iload_n 2, 1) := by decide +kernel
theorem d_SU_compress_1 : decode y_SU_compress.2.1 1 = .ok (.newarray .byte, 2) := by decide +kernel
theorem d_SU_compress_3 : decode y_SU_compress.2.1 3 = .ok (.astore_n 3, 1) := by decide +kernel
theorem d_SU_compress_4 : decode y_SU_compress.2.1 4 = .ok (.aload_n 0, 1) := by decide +kernel
theorem d_SU_compress_5 : decode y_SU_compress.2.1 5 = .ok (.iload_n 1, 1) := by decide +kernel
theorem d_SU_compress_6 : decode y_SU_compress.2.1 6 = .ok (.aload_n 3, 1) := by decide +kernel
theorem d_SU_compress_7 : decode y_SU_compress.2.1 7 = .ok (.iconst 0, 1) := by decide +kernel
theorem d_SU_compress_8 : decode y_SU_compress.2.1 8 = .ok (.iload_n 2, 1) := by decide +kernel
theorem d_SU_compress_9 : decode y_SU_compress.2.1 9 = .ok (.invokestatic 115, 3) := by decide +kernel
theorem d_SU_compress_12 : decode y_SU_compress.2.1 12 = .ok (.istore 4, 2) := by decide +kernel
theorem d_SU_compress_14 : decode y_SU_compress.2.1 14 = .ok (.iload 4, 2) := by decide +kernel
theorem d_SU_compress_16 : decode y_SU_compress.2.1 16 = .ok (.iload_n 2, 1) := by decide +kernel
theorem d_SU_compress_17 : decode y_SU_compress.2.1 17 = .ok (.if_icmp .eq 40, 3) := by decide +kernel
theorem d_SU_compress_20 : decode y_SU_compress.2.1 20 = .ok (.aload_n 0, 1) := by decide +kernel
theorem d_SU_compress_21 : decode y_SU_compress.2.1 21 = .ok (.iload_n 1, 1) := by decide +kernel
theorem d_SU_compress_22 : decode y_SU_compress.2.1 22 = .ok (.iload_n 2, 1) := by decide +kernel
theorem d_SU_compress_23 : decode y_SU_compress.2.1 23 = .ok (.invokestatic 119, 3) := by decide +kernel
theorem d_SU_compress_26 : decode y_SU_compress.2.1 26 = .ok (.astore 5, 2) := by decide +kernel
theorem d_SU_compress_28 : decode y_SU_compress.2.1 28 = .ok (.aload 5, 2) := by decide +kernel
theorem d_SU_compress_30 : decode y_SU_compress.2.1 30 = .ok (.iload 4, 2) := by decide +kernel
theorem d_SU_compress_32 : decode y_SU_compress.2.1 32 = .ok (.invokestatic 71, 3) := by decide +kernel
theorem d_SU_compress_35 : decode y_SU_compress.2.1 35 = .ok (.sipush 255, 3) := by decide +kernel
theorem d_SU_compress_38 : decode y_SU_compress.2.1 38 = .ok (.if_icmp .gt 16, 3) := by decide +kernel
theorem d_SU_compress_41 : decode y_SU_compress.2.1 41 = .ok (.aload 5, 2) := by decide +kernel
theorem d_SU_compress_43 : decode y_SU_compress.2.1 43 = .ok (.iconst 0, 1) := by decide +kernel
theorem d_SU_compress_44 : decode y_SU_compress.2.1 44 = .ok (.aload_n 3, 1) := by decide +kernel
theorem d_SU_compress_45 : decode y_SU_compress.2.1 45 = .ok (.iconst 0, 1) := by decide +kernel
theorem d_SU_compress_46 : decode y_SU_compress.2.1 46 = .ok (.iload_n 2, 1) := by decide +kernel
theorem d_SU_compress_47 : decode y_SU_compress.2.1 47 = .ok (.invokestatic 123, 3) := by decide +kernel
theorem d_SU_compress_50 : decode y_SU_compress.2.1 50 = .ok (.iload_n 2, 1) := by decide +kernel
theorem d_SU_compress_51 : decode y_SU_compress.2.1 51 = .ok (.if_icmp .eq 6, 3) := by decide +kernel
theorem d_SU_compress_54 : decode y_SU_compress.2.1 54 = .ok (.aload 5, 2) := by decide +kernel
theorem d_SU_compress_56 : decode y_SU_compress.2.1 56 = .ok (.areturn, 1) := by decide +kernel
theorem d_SU_compress_57 : decode y_SU_compress.2.1 57 = .ok (.aload_n 3, 1) := by decide +kernel
theorem d_SU_compress_58 : decode y_SU_compress.2.1 58 = .ok (.areturn, 1) := by decide +kernel
theorem s_SU_compress : ab_Stat y_SU_compress 3 := ⟨(k4 194 rfl rfl), (k1 6 rfl rfl), ⟨by decide, by decide⟩, by decide +kernel⟩
theorem t_SU_compress : Cond.static y_SU_compress.1 ∈ ab_T := (k4 193 rfl rfl)
def F_SU_compress (N : Nat) (p0 : Nat) (p1 : Int32) (p2 : Int32) (H : Hp) : Option ((Option Nat) × Hp) :=
    ck (¬ p2 < 0) <|
    ck ((p2).toNatClampNeg * 1 ≤ 536870912) <|
    bnd (H.nw (101, (p2).toNatClampNeg) (p2).toNatClampNeg) fun H3 =>
    bnd H.sh.length fun a4 =>
    bC (F_SU_compress2 N p0 p1 a4 (0 : Int32) p2 H3) fun v6 H7 =>
    if v6 = p2 then
    some (some a4, H7)
    else
    none
set_option maxRecDepth 20000 in
set_option maxHeartbeats 2000000 in
theorem m_SU_compress {N : Nat} {p0 : Nat} {p1 : Int32} {p2 : Int32} {H : Hp} {r : (Option Nat) × Hp} (hF : F_SU_compress N p0 p1 p2 H = some r) : Mo H r.2 := by
  unfold F_SU_compress at hF
  have hm := Mo.rf H
  obtain ⟨q9, hG⟩ := ck_s hF; clear hF
  obtain ⟨q10, hF⟩ := ck_s hG; clear hG
  obtain ⟨H11, eH11, hG⟩ := bnd_g hF; clear hF
  replace hm : Mo H H11 := hm.tr (by rw [eH11]; exact Mo.nw _ _ _)
  obtain ⟨a12, -, hF⟩ := bnd_g hG; clear hG
  obtain ⟨v14, H15, z13, hG⟩ := bC_s hF; clear hF
  replace hm : Mo H H15 := hm.tr ((m_SU_compress2 z13)).mo
  rcases ite_s hG with ⟨q_7, hF⟩ | ⟨q_7, hF⟩
  · clear hG
    have hr := Option.some.inj hF; subst hr
    exact hm
  · clear hG
    cases hF
set_option maxRecDepth 20000 in
set_option maxHeartbeats 2000000 in
theorem k_SU_compress {N : Nat} {p0 : Nat} {p1 : Int32} {p2 : Int32} {H : Hp} {r : (Option Nat) × Hp} {C Sl : Nat} (hF : F_SU_compress N p0 p1 p2 H = some r) (hC : r.2.sh.length ≤ H.sh.length + C) (hS : r.2.sl ≤ H.sl + Sl) : ab_M y_SU_compress { frames := 1, cells := C, slots := Sl, locals := 26 } [.ref p0, .int p1, .int p2] (hpw H) (po (.returned (some (ab_rf r.1))) r.2) := by
  unfold F_SU_compress at hF
  obtain ⟨c0, e0⟩ : ∃ q, q = H.sh.length := ⟨_, rfl⟩
  obtain ⟨s0, e1⟩ : ∃ q, q = H.sl := ⟨_, rfl⟩
  rw [← e0] at hC
  rw [← e1] at hS
  have hc0 : c0 ≤ H.sh.length := Nat.le_of_eq e0
  have hs0 : s0 ≤ H.sl := Nat.le_of_eq e1
  have hcc : H.sh.length ≤ c0 + C := by omega
  have hss : H.sl ≤ s0 + Sl := by omega
  refine ab_of2 (lv := [some (.ref p0), some (.int p1), some (.int p2), none, none, none]) 3 rfl (by decide +kernel) (Nat.le_of_ble_eq_true rfl) ?_
  refine ab_widen (cells' := H.sh.length - c0) (slots' := H.sl - s0) (Nat.zero_le _) (Nat.zero_le _) ?_
  refine ab_iload_n d_SU_compress_0 rfl rfl ?_
  obtain ⟨q1, hG⟩ := ck_s hF; clear hF
  obtain ⟨q2, hF⟩ := ck_s hG; clear hG
  obtain ⟨H3, eH3, hG⟩ := bnd_g hF; clear hF
  obtain ⟨a4, ea4, hF⟩ := bnd_g hG; clear hG
  have m_1 : Mo H H3 := by rw [eH3]; exact Mo.nw _ _ _
  have b_2l := (m_1).len
  have b_2s := (m_1).2
  have b_2c : c0 ≤ H3.sh.length := by omega
  have b_2d : s0 ≤ H3.sl := by omega
  have b_2x : H3.sh.length = H.sh.length + 1 := by rw [eH3]; simp [Hp.nw, mkH_sh]
  have b_2y : H3.sl = H.sl + (p2).toNatClampNeg := by rw [eH3]; rfl
  obtain ⟨v6, H7, z5, hG⟩ := bC_s hF; clear hF
  have jH7 : Mo H3 H7 := ((m_SU_compress2 z5)).mo
  have fH7 : Mo H7 r.2 := by
    have hm := Mo.rf H7
    rcases ite_s hG with ⟨q_4, hF⟩ | ⟨q_4, hF⟩
    · clear hG
      have hr := Option.some.inj hF; subst hr
      exact hm
    · clear hG
      cases hF
  have fH3 : Mo H3 r.2 := jH7.tr fH7
  have b_2m := (fH3).len
  have b_2n := (fH3).2
  have b_2p : H3.sh.length ≤ c0 + C := by omega
  have b_2q : H3.sl ≤ s0 + Sl := by omega
  refine hp_newa (q := 101) d_SU_compress_1 rfl (k1 142 rfl rfl) tB (Or.inr (Or.inl rfl)) ⟨by decide, by decide, rfl⟩ rfl q1 q2 (by show _ ≤ C; omega) (by show _ + (p2).toNatClampNeg ≤ Sl; omega) ?_
  refine ab_widen (cells' := H3.sh.length - c0) (slots' := H3.sl - s0) (by omega) (by show _ + (p2).toNatClampNeg ≤ _; omega) ?_
  rw [← eH3, ← ea4]
  clear b_2l b_2s b_2x b_2y b_2m b_2n
  refine ab_astore_n (lv' := [some (.ref p0), some (.int p1), some (.int p2), some (.ref a4), none, none]) d_SU_compress_3 rfl (by decide) rfl rfl ?_
  refine ab_aload_n d_SU_compress_4 rfl rfl rfl ?_
  refine ab_iload_n d_SU_compress_5 rfl rfl ?_
  refine ab_aload_n d_SU_compress_6 rfl rfl rfl ?_
  refine ab_iconst (v := 0) d_SU_compress_7 (by decide) ?_
  refine ab_iload_n d_SU_compress_8 rfl rfl ?_
  refine hp_callS_a (v := .int v6) (H1 := H7) (As := [.ref p0, .int p1, .ref a4, .int 0, .int p2]) (rest := []) d_SU_compress_9 (k_SU_compress2 z5) (ab_mkC s_SU_compress2 (Nat.le_of_ble_eq_true rfl) (Nat.le_of_ble_eq_true rfl) (show (H3.sh.length - c0) + 0 ≤ C from by omega) (show (H3.sl - s0) + 0 ≤ Sl from by omega)) (k4 195 rfl rfl) t_SU_compress2 rfl (Nat.le_of_ble_eq_true rfl) ?_
  have s_6 : Sa H3 H7 := (m_SU_compress2 z5)
  refine ab_widen (cells' := H3.sh.length - c0) (slots' := H3.sl - s0) (by show (H3.sh.length - c0) + 0 ≤ _; omega) (by show (H3.sl - s0) + 0 ≤ _; omega) ?_
  refine ab_istore (lv' := [some (.ref p0), some (.int p1), some (.int p2), some (.ref a4), some (.int v6), none]) d_SU_compress_12 (by decide) rfl ?_
  refine ab_iload d_SU_compress_14 rfl ?_
  refine ab_iload_n d_SU_compress_16 rfl rfl ?_
  refine ab_icmp_eq (tgt := 57) d_SU_compress_17 (by decide) (fun q8 => ?_) (fun q8 => ?_)
  · rw [if_pos q8] at hG
    refine ab_aload_n d_SU_compress_57 rfl rfl rfl ?_
    exact ab_aret d_SU_compress_58 rfl (Or.inr ⟨_, rfl⟩) rfl (by show _ ≤ C; omega) (by show _ ≤ Sl; omega) (by have hr := Option.some.inj hG; subst hr; exact ⟨rfl, rfl⟩)
  · rw [if_neg q8] at hG
    refine ab_aload_n d_SU_compress_20 rfl rfl rfl ?_
    refine ab_iload_n d_SU_compress_21 rfl rfl ?_
    refine ab_iload_n d_SU_compress_22 rfl rfl ?_
    cases hG
def y_SU_coderFromArrayLen : ab_Y := (⟨"java/lang/StringUTF16", "coderFromArrayLen", "([BI)B"⟩, prog_27_method_15_code, 2, (some FieldType.byte), [])
theorem d_SU_coderFromArrayLen_0 : decode y_SU_coderFromArrayLen.2.1 0 = .ok (.iload_n 1, 1) := by decide +kernel
theorem d_SU_coderFromArrayLen_1 : decode y_SU_coderFromArrayLen.2.1 1 = .ok (.aload_n 0, 1) := by decide +kernel
theorem d_SU_coderFromArrayLen_2 : decode y_SU_coderFromArrayLen.2.1 2 = .ok (.arraylength, 1) := by decide +kernel
theorem d_SU_coderFromArrayLen_3 : decode y_SU_coderFromArrayLen.2.1 3 = .ok (.isub, 1) := by decide +kernel
theorem d_SU_coderFromArrayLen_4 : decode y_SU_coderFromArrayLen.2.1 4 = .ok (.bipush 31, 2) := by decide +kernel
theorem d_SU_coderFromArrayLen_6 : decode y_SU_coderFromArrayLen.2.1 6 = .ok (.iushr, 1) := by decide +kernel
theorem d_SU_coderFromArrayLen_7 : decode y_SU_coderFromArrayLen.2.1 7 = .ok (.i2b, 1) := by decide +kernel
theorem d_SU_coderFromArrayLen_8 : decode y_SU_coderFromArrayLen.2.1 8 = .ok (.ireturn, 1) := by decide +kernel
theorem s_SU_coderFromArrayLen : ab_Stat y_SU_coderFromArrayLen 2 := ⟨(k4 225 rfl rfl), (k1 6 rfl rfl), ⟨by decide, by decide⟩, by decide +kernel⟩
theorem t_SU_coderFromArrayLen : Cond.static y_SU_coderFromArrayLen.1 ∈ ab_T := (k4 224 rfl rfl)
def F_SU_coderFromArrayLen (N : Nat) (p0 : Nat) (p1 : Int32) (H : Hp) : Option (Int32 × Hp) :=
    ar H 101 p0 fun n1 =>
    bnd ((((p1 - (Int32.ofNat n1)).toUInt32 >>> (((31 : Int32) : Int32).toUInt32 &&& Int32.toUInt32 31)).toInt32)) fun x3 =>
    bnd (((x3 : Int32).toInt8.toInt32)) fun x4 =>
    ck (x4.toInt8.toInt32 = x4) <|
    some (x4, H)
set_option maxRecDepth 20000 in
set_option maxHeartbeats 2000000 in
theorem m_SU_coderFromArrayLen {N : Nat} {p0 : Nat} {p1 : Int32} {H : Hp} {r : Int32 × Hp} (hF : F_SU_coderFromArrayLen N p0 p1 H = some r) : Sa H r.2 := by
  unfold F_SU_coderFromArrayLen at hF
  have hm := Sa.rf H
  obtain ⟨n6, q7, hG⟩ := ar_s hF; clear hF
  obtain ⟨x8, -, hF⟩ := bnd_g hG; clear hG
  obtain ⟨x9, -, hG⟩ := bnd_g hF; clear hF
  obtain ⟨q10, hF⟩ := ck_s hG; clear hG
  have hr := Option.some.inj hF; subst hr
  exact hm
set_option maxRecDepth 20000 in
set_option maxHeartbeats 2000000 in
theorem k_SU_coderFromArrayLen {N : Nat} {p0 : Nat} {p1 : Int32} {H : Hp} {r : Int32 × Hp} (hF : F_SU_coderFromArrayLen N p0 p1 H = some r) : ab_M y_SU_coderFromArrayLen { frames := 0, cells := 0, slots := 0, locals := 0 } [.ref p0, .int p1] (hpw H) (po (.returned (some (.int r.1))) r.2) := by
  unfold F_SU_coderFromArrayLen at hF
  refine ab_of2 (lv := [some (.ref p0), some (.int p1)]) 0 rfl (by decide +kernel) (Nat.le_of_ble_eq_true rfl) ?_
  refine ab_iload_n d_SU_coderFromArrayLen_0 rfl rfl ?_
  refine ab_aload_n d_SU_coderFromArrayLen_1 rfl rfl rfl ?_
  obtain ⟨n1, q2, hG⟩ := ar_s hF; clear hF
  refine hp_alen (q := 101) d_SU_coderFromArrayLen_2 q2 (Or.inl ⟨by decide, by decide, rfl⟩) tB ?_
  refine ab_isub d_SU_coderFromArrayLen_3 ?_
  refine ab_bipush (v := 31) d_SU_coderFromArrayLen_4 (by decide) ?_
  refine ab_iushr d_SU_coderFromArrayLen_6 ?_
  refine ab_topi (fun x3 ex3 => ?_)
  replace hG := bnd_s ex3 hG
  refine ab_i2b d_SU_coderFromArrayLen_7 ?_
  refine ab_topi (fun x4 ex4 => ?_)
  replace hG := bnd_s ex4 hG
  obtain ⟨q5, hF⟩ := ck_s hG; clear hG
  exact ab_zret d_SU_coderFromArrayLen_8 rfl (congrArg Value.int q5) (Nat.le_refl _) (Nat.le_refl _) (by have hr := Option.some.inj hF; subst hr; exact ⟨rfl, rfl⟩)
def y_Str_init2 : ab_Y := (⟨"java/lang/String", "<init>", "([CIILjava/lang/Void;)V"⟩, prog_25_method_149_code, 6, none, [])
theorem d_Str_init2_0 : decode y_Str_init2.2.1 0 = .ok (.aload_n 0, 1) := by decide +kernel
theorem d_Str_init2_1 : decode y_Str_init2.2.1 1 = .ok (.invokespecial 1, 3) := by decide +kernel
theorem d_Str_init2_4 : decode y_Str_init2.2.1 4 = .ok (.iload_n 3, 1) := by decide +kernel
theorem d_Str_init2_5 : decode y_Str_init2.2.1 5 = .ok (.ifCond .ne 22, 3) := by decide +kernel
theorem d_Str_init2_8 : decode y_Str_init2.2.1 8 = .ok (.aload_n 0, 1) := by decide +kernel
theorem d_Str_init2_9 : decode y_Str_init2.2.1 9 = .ok (.ldc 7, 2) := by decide +kernel
theorem d_Str_init2_11 : decode y_Str_init2.2.1 11 = .ok (.getfield 9, 3) := by decide +kernel
theorem d_Str_init2_14 : decode y_Str_init2.2.1 14 = .ok (.putfield 9, 3) := by decide +kernel
theorem d_Str_init2_17 : decode y_Str_init2.2.1 17 = .ok (.aload_n 0, 1) := by decide +kernel
theorem d_Str_init2_18 : decode y_Str_init2.2.1 18 = .ok (.ldc 7, 2) := by decide +kernel
theorem d_Str_init2_20 : decode y_Str_init2.2.1 20 = .ok (.getfield 15, 3) := by decide +kernel
theorem d_Str_init2_23 : decode y_Str_init2.2.1 23 = .ok (.putfield 15, 3) := by decide +kernel
theorem d_Str_init2_26 : decode y_Str_init2.2.1 26 = .ok (.return_, 1) := by decide +kernel
theorem d_Str_init2_27 : decode y_Str_init2.2.1 27 = .ok (.getstatic 38, 3) := by decide +kernel
theorem d_Str_init2_30 : decode y_Str_init2.2.1 30 = .ok (.ifCond .eq 28, 3) := by decide +kernel
theorem d_Str_init2_33 : decode y_Str_init2.2.1 33 = .ok (.aload_n 1, 1) := by decide +kernel
theorem d_Str_init2_34 : decode y_Str_init2.2.1 34 = .ok (.iload_n 2, 1) := by decide +kernel
theorem d_Str_init2_35 : decode y_Str_init2.2.1 35 = .ok (.iload_n 3, 1) := by decide +kernel
theorem d_Str_init2_36 : decode y_Str_init2.2.1 36 = .ok (.invokestatic 177, 3) := by decide +kernel
theorem d_Str_init2_39 : decode y_Str_init2.2.1 39 = .ok (.astore 5, 2) := by decide +kernel
theorem d_Str_init2_41 : decode y_Str_init2.2.1 41 = .ok (.aload_n 0, 1) := by decide +kernel
theorem d_Str_init2_42 : decode y_Str_init2.2.1 42 = .ok (.aload 5, 2) := by decide +kernel
theorem d_Str_init2_44 : decode y_Str_init2.2.1 44 = .ok (.iload_n 3, 1) := by decide +kernel
theorem d_Str_init2_45 : decode y_Str_init2.2.1 45 = .ok (.invokestatic 47, 3) := by decide +kernel
theorem d_Str_init2_48 : decode y_Str_init2.2.1 48 = .ok (.putfield 15, 3) := by decide +kernel
theorem d_Str_init2_51 : decode y_Str_init2.2.1 51 = .ok (.aload_n 0, 1) := by decide +kernel
theorem d_Str_init2_52 : decode y_Str_init2.2.1 52 = .ok (.aload 5, 2) := by decide +kernel
theorem d_Str_init2_54 : decode y_Str_init2.2.1 54 = .ok (.putfield 9, 3) := by decide +kernel
theorem d_Str_init2_57 : decode y_Str_init2.2.1 57 = .ok (.return_, 1) := by decide +kernel
theorem d_Str_init2_58 : decode y_Str_init2.2.1 58 = .ok (.aload_n 0, 1) := by decide +kernel
theorem d_Str_init2_59 : decode y_Str_init2.2.1 59 = .ok (.iconst 1, 1) := by decide +kernel
theorem d_Str_init2_60 : decode y_Str_init2.2.1 60 = .ok (.putfield 15, 3) := by decide +kernel
theorem d_Str_init2_63 : decode y_Str_init2.2.1 63 = .ok (.aload_n 0, 1) := by decide +kernel
theorem d_Str_init2_64 : decode y_Str_init2.2.1 64 = .ok (.aload_n 1, 1) := by decide +kernel
theorem d_Str_init2_65 : decode y_Str_init2.2.1 65 = .ok (.iload_n 2, 1) := by decide +kernel
theorem d_Str_init2_66 : decode y_Str_init2.2.1 66 = .ok (.iload_n 3, 1) := by decide +kernel
theorem d_Str_init2_67 : decode y_Str_init2.2.1 67 = .ok (.invokestatic 180, 3) := by decide +kernel
theorem d_Str_init2_70 : decode y_Str_init2.2.1 70 = .ok (.putfield 9, 3) := by decide +kernel
theorem d_Str_init2_73 : decode y_Str_init2.2.1 73 = .ok (.return_, 1) := by decide +kernel
theorem s_Str_init2 : ab_Stat y_Str_init2 4 := ⟨(k4 189 rfl rfl), (k1 3 rfl rfl), ⟨by decide, by decide⟩, by decide +kernel⟩
theorem i_Str_init2 : Cond.instanceMethod y_Str_init2.1 ∈ ab_T := (k4 188 rfl rfl)
def F_Str_init2 (N : Nat) (p0 : Nat) (p1 : Nat) (p2 : Int32) (p3 : Int32) (p4 : Nat) (H : Hp) : Option (Unit × Hp) :=
    if p3 = (0 : Int32) then
    ck (H.sh[p0]? = some (16, 0)) <|
    bnd (H.sP p0 0 (.float 101)) fun H17 =>
    bnd (H17.sD p0 1 (0 : Int32)) fun H18 =>
    some ((), H18)
    else
    if (1 : Int32) = (0 : Int32) then
    ck (H.sh[p0]? = some (16, 0)) <|
    bnd (H.sD p0 1 (1 : Int32)) fun H4 =>
    none
    else
    bC (F_SU_compress N p1 p2 p3 H) fun v6 H7 =>
    on v6 fun a8 =>
    bC (F_SU_coderFromArrayLen N a8 p3 H7) fun v10 H11 =>
    ck (H11.sh[p0]? = some (16, 0)) <|
    ck (v10 = 0 ∨ v10 = 1) <|
    bnd (H11.sD p0 1 v10) fun H14 =>
    bnd (H14.sP p0 0 (.ref a8)) fun H15 =>
    some ((), H15)
set_option maxRecDepth 20000 in
set_option maxHeartbeats 2000000 in
theorem m_Str_init2 {N : Nat} {p0 : Nat} {p1 : Nat} {p2 : Int32} {p3 : Int32} {p4 : Nat} {H : Hp} {r : Unit × Hp} (hF : F_Str_init2 N p0 p1 p2 p3 p4 H = some r) : Mo H r.2 := by
  unfold F_Str_init2 at hF
  have hm := Mo.rf H
  rcases ite_s hF with ⟨q_13, hG⟩ | ⟨q_13, hG⟩
  · clear hF
    obtain ⟨q20, hF⟩ := ck_s hG; clear hG
    obtain ⟨H21, eH21, hG⟩ := bnd_g hF; clear hF
    replace hm : Mo H H21 := by rw [eH21]; exact hm
    obtain ⟨H22, eH22, hF⟩ := bnd_g hG; clear hG
    replace hm : Mo H H22 := by rw [eH22]; exact hm
    have hr := Option.some.inj hF; subst hr
    exact hm
  · clear hF
    rcases ite_s hG with ⟨q_16, hF⟩ | ⟨q_16, hF⟩
    · clear hG
      obtain ⟨q24, hG⟩ := ck_s hF; clear hF
      obtain ⟨H25, eH25, hF⟩ := bnd_g hG; clear hG
      replace hm : Mo H H25 := by rw [eH25]; exact hm
      cases hF
    · clear hG
      obtain ⟨v27, H28, z26, hG⟩ := bC_s hF; clear hF
      replace hm : Mo H H28 := hm.tr (m_SU_compress z26)
      obtain ⟨a29, ea29, hF⟩ := on_s hG; clear hG
      subst ea29
      obtain ⟨v31, H32, z30, hG⟩ := bC_s hF; clear hF
      replace hm : Mo H H32 := hm.tr ((m_SU_coderFromArrayLen z30)).mo
      obtain ⟨q33, hF⟩ := ck_s hG; clear hG
      obtain ⟨q34, hG⟩ := ck_s hF; clear hF
      obtain ⟨H35, eH35, hF⟩ := bnd_g hG; clear hG
      replace hm : Mo H H35 := by rw [eH35]; exact hm
      obtain ⟨H36, eH36, hG⟩ := bnd_g hF; clear hF
      replace hm : Mo H H36 := by rw [eH36]; exact hm
      have hr := Option.some.inj hG; subst hr
      exact hm
set_option maxRecDepth 20000 in
set_option maxHeartbeats 2000000 in
theorem k_Str_init2 {N : Nat} {p0 : Nat} {p1 : Nat} {p2 : Int32} {p3 : Int32} {p4 : Nat} {H : Hp} {r : Unit × Hp} {C Sl : Nat} (hF : F_Str_init2 N p0 p1 p2 p3 p4 H = some r) (hC : r.2.sh.length ≤ H.sh.length + C) (hS : r.2.sl ≤ H.sl + Sl) : ab_M y_Str_init2 { frames := 2, cells := C, slots := Sl, locals := 60 } [.ref p0, .ref p1, .int p2, .int p3, .ref p4] (hpw H) (po (.returned none) r.2) := by
  unfold F_Str_init2 at hF
  obtain ⟨c0, e0⟩ : ∃ q, q = H.sh.length := ⟨_, rfl⟩
  obtain ⟨s0, e1⟩ : ∃ q, q = H.sl := ⟨_, rfl⟩
  rw [← e0] at hC
  rw [← e1] at hS
  have hc0 : c0 ≤ H.sh.length := Nat.le_of_eq e0
  have hs0 : s0 ≤ H.sl := Nat.le_of_eq e1
  have hcc : H.sh.length ≤ c0 + C := by omega
  have hss : H.sl ≤ s0 + Sl := by omega
  refine ab_of2 (lv := [some (.ref p0), some (.ref p1), some (.int p2), some (.int p3), some (.ref p4), none]) 1 rfl (by decide +kernel) (Nat.le_of_ble_eq_true rfl) ?_
  refine ab_widen (cells' := H.sh.length - c0) (slots' := H.sl - s0) (Nat.zero_le _) (Nat.zero_le _) ?_
  refine ab_aload_n d_Str_init2_0 rfl rfl rfl ?_
  refine ab_objInit d_Str_init2_1 (k4 190 rfl rfl) (k1 37 rfl rfl) (k1 38 rfl rfl) (Nat.le_of_ble_eq_true rfl) (Nat.le_of_ble_eq_true rfl) ?_
  refine ab_iload_n d_Str_init2_4 rfl rfl ?_
  refine ab_if_ne (tgt := 27) d_Str_init2_5 (by decide) (fun q1 => ?_) (fun q1 => ?_)
  · rw [if_neg q1] at hF
    refine ab_getsC d_Str_init2_27 (k1 54 rfl rfl) ?_
    refine ab_if_eq (tgt := 58) d_Str_init2_30 (by decide) (fun q2 => ?_) (fun q2 => ?_)
    · rw [if_pos q2] at hF
      refine ab_aload_n d_Str_init2_58 rfl rfl rfl ?_
      refine ab_iconst (v := 1) d_Str_init2_59 (by decide) ?_
      obtain ⟨q3, hG⟩ := ck_s hF; clear hF
      refine hp_putFI (v := 1) (f := 1) (ty := .byte) d_Str_init2_60 q3 (by decide) rfl (by decide) (k4 228 rfl rfl) rfl rfl rfl rfl (fun _ => rfl) (fun _ => rfl) rfl ?_
      refine hp_gen (fun H4 eH4 => ?_)
      replace hG := bnd_s eH4 hG
      have s_1 : Sa H H4 := by rw [eH4]; exact Sa.rf _
      refine ab_aload_n d_Str_init2_63 rfl rfl rfl ?_
      refine ab_aload_n d_Str_init2_64 rfl rfl rfl ?_
      refine ab_iload_n d_Str_init2_65 rfl rfl ?_
      refine ab_iload_n d_Str_init2_66 rfl rfl ?_
      cases hG
    · rw [if_neg q2] at hF
      refine ab_aload_n d_Str_init2_33 rfl rfl rfl ?_
      refine ab_iload_n d_Str_init2_34 rfl rfl ?_
      refine ab_iload_n d_Str_init2_35 rfl rfl ?_
      obtain ⟨v6, H7, z5, hG⟩ := bC_s hF; clear hF
      have mz_2 : Mo H H7 := (m_SU_compress z5)
      have b_3l := (mz_2).len
      have b_3s := (mz_2).2
      have b_3c : c0 ≤ H7.sh.length := by omega
      have b_3d : s0 ≤ H7.sl := by omega
      have mf_4 : Mo H7 r.2 := by
        have hm := Mo.rf H7
        obtain ⟨a8, ea8, hF⟩ := on_s hG; clear hG
        subst ea8
        obtain ⟨v10, H11, z9, hG⟩ := bC_s hF; clear hF
        replace hm : Mo H7 H11 := hm.tr ((m_SU_coderFromArrayLen z9)).mo
        obtain ⟨q12, hF⟩ := ck_s hG; clear hG
        obtain ⟨q13, hG⟩ := ck_s hF; clear hF
        obtain ⟨H14, eH14, hF⟩ := bnd_g hG; clear hG
        replace hm : Mo H7 H14 := by rw [eH14]; exact hm
        obtain ⟨H15, eH15, hG⟩ := bnd_g hF; clear hF
        replace hm : Mo H7 H15 := by rw [eH15]; exact hm
        have hr := Option.some.inj hG; subst hr
        exact hm
      have b_3m := (mf_4).len
      have b_3n := (mf_4).2
      have b_3p : H7.sh.length ≤ c0 + C := by omega
      have b_3q : H7.sl ≤ s0 + Sl := by omega
      refine hp_callS_a (v := ab_rf v6) (H1 := H7) (As := [.ref p1, .int p2, .int p3]) (rest := []) d_Str_init2_36 (k_SU_compress z5 (C := H7.sh.length - H.sh.length) (Sl := H7.sl - H.sl) (by show H7.sh.length ≤ _; omega) (by show H7.sl ≤ _; omega)) (ab_mkC s_SU_compress (Nat.le_of_ble_eq_true rfl) (Nat.le_of_ble_eq_true rfl) (show (H.sh.length - c0) + (H7.sh.length - H.sh.length) ≤ C from by omega) (show (H.sl - s0) + (H7.sl - H.sl) ≤ Sl from by omega)) (k4 192 rfl rfl) t_SU_compress rfl (Nat.le_of_ble_eq_true rfl) ?_
      refine ab_widen (cells' := H7.sh.length - c0) (slots' := H7.sl - s0) (by show _ + (H7.sh.length - H.sh.length) ≤ _; omega) (by show _ + (H7.sl - H.sl) ≤ _; omega) ?_
      clear b_3l b_3s b_3m b_3n
      obtain ⟨a8, ea8, hF⟩ := on_s hG; clear hG
      subst ea8
      refine ab_astore (lv' := [some (.ref p0), some (.ref p1), some (.int p2), some (.int p3), some (.ref p4), some (.ref a8)]) d_Str_init2_39 (by decide) rfl rfl ?_
      refine ab_aload_n d_Str_init2_41 rfl rfl rfl ?_
      refine ab_aload d_Str_init2_42 rfl rfl ?_
      refine ab_iload_n d_Str_init2_44 rfl rfl ?_
      obtain ⟨v10, H11, z9, hG⟩ := bC_s hF; clear hF
      refine hp_callS_a (v := .int v10) (H1 := H11) (As := [.ref a8, .int p3]) (rest := [.ref p0]) d_Str_init2_45 (k_SU_coderFromArrayLen z9) (ab_mkC s_SU_coderFromArrayLen (Nat.le_of_ble_eq_true rfl) (Nat.le_of_ble_eq_true rfl) (show (H7.sh.length - c0) + 0 ≤ C from by omega) (show (H7.sl - s0) + 0 ≤ Sl from by omega)) (k4 223 rfl rfl) t_SU_coderFromArrayLen rfl (Nat.le_of_ble_eq_true rfl) ?_
      have s_8 : Sa H7 H11 := (m_SU_coderFromArrayLen z9)
      refine ab_widen (cells' := H7.sh.length - c0) (slots' := H7.sl - s0) (by show (H7.sh.length - c0) + 0 ≤ _; omega) (by show (H7.sl - s0) + 0 ≤ _; omega) ?_
      obtain ⟨q12, hF⟩ := ck_s hG; clear hG
      rw [(s_8).1] at q12
      obtain ⟨q13, hG⟩ := ck_s hF; clear hF
      refine hp_putFI (v := v10) (f := 1) (ty := .byte) d_Str_init2_48 (by rw [(s_8).1]; exact q12) (by decide) rfl (by decide) (k4 228 rfl rfl) rfl rfl rfl rfl (fun _ => bn_ q13) (fun _ => bf_ q13) rfl ?_
      refine hp_gen (fun H14 eH14 => ?_)
      replace hG := bnd_s eH14 hG
      have s_9 : Sa H7 H14 := by rw [eH14]; exact s_8
      refine ab_aload_n d_Str_init2_51 rfl rfl rfl ?_
      refine ab_aload d_Str_init2_52 rfl rfl ?_
      refine hp_putFP (v := .ref a8) (f := 0) d_Str_init2_54 (by rw [(s_9).1]; exact q12) (by decide) rfl (by decide) (k4 227 rfl rfl) rfl rfl rfl rfl (fun _ => rfl) (fun _ => rfl) rfl ?_
      refine hp_gen (fun H15 eH15 => ?_)
      replace hG := bnd_s eH15 hG
      have s_10 : Sa H7 H15 := by rw [eH15]; exact s_9
      exact ab_vret d_Str_init2_57 rfl (by show _ ≤ C; omega) (by show _ ≤ Sl; omega) (by have hr := Option.some.inj hG; subst hr; exact ⟨rfl, rfl⟩)
  · rw [if_pos q1] at hF
    refine ab_aload_n d_Str_init2_8 rfl rfl rfl ?_
    refine ab_ldcS (k0 := 1) d_Str_init2_9 (List.mem_of_getElem? (i := 5) rfl) rfl rfl rfl ?_
    refine ab_getKv (k1 := 101) d_Str_init2_11 (by decide) (by decide) (k4 227 rfl rfl) ?_
    obtain ⟨q16, hG⟩ := ck_s hF; clear hF
    refine hp_putFP (v := .float 101) (f := 0) d_Str_init2_14 q16 (by decide) rfl (by decide) (k4 227 rfl rfl) rfl rfl rfl rfl (fun _ => rfl) (fun _ => rfl) rfl ?_
    refine hp_gen (fun H17 eH17 => ?_)
    replace hG := bnd_s eH17 hG
    have s_11 : Sa H H17 := by rw [eH17]; exact Sa.rf _
    refine ab_aload_n d_Str_init2_17 rfl rfl rfl ?_
    refine ab_ldcS (k0 := 1) d_Str_init2_18 (List.mem_of_getElem? (i := 5) rfl) rfl rfl rfl ?_
    refine ab_getKc d_Str_init2_20 (by decide) (k4 228 rfl rfl) ?_
    refine hp_putFI (v := 0) (f := 1) (ty := .byte) d_Str_init2_23 (by rw [(s_11).1]; exact q16) (by decide) rfl (by decide) (k4 228 rfl rfl) rfl rfl rfl rfl (fun _ => rfl) (fun _ => rfl) rfl ?_
    refine hp_gen (fun H18 eH18 => ?_)
    replace hG := bnd_s eH18 hG
    have s_12 : Sa H H18 := by rw [eH18]; exact s_11
    exact ab_vret d_Str_init2_26 rfl (by show _ ≤ C; omega) (by show _ ≤ Sl; omega) (by have hr := Option.some.inj hG; subst hr; exact ⟨rfl, rfl⟩)
def y_Str_init : ab_Y := (⟨"java/lang/String", "<init>", "([C)V"⟩, prog_25_method_3_code, 2, none, [])
theorem d_Str_init_0 : decode y_Str_init.2.1 0 = .ok (.aload_n 0, 1) := by decide +kernel
theorem d_Str_init_1 : decode y_Str_init.2.1 1 = .ok (.aload_n 1, 1) := by decide +kernel
theorem d_Str_init_2 : decode y_Str_init.2.1 2 = .ok (.iconst 0, 1) := by decide +kernel
theorem d_Str_init_3 : decode y_Str_init.2.1 3 = .ok (.aload_n 1, 1) := by decide +kernel
theorem d_Str_init_4 : decode y_Str_init.2.1 4 = .ok (.arraylength, 1) := by decide +kernel
theorem d_Str_init_5 : decode y_Str_init.2.1 5 = .ok (.aconst_null, 1) := by decide +kernel
theorem d_Str_init_6 : decode y_Str_init.2.1 6 = .ok (.invokespecial 27, 3) := by decide +kernel
theorem d_Str_init_9 : decode y_Str_init.2.1 9 = .ok (.return_, 1) := by decide +kernel
theorem s_Str_init : ab_Stat y_Str_init 1 := ⟨(k4 186 rfl rfl), (k1 3 rfl rfl), ⟨by decide, by decide⟩, by decide +kernel⟩
theorem i_Str_init : Cond.instanceMethod y_Str_init.1 ∈ ab_T := (k4 185 rfl rfl)
def F_Str_init2_Knull (N : Nat) (p0 : Nat) (p1 : Nat) (p2 : Int32) (p3 : Int32) (H : Hp) : Option (Unit × Hp) :=
    if p3 = (0 : Int32) then
    ck (H.sh[p0]? = some (16, 0)) <|
    bnd (H.sP p0 0 (.float 101)) fun H17 =>
    bnd (H17.sD p0 1 (0 : Int32)) fun H18 =>
    some ((), H18)
    else
    if (1 : Int32) = (0 : Int32) then
    ck (H.sh[p0]? = some (16, 0)) <|
    bnd (H.sD p0 1 (1 : Int32)) fun H4 =>
    none
    else
    bC (F_SU_compress N p1 p2 p3 H) fun v6 H7 =>
    on v6 fun a8 =>
    bC (F_SU_coderFromArrayLen N a8 p3 H7) fun v10 H11 =>
    ck (H11.sh[p0]? = some (16, 0)) <|
    ck (v10 = 0 ∨ v10 = 1) <|
    bnd (H11.sD p0 1 v10) fun H14 =>
    bnd (H14.sP p0 0 (.ref a8)) fun H15 =>
    some ((), H15)
set_option maxRecDepth 20000 in
set_option maxHeartbeats 2000000 in
theorem m_Str_init2_Knull {N : Nat} {p0 : Nat} {p1 : Nat} {p2 : Int32} {p3 : Int32} {H : Hp} {r : Unit × Hp} (hF : F_Str_init2_Knull N p0 p1 p2 p3 H = some r) : Mo H r.2 := by
  unfold F_Str_init2_Knull at hF
  have hm := Mo.rf H
  rcases ite_s hF with ⟨q_13, hG⟩ | ⟨q_13, hG⟩
  · clear hF
    obtain ⟨q20, hF⟩ := ck_s hG; clear hG
    obtain ⟨H21, eH21, hG⟩ := bnd_g hF; clear hF
    replace hm : Mo H H21 := by rw [eH21]; exact hm
    obtain ⟨H22, eH22, hF⟩ := bnd_g hG; clear hG
    replace hm : Mo H H22 := by rw [eH22]; exact hm
    have hr := Option.some.inj hF; subst hr
    exact hm
  · clear hF
    rcases ite_s hG with ⟨q_16, hF⟩ | ⟨q_16, hF⟩
    · clear hG
      obtain ⟨q24, hG⟩ := ck_s hF; clear hF
      obtain ⟨H25, eH25, hF⟩ := bnd_g hG; clear hG
      replace hm : Mo H H25 := by rw [eH25]; exact hm
      cases hF
    · clear hG
      obtain ⟨v27, H28, z26, hG⟩ := bC_s hF; clear hF
      replace hm : Mo H H28 := hm.tr (m_SU_compress z26)
      obtain ⟨a29, ea29, hF⟩ := on_s hG; clear hG
      subst ea29
      obtain ⟨v31, H32, z30, hG⟩ := bC_s hF; clear hF
      replace hm : Mo H H32 := hm.tr ((m_SU_coderFromArrayLen z30)).mo
      obtain ⟨q33, hF⟩ := ck_s hG; clear hG
      obtain ⟨q34, hG⟩ := ck_s hF; clear hF
      obtain ⟨H35, eH35, hF⟩ := bnd_g hG; clear hG
      replace hm : Mo H H35 := by rw [eH35]; exact hm
      obtain ⟨H36, eH36, hG⟩ := bnd_g hF; clear hF
      replace hm : Mo H H36 := by rw [eH36]; exact hm
      have hr := Option.some.inj hG; subst hr
      exact hm
set_option maxRecDepth 20000 in
set_option maxHeartbeats 2000000 in
theorem k_Str_init2_Knull {N : Nat} {p0 : Nat} {p1 : Nat} {p2 : Int32} {p3 : Int32} {H : Hp} {r : Unit × Hp} {C Sl : Nat} (hF : F_Str_init2_Knull N p0 p1 p2 p3 H = some r) (hC : r.2.sh.length ≤ H.sh.length + C) (hS : r.2.sl ≤ H.sl + Sl) : ab_M y_Str_init2 { frames := 2, cells := C, slots := Sl, locals := 60 } [.ref p0, .ref p1, .int p2, .int p3, .null] (hpw H) (po (.returned none) r.2) := by
  unfold F_Str_init2_Knull at hF
  obtain ⟨c0, e0⟩ : ∃ q, q = H.sh.length := ⟨_, rfl⟩
  obtain ⟨s0, e1⟩ : ∃ q, q = H.sl := ⟨_, rfl⟩
  rw [← e0] at hC
  rw [← e1] at hS
  have hc0 : c0 ≤ H.sh.length := Nat.le_of_eq e0
  have hs0 : s0 ≤ H.sl := Nat.le_of_eq e1
  have hcc : H.sh.length ≤ c0 + C := by omega
  have hss : H.sl ≤ s0 + Sl := by omega
  refine ab_of2 (lv := [some (.ref p0), some (.ref p1), some (.int p2), some (.int p3), some (.null), none]) 1 rfl (by decide +kernel) (Nat.le_of_ble_eq_true rfl) ?_
  refine ab_widen (cells' := H.sh.length - c0) (slots' := H.sl - s0) (Nat.zero_le _) (Nat.zero_le _) ?_
  refine ab_aload_n d_Str_init2_0 rfl rfl rfl ?_
  refine ab_objInit d_Str_init2_1 (k4 190 rfl rfl) (k1 37 rfl rfl) (k1 38 rfl rfl) (Nat.le_of_ble_eq_true rfl) (Nat.le_of_ble_eq_true rfl) ?_
  refine ab_iload_n d_Str_init2_4 rfl rfl ?_
  refine ab_if_ne (tgt := 27) d_Str_init2_5 (by decide) (fun q1 => ?_) (fun q1 => ?_)
  · rw [if_neg q1] at hF
    refine ab_getsC d_Str_init2_27 (k1 54 rfl rfl) ?_
    refine ab_if_eq (tgt := 58) d_Str_init2_30 (by decide) (fun q2 => ?_) (fun q2 => ?_)
    · rw [if_pos q2] at hF
      refine ab_aload_n d_Str_init2_58 rfl rfl rfl ?_
      refine ab_iconst (v := 1) d_Str_init2_59 (by decide) ?_
      obtain ⟨q3, hG⟩ := ck_s hF; clear hF
      refine hp_putFI (v := 1) (f := 1) (ty := .byte) d_Str_init2_60 q3 (by decide) rfl (by decide) (k4 228 rfl rfl) rfl rfl rfl rfl (fun _ => rfl) (fun _ => rfl) rfl ?_
      refine hp_gen (fun H4 eH4 => ?_)
      replace hG := bnd_s eH4 hG
      have s_1 : Sa H H4 := by rw [eH4]; exact Sa.rf _
      refine ab_aload_n d_Str_init2_63 rfl rfl rfl ?_
      refine ab_aload_n d_Str_init2_64 rfl rfl rfl ?_
      refine ab_iload_n d_Str_init2_65 rfl rfl ?_
      refine ab_iload_n d_Str_init2_66 rfl rfl ?_
      cases hG
    · rw [if_neg q2] at hF
      refine ab_aload_n d_Str_init2_33 rfl rfl rfl ?_
      refine ab_iload_n d_Str_init2_34 rfl rfl ?_
      refine ab_iload_n d_Str_init2_35 rfl rfl ?_
      obtain ⟨v6, H7, z5, hG⟩ := bC_s hF; clear hF
      have mz_2 : Mo H H7 := (m_SU_compress z5)
      have b_3l := (mz_2).len
      have b_3s := (mz_2).2
      have b_3c : c0 ≤ H7.sh.length := by omega
      have b_3d : s0 ≤ H7.sl := by omega
      have mf_4 : Mo H7 r.2 := by
        have hm := Mo.rf H7
        obtain ⟨a8, ea8, hF⟩ := on_s hG; clear hG
        subst ea8
        obtain ⟨v10, H11, z9, hG⟩ := bC_s hF; clear hF
        replace hm : Mo H7 H11 := hm.tr ((m_SU_coderFromArrayLen z9)).mo
        obtain ⟨q12, hF⟩ := ck_s hG; clear hG
        obtain ⟨q13, hG⟩ := ck_s hF; clear hF
        obtain ⟨H14, eH14, hF⟩ := bnd_g hG; clear hG
        replace hm : Mo H7 H14 := by rw [eH14]; exact hm
        obtain ⟨H15, eH15, hG⟩ := bnd_g hF; clear hF
        replace hm : Mo H7 H15 := by rw [eH15]; exact hm
        have hr := Option.some.inj hG; subst hr
        exact hm
      have b_3m := (mf_4).len
      have b_3n := (mf_4).2
      have b_3p : H7.sh.length ≤ c0 + C := by omega
      have b_3q : H7.sl ≤ s0 + Sl := by omega
      refine hp_callS_a (v := ab_rf v6) (H1 := H7) (As := [.ref p1, .int p2, .int p3]) (rest := []) d_Str_init2_36 (k_SU_compress z5 (C := H7.sh.length - H.sh.length) (Sl := H7.sl - H.sl) (by show H7.sh.length ≤ _; omega) (by show H7.sl ≤ _; omega)) (ab_mkC s_SU_compress (Nat.le_of_ble_eq_true rfl) (Nat.le_of_ble_eq_true rfl) (show (H.sh.length - c0) + (H7.sh.length - H.sh.length) ≤ C from by omega) (show (H.sl - s0) + (H7.sl - H.sl) ≤ Sl from by omega)) (k4 192 rfl rfl) t_SU_compress rfl (Nat.le_of_ble_eq_true rfl) ?_
      refine ab_widen (cells' := H7.sh.length - c0) (slots' := H7.sl - s0) (by show _ + (H7.sh.length - H.sh.length) ≤ _; omega) (by show _ + (H7.sl - H.sl) ≤ _; omega) ?_
      clear b_3l b_3s b_3m b_3n
      obtain ⟨a8, ea8, hF⟩ := on_s hG; clear hG
      subst ea8
      refine ab_astore (lv' := [some (.ref p0), some (.ref p1), some (.int p2), some (.int p3), some (.null), some (.ref a8)]) d_Str_init2_39 (by decide) rfl rfl ?_
      refine ab_aload_n d_Str_init2_41 rfl rfl rfl ?_
      refine ab_aload d_Str_init2_42 rfl rfl ?_
      refine ab_iload_n d_Str_init2_44 rfl rfl ?_
      obtain ⟨v10, H11, z9, hG⟩ := bC_s hF; clear hF
      refine hp_callS_a (v := .int v10) (H1 := H11) (As := [.ref a8, .int p3]) (rest := [.ref p0]) d_Str_init2_45 (k_SU_coderFromArrayLen z9) (ab_mkC s_SU_coderFromArrayLen (Nat.le_of_ble_eq_true rfl) (Nat.le_of_ble_eq_true rfl) (show (H7.sh.length - c0) + 0 ≤ C from by omega) (show (H7.sl - s0) + 0 ≤ Sl from by omega)) (k4 223 rfl rfl) t_SU_coderFromArrayLen rfl (Nat.le_of_ble_eq_true rfl) ?_
      have s_8 : Sa H7 H11 := (m_SU_coderFromArrayLen z9)
      refine ab_widen (cells' := H7.sh.length - c0) (slots' := H7.sl - s0) (by show (H7.sh.length - c0) + 0 ≤ _; omega) (by show (H7.sl - s0) + 0 ≤ _; omega) ?_
      obtain ⟨q12, hF⟩ := ck_s hG; clear hG
      rw [(s_8).1] at q12
      obtain ⟨q13, hG⟩ := ck_s hF; clear hF
      refine hp_putFI (v := v10) (f := 1) (ty := .byte) d_Str_init2_48 (by rw [(s_8).1]; exact q12) (by decide) rfl (by decide) (k4 228 rfl rfl) rfl rfl rfl rfl (fun _ => bn_ q13) (fun _ => bf_ q13) rfl ?_
      refine hp_gen (fun H14 eH14 => ?_)
      replace hG := bnd_s eH14 hG
      have s_9 : Sa H7 H14 := by rw [eH14]; exact s_8
      refine ab_aload_n d_Str_init2_51 rfl rfl rfl ?_
      refine ab_aload d_Str_init2_52 rfl rfl ?_
      refine hp_putFP (v := .ref a8) (f := 0) d_Str_init2_54 (by rw [(s_9).1]; exact q12) (by decide) rfl (by decide) (k4 227 rfl rfl) rfl rfl rfl rfl (fun _ => rfl) (fun _ => rfl) rfl ?_
      refine hp_gen (fun H15 eH15 => ?_)
      replace hG := bnd_s eH15 hG
      have s_10 : Sa H7 H15 := by rw [eH15]; exact s_9
      exact ab_vret d_Str_init2_57 rfl (by show _ ≤ C; omega) (by show _ ≤ Sl; omega) (by have hr := Option.some.inj hG; subst hr; exact ⟨rfl, rfl⟩)
  · rw [if_pos q1] at hF
    refine ab_aload_n d_Str_init2_8 rfl rfl rfl ?_
    refine ab_ldcS (k0 := 1) d_Str_init2_9 (List.mem_of_getElem? (i := 5) rfl) rfl rfl rfl ?_
    refine ab_getKv (k1 := 101) d_Str_init2_11 (by decide) (by decide) (k4 227 rfl rfl) ?_
    obtain ⟨q16, hG⟩ := ck_s hF; clear hF
    refine hp_putFP (v := .float 101) (f := 0) d_Str_init2_14 q16 (by decide) rfl (by decide) (k4 227 rfl rfl) rfl rfl rfl rfl (fun _ => rfl) (fun _ => rfl) rfl ?_
    refine hp_gen (fun H17 eH17 => ?_)
    replace hG := bnd_s eH17 hG
    have s_11 : Sa H H17 := by rw [eH17]; exact Sa.rf _
    refine ab_aload_n d_Str_init2_17 rfl rfl rfl ?_
    refine ab_ldcS (k0 := 1) d_Str_init2_18 (List.mem_of_getElem? (i := 5) rfl) rfl rfl rfl ?_
    refine ab_getKc d_Str_init2_20 (by decide) (k4 228 rfl rfl) ?_
    refine hp_putFI (v := 0) (f := 1) (ty := .byte) d_Str_init2_23 (by rw [(s_11).1]; exact q16) (by decide) rfl (by decide) (k4 228 rfl rfl) rfl rfl rfl rfl (fun _ => rfl) (fun _ => rfl) rfl ?_
    refine hp_gen (fun H18 eH18 => ?_)
    replace hG := bnd_s eH18 hG
    have s_12 : Sa H H18 := by rw [eH18]; exact s_11
    exact ab_vret d_Str_init2_26 rfl (by show _ ≤ C; omega) (by show _ ≤ Sl; omega) (by have hr := Option.some.inj hG; subst hr; exact ⟨rfl, rfl⟩)
def F_Str_init (N : Nat) (p0 : Nat) (p1 : Nat) (H : Hp) : Option (Unit × Hp) :=
    ar H 103 p1 fun n1 =>
    bC (F_Str_init2_Knull N p0 p1 (0 : Int32) (Int32.ofNat n1) H) fun v4 H5 =>
    some ((), H5)
set_option maxRecDepth 20000 in
set_option maxHeartbeats 2000000 in
theorem m_Str_init {N : Nat} {p0 : Nat} {p1 : Nat} {H : Hp} {r : Unit × Hp} (hF : F_Str_init N p0 p1 H = some r) : Mo H r.2 := by
  unfold F_Str_init at hF
  have hm := Mo.rf H
  obtain ⟨n6, q7, hG⟩ := ar_s hF; clear hF
  obtain ⟨v9, H10, z8, hF⟩ := bC_s hG; clear hG
  replace hm : Mo H H10 := hm.tr (m_Str_init2_Knull z8)
  have hr := Option.some.inj hF; subst hr
  exact hm
set_option maxRecDepth 20000 in
set_option maxHeartbeats 2000000 in
theorem k_Str_init {N : Nat} {p0 : Nat} {p1 : Nat} {H : Hp} {r : Unit × Hp} {C Sl : Nat} (hF : F_Str_init N p0 p1 H = some r) (hC : r.2.sh.length ≤ H.sh.length + C) (hS : r.2.sl ≤ H.sl + Sl) : ab_M y_Str_init { frames := 3, cells := C, slots := Sl, locals := 85 } [.ref p0, .ref p1] (hpw H) (po (.returned none) r.2) := by
  unfold F_Str_init at hF
  obtain ⟨c0, e0⟩ : ∃ q, q = H.sh.length := ⟨_, rfl⟩
  obtain ⟨s0, e1⟩ : ∃ q, q = H.sl := ⟨_, rfl⟩
  rw [← e0] at hC
  rw [← e1] at hS
  have hc0 : c0 ≤ H.sh.length := Nat.le_of_eq e0
  have hs0 : s0 ≤ H.sl := Nat.le_of_eq e1
  have hcc : H.sh.length ≤ c0 + C := by omega
  have hss : H.sl ≤ s0 + Sl := by omega
  refine ab_of2 (lv := [some (.ref p0), some (.ref p1)]) 0 rfl (by decide +kernel) (Nat.le_of_ble_eq_true rfl) ?_
  refine ab_widen (cells' := H.sh.length - c0) (slots' := H.sl - s0) (Nat.zero_le _) (Nat.zero_le _) ?_
  refine ab_aload_n d_Str_init_0 rfl rfl rfl ?_
  refine ab_aload_n d_Str_init_1 rfl rfl rfl ?_
  refine ab_iconst (v := 0) d_Str_init_2 (by decide) ?_
  refine ab_aload_n d_Str_init_3 rfl rfl rfl ?_
  obtain ⟨n1, q2, hG⟩ := ar_s hF; clear hF
  refine hp_alen (q := 103) d_Str_init_4 q2 (Or.inl ⟨by decide, by decide, rfl⟩) tC ?_
  refine ab_null d_Str_init_5 ?_
  obtain ⟨v4, H5, z3, hF⟩ := bC_s hG; clear hG
  have mz_1 : Mo H H5 := (m_Str_init2_Knull z3)
  have b_2l := (mz_1).len
  have b_2s := (mz_1).2
  have b_2c : c0 ≤ H5.sh.length := by omega
  have b_2d : s0 ≤ H5.sl := by omega
  have q_3 := (mz_1).get q2
  have fH5 : Mo H5 r.2 := by
    have hm := Mo.rf H5
    have hr := Option.some.inj hF; subst hr
    exact hm
  have b_2m := (fH5).len
  have b_2n := (fH5).2
  have b_2p : H5.sh.length ≤ c0 + C := by omega
  have b_2q : H5.sl ≤ s0 + Sl := by omega
  refine hp_callI_v (H1 := H5) (As := [.ref p1, .int 0, .int (Int32.ofNat n1), .null]) (rest := []) d_Str_init_6 (k_Str_init2_Knull z3 (C := H5.sh.length - H.sh.length) (Sl := H5.sl - H.sl) (by show H5.sh.length ≤ _; omega) (by show H5.sl ≤ _; omega)) (ab_mkC s_Str_init2 (Nat.le_of_ble_eq_true rfl) (Nat.le_of_ble_eq_true rfl) (show (H.sh.length - c0) + (H5.sh.length - H.sh.length) ≤ C from by omega) (show (H.sl - s0) + (H5.sl - H.sl) ≤ Sl from by omega)) (k4 187 rfl rfl) i_Str_init2 rfl (k4 189 rfl rfl) rfl (Nat.le_of_ble_eq_true rfl) ?_
  refine ab_widen (cells' := H5.sh.length - c0) (slots' := H5.sl - s0) (by show _ + (H5.sh.length - H.sh.length) ≤ _; omega) (by show _ + (H5.sl - H.sl) ≤ _; omega) ?_
  clear b_2l b_2s b_2m b_2n
  exact ab_vret d_Str_init_9 rfl (by show _ ≤ C; omega) (by show _ ≤ Sl; omega) (by have hr := Option.some.inj hF; subst hr; exact ⟨rfl, rfl⟩)
def y_Lexer_takeName : ab_Y := (⟨"WorldEngine$Lexer", "takeName", "()Ljava/lang/String;"⟩, prog_3_method_18_code, 3, (some (FieldType.object "java/lang/String")), [])
theorem d_Lexer_takeName_0 : decode y_Lexer_takeName.2.1 0 = .ok (.aload_n 0, 1) := by decide +kernel
theorem d_Lexer_takeName_1 : decode y_Lexer_takeName.2.1 1 = .ok (.getfield 68, 3) := by decide +kernel
theorem d_Lexer_takeName_4 : decode y_Lexer_takeName.2.1 4 = .ok (.iconst 2, 1) := by decide +kernel
theorem d_Lexer_takeName_5 : decode y_Lexer_takeName.2.1 5 = .ok (.if_icmp .ne 15, 3) := by decide +kernel
theorem d_Lexer_takeName_8 : decode y_Lexer_takeName.2.1 8 = .ok (.aload_n 0, 1) := by decide +kernel
theorem d_Lexer_takeName_9 : decode y_Lexer_takeName.2.1 9 = .ok (.getfield 23, 3) := by decide +kernel
theorem d_Lexer_takeName_12 : decode y_Lexer_takeName.2.1 12 = .ok (.aload_n 0, 1) := by decide +kernel
theorem d_Lexer_takeName_13 : decode y_Lexer_takeName.2.1 13 = .ok (.getfield 65, 3) := by decide +kernel
theorem d_Lexer_takeName_16 : decode y_Lexer_takeName.2.1 16 = .ok (.baload, 1) := by decide +kernel
theorem d_Lexer_takeName_17 : decode y_Lexer_takeName.2.1 17 = .ok (.ifCond .eq 38, 3) := by decide +kernel
theorem d_Lexer_takeName_20 : decode y_Lexer_takeName.2.1 20 = .ok (.aload_n 0, 1) := by decide +kernel
theorem d_Lexer_takeName_21 : decode y_Lexer_takeName.2.1 21 = .ok (.aload_n 0, 1) := by decide +kernel
theorem d_Lexer_takeName_22 : decode y_Lexer_takeName.2.1 22 = .ok (.getfield 68, 3) := by decide +kernel
theorem d_Lexer_takeName_25 : decode y_Lexer_takeName.2.1 25 = .ok (.iconst 2, 1) := by decide +kernel
theorem d_Lexer_takeName_26 : decode y_Lexer_takeName.2.1 26 = .ok (.if_icmp .eq 7, 3) := by decide +kernel
theorem d_Lexer_takeName_29 : decode y_Lexer_takeName.2.1 29 = .ok (.iconst 1, 1) := by decide +kernel
theorem d_Lexer_takeName_30 : decode y_Lexer_takeName.2.1 30 = .ok (.goto 4, 3) := by decide +kernel
theorem d_Lexer_takeName_33 : decode y_Lexer_takeName.2.1 33 = .ok (.iconst 2, 1) := by decide +kernel
theorem d_Lexer_takeName_34 : decode y_Lexer_takeName.2.1 34 = .ok (.putfield 48, 3) := by decide +kernel
theorem d_Lexer_takeName_37 : decode y_Lexer_takeName.2.1 37 = .ok (.aload_n 0, 1) := by decide +kernel
theorem d_Lexer_takeName_38 : decode y_Lexer_takeName.2.1 38 = .ok (.aload_n 0, 1) := by decide +kernel
theorem d_Lexer_takeName_39 : decode y_Lexer_takeName.2.1 39 = .ok (.getfield 71, 3) := by decide +kernel
theorem d_Lexer_takeName_42 : decode y_Lexer_takeName.2.1 42 = .ok (.putfield 51, 3) := by decide +kernel
theorem d_Lexer_takeName_45 : decode y_Lexer_takeName.2.1 45 = .ok (.new 127, 3) := by decide +kernel
theorem d_Lexer_takeName_48 : decode y_Lexer_takeName.2.1 48 = .ok (.dup, 1) := by decide +kernel
theorem d_Lexer_takeName_49 : decode y_Lexer_takeName.2.1 49 = .ok (.ldc 141, 2) := by decide +kernel
theorem d_Lexer_takeName_51 : decode y_Lexer_takeName.2.1 51 = .ok (.invokespecial 131, 3) := by decide +kernel
theorem d_Lexer_takeName_54 : decode y_Lexer_takeName.2.1 54 = .ok (.athrow, 1) := by decide +kernel
theorem d_Lexer_takeName_55 : decode y_Lexer_takeName.2.1 55 = .ok (.iconst 0, 1) := by decide +kernel
theorem d_Lexer_takeName_56 : decode y_Lexer_takeName.2.1 56 = .ok (.bipush 12, 2) := by decide +kernel
theorem d_Lexer_takeName_58 : decode y_Lexer_takeName.2.1 58 = .ok (.aload_n 0, 1) := by decide +kernel
theorem d_Lexer_takeName_59 : decode y_Lexer_takeName.2.1 59 = .ok (.getfield 20, 3) := by decide +kernel
theorem d_Lexer_takeName_62 : decode y_Lexer_takeName.2.1 62 = .ok (.aload_n 0, 1) := by decide +kernel
theorem d_Lexer_takeName_63 : decode y_Lexer_takeName.2.1 63 = .ok (.getfield 65, 3) := by decide +kernel
theorem d_Lexer_takeName_66 : decode y_Lexer_takeName.2.1 66 = .ok (.iaload, 1) := by decide +kernel
theorem d_Lexer_takeName_67 : decode y_Lexer_takeName.2.1 67 = .ok (.invokestatic 143, 3) := by decide +kernel
theorem d_Lexer_takeName_70 : decode y_Lexer_takeName.2.1 70 = .ok (.invokestatic 145, 3) := by decide +kernel
theorem d_Lexer_takeName_73 : decode y_Lexer_takeName.2.1 73 = .ok (.newarray .char, 2) := by decide +kernel
theorem d_Lexer_takeName_75 : decode y_Lexer_takeName.2.1 75 = .ok (.astore_n 1, 1) := by decide +kernel
theorem d_Lexer_takeName_76 : decode y_Lexer_takeName.2.1 76 = .ok (.iconst 0, 1) := by decide +kernel
theorem d_Lexer_takeName_77 : decode y_Lexer_takeName.2.1 77 = .ok (.istore_n 2, 1) := by decide +kernel
theorem d_Lexer_takeName_78 : decode y_Lexer_takeName.2.1 78 = .ok (.iload_n 2, 1) := by decide +kernel
theorem d_Lexer_takeName_79 : decode y_Lexer_takeName.2.1 79 = .ok (.aload_n 1, 1) := by decide +kernel
theorem d_Lexer_takeName_80 : decode y_Lexer_takeName.2.1 80 = .ok (.arraylength, 1) := by decide +kernel
theorem d_Lexer_takeName_81 : decode y_Lexer_takeName.2.1 81 = .ok (.if_icmp .ge 41, 3) := by decide +kernel
theorem d_Lexer_takeName_84 : decode y_Lexer_takeName.2.1 84 = .ok (.aload_n 0, 1) := by decide +kernel
theorem d_Lexer_takeName_85 : decode y_Lexer_takeName.2.1 85 = .ok (.getfield 71, 3) := by decide +kernel
theorem d_Lexer_takeName_88 : decode y_Lexer_takeName.2.1 88 = .ok (.iload_n 2, 1) := by decide +kernel
theorem d_Lexer_takeName_89 : decode y_Lexer_takeName.2.1 89 = .ok (.iadd, 1) := by decide +kernel
theorem d_Lexer_takeName_90 : decode y_Lexer_takeName.2.1 90 = .ok (.aload_n 0, 1) := by decide +kernel
theorem d_Lexer_takeName_91 : decode y_Lexer_takeName.2.1 91 = .ok (.getfield 42, 3) := by decide +kernel
theorem d_Lexer_takeName_94 : decode y_Lexer_takeName.2.1 94 = .ok (.if_icmp .ge 28, 3) := by decide +kernel
theorem d_Lexer_takeName_97 : decode y_Lexer_takeName.2.1 97 = .ok (.aload_n 1, 1) := by decide +kernel
theorem d_Lexer_takeName_98 : decode y_Lexer_takeName.2.1 98 = .ok (.iload_n 2, 1) := by decide +kernel
theorem d_Lexer_takeName_99 : decode y_Lexer_takeName.2.1 99 = .ok (.aload_n 0, 1) := by decide +kernel
theorem d_Lexer_takeName_100 : decode y_Lexer_takeName.2.1 100 = .ok (.getfield 9, 3) := by decide +kernel
theorem d_Lexer_takeName_103 : decode y_Lexer_takeName.2.1 103 = .ok (.aload_n 0, 1) := by decide +kernel
theorem d_Lexer_takeName_104 : decode y_Lexer_takeName.2.1 104 = .ok (.getfield 71, 3) := by decide +kernel
theorem d_Lexer_takeName_107 : decode y_Lexer_takeName.2.1 107 = .ok (.iload_n 2, 1) := by decide +kernel
theorem d_Lexer_takeName_108 : decode y_Lexer_takeName.2.1 108 = .ok (.iadd, 1) := by decide +kernel
theorem d_Lexer_takeName_109 : decode y_Lexer_takeName.2.1 109 = .ok (.baload, 1) := by decide +kernel
theorem d_Lexer_takeName_110 : decode y_Lexer_takeName.2.1 110 = .ok (.sipush 255, 3) := by decide +kernel
theorem d_Lexer_takeName_113 : decode y_Lexer_takeName.2.1 113 = .ok (.iand, 1) := by decide +kernel
theorem d_Lexer_takeName_114 : decode y_Lexer_takeName.2.1 114 = .ok (.i2c, 1) := by decide +kernel
theorem d_Lexer_takeName_115 : decode y_Lexer_takeName.2.1 115 = .ok (.castore, 1) := by decide +kernel
theorem d_Lexer_takeName_116 : decode y_Lexer_takeName.2.1 116 = .ok (.iinc 2 1, 3) := by decide +kernel
theorem d_Lexer_takeName_119 : decode y_Lexer_takeName.2.1 119 = .ok (.goto (-41), 3) := by decide +kernel
theorem d_Lexer_takeName_122 : decode y_Lexer_takeName.2.1 122 = .ok (.aload_n 0, 1) := by decide +kernel
theorem d_Lexer_takeName_123 : decode y_Lexer_takeName.2.1 123 = .ok (.aload_n 0, 1) := by decide +kernel
theorem d_Lexer_takeName_124 : decode y_Lexer_takeName.2.1 124 = .ok (.getfield 65, 3) := by decide +kernel
theorem d_Lexer_takeName_127 : decode y_Lexer_takeName.2.1 127 = .ok (.iconst 1, 1) := by decide +kernel
theorem d_Lexer_takeName_128 : decode y_Lexer_takeName.2.1 128 = .ok (.iadd, 1) := by decide +kernel
theorem d_Lexer_takeName_129 : decode y_Lexer_takeName.2.1 129 = .ok (.iconst 0, 1) := by decide +kernel
theorem d_Lexer_takeName_130 : decode y_Lexer_takeName.2.1 130 = .ok (.aload_n 0, 1) := by decide +kernel
theorem d_Lexer_takeName_131 : decode y_Lexer_takeName.2.1 131 = .ok (.getfield 45, 3) := by decide +kernel
theorem d_Lexer_takeName_134 : decode y_Lexer_takeName.2.1 134 = .ok (.iconst 1, 1) := by decide +kernel
theorem d_Lexer_takeName_135 : decode y_Lexer_takeName.2.1 135 = .ok (.isub, 1) := by decide +kernel
theorem d_Lexer_takeName_136 : decode y_Lexer_takeName.2.1 136 = .ok (.invokestatic 145, 3) := by decide +kernel
theorem d_Lexer_takeName_139 : decode y_Lexer_takeName.2.1 139 = .ok (.invokestatic 143, 3) := by decide +kernel
theorem d_Lexer_takeName_142 : decode y_Lexer_takeName.2.1 142 = .ok (.putfield 65, 3) := by decide +kernel
theorem d_Lexer_takeName_145 : decode y_Lexer_takeName.2.1 145 = .ok (.aload_n 0, 1) := by decide +kernel
theorem d_Lexer_takeName_146 : decode y_Lexer_takeName.2.1 146 = .ok (.aload_n 0, 1) := by decide +kernel
theorem d_Lexer_takeName_147 : decode y_Lexer_takeName.2.1 147 = .ok (.getfield 13, 3) := by decide +kernel
theorem d_Lexer_takeName_150 : decode y_Lexer_takeName.2.1 150 = .ok (.aload_n 0, 1) := by decide +kernel
theorem d_Lexer_takeName_151 : decode y_Lexer_takeName.2.1 151 = .ok (.getfield 65, 3) := by decide +kernel
theorem d_Lexer_takeName_154 : decode y_Lexer_takeName.2.1 154 = .ok (.iaload, 1) := by decide +kernel
theorem d_Lexer_takeName_155 : decode y_Lexer_takeName.2.1 155 = .ok (.putfield 68, 3) := by decide +kernel
theorem d_Lexer_takeName_158 : decode y_Lexer_takeName.2.1 158 = .ok (.aload_n 0, 1) := by decide +kernel
theorem d_Lexer_takeName_159 : decode y_Lexer_takeName.2.1 159 = .ok (.aload_n 0, 1) := by decide +kernel
theorem d_Lexer_takeName_160 : decode y_Lexer_takeName.2.1 160 = .ok (.getfield 17, 3) := by decide +kernel
theorem d_Lexer_takeName_163 : decode y_Lexer_takeName.2.1 163 = .ok (.aload_n 0, 1) := by decide +kernel
theorem d_Lexer_takeName_164 : decode y_Lexer_takeName.2.1 164 = .ok (.getfield 65, 3) := by decide +kernel
theorem d_Lexer_takeName_167 : decode y_Lexer_takeName.2.1 167 = .ok (.iaload, 1) := by decide +kernel
theorem d_Lexer_takeName_168 : decode y_Lexer_takeName.2.1 168 = .ok (.putfield 71, 3) := by decide +kernel
theorem d_Lexer_takeName_171 : decode y_Lexer_takeName.2.1 171 = .ok (.new 33, 3) := by decide +kernel
theorem d_Lexer_takeName_174 : decode y_Lexer_takeName.2.1 174 = .ok (.dup, 1) := by decide +kernel
theorem d_Lexer_takeName_175 : decode y_Lexer_takeName.2.1 175 = .ok (.aload_n 1, 1) := by decide +kernel
theorem d_Lexer_takeName_176 : decode y_Lexer_takeName.2.1 176 = .ok (.invokespecial 147, 3) := by decide +kernel
theorem d_Lexer_takeName_179 : decode y_Lexer_takeName.2.1 179 = .ok (.areturn, 1) := by decide +kernel
theorem s_Lexer_takeName : ab_Stat y_Lexer_takeName 0 := ⟨(k4 178 rfl rfl), (k1 2 rfl rfl), ⟨by decide, by decide⟩, by decide +kernel⟩
theorem i_Lexer_takeName : Cond.instanceMethod y_Lexer_takeName.1 ∈ ab_T := (k4 176 rfl rfl)
theorem v_Lexer_takeName : Cond.selects "WorldEngine$Lexer" y_Lexer_takeName.1 y_Lexer_takeName.1 ∈ ab_T := (k4 177 rfl rfl)
def B_Lexer_takeName_34 (N : Nat) (p0 : Nat) (w0 : Nat) (w1 : Int32) (H : Hp) : Option ((Ot (Option Nat)) × Hp) :=
    ck (H.sh[w0]? = some (1, 0)) <|
    bnd (H.sD w0 4 w1) fun H8 =>
    ck (H8.sh[p0]? = some (1, 0)) <|
    bnd ((H8.D p0 3)) fun x10 =>
    bnd (H8.sD p0 5 x10) fun H11 =>
    some (.inr H11.sh.length, H11.nx (17, 0) 6)
set_option maxRecDepth 20000 in
set_option maxHeartbeats 2000000 in
theorem mB_Lexer_takeName_34 {N : Nat} {p0 : Nat} {w0 : Nat} {w1 : Int32} {H : Hp} {r : (Ot (Option Nat)) × Hp} (hF : B_Lexer_takeName_34 N p0 w0 w1 H = some r) : Mo H r.2 := by
  unfold B_Lexer_takeName_34 at hF
  have hm := Mo.rf H
  obtain ⟨q13, hG⟩ := ck_s hF; clear hF
  obtain ⟨H14, eH14, hF⟩ := bnd_g hG; clear hG
  replace hm : Mo H H14 := by rw [eH14]; exact hm
  obtain ⟨q15, hG⟩ := ck_s hF; clear hF
  obtain ⟨x16, -, hF⟩ := bnd_g hG; clear hG
  obtain ⟨H17, eH17, hG⟩ := bnd_g hF; clear hF
  replace hm : Mo H H17 := by rw [eH17]; exact hm
  cases hG
  exact hm.tr (Mo.nx _ _ _)
set_option maxRecDepth 20000 in
set_option maxHeartbeats 2000000 in
theorem kB_Lexer_takeName_34 {N : Nat} {p0 : Nat} {c0 s0 C Sl : Nat} {w0 : Nat} {w1 : Int32} {H : Hp} {r : (Ot (Option Nat)) × Hp} (hF : B_Lexer_takeName_34 N p0 w0 w1 H = some r) (hc0 : c0 ≤ H.sh.length) (hs0 : s0 ≤ H.sl) (hcc : H.sh.length ≤ c0 + C) (hss : H.sl ≤ s0 + Sl) (hC : r.2.sh.length ≤ c0 + C) (hS : r.2.sl ≤ s0 + Sl) : ab_V y_Lexer_takeName { frames := 6, cells := C, slots := Sl, locals := 106 } (po (oA r.1) r.2) C Sl (H.sh.length - c0) (H.sl - s0) 34 [some (.ref p0), none, none] [.int w1, .ref w0] (hpw H) := by
  unfold B_Lexer_takeName_34 at hF
  obtain ⟨q7, hG⟩ := ck_s hF; clear hF
  refine hp_putI (v := w1) (f := 4) d_Lexer_takeName_34 q7 (by decide) rfl (by decide) (k1 104 rfl rfl) rfl rfl (fun _ => rfl) (fun _ => rfl) rfl ?_
  refine hp_gen (fun H8 eH8 => ?_)
  replace hG := bnd_s eH8 hG
  have s_1 : Sa H H8 := by rw [eH8]; exact Sa.rf _
  refine ab_aload_n d_Lexer_takeName_37 rfl rfl rfl ?_
  refine ab_aload_n d_Lexer_takeName_38 rfl rfl rfl ?_
  obtain ⟨q9, hF⟩ := ck_s hG; clear hG
  rw [(s_1).1] at q9
  refine hp_getI (f := 3) d_Lexer_takeName_39 (by rw [(s_1).1]; exact q9) (by decide) rfl (by decide) (k1 102 rfl rfl) rfl ?_
  refine ab_topi (fun x10 ex10 => ?_)
  replace hF := bnd_s ex10 hF
  refine hp_putI (v := x10) (f := 5) d_Lexer_takeName_42 (by rw [(s_1).1]; exact q9) (by decide) rfl (by decide) (k1 106 rfl rfl) rfl rfl (fun _ => rfl) (fun _ => rfl) rfl ?_
  refine hp_gen (fun H11 eH11 => ?_)
  replace hF := bnd_s eH11 hF
  have s_2 : Sa H H11 := by rw [eH11]; exact s_1
  obtain ⟨H12, eH12⟩ : ∃ K, K = H11.nx (17, 0) 6 := ⟨_, rfl⟩
  rw [← eH12] at hF
  cases hF
  have bx : H12.sh.length = H11.sh.length + 1 := by rw [eH12]; simp [Hp.nx, mkH_sh]
  have by_ : H12.sl = H11.sl + 6 := by rw [eH12]; rfl
  have hC9 : H12.sh.length ≤ c0 + C := hC
  have hS9 : H12.sl ≤ s0 + Sl := hS
  have be := congrArg List.length (s_2).1
  have bfx := (s_2).2
  exact hp_throw (ci := 17) (names := ["java/lang/RuntimeException", "java/lang/Exception"]) (k0 := 4) d_Lexer_takeName_45 d_Lexer_takeName_48 d_Lexer_takeName_49 d_Lexer_takeName_51 d_Lexer_takeName_54 rfl (k4 101 rfl rfl) (k4 102 rfl rfl) (k1 27 rfl rfl) (by decide +kernel) (by decide +kernel) ow_Lexer_131 (List.mem_of_getElem? (i := 4) rfl) rfl rfl rfl rfl (by show _ ≤ C; omega) (by show _ ≤ Sl; omega) (by show _ ≤ C; omega) (by show _ ≤ Sl; omega) (Nat.le_of_ble_eq_true rfl) (Nat.le_of_ble_eq_true rfl) (by decide) rfl (by rw [← eH12]; exact ⟨rfl, rfl⟩)
def B_Lexer_takeName_20 (N : Nat) (p0 : Nat)  (H : Hp) : Option ((Ot (Option Nat)) × Hp) :=
    ck (H.sh[p0]? = some (1, 0)) <|
    bnd ((H.D p0 2)) fun x5 =>
    if x5 = (2 : Int32) then
    B_Lexer_takeName_34 N p0 p0 2 H
    else
    B_Lexer_takeName_34 N p0 p0 1 H
set_option maxRecDepth 20000 in
set_option maxHeartbeats 2000000 in
theorem mB_Lexer_takeName_20 {N : Nat} {p0 : Nat}  {H : Hp} {r : (Ot (Option Nat)) × Hp} (hF : B_Lexer_takeName_20 N p0  H = some r) : Mo H r.2 := by
  unfold B_Lexer_takeName_20 at hF
  have hm := Mo.rf H
  obtain ⟨q19, hG⟩ := ck_s hF; clear hF
  obtain ⟨x20, -, hF⟩ := bnd_g hG; clear hG
  rcases ite_s hF with ⟨q_5, hG⟩ | ⟨q_5, hG⟩
  · clear hF
    exact hm.tr (mB_Lexer_takeName_34 hG)
  · clear hF
    exact hm.tr (mB_Lexer_takeName_34 hG)
set_option maxRecDepth 20000 in
set_option maxHeartbeats 2000000 in
theorem kB_Lexer_takeName_20 {N : Nat} {p0 : Nat} {c0 s0 C Sl : Nat}  {H : Hp} {r : (Ot (Option Nat)) × Hp} (hF : B_Lexer_takeName_20 N p0  H = some r) (hc0 : c0 ≤ H.sh.length) (hs0 : s0 ≤ H.sl) (hcc : H.sh.length ≤ c0 + C) (hss : H.sl ≤ s0 + Sl) (hC : r.2.sh.length ≤ c0 + C) (hS : r.2.sl ≤ s0 + Sl) : ab_V y_Lexer_takeName { frames := 6, cells := C, slots := Sl, locals := 106 } (po (oA r.1) r.2) C Sl (H.sh.length - c0) (H.sl - s0) 20 [some (.ref p0), none, none] [] (hpw H) := by
  unfold B_Lexer_takeName_20 at hF
  refine ab_aload_n d_Lexer_takeName_20 rfl rfl rfl ?_
  refine ab_aload_n d_Lexer_takeName_21 rfl rfl rfl ?_
  obtain ⟨q4, hG⟩ := ck_s hF; clear hF
  refine hp_getI (f := 2) d_Lexer_takeName_22 q4 (by decide) rfl (by decide) (k1 100 rfl rfl) rfl ?_
  refine ab_topi (fun x5 ex5 => ?_)
  replace hG := bnd_s ex5 hG
  refine ab_iconst (v := 2) d_Lexer_takeName_25 (by decide) ?_
  refine ab_icmp_eq (tgt := 33) d_Lexer_takeName_26 (by decide) (fun q6 => ?_) (fun q6 => ?_)
  · rw [if_pos q6] at hG
    refine ab_iconst (v := 2) d_Lexer_takeName_33 (by decide) ?_
    exact kB_Lexer_takeName_34 hG hc0 hs0 hcc hss hC hS
  · rw [if_neg q6] at hG
    refine ab_iconst (v := 1) d_Lexer_takeName_29 (by decide) ?_
    refine ab_goto (tgt := 34) d_Lexer_takeName_30 (by decide) ?_
    exact kB_Lexer_takeName_34 hG hc0 hs0 hcc hss hC hS
def B_Lexer_takeName_122 (N : Nat) (p0 : Nat) (l1 : Nat) (H : Hp) : Option ((Ot (Option Nat)) × Hp) :=
    ck (H.sh[p0]? = some (1, 0)) <|
    bnd ((H.D p0 11)) fun x51 =>
    bnd ((H.D p0 10)) fun x52 =>
    bC (F_Math_max N (0 : Int32) (x52 - (1 : Int32)) H) fun v54 H55 =>
    bC (F_Math_min N (x51 + (1 : Int32)) v54 H55) fun v57 H58 =>
    bnd (H58.sD p0 11 v57) fun H59 =>
    rf (H59.P p0 6) fun a60 =>
    bnd ((H59.D p0 11)) fun x62 =>
    ar H59 100 a60 fun n63 =>
    ck (inb x62 n63) <|
    bnd ((H59.D a60 (x62).toNatClampNeg)) fun x66 =>
    bnd (H59.sD p0 2 x66) fun H67 =>
    rf (H67.P p0 7) fun a68 =>
    bnd ((H67.D p0 11)) fun x70 =>
    ar H67 100 a68 fun n71 =>
    ck (inb x70 n71) <|
    bnd ((H67.D a68 (x70).toNatClampNeg)) fun x74 =>
    bnd (H67.sD p0 3 x74) fun H75 =>
    bnd (H75.nw (16, 0) 4) fun H76 =>
    bnd H75.sh.length fun a77 =>
    bC (F_Str_init N a77 l1 H76) fun v79 H80 =>
    some (.inl (some a77), H80)
set_option maxRecDepth 20000 in
set_option maxHeartbeats 2000000 in
theorem mB_Lexer_takeName_122 {N : Nat} {p0 : Nat} {l1 : Nat} {H : Hp} {r : (Ot (Option Nat)) × Hp} (hF : B_Lexer_takeName_122 N p0 l1 H = some r) : Mo H r.2 := by
  unfold B_Lexer_takeName_122 at hF
  have hm := Mo.rf H
  obtain ⟨q81, hG⟩ := ck_s hF; clear hF
  obtain ⟨x82, -, hF⟩ := bnd_g hG; clear hG
  obtain ⟨x83, -, hG⟩ := bnd_g hF; clear hF
  obtain ⟨v85, H86, z84, hF⟩ := bC_s hG; clear hG
  replace hm : Mo H H86 := hm.tr ((m_Math_max z84)).mo
  obtain ⟨v88, H89, z87, hG⟩ := bC_s hF; clear hF
  replace hm : Mo H H89 := hm.tr ((m_Math_min z87)).mo
  obtain ⟨H90, eH90, hF⟩ := bnd_g hG; clear hG
  replace hm : Mo H H90 := by rw [eH90]; exact hm
  obtain ⟨a91, e92, hG⟩ := rf_s hF; clear hF
  obtain ⟨x93, -, hF⟩ := bnd_g hG; clear hG
  obtain ⟨n94, q95, hG⟩ := ar_s hF; clear hF
  obtain ⟨q96, hF⟩ := ck_s hG; clear hG
  obtain ⟨x97, -, hG⟩ := bnd_g hF; clear hF
  obtain ⟨H98, eH98, hF⟩ := bnd_g hG; clear hG
  replace hm : Mo H H98 := by rw [eH98]; exact hm
  obtain ⟨a99, e100, hG⟩ := rf_s hF; clear hF
  obtain ⟨x101, -, hF⟩ := bnd_g hG; clear hG
  obtain ⟨n102, q103, hG⟩ := ar_s hF; clear hF
  obtain ⟨q104, hF⟩ := ck_s hG; clear hG
  obtain ⟨x105, -, hG⟩ := bnd_g hF; clear hF
  obtain ⟨H106, eH106, hF⟩ := bnd_g hG; clear hG
  replace hm : Mo H H106 := by rw [eH106]; exact hm
  obtain ⟨H107, eH107, hG⟩ := bnd_g hF; clear hF
  replace hm : Mo H H107 := hm.tr (by rw [eH107]; exact Mo.nw _ _ _)
  obtain ⟨a108, -, hF⟩ := bnd_g hG; clear hG
  obtain ⟨v110, H111, z109, hG⟩ := bC_s hF; clear hF
  replace hm : Mo H H111 := hm.tr (m_Str_init z109)
  have hr := Option.some.inj hG; subst hr
  exact hm
set_option maxRecDepth 20000 in
set_option maxHeartbeats 2000000 in
theorem kB_Lexer_takeName_122 {N : Nat} {p0 : Nat} {c0 s0 C Sl : Nat} {l1 : Nat} {H : Hp} {r : (Ot (Option Nat)) × Hp} (hF : B_Lexer_takeName_122 N p0 l1 H = some r) (hc0 : c0 ≤ H.sh.length) (hs0 : s0 ≤ H.sl) (hcc : H.sh.length ≤ c0 + C) (hss : H.sl ≤ s0 + Sl) (hC : r.2.sh.length ≤ c0 + C) (hS : r.2.sl ≤ s0 + Sl) : ab_V y_Lexer_takeName { frames := 6, cells := C, slots := Sl, locals := 106 } (po (oA r.1) r.2) C Sl (H.sh.length - c0) (H.sl - s0) 122 [some (.ref p0), some (.ref l1), none] [] (hpw H) := by
  unfold B_Lexer_takeName_122 at hF
  refine ab_aload_n d_Lexer_takeName_122 rfl rfl rfl ?_
  refine ab_aload_n d_Lexer_takeName_123 rfl rfl rfl ?_
  obtain ⟨q50, hG⟩ := ck_s hF; clear hF
  refine hp_getI (f := 11) d_Lexer_takeName_124 q50 (by decide) rfl (by decide) (k1 113 rfl rfl) rfl ?_
  refine ab_topi (fun x51 ex51 => ?_)
  replace hG := bnd_s ex51 hG
  refine ab_iconst (v := 1) d_Lexer_takeName_127 (by decide) ?_
  refine ab_iadd d_Lexer_takeName_128 ?_
  refine ab_iconst (v := 0) d_Lexer_takeName_129 (by decide) ?_
  refine ab_aload_n d_Lexer_takeName_130 rfl rfl rfl ?_
  refine hp_getI (f := 10) d_Lexer_takeName_131 q50 (by decide) rfl (by decide) (k1 112 rfl rfl) rfl ?_
  refine ab_topi (fun x52 ex52 => ?_)
  replace hG := bnd_s ex52 hG
  refine ab_iconst (v := 1) d_Lexer_takeName_134 (by decide) ?_
  refine ab_isub d_Lexer_takeName_135 ?_
  obtain ⟨v54, H55, z53, hF⟩ := bC_s hG; clear hG
  refine hp_callS_a (v := .int v54) (H1 := H55) (As := [.int 0, .int (x52 - (1 : Int32))]) (rest := [.int (x51 + (1 : Int32)), .ref p0]) d_Lexer_takeName_136 (k_Math_max z53) (ab_mkC s_Math_max (Nat.le_of_ble_eq_true rfl) (Nat.le_of_ble_eq_true rfl) (show (H.sh.length - c0) + 0 ≤ C from by omega) (show (H.sl - s0) + 0 ≤ Sl from by omega)) (k4 181 rfl rfl) t_Math_max rfl (Nat.le_of_ble_eq_true rfl) ?_
  have s_16 : Sa H H55 := (m_Math_max z53)
  refine ab_widen (cells' := H.sh.length - c0) (slots' := H.sl - s0) (by show (H.sh.length - c0) + 0 ≤ _; omega) (by show (H.sl - s0) + 0 ≤ _; omega) ?_
  obtain ⟨v57, H58, z56, hG⟩ := bC_s hF; clear hF
  refine ab_widen (cells' := H55.sh.length - c0) (slots' := H55.sl - s0) (by rw [(s_16).1]; exact Nat.le_refl _) (by rw [(s_16).2]; exact Nat.le_refl _) ?_
  have b_17e := congrArg List.length (s_16).1
  have b_17f := (s_16).2
  refine hp_callS_a (v := .int v57) (H1 := H58) (As := [.int (x51 + (1 : Int32)), .int v54]) (rest := [.ref p0]) d_Lexer_takeName_139 (k_Math_min z56) (ab_mkC s_Math_min (Nat.le_of_ble_eq_true rfl) (Nat.le_of_ble_eq_true rfl) (show (H55.sh.length - c0) + 0 ≤ C from by omega) (show (H55.sl - s0) + 0 ≤ Sl from by omega)) (k4 180 rfl rfl) t_Math_min rfl (Nat.le_of_ble_eq_true rfl) ?_
  have s_18 : Sa H H58 := (s_16).tr (m_Math_min z56)
  refine ab_widen (cells' := H.sh.length - c0) (slots' := H.sl - s0) (by show (H55.sh.length - c0) + 0 ≤ _; omega) (by show (H55.sl - s0) + 0 ≤ _; omega) ?_
  clear b_17e b_17f
  refine hp_putI (v := v57) (f := 11) d_Lexer_takeName_142 (by rw [(s_18).1]; exact q50) (by decide) rfl (by decide) (k1 113 rfl rfl) rfl rfl (fun _ => rfl) (fun _ => rfl) rfl ?_
  refine hp_gen (fun H59 eH59 => ?_)
  replace hG := bnd_s eH59 hG
  have s_19 : Sa H H59 := by rw [eH59]; exact s_18
  refine ab_aload_n d_Lexer_takeName_145 rfl rfl rfl ?_
  refine ab_aload_n d_Lexer_takeName_146 rfl rfl rfl ?_
  obtain ⟨a60, e61, hF⟩ := rf_s hG; clear hG
  refine hp_getR (f := 6) d_Lexer_takeName_147 (by rw [(s_19).1]; exact q50) (by decide) rfl (by decide) (k1 108 rfl rfl) rfl e61 ?_
  refine ab_aload_n d_Lexer_takeName_150 rfl rfl rfl ?_
  refine hp_getI (f := 11) d_Lexer_takeName_151 (by rw [(s_19).1]; exact q50) (by decide) rfl (by decide) (k1 113 rfl rfl) rfl ?_
  refine ab_topi (fun x62 ex62 => ?_)
  replace hF := bnd_s ex62 hF
  obtain ⟨n63, q64, hG⟩ := ar_s hF; clear hF
  rw [(s_19).1] at q64
  obtain ⟨q65, hF⟩ := ck_s hG; clear hG
  refine hp_iald d_Lexer_takeName_154 tI (by rw [(s_19).1]; exact q64) q65 ?_
  refine ab_topi (fun x66 ex66 => ?_)
  replace hF := bnd_s ex66 hF
  refine hp_putI (v := x66) (f := 2) d_Lexer_takeName_155 (by rw [(s_19).1]; exact q50) (by decide) rfl (by decide) (k1 100 rfl rfl) rfl rfl (fun _ => rfl) (fun _ => rfl) rfl ?_
  refine hp_gen (fun H67 eH67 => ?_)
  replace hF := bnd_s eH67 hF
  have s_20 : Sa H H67 := by rw [eH67]; exact s_19
  refine ab_aload_n d_Lexer_takeName_158 rfl rfl rfl ?_
  refine ab_aload_n d_Lexer_takeName_159 rfl rfl rfl ?_
  obtain ⟨a68, e69, hG⟩ := rf_s hF; clear hF
  refine hp_getR (f := 7) d_Lexer_takeName_160 (by rw [(s_20).1]; exact q50) (by decide) rfl (by decide) (k1 109 rfl rfl) rfl e69 ?_
  refine ab_aload_n d_Lexer_takeName_163 rfl rfl rfl ?_
  refine hp_getI (f := 11) d_Lexer_takeName_164 (by rw [(s_20).1]; exact q50) (by decide) rfl (by decide) (k1 113 rfl rfl) rfl ?_
  refine ab_topi (fun x70 ex70 => ?_)
  replace hG := bnd_s ex70 hG
  obtain ⟨n71, q72, hF⟩ := ar_s hG; clear hG
  rw [(s_20).1] at q72
  obtain ⟨q73, hG⟩ := ck_s hF; clear hF
  refine hp_iald d_Lexer_takeName_167 tI (by rw [(s_20).1]; exact q72) q73 ?_
  refine ab_topi (fun x74 ex74 => ?_)
  replace hG := bnd_s ex74 hG
  refine hp_putI (v := x74) (f := 3) d_Lexer_takeName_168 (by rw [(s_20).1]; exact q50) (by decide) rfl (by decide) (k1 102 rfl rfl) rfl rfl (fun _ => rfl) (fun _ => rfl) rfl ?_
  refine hp_gen (fun H75 eH75 => ?_)
  replace hG := bnd_s eH75 hG
  have s_21 : Sa H H75 := by rw [eH75]; exact s_20
  obtain ⟨H76, eH76, hF⟩ := bnd_g hG; clear hG
  obtain ⟨a77, ea77, hG⟩ := bnd_g hF; clear hF
  have m_22 : Mo H75 H76 := by rw [eH76]; exact Mo.nw _ _ _
  have b_23l := (m_22).len
  have b_23s := (m_22).2
  have b_23e := congrArg List.length (s_21).1
  have b_23f := (s_21).2
  have b_23c : c0 ≤ H76.sh.length := by omega
  have b_23d : s0 ≤ H76.sl := by omega
  have b_23x : H76.sh.length = H75.sh.length + 1 := by rw [eH76]; simp [Hp.nw, mkH_sh]
  have b_23y : H76.sl = H75.sl + 4 := by rw [eH76]; rfl
  have q_24 := (m_22).get (by rw [(s_21).1]; exact q50)
  have q_25 := (m_22).get (by rw [(s_21).1]; exact q64)
  have q_26 := (m_22).get (by rw [(s_21).1]; exact q72)
  obtain ⟨v79, H80, z78, hF⟩ := bC_s hG; clear hG
  have jH80 : Mo H76 H80 := (m_Str_init z78)
  have fH80 : Mo H80 r.2 := by
    have hm := Mo.rf H80
    have hr := Option.some.inj hF; subst hr
    exact hm
  have fH76 : Mo H76 r.2 := jH80.tr fH80
  have b_23m := (fH76).len
  have b_23n := (fH76).2
  have b_23p : H76.sh.length ≤ c0 + C := by omega
  have b_23q : H76.sl ≤ s0 + Sl := by omega
  refine ab_widen (cells' := H75.sh.length - c0) (slots' := H75.sl - s0) (by rw [(s_21).1]; exact Nat.le_refl _) (by rw [(s_21).2]; exact Nat.le_refl _) ?_
  refine hp_new (ci := 16) d_Lexer_takeName_171 rfl (k4 182 rfl rfl) (k4 183 rfl rfl) (k1 3 rfl rfl) rfl (by decide) (by decide) rfl (by show _ ≤ C; omega) (by show _ + 4 ≤ Sl; omega) ?_
  refine ab_widen (cells' := H76.sh.length - c0) (slots' := H76.sl - s0) (by omega) (by show _ + 4 ≤ _; omega) ?_
  rw [← eH76, ← ea77]
  clear b_23l b_23s b_23x b_23y b_23m b_23n b_23e b_23f
  refine ab_dup d_Lexer_takeName_174 rfl ?_
  refine ab_aload_n d_Lexer_takeName_175 rfl rfl rfl ?_
  have mz_31 : Mo H76 H80 := (m_Str_init z78)
  have b_32l := (mz_31).len
  have b_32s := (mz_31).2
  have b_32c : c0 ≤ H80.sh.length := by omega
  have b_32d : s0 ≤ H80.sl := by omega
  have q_33 := (mz_31).get q_24
  have q_34 := (mz_31).get q_25
  have q_35 := (mz_31).get q_26
  have b_32m := (fH80).len
  have b_32n := (fH80).2
  have b_32p : H80.sh.length ≤ c0 + C := by omega
  have b_32q : H80.sl ≤ s0 + Sl := by omega
  refine hp_callI_v (H1 := H80) (As := [.ref l1]) (rest := [.ref a77]) d_Lexer_takeName_176 (k_Str_init z78 (C := H80.sh.length - H76.sh.length) (Sl := H80.sl - H76.sl) (by show H80.sh.length ≤ _; omega) (by show H80.sl ≤ _; omega)) (ab_mkC s_Str_init (Nat.le_of_ble_eq_true rfl) (Nat.le_of_ble_eq_true rfl) (show (H76.sh.length - c0) + (H80.sh.length - H76.sh.length) ≤ C from by omega) (show (H76.sl - s0) + (H80.sl - H76.sl) ≤ Sl from by omega)) (k4 184 rfl rfl) i_Str_init rfl (k4 186 rfl rfl) rfl (Nat.le_of_ble_eq_true rfl) ?_
  refine ab_widen (cells' := H80.sh.length - c0) (slots' := H80.sl - s0) (by show _ + (H80.sh.length - H76.sh.length) ≤ _; omega) (by show _ + (H80.sl - H76.sl) ≤ _; omega) ?_
  clear b_32l b_32s b_32m b_32n b_23c b_23d b_23p b_23q
  exact ab_aret d_Lexer_takeName_179 rfl (Or.inl ⟨_, rfl⟩) rfl (by show _ ≤ C; omega) (by show _ ≤ Sl; omega) (by have hr := Option.some.inj hF; subst hr; exact ⟨rfl, rfl⟩)
def B_Lexer_takeName_78 (N : Nat) (p0 : Nat) : Nat → Nat → Int32 → Hp → Option ((Ot (Option Nat)) × Hp)
  | 0, _, _, _ => none
  | n + 1, l1, l2, H =>
    ar H 103 l1 fun n47 =>
    if (Int32.ofNat n47) ≤ l2 then
    B_Lexer_takeName_122 N p0 l1 H
    else
    ck (H.sh[p0]? = some (1, 0)) <|
    bnd ((H.D p0 3)) fun x113 =>
    bnd ((H.D p0 1)) fun x114 =>
    if x114 ≤ (x113 + l2) then
    B_Lexer_takeName_122 N p0 l1 H
    else
    rf (H.P p0 0) fun a116 =>
    bnd ((H.D p0 3)) fun x118 =>
    ar H 101 a116 fun n119 =>
    ck (inb (x118 + l2) n119) <|
    bnd ((H.D a116 ((x118 + l2)).toNatClampNeg)) fun x122 =>
    ck (inb l2 n47) <|
    bnd (H.sD l1 (l2).toNatClampNeg (vp_nar .char ((((x122 &&& (255 : Int32)) : Int32).toUInt32 % 65536).toInt32))) fun H124 =>
    B_Lexer_takeName_78 N p0 n l1 (l2 + 1) H124
termination_by structural n => n
set_option maxRecDepth 20000 in
set_option maxHeartbeats 2000000 in
theorem mB_Lexer_takeName_78 {N : Nat} {p0 : Nat} : ∀ (n : Nat) (l1 : Nat) (l2 : Int32) (H : Hp) (r : (Ot (Option Nat)) × Hp), B_Lexer_takeName_78 N p0 n l1 l2 H = some r → Mo H r.2 := by
  intro n
  induction n with
  | zero => intro l1 l2 H r hF; rw [B_Lexer_takeName_78] at hF; cases hF
  | succ n ih =>
    intro l1 l2 H r hF
    rw [B_Lexer_takeName_78] at hF
    have hm := Mo.rf H
    obtain ⟨n125, q126, hG⟩ := ar_s hF; clear hF
    rcases ite_s hG with ⟨q_47, hF⟩ | ⟨q_47, hF⟩
    · clear hG
      exact hm.tr (mB_Lexer_takeName_122 hF)
    · clear hG
      obtain ⟨q128, hG⟩ := ck_s hF; clear hF
      obtain ⟨x129, -, hF⟩ := bnd_g hG; clear hG
      obtain ⟨x130, -, hG⟩ := bnd_g hF; clear hF
      rcases ite_s hG with ⟨q_48, hF⟩ | ⟨q_48, hF⟩
      · clear hG
        exact hm.tr (mB_Lexer_takeName_122 hF)
      · clear hG
        obtain ⟨a132, e133, hG⟩ := rf_s hF; clear hF
        obtain ⟨x134, -, hF⟩ := bnd_g hG; clear hG
        obtain ⟨n135, q136, hG⟩ := ar_s hF; clear hF
        obtain ⟨q137, hF⟩ := ck_s hG; clear hG
        obtain ⟨x138, -, hG⟩ := bnd_g hF; clear hF
        obtain ⟨q139, hF⟩ := ck_s hG; clear hG
        obtain ⟨H140, eH140, hG⟩ := bnd_g hF; clear hF
        replace hm : Mo H H140 := by rw [eH140]; exact hm
        exact hm.tr (ih l1 (l2 + 1) H140 r hG)
set_option maxRecDepth 20000 in
set_option maxHeartbeats 2000000 in
theorem kB_Lexer_takeName_78 {N : Nat} {p0 : Nat} {c0 s0 C Sl : Nat} : ∀ (n : Nat) (l1 : Nat) (l2 : Int32) (H : Hp) (r : (Ot (Option Nat)) × Hp), B_Lexer_takeName_78 N p0 n l1 l2 H = some r → c0 ≤ H.sh.length → s0 ≤ H.sl → H.sh.length ≤ c0 + C → H.sl ≤ s0 + Sl → r.2.sh.length ≤ c0 + C → r.2.sl ≤ s0 + Sl → ab_V y_Lexer_takeName { frames := 6, cells := C, slots := Sl, locals := 106 } (po (oA r.1) r.2) C Sl (H.sh.length - c0) (H.sl - s0) 78 [some (.ref p0), some (.ref l1), some (.int l2)] [] (hpw H) := by
  intro n
  induction n with
  | zero => intro l1 l2 H r hF; rw [B_Lexer_takeName_78] at hF; cases hF
  | succ n ih =>
    intro l1 l2 H r hF hc0 hs0 hcc hss hC hS
    rw [B_Lexer_takeName_78] at hF
    refine ab_iload_n d_Lexer_takeName_78 rfl rfl ?_
    refine ab_aload_n d_Lexer_takeName_79 rfl rfl rfl ?_
    obtain ⟨n47, q48, hG⟩ := ar_s hF; clear hF
    refine hp_alen (q := 103) d_Lexer_takeName_80 q48 (Or.inl ⟨by decide, by decide, rfl⟩) tC ?_
    refine ab_icmp_ge (tgt := 122) d_Lexer_takeName_81 (by decide) (fun q49 => ?_) (fun q49 => ?_)
    · rw [if_pos q49] at hG
      refine ab_le (lv' := [some (.ref p0), some (.ref l1), none]) ⟨rfl, ⟨rfl, trivial⟩⟩ ?_
      exact kB_Lexer_takeName_122 hG hc0 hs0 hcc hss hC hS
    · rw [if_neg q49] at hG
      refine ab_aload_n d_Lexer_takeName_84 rfl rfl rfl ?_
      obtain ⟨q112, hF⟩ := ck_s hG; clear hG
      refine hp_getI (f := 3) d_Lexer_takeName_85 q112 (by decide) rfl (by decide) (k1 102 rfl rfl) rfl ?_
      refine ab_topi (fun x113 ex113 => ?_)
      replace hF := bnd_s ex113 hF
      refine ab_iload_n d_Lexer_takeName_88 rfl rfl ?_
      refine ab_iadd d_Lexer_takeName_89 ?_
      refine ab_aload_n d_Lexer_takeName_90 rfl rfl rfl ?_
      refine hp_getI (f := 1) d_Lexer_takeName_91 q112 (by decide) rfl (by decide) (k1 95 rfl rfl) rfl ?_
      refine ab_topi (fun x114 ex114 => ?_)
      replace hF := bnd_s ex114 hF
      refine ab_icmp_ge (tgt := 122) d_Lexer_takeName_94 (by decide) (fun q115 => ?_) (fun q115 => ?_)
      · rw [if_pos q115] at hF
        refine ab_le (lv' := [some (.ref p0), some (.ref l1), none]) ⟨rfl, ⟨rfl, trivial⟩⟩ ?_
        exact kB_Lexer_takeName_122 hF hc0 hs0 hcc hss hC hS
      · rw [if_neg q115] at hF
        refine ab_aload_n d_Lexer_takeName_97 rfl rfl rfl ?_
        refine ab_iload_n d_Lexer_takeName_98 rfl rfl ?_
        refine ab_aload_n d_Lexer_takeName_99 rfl rfl rfl ?_
        obtain ⟨a116, e117, hG⟩ := rf_s hF; clear hF
        refine hp_getR (f := 0) d_Lexer_takeName_100 q112 (by decide) rfl (by decide) (k1 94 rfl rfl) rfl e117 ?_
        refine ab_aload_n d_Lexer_takeName_103 rfl rfl rfl ?_
        refine hp_getI (f := 3) d_Lexer_takeName_104 q112 (by decide) rfl (by decide) (k1 102 rfl rfl) rfl ?_
        refine ab_topi (fun x118 ex118 => ?_)
        replace hG := bnd_s ex118 hG
        refine ab_iload_n d_Lexer_takeName_107 rfl rfl ?_
        refine ab_iadd d_Lexer_takeName_108 ?_
        obtain ⟨n119, q120, hF⟩ := ar_s hG; clear hG
        obtain ⟨q121, hG⟩ := ck_s hF; clear hF
        refine hp_bald d_Lexer_takeName_109 tB q120 q121 ?_
        refine ab_topi (fun x122 ex122 => ?_)
        replace hG := bnd_s ex122 hG
        refine ab_sipush (v := 255) d_Lexer_takeName_110 (by decide) ?_
        refine ab_iand d_Lexer_takeName_113 ?_
        refine ab_i2c d_Lexer_takeName_114 ?_
        obtain ⟨q123, hF⟩ := ck_s hG; clear hG
        refine hp_cast d_Lexer_takeName_115 tC q48 q123 ?_
        refine hp_gen (fun H124 eH124 => ?_)
        replace hF := bnd_s eH124 hF
        have s_46 : Sa H H124 := by rw [eH124]; exact Sa.rf _
        refine ab_iinc (v := l2 + 1) (lv' := [some (.ref p0), some (.ref l1), some (.int (l2 + 1))]) d_Lexer_takeName_116 rfl rfl (by decide) rfl ?_
        refine ab_goto (tgt := 78) d_Lexer_takeName_119 (by decide) ?_
        refine ab_widen (cells' := H124.sh.length - c0) (slots' := H124.sl - s0) (by rw [(s_46).1]; exact Nat.le_refl _) (by rw [(s_46).2]; exact Nat.le_refl _) ?_
        exact ih l1 (l2 + 1) H124 r hF (by rw [(s_46).1]; exact hc0) (by rw [(s_46).2]; exact hs0) (by rw [(s_46).1]; exact hcc) (by rw [(s_46).2]; exact hss) hC hS
def F_Lexer_takeName (N : Nat) (p0 : Nat) (H : Hp) : Option ((Ot (Option Nat)) × Hp) :=
    ck (H.sh[p0]? = some (1, 0)) <|
    bnd ((H.D p0 2)) fun x2 =>
    if x2 = (2 : Int32) then
    rf (H.P p0 9) fun a22 =>
    bnd ((H.D p0 11)) fun x24 =>
    ar H 102 a22 fun n25 =>
    ck (inb x24 n25) <|
    bnd ((H.D a22 (x24).toNatClampNeg)) fun x28 =>
    if x28 = (0 : Int32) then
    rf (H.P p0 8) fun a30 =>
    bnd ((H.D p0 11)) fun x32 =>
    ar H 100 a30 fun n33 =>
    ck (inb x32 n33) <|
    bnd ((H.D a30 (x32).toNatClampNeg)) fun x36 =>
    bC (F_Math_min N (12 : Int32) x36 H) fun v38 H39 =>
    bC (F_Math_max N (0 : Int32) v38 H39) fun v41 H42 =>
    ck (¬ v41 < 0) <|
    ck ((v41).toNatClampNeg * 2 ≤ 536870912) <|
    bnd (H42.nw (103, (v41).toNatClampNeg) (v41).toNatClampNeg) fun H45 =>
    bnd H42.sh.length fun a46 =>
    B_Lexer_takeName_78 N p0 N a46 0 H45
    else
    B_Lexer_takeName_20 N p0  H
    else
    B_Lexer_takeName_20 N p0  H
set_option maxRecDepth 20000 in
set_option maxHeartbeats 2000000 in
theorem m_Lexer_takeName {N : Nat} {p0 : Nat} {H : Hp} {r : (Ot (Option Nat)) × Hp} (hF : F_Lexer_takeName N p0 H = some r) : Mo H r.2 := by
  unfold F_Lexer_takeName at hF
  have hm := Mo.rf H
  obtain ⟨q47, hG⟩ := ck_s hF; clear hF
  obtain ⟨x48, -, hF⟩ := bnd_g hG; clear hG
  rcases ite_s hF with ⟨q_50, hG⟩ | ⟨q_50, hG⟩
  · clear hF
    obtain ⟨a50, e51, hF⟩ := rf_s hG; clear hG
    obtain ⟨x52, -, hG⟩ := bnd_g hF; clear hF
    obtain ⟨n53, q54, hF⟩ := ar_s hG; clear hG
    obtain ⟨q55, hG⟩ := ck_s hF; clear hF
    obtain ⟨x56, -, hF⟩ := bnd_g hG; clear hG
    rcases ite_s hF with ⟨q_51, hG⟩ | ⟨q_51, hG⟩
    · clear hF
      obtain ⟨a58, e59, hF⟩ := rf_s hG; clear hG
      obtain ⟨x60, -, hG⟩ := bnd_g hF; clear hF
      obtain ⟨n61, q62, hF⟩ := ar_s hG; clear hG
      obtain ⟨q63, hG⟩ := ck_s hF; clear hF
      obtain ⟨x64, -, hF⟩ := bnd_g hG; clear hG
      obtain ⟨v66, H67, z65, hG⟩ := bC_s hF; clear hF
      replace hm : Mo H H67 := hm.tr ((m_Math_min z65)).mo
      obtain ⟨v69, H70, z68, hF⟩ := bC_s hG; clear hG
      replace hm : Mo H H70 := hm.tr ((m_Math_max z68)).mo
      obtain ⟨q71, hG⟩ := ck_s hF; clear hF
      obtain ⟨q72, hF⟩ := ck_s hG; clear hG
      obtain ⟨H73, eH73, hG⟩ := bnd_g hF; clear hF
      replace hm : Mo H H73 := hm.tr (by rw [eH73]; exact Mo.nw _ _ _)
      obtain ⟨a74, -, hF⟩ := bnd_g hG; clear hG
      exact hm.tr (mB_Lexer_takeName_78 N a74 0 H73 r hF)
    · clear hF
      exact hm.tr (mB_Lexer_takeName_20 hG)
  · clear hF
    exact hm.tr (mB_Lexer_takeName_20 hG)
set_option maxRecDepth 20000 in
set_option maxHeartbeats 2000000 in
theorem k_Lexer_takeName {N : Nat} {p0 : Nat} {H : Hp} {r : (Ot (Option Nat)) × Hp} {C Sl : Nat} (hF : F_Lexer_takeName N p0 H = some r) (hC : r.2.sh.length ≤ H.sh.length + C) (hS : r.2.sl ≤ H.sl + Sl) : ab_M y_Lexer_takeName { frames := 6, cells := C, slots := Sl, locals := 106 } [.ref p0] (hpw H) (po (oA r.1) r.2) := by
  unfold F_Lexer_takeName at hF
  obtain ⟨c0, e0⟩ : ∃ q, q = H.sh.length := ⟨_, rfl⟩
  obtain ⟨s0, e1⟩ : ∃ q, q = H.sl := ⟨_, rfl⟩
  rw [← e0] at hC
  rw [← e1] at hS
  have hc0 : c0 ≤ H.sh.length := Nat.le_of_eq e0
  have hs0 : s0 ≤ H.sl := Nat.le_of_eq e1
  have hcc : H.sh.length ≤ c0 + C := by omega
  have hss : H.sl ≤ s0 + Sl := by omega
  refine ab_of2 (lv := [some (.ref p0), none, none]) 2 rfl rfl (Nat.le_of_ble_eq_true rfl) ?_
  refine ab_widen (cells' := H.sh.length - c0) (slots' := H.sl - s0) (Nat.zero_le _) (Nat.zero_le _) ?_
  refine ab_aload_n d_Lexer_takeName_0 rfl rfl rfl ?_
  obtain ⟨q1, hG⟩ := ck_s hF; clear hF
  refine hp_getI (f := 2) d_Lexer_takeName_1 q1 (by decide) rfl (by decide) (k1 100 rfl rfl) rfl ?_
  refine ab_topi (fun x2 ex2 => ?_)
  replace hG := bnd_s ex2 hG
  refine ab_iconst (v := 2) d_Lexer_takeName_4 (by decide) ?_
  refine ab_icmp_ne (tgt := 20) d_Lexer_takeName_5 (by decide) (fun q3 => ?_) (fun q3 => ?_)
  · rw [if_neg q3] at hG
    exact kB_Lexer_takeName_20 hG hc0 hs0 hcc hss hC hS
  · rw [if_pos q3] at hG
    refine ab_aload_n d_Lexer_takeName_8 rfl rfl rfl ?_
    obtain ⟨a22, e23, hF⟩ := rf_s hG; clear hG
    refine hp_getR (f := 9) d_Lexer_takeName_9 q1 (by decide) rfl (by decide) (k1 111 rfl rfl) rfl e23 ?_
    refine ab_aload_n d_Lexer_takeName_12 rfl rfl rfl ?_
    refine hp_getI (f := 11) d_Lexer_takeName_13 q1 (by decide) rfl (by decide) (k1 113 rfl rfl) rfl ?_
    refine ab_topi (fun x24 ex24 => ?_)
    replace hF := bnd_s ex24 hF
    obtain ⟨n25, q26, hG⟩ := ar_s hF; clear hF
    obtain ⟨q27, hF⟩ := ck_s hG; clear hG
    refine hp_zald d_Lexer_takeName_16 tZ q26 q27 ?_
    refine ab_topi (fun x28 ex28 => ?_)
    replace hF := bnd_s ex28 hF
    refine ab_if_eq (tgt := 55) d_Lexer_takeName_17 (by decide) (fun q29 => ?_) (fun q29 => ?_)
    · rw [if_pos q29] at hF
      refine ab_iconst (v := 0) d_Lexer_takeName_55 (by decide) ?_
      refine ab_bipush (v := 12) d_Lexer_takeName_56 (by decide) ?_
      refine ab_aload_n d_Lexer_takeName_58 rfl rfl rfl ?_
      obtain ⟨a30, e31, hG⟩ := rf_s hF; clear hF
      refine hp_getR (f := 8) d_Lexer_takeName_59 q1 (by decide) rfl (by decide) (k1 110 rfl rfl) rfl e31 ?_
      refine ab_aload_n d_Lexer_takeName_62 rfl rfl rfl ?_
      refine hp_getI (f := 11) d_Lexer_takeName_63 q1 (by decide) rfl (by decide) (k1 113 rfl rfl) rfl ?_
      refine ab_topi (fun x32 ex32 => ?_)
      replace hG := bnd_s ex32 hG
      obtain ⟨n33, q34, hF⟩ := ar_s hG; clear hG
      obtain ⟨q35, hG⟩ := ck_s hF; clear hF
      refine hp_iald d_Lexer_takeName_66 tI q34 q35 ?_
      refine ab_topi (fun x36 ex36 => ?_)
      replace hG := bnd_s ex36 hG
      obtain ⟨v38, H39, z37, hF⟩ := bC_s hG; clear hG
      refine hp_callS_a (v := .int v38) (H1 := H39) (As := [.int 12, .int x36]) (rest := [.int 0]) d_Lexer_takeName_67 (k_Math_min z37) (ab_mkC s_Math_min (Nat.le_of_ble_eq_true rfl) (Nat.le_of_ble_eq_true rfl) (show (H.sh.length - c0) + 0 ≤ C from by omega) (show (H.sl - s0) + 0 ≤ Sl from by omega)) (k4 180 rfl rfl) t_Math_min rfl (Nat.le_of_ble_eq_true rfl) ?_
      have s_7 : Sa H H39 := (m_Math_min z37)
      refine ab_widen (cells' := H.sh.length - c0) (slots' := H.sl - s0) (by show (H.sh.length - c0) + 0 ≤ _; omega) (by show (H.sl - s0) + 0 ≤ _; omega) ?_
      obtain ⟨v41, H42, z40, hG⟩ := bC_s hF; clear hF
      refine ab_widen (cells' := H39.sh.length - c0) (slots' := H39.sl - s0) (by rw [(s_7).1]; exact Nat.le_refl _) (by rw [(s_7).2]; exact Nat.le_refl _) ?_
      have b_8e := congrArg List.length (s_7).1
      have b_8f := (s_7).2
      refine hp_callS_a (v := .int v41) (H1 := H42) (As := [.int 0, .int v38]) (rest := []) d_Lexer_takeName_70 (k_Math_max z40) (ab_mkC s_Math_max (Nat.le_of_ble_eq_true rfl) (Nat.le_of_ble_eq_true rfl) (show (H39.sh.length - c0) + 0 ≤ C from by omega) (show (H39.sl - s0) + 0 ≤ Sl from by omega)) (k4 181 rfl rfl) t_Math_max rfl (Nat.le_of_ble_eq_true rfl) ?_
      have s_9 : Sa H H42 := (s_7).tr (m_Math_max z40)
      refine ab_widen (cells' := H.sh.length - c0) (slots' := H.sl - s0) (by show (H39.sh.length - c0) + 0 ≤ _; omega) (by show (H39.sl - s0) + 0 ≤ _; omega) ?_
      clear b_8e b_8f
      obtain ⟨q43, hF⟩ := ck_s hG; clear hG
      obtain ⟨q44, hG⟩ := ck_s hF; clear hF
      obtain ⟨H45, eH45, hF⟩ := bnd_g hG; clear hG
      obtain ⟨a46, ea46, hG⟩ := bnd_g hF; clear hF
      have m_10 : Mo H42 H45 := by rw [eH45]; exact Mo.nw _ _ _
      have b_11l := (m_10).len
      have b_11s := (m_10).2
      have b_11e := congrArg List.length (s_9).1
      have b_11f := (s_9).2
      have b_11c : c0 ≤ H45.sh.length := by omega
      have b_11d : s0 ≤ H45.sl := by omega
      have b_11x : H45.sh.length = H42.sh.length + 1 := by rw [eH45]; simp [Hp.nw, mkH_sh]
      have b_11y : H45.sl = H42.sl + (v41).toNatClampNeg := by rw [eH45]; rfl
      have q_12 := (m_10).get (by rw [(s_9).1]; exact q1)
      have q_13 := (m_10).get (by rw [(s_9).1]; exact q26)
      have q_14 := (m_10).get (by rw [(s_9).1]; exact q34)
      have fH45 : Mo H45 r.2 := by
        have hm := Mo.rf H45
        exact hm.tr (mB_Lexer_takeName_78 N a46 0 H45 r hG)
      have b_11m := (fH45).len
      have b_11n := (fH45).2
      have b_11p : H45.sh.length ≤ c0 + C := by omega
      have b_11q : H45.sl ≤ s0 + Sl := by omega
      refine ab_widen (cells' := H42.sh.length - c0) (slots' := H42.sl - s0) (by rw [(s_9).1]; exact Nat.le_refl _) (by rw [(s_9).2]; exact Nat.le_refl _) ?_
      refine hp_newa (q := 103) d_Lexer_takeName_73 rfl (k4 238 rfl rfl) tC (Or.inr (Or.inr (Or.inr (Or.inl rfl)))) ⟨by decide, by decide, rfl⟩ rfl q43 q44 (by show _ ≤ C; omega) (by show _ + (v41).toNatClampNeg ≤ Sl; omega) ?_
      refine ab_widen (cells' := H45.sh.length - c0) (slots' := H45.sl - s0) (by omega) (by show _ + (v41).toNatClampNeg ≤ _; omega) ?_
      rw [← eH45, ← ea46]
      clear b_11l b_11s b_11x b_11y b_11m b_11n b_11e b_11f
      refine ab_astore_n (lv' := [some (.ref p0), some (.ref a46), none]) d_Lexer_takeName_75 rfl (by decide) rfl rfl ?_
      refine ab_iconst (v := 0) d_Lexer_takeName_76 (by decide) ?_
      refine ab_istore_n (lv' := [some (.ref p0), some (.ref a46), some (.int 0)]) d_Lexer_takeName_77 rfl (by decide) rfl ?_
      exact kB_Lexer_takeName_78 N a46 0 H45 r hG b_11c b_11d b_11p b_11q hC hS
    · rw [if_neg q29] at hF
      exact kB_Lexer_takeName_20 hF hc0 hs0 hcc hss hC hS
def y_SL_equals : ab_Y := (⟨"java/lang/StringLatin1", "equals", "([B[B)Z"⟩, prog_26_method_13_code, 3, (some FieldType.boolean), [])
theorem d_SL_equals_0 : decode y_SL_equals.2.1 0 = .ok (.aload_n 0, 1) := by decide +kernel
theorem d_SL_equals_1 : decode y_SL_equals.2.1 1 = .ok (.arraylength, 1) := by decide +kernel
theorem d_SL_equals_2 : decode y_SL_equals.2.1 2 = .ok (.aload_n 1, 1) := by decide +kernel
theorem d_SL_equals_3 : decode y_SL_equals.2.1 3 = .ok (.arraylength, 1) := by decide +kernel
theorem d_SL_equals_4 : decode y_SL_equals.2.1 4 = .ok (.if_icmp .ne 30, 3) := by decide +kernel
theorem d_SL_equals_7 : decode y_SL_equals.2.1 7 = .ok (.iconst 0, 1) := by decide +kernel
theorem d_SL_equals_8 : decode y_SL_equals.2.1 8 = .ok (.istore_n 2, 1) := by decide +kernel
theorem d_SL_equals_9 : decode y_SL_equals.2.1 9 = .ok (.iload_n 2, 1) := by decide +kernel
theorem d_SL_equals_10 : decode y_SL_equals.2.1 10 = .ok (.aload_n 0, 1) := by decide +kernel
theorem d_SL_equals_11 : decode y_SL_equals.2.1 11 = .ok (.arraylength, 1) := by decide +kernel
theorem d_SL_equals_12 : decode y_SL_equals.2.1 12 = .ok (.if_icmp .ge 20, 3) := by decide +kernel
theorem d_SL_equals_15 : decode y_SL_equals.2.1 15 = .ok (.aload_n 0, 1) := by decide +kernel
theorem d_SL_equals_16 : decode y_SL_equals.2.1 16 = .ok (.iload_n 2, 1) := by decide +kernel
theorem d_SL_equals_17 : decode y_SL_equals.2.1 17 = .ok (.baload, 1) := by decide +kernel
theorem d_SL_equals_18 : decode y_SL_equals.2.1 18 = .ok (.aload_n 1, 1) := by decide +kernel
theorem d_SL_equals_19 : decode y_SL_equals.2.1 19 = .ok (.iload_n 2, 1) := by decide +kernel
theorem d_SL_equals_20 : decode y_SL_equals.2.1 20 = .ok (.baload, 1) := by decide +kernel
theorem d_SL_equals_21 : decode y_SL_equals.2.1 21 = .ok (.if_icmp .eq 5, 3) := by decide +kernel
theorem d_SL_equals_24 : decode y_SL_equals.2.1 24 = .ok (.iconst 0, 1) := by decide +kernel
theorem d_SL_equals_25 : decode y_SL_equals.2.1 25 = .ok (.ireturn, 1) := by decide +kernel
theorem d_SL_equals_26 : decode y_SL_equals.2.1 26 = .ok (.iinc 2 1, 3) := by decide +kernel
theorem d_SL_equals_29 : decode y_SL_equals.2.1 29 = .ok (.goto (-20), 3) := by decide +kernel
theorem d_SL_equals_32 : decode y_SL_equals.2.1 32 = .ok (.iconst 1, 1) := by decide +kernel
theorem d_SL_equals_33 : decode y_SL_equals.2.1 33 = .ok (.ireturn, 1) := by decide +kernel
theorem d_SL_equals_34 : decode y_SL_equals.2.1 34 = .ok (.iconst 0, 1) := by decide +kernel
theorem d_SL_equals_35 : decode y_SL_equals.2.1 35 = .ok (.ireturn, 1) := by decide +kernel
theorem s_SL_equals : ab_Stat y_SL_equals 2 := ⟨(k5 10 rfl rfl), (k1 4 rfl rfl), ⟨by decide, by decide⟩, by decide +kernel⟩
theorem t_SL_equals : Cond.static y_SL_equals.1 ∈ ab_T := (k5 9 rfl rfl)
def B_SL_equals_9 (N : Nat) (p0 : Nat) (p1 : Nat) : Nat → Int32 → Hp → Option (Int32 × Hp)
  | 0, _, _ => none
  | n + 1, l2, H =>
    ar H 101 p0 fun n6 =>
    if (Int32.ofNat n6) ≤ l2 then
    some (1, H)
    else
    ck (inb l2 n6) <|
    bnd ((H.D p0 (l2).toNatClampNeg)) fun x10 =>
    ar H 101 p1 fun n11 =>
    ck (inb l2 n11) <|
    bnd ((H.D p1 (l2).toNatClampNeg)) fun x14 =>
    if x10 = x14 then
    B_SL_equals_9 N p0 p1 n (l2 + 1) H
    else
    some (0, H)
termination_by structural n => n
set_option maxRecDepth 20000 in
set_option maxHeartbeats 2000000 in
theorem mB_SL_equals_9 {N : Nat} {p0 : Nat} {p1 : Nat} : ∀ (n : Nat) (l2 : Int32) (H : Hp) (r : Int32 × Hp), B_SL_equals_9 N p0 p1 n l2 H = some r → Sa H r.2 := by
  intro n
  induction n with
  | zero => intro l2 H r hF; rw [B_SL_equals_9] at hF; cases hF
  | succ n ih =>
    intro l2 H r hF
    rw [B_SL_equals_9] at hF
    have hm := Sa.rf H
    obtain ⟨n16, q17, hG⟩ := ar_s hF; clear hF
    rcases ite_s hG with ⟨q_1, hF⟩ | ⟨q_1, hF⟩
    · clear hG
      have hr := Option.some.inj hF; subst hr
      exact hm
    · clear hG
      obtain ⟨q19, hG⟩ := ck_s hF; clear hF
      obtain ⟨x20, -, hF⟩ := bnd_g hG; clear hG
      obtain ⟨n21, q22, hG⟩ := ar_s hF; clear hF
      obtain ⟨q23, hF⟩ := ck_s hG; clear hG
      obtain ⟨x24, -, hG⟩ := bnd_g hF; clear hF
      rcases ite_s hG with ⟨q_2, hF⟩ | ⟨q_2, hF⟩
      · clear hG
        exact hm.tr (ih (l2 + 1) H r hF)
      · clear hG
        have hr := Option.some.inj hF; subst hr
        exact hm
set_option maxRecDepth 20000 in
set_option maxHeartbeats 2000000 in
theorem kB_SL_equals_9 {N : Nat} {p0 : Nat} {p1 : Nat} : ∀ (n : Nat) (l2 : Int32) (H : Hp) (r : Int32 × Hp), B_SL_equals_9 N p0 p1 n l2 H = some r → ab_V y_SL_equals { frames := 0, cells := 0, slots := 0, locals := 0 } (po (.returned (some (.int r.1))) r.2) 0 0 0 0 9 [some (.ref p0), some (.ref p1), some (.int l2)] [] (hpw H) := by
  intro n
  induction n with
  | zero => intro l2 H r hF; rw [B_SL_equals_9] at hF; cases hF
  | succ n ih =>
    intro l2 H r hF
    rw [B_SL_equals_9] at hF
    refine ab_iload_n d_SL_equals_9 rfl rfl ?_
    refine ab_aload_n d_SL_equals_10 rfl rfl rfl ?_
    obtain ⟨n6, q7, hG⟩ := ar_s hF; clear hF
    refine hp_alen (q := 101) d_SL_equals_11 q7 (Or.inl ⟨by decide, by decide, rfl⟩) tB ?_
    refine ab_icmp_ge (tgt := 32) d_SL_equals_12 (by decide) (fun q8 => ?_) (fun q8 => ?_)
    · rw [if_pos q8] at hG
      refine ab_iconst (v := 1) d_SL_equals_32 (by decide) ?_
      exact ab_zret d_SL_equals_33 rfl rfl (Nat.le_refl _) (Nat.le_refl _) (by have hr := Option.some.inj hG; subst hr; exact ⟨rfl, rfl⟩)
    · rw [if_neg q8] at hG
      refine ab_aload_n d_SL_equals_15 rfl rfl rfl ?_
      refine ab_iload_n d_SL_equals_16 rfl rfl ?_
      obtain ⟨q9, hF⟩ := ck_s hG; clear hG
      refine hp_bald d_SL_equals_17 tB q7 q9 ?_
      refine ab_topi (fun x10 ex10 => ?_)
      replace hF := bnd_s ex10 hF
      refine ab_aload_n d_SL_equals_18 rfl rfl rfl ?_
      refine ab_iload_n d_SL_equals_19 rfl rfl ?_
      obtain ⟨n11, q12, hG⟩ := ar_s hF; clear hF
      obtain ⟨q13, hF⟩ := ck_s hG; clear hG
      refine hp_bald d_SL_equals_20 tB q12 q13 ?_
      refine ab_topi (fun x14 ex14 => ?_)
      replace hF := bnd_s ex14 hF
      refine ab_icmp_eq (tgt := 26) d_SL_equals_21 (by decide) (fun q15 => ?_) (fun q15 => ?_)
      · rw [if_pos q15] at hF
        refine ab_iinc (v := l2 + 1) (lv' := [some (.ref p0), some (.ref p1), some (.int (l2 + 1))]) d_SL_equals_26 rfl rfl (by decide) rfl ?_
        refine ab_goto (tgt := 9) d_SL_equals_29 (by decide) ?_
        exact ih (l2 + 1) H r hF
      · rw [if_neg q15] at hF
        refine ab_iconst (v := 0) d_SL_equals_24 (by decide) ?_
        exact ab_zret d_SL_equals_25 rfl rfl (Nat.le_refl _) (Nat.le_refl _) (by have hr := Option.some.inj hF; subst hr; exact ⟨rfl, rfl⟩)
def F_SL_equals (N : Nat) (p0 : Nat) (p1 : Nat) (H : Hp) : Option (Int32 × Hp) :=
    ar H 101 p0 fun n1 =>
    ar H 101 p1 fun n3 =>
    if (Int32.ofNat n1) = (Int32.ofNat n3) then
    B_SL_equals_9 N p0 p1 N 0 H
    else
    some (0, H)
set_option maxRecDepth 20000 in
set_option maxHeartbeats 2000000 in
theorem m_SL_equals {N : Nat} {p0 : Nat} {p1 : Nat} {H : Hp} {r : Int32 × Hp} (hF : F_SL_equals N p0 p1 H = some r) : Sa H r.2 := by
  unfold F_SL_equals at hF
  have hm := Sa.rf H
  obtain ⟨n26, q27, hG⟩ := ar_s hF; clear hF
  obtain ⟨n28, q29, hF⟩ := ar_s hG; clear hG
  rcases ite_s hF with ⟨q_3, hG⟩ | ⟨q_3, hG⟩
  · clear hF
    exact hm.tr (mB_SL_equals_9 N 0 H r hG)
  · clear hF
    have hr := Option.some.inj hG; subst hr
    exact hm
set_option maxRecDepth 20000 in
set_option maxHeartbeats 2000000 in
theorem k_SL_equals {N : Nat} {p0 : Nat} {p1 : Nat} {H : Hp} {r : Int32 × Hp} (hF : F_SL_equals N p0 p1 H = some r) : ab_M y_SL_equals { frames := 0, cells := 0, slots := 0, locals := 0 } [.ref p0, .ref p1] (hpw H) (po (.returned (some (.int r.1))) r.2) := by
  unfold F_SL_equals at hF
  refine ab_of2 (lv := [some (.ref p0), some (.ref p1), none]) 1 rfl (by decide +kernel) (Nat.le_of_ble_eq_true rfl) ?_
  refine ab_aload_n d_SL_equals_0 rfl rfl rfl ?_
  obtain ⟨n1, q2, hG⟩ := ar_s hF; clear hF
  refine hp_alen (q := 101) d_SL_equals_1 q2 (Or.inl ⟨by decide, by decide, rfl⟩) tB ?_
  refine ab_aload_n d_SL_equals_2 rfl rfl rfl ?_
  obtain ⟨n3, q4, hF⟩ := ar_s hG; clear hG
  refine hp_alen (q := 101) d_SL_equals_3 q4 (Or.inl ⟨by decide, by decide, rfl⟩) tB ?_
  refine ab_icmp_ne (tgt := 34) d_SL_equals_4 (by decide) (fun q5 => ?_) (fun q5 => ?_)
  · rw [if_neg q5] at hF
    refine ab_iconst (v := 0) d_SL_equals_34 (by decide) ?_
    exact ab_zret d_SL_equals_35 rfl rfl (Nat.le_refl _) (Nat.le_refl _) (by have hr := Option.some.inj hF; subst hr; exact ⟨rfl, rfl⟩)
  · rw [if_pos q5] at hF
    refine ab_iconst (v := 0) d_SL_equals_7 (by decide) ?_
    refine ab_istore_n (lv' := [some (.ref p0), some (.ref p1), some (.int 0)]) d_SL_equals_8 rfl (by decide) rfl ?_
    exact kB_SL_equals_9 N 0 H r hF
def y_Str_equals : ab_Y := (⟨"java/lang/String", "equals", "(Ljava/lang/Object;)Z"⟩, prog_25_method_66_code, 3, (some FieldType.boolean), [])
theorem d_Str_equals_0 : decode y_Str_equals.2.1 0 = .ok (.aload_n 0, 1) := by decide +kernel
theorem d_Str_equals_1 : decode y_Str_equals.2.1 1 = .ok (.aload_n 1, 1) := by decide +kernel
theorem d_Str_equals_2 : decode y_Str_equals.2.1 2 = .ok (.if_acmp .ne 5, 3) := by decide +kernel
theorem d_Str_equals_5 : decode y_Str_equals.2.1 5 = .ok (.iconst 1, 1) := by decide +kernel
theorem d_Str_equals_6 : decode y_Str_equals.2.1 6 = .ok (.ireturn, 1) := by decide +kernel
theorem d_Str_equals_7 : decode y_Str_equals.2.1 7 = .ok (.aload_n 1, 1) := by decide +kernel
theorem d_Str_equals_8 : decode y_Str_equals.2.1 8 = .ok (.instanceof 10, 3) := by decide +kernel
theorem d_Str_equals_11 : decode y_Str_equals.2.1 11 = .ok (.ifCond .eq 43, 3) := by decide +kernel
theorem d_Str_equals_14 : decode y_Str_equals.2.1 14 = .ok (.aload_n 1, 1) := by decide +kernel
theorem d_Str_equals_15 : decode y_Str_equals.2.1 15 = .ok (.checkcast 10, 3) := by decide +kernel
theorem d_Str_equals_18 : decode y_Str_equals.2.1 18 = .ok (.astore_n 2, 1) := by decide +kernel
theorem d_Str_equals_19 : decode y_Str_equals.2.1 19 = .ok (.getstatic 38, 3) := by decide +kernel
theorem d_Str_equals_22 : decode y_Str_equals.2.1 22 = .ok (.ifCond .eq 14, 3) := by decide +kernel
theorem d_Str_equals_25 : decode y_Str_equals.2.1 25 = .ok (.aload_n 0, 1) := by decide +kernel
theorem d_Str_equals_26 : decode y_Str_equals.2.1 26 = .ok (.getfield 15, 3) := by decide +kernel
theorem d_Str_equals_29 : decode y_Str_equals.2.1 29 = .ok (.aload_n 2, 1) := by decide +kernel
theorem d_Str_equals_30 : decode y_Str_equals.2.1 30 = .ok (.getfield 15, 3) := by decide +kernel
theorem d_Str_equals_33 : decode y_Str_equals.2.1 33 = .ok (.if_icmp .ne 21, 3) := by decide +kernel
theorem d_Str_equals_36 : decode y_Str_equals.2.1 36 = .ok (.aload_n 0, 1) := by decide +kernel
theorem d_Str_equals_37 : decode y_Str_equals.2.1 37 = .ok (.getfield 9, 3) := by decide +kernel
theorem d_Str_equals_40 : decode y_Str_equals.2.1 40 = .ok (.aload_n 2, 1) := by decide +kernel
theorem d_Str_equals_41 : decode y_Str_equals.2.1 41 = .ok (.getfield 9, 3) := by decide +kernel
theorem d_Str_equals_44 : decode y_Str_equals.2.1 44 = .ok (.invokestatic 541, 3) := by decide +kernel
theorem d_Str_equals_47 : decode y_Str_equals.2.1 47 = .ok (.ifCond .eq 7, 3) := by decide +kernel
theorem d_Str_equals_50 : decode y_Str_equals.2.1 50 = .ok (.iconst 1, 1) := by decide +kernel
theorem d_Str_equals_51 : decode y_Str_equals.2.1 51 = .ok (.goto 4, 3) := by decide +kernel
theorem d_Str_equals_54 : decode y_Str_equals.2.1 54 = .ok (.iconst 0, 1) := by decide +kernel
theorem d_Str_equals_55 : decode y_Str_equals.2.1 55 = .ok (.ireturn, 1) := by decide +kernel
theorem s_Str_equals : ab_Stat y_Str_equals 1 := ⟨(k5 6 rfl rfl), (k1 3 rfl rfl), ⟨by decide, by decide⟩, by decide +kernel⟩
theorem i_Str_equals : Cond.instanceMethod y_Str_equals.1 ∈ ab_T := (k5 4 rfl rfl)
theorem v_Str_equals : Cond.selects "java/lang/String" y_Str_equals.1 y_Str_equals.1 ∈ ab_T := (k5 5 rfl rfl)
def B_Str_equals_36 (N : Nat) (p0 : Nat) (p1 : Nat) (l2 : Nat) (H : Hp) : Option (Int32 × Hp) :=
    ck (H.sh[p0]? = some (16, 0)) <|
    rf (H.P p0 0) fun a6 =>
    ck (H.sh[l2]? = some (16, 0)) <|
    rf (H.P l2 0) fun a9 =>
    bC (F_SL_equals N a6 a9 H) fun v12 H13 =>
    if v12 = (0 : Int32) then
    some (0, H13)
    else
    some (1, H13)
set_option maxRecDepth 20000 in
set_option maxHeartbeats 2000000 in
theorem mB_Str_equals_36 {N : Nat} {p0 : Nat} {p1 : Nat} {l2 : Nat} {H : Hp} {r : Int32 × Hp} (hF : B_Str_equals_36 N p0 p1 l2 H = some r) : Sa H r.2 := by
  unfold B_Str_equals_36 at hF
  have hm := Sa.rf H
  obtain ⟨q15, hG⟩ := ck_s hF; clear hF
  obtain ⟨a16, e17, hF⟩ := rf_s hG; clear hG
  obtain ⟨q18, hG⟩ := ck_s hF; clear hF
  obtain ⟨a19, e20, hF⟩ := rf_s hG; clear hG
  obtain ⟨v22, H23, z21, hG⟩ := bC_s hF; clear hF
  replace hm : Sa H H23 := hm.tr (m_SL_equals z21)
  rcases ite_s hG with ⟨q_3, hF⟩ | ⟨q_3, hF⟩
  · clear hG
    have hr := Option.some.inj hF; subst hr
    exact hm
  · clear hG
    have hr := Option.some.inj hF; subst hr
    exact hm
set_option maxRecDepth 20000 in
set_option maxHeartbeats 2000000 in
theorem kB_Str_equals_36 {N : Nat} {p0 : Nat} {p1 : Nat} {l2 : Nat} {H : Hp} {r : Int32 × Hp} (hF : B_Str_equals_36 N p0 p1 l2 H = some r) : ab_V y_Str_equals { frames := 1, cells := 0, slots := 0, locals := 22 } (po (.returned (some (.int r.1))) r.2) 0 0 0 0 36 [some (.ref p0), some (.ref p1), some (.ref l2)] [] (hpw H) := by
  unfold B_Str_equals_36 at hF
  refine ab_aload_n d_Str_equals_36 rfl rfl rfl ?_
  obtain ⟨q5, hG⟩ := ck_s hF; clear hF
  obtain ⟨a6, e7, hF⟩ := rf_s hG; clear hG
  refine hp_getR (f := 0) d_Str_equals_37 q5 (by decide) rfl (by decide) (k4 227 rfl rfl) rfl e7 ?_
  refine ab_aload_n d_Str_equals_40 rfl rfl rfl ?_
  obtain ⟨q8, hG⟩ := ck_s hF; clear hF
  obtain ⟨a9, e10, hF⟩ := rf_s hG; clear hG
  refine hp_getR (f := 0) d_Str_equals_41 q8 (by decide) rfl (by decide) (k4 227 rfl rfl) rfl e10 ?_
  obtain ⟨v12, H13, z11, hG⟩ := bC_s hF; clear hF
  refine hp_callS_a (v := .int v12) (H1 := H13) (As := [.ref a6, .ref a9]) (rest := []) d_Str_equals_44 (k_SL_equals z11) (ab_mkC s_SL_equals (Nat.le_of_ble_eq_true rfl) (Nat.le_of_ble_eq_true rfl) (Nat.le_refl 0) (Nat.le_refl 0)) (k5 8 rfl rfl) t_SL_equals rfl (Nat.le_of_ble_eq_true rfl) ?_
  have s_1 : Sa H H13 := (m_SL_equals z11)
  refine ab_if_eq (tgt := 54) d_Str_equals_47 (by decide) (fun q14 => ?_) (fun q14 => ?_)
  · rw [if_pos q14] at hG
    refine ab_iconst (v := 0) d_Str_equals_54 (by decide) ?_
    exact ab_zret d_Str_equals_55 rfl rfl (Nat.le_refl _) (Nat.le_refl _) (by have hr := Option.some.inj hG; subst hr; exact ⟨rfl, rfl⟩)
  · rw [if_neg q14] at hG
    refine ab_iconst (v := 1) d_Str_equals_50 (by decide) ?_
    refine ab_goto (tgt := 55) d_Str_equals_51 (by decide) ?_
    exact ab_zret d_Str_equals_55 rfl rfl (Nat.le_refl _) (Nat.le_refl _) (by have hr := Option.some.inj hG; subst hr; exact ⟨rfl, rfl⟩)
def F_Str_equals (N : Nat) (p0 : Nat) (p1 : Nat) (H : Hp) : Option (Int32 × Hp) :=
    if p0 = p1 then
    some (1, H)
    else
    ck (H.sh[p1]? = some (16, 0)) <|
    if (1 : Int32) = (0 : Int32) then
    some (0, H)
    else
    if (1 : Int32) = (0 : Int32) then
    B_Str_equals_36 N p0 p1 p1 H
    else
    ck (H.sh[p0]? = some (16, 0)) <|
    bnd ((H.D p0 1)) fun x26 =>
    bnd ((H.D p1 1)) fun x27 =>
    if x26 = x27 then
    B_Str_equals_36 N p0 p1 p1 H
    else
    some (0, H)
set_option maxRecDepth 20000 in
set_option maxHeartbeats 2000000 in
theorem m_Str_equals {N : Nat} {p0 : Nat} {p1 : Nat} {H : Hp} {r : Int32 × Hp} (hF : F_Str_equals N p0 p1 H = some r) : Sa H r.2 := by
  unfold F_Str_equals at hF
  have hm := Sa.rf H
  rcases ite_s hF with ⟨q_4, hG⟩ | ⟨q_4, hG⟩
  · clear hF
    have hr := Option.some.inj hG; subst hr
    exact hm
  · clear hF
    obtain ⟨q30, hF⟩ := ck_s hG; clear hG
    rcases ite_s hF with ⟨q_5, hG⟩ | ⟨q_5, hG⟩
    · clear hF
      have hr := Option.some.inj hG; subst hr
      exact hm
    · clear hF
      rcases ite_s hG with ⟨q_6, hF⟩ | ⟨q_6, hF⟩
      · clear hG
        exact hm.tr (mB_Str_equals_36 hF)
      · clear hG
        obtain ⟨q33, hG⟩ := ck_s hF; clear hF
        obtain ⟨x34, -, hF⟩ := bnd_g hG; clear hG
        obtain ⟨x35, -, hG⟩ := bnd_g hF; clear hF
        rcases ite_s hG with ⟨q_7, hF⟩ | ⟨q_7, hF⟩
        · clear hG
          exact hm.tr (mB_Str_equals_36 hF)
        · clear hG
          have hr := Option.some.inj hF; subst hr
          exact hm
set_option maxRecDepth 20000 in
set_option maxHeartbeats 2000000 in
theorem k_Str_equals {N : Nat} {p0 : Nat} {p1 : Nat} {H : Hp} {r : Int32 × Hp} (hF : F_Str_equals N p0 p1 H = some r) : ab_M y_Str_equals { frames := 1, cells := 0, slots := 0, locals := 22 } [.ref p0, .ref p1] (hpw H) (po (.returned (some (.int r.1))) r.2) := by
  unfold F_Str_equals at hF
  refine ab_of2 (lv := [some (.ref p0), some (.ref p1), none]) 1 rfl (by decide +kernel) (Nat.le_of_ble_eq_true rfl) ?_
  refine ab_aload_n d_Str_equals_0 rfl rfl rfl ?_
  refine ab_aload_n d_Str_equals_1 rfl rfl rfl ?_
  refine ab_acmp_ne (tgt := 7) d_Str_equals_2 (by decide) (fun q1 => ?_) (fun q1 => ?_)
  · rw [if_neg q1] at hF
    refine ab_aload_n d_Str_equals_7 rfl rfl rfl ?_
    obtain ⟨q2, hG⟩ := ck_s hF; clear hF
    refine ab_inst d_Str_equals_8 (k5 7 rfl rfl) (hp_ob q2 (by decide)) rfl ?_
    refine ab_if_eq (tgt := 54) d_Str_equals_11 (by decide) (fun q3 => ?_) (fun q3 => ?_)
    · rw [if_pos q3] at hG
      refine ab_iconst (v := 0) d_Str_equals_54 (by decide) ?_
      exact ab_zret d_Str_equals_55 rfl rfl (Nat.le_refl _) (Nat.le_refl _) (by have hr := Option.some.inj hG; subst hr; exact ⟨rfl, rfl⟩)
    · rw [if_neg q3] at hG
      refine ab_aload_n d_Str_equals_14 rfl rfl rfl ?_
      refine ab_ccast d_Str_equals_15 (k5 7 rfl rfl) (hp_ob q2 (by decide)) rfl ?_
      refine ab_astore_n (lv' := [some (.ref p0), some (.ref p1), some (.ref p1)]) d_Str_equals_18 rfl (by decide) rfl rfl ?_
      refine ab_getsC d_Str_equals_19 (k1 54 rfl rfl) ?_
      refine ab_if_eq (tgt := 36) d_Str_equals_22 (by decide) (fun q4 => ?_) (fun q4 => ?_)
      · rw [if_pos q4] at hG
        exact kB_Str_equals_36 hG
      · rw [if_neg q4] at hG
        refine ab_aload_n d_Str_equals_25 rfl rfl rfl ?_
        obtain ⟨q25, hF⟩ := ck_s hG; clear hG
        refine hp_getI (f := 1) d_Str_equals_26 q25 (by decide) rfl (by decide) (k4 228 rfl rfl) rfl ?_
        refine ab_topi (fun x26 ex26 => ?_)
        replace hF := bnd_s ex26 hF
        refine ab_aload_n d_Str_equals_29 rfl rfl rfl ?_
        refine hp_getI (f := 1) d_Str_equals_30 q2 (by decide) rfl (by decide) (k4 228 rfl rfl) rfl ?_
        refine ab_topi (fun x27 ex27 => ?_)
        replace hF := bnd_s ex27 hF
        refine ab_icmp_ne (tgt := 54) d_Str_equals_33 (by decide) (fun q28 => ?_) (fun q28 => ?_)
        · rw [if_neg q28] at hF
          refine ab_iconst (v := 0) d_Str_equals_54 (by decide) ?_
          exact ab_zret d_Str_equals_55 rfl rfl (Nat.le_refl _) (Nat.le_refl _) (by have hr := Option.some.inj hF; subst hr; exact ⟨rfl, rfl⟩)
        · rw [if_pos q28] at hF
          exact kB_Str_equals_36 hF
  · rw [if_pos q1] at hF
    refine ab_iconst (v := 1) d_Str_equals_5 (by decide) ?_
    exact ab_zret d_Str_equals_6 rfl rfl (Nat.le_refl _) (Nat.le_refl _) (by have hr := Option.some.inj hF; subst hr; exact ⟨rfl, rfl⟩)
def y_Program_find : ab_Y := (⟨"WorldEngine$Program", "find", "(Ljava/lang/String;)LWorldEngine$Named;"⟩, prog_6_method_3_code, 3, (some (FieldType.object "WorldEngine$Named")), [])
theorem d_Program_find_0 : decode y_Program_find.2.1 0 = .ok (.iconst 0, 1) := by decide +kernel
theorem d_Program_find_1 : decode y_Program_find.2.1 1 = .ok (.istore_n 2, 1) := by decide +kernel
theorem d_Program_find_2 : decode y_Program_find.2.1 2 = .ok (.iload_n 2, 1) := by decide +kernel
theorem d_Program_find_3 : decode y_Program_find.2.1 3 = .ok (.aload_n 0, 1) := by decide +kernel
theorem d_Program_find_4 : decode y_Program_find.2.1 4 = .ok (.getfield 62, 3) := by decide +kernel
theorem d_Program_find_7 : decode y_Program_find.2.1 7 = .ok (.if_icmp .ge 32, 3) := by decide +kernel
theorem d_Program_find_10 : decode y_Program_find.2.1 10 = .ok (.aload_n 0, 1) := by decide +kernel
theorem d_Program_find_11 : decode y_Program_find.2.1 11 = .ok (.getfield 15, 3) := by decide +kernel
theorem d_Program_find_14 : decode y_Program_find.2.1 14 = .ok (.iload_n 2, 1) := by decide +kernel
theorem d_Program_find_15 : decode y_Program_find.2.1 15 = .ok (.aaload, 1) := by decide +kernel
theorem d_Program_find_16 : decode y_Program_find.2.1 16 = .ok (.getfield 81, 3) := by decide +kernel
theorem d_Program_find_19 : decode y_Program_find.2.1 19 = .ok (.aload_n 1, 1) := by decide +kernel
theorem d_Program_find_20 : decode y_Program_find.2.1 20 = .ok (.invokevirtual 85, 3) := by decide +kernel
theorem d_Program_find_23 : decode y_Program_find.2.1 23 = .ok (.ifCond .eq 10, 3) := by decide +kernel
theorem d_Program_find_26 : decode y_Program_find.2.1 26 = .ok (.aload_n 0, 1) := by decide +kernel
theorem d_Program_find_27 : decode y_Program_find.2.1 27 = .ok (.getfield 15, 3) := by decide +kernel
theorem d_Program_find_30 : decode y_Program_find.2.1 30 = .ok (.iload_n 2, 1) := by decide +kernel
theorem d_Program_find_31 : decode y_Program_find.2.1 31 = .ok (.aaload, 1) := by decide +kernel
theorem d_Program_find_32 : decode y_Program_find.2.1 32 = .ok (.areturn, 1) := by decide +kernel
theorem d_Program_find_33 : decode y_Program_find.2.1 33 = .ok (.iinc 2 1, 3) := by decide +kernel
theorem d_Program_find_36 : decode y_Program_find.2.1 36 = .ok (.goto (-34), 3) := by decide +kernel
theorem d_Program_find_39 : decode y_Program_find.2.1 39 = .ok (.aconst_null, 1) := by decide +kernel
theorem d_Program_find_40 : decode y_Program_find.2.1 40 = .ok (.areturn, 1) := by decide +kernel
theorem s_Program_find : ab_Stat y_Program_find 1 := ⟨(k5 2 rfl rfl), (k1 15 rfl rfl), ⟨by decide, by decide⟩, by decide +kernel⟩
theorem i_Program_find : Cond.instanceMethod y_Program_find.1 ∈ ab_T := (k5 0 rfl rfl)
theorem v_Program_find : Cond.selects "WorldEngine$Program" y_Program_find.1 y_Program_find.1 ∈ ab_T := (k5 1 rfl rfl)
def B_Program_find_2 (N : Nat) (p0 : Nat) (p1 : Nat) : Nat → Int32 → Hp → Option ((Option Nat) × Hp)
  | 0, _, _ => none
  | n + 1, l2, H =>
    ck (H.sh[p0]? = some (4, 0)) <|
    bnd ((H.D p0 1)) fun x2 =>
    if x2 ≤ l2 then
    some (none, H)
    else
    rf (H.P p0 0) fun a4 =>
    ar H 106 a4 fun n6 =>
    ck (inb l2 n6) <|
    rf (H.P a4 (l2).toNatClampNeg) fun a9 =>
    ck (H.sh[a9]? = some (2, 0)) <|
    rf (H.P a9 0) fun a12 =>
    ck (H.sh[a12]? = some (16, 0)) <|
    bC (F_Str_equals N a12 p1 H) fun v16 H17 =>
    if v16 = (0 : Int32) then
    B_Program_find_2 N p0 p1 n (l2 + 1) H17
    else
    rf (H17.P p0 0) fun a19 =>
    ar H17 106 a19 fun n21 =>
    ck (inb l2 n21) <|
    rf (H17.P a19 (l2).toNatClampNeg) fun a24 =>
    some (some a24, H17)
termination_by structural n => n
set_option maxRecDepth 20000 in
set_option maxHeartbeats 2000000 in
theorem mB_Program_find_2 {N : Nat} {p0 : Nat} {p1 : Nat} : ∀ (n : Nat) (l2 : Int32) (H : Hp) (r : (Option Nat) × Hp), B_Program_find_2 N p0 p1 n l2 H = some r → Sa H r.2 := by
  intro n
  induction n with
  | zero => intro l2 H r hF; rw [B_Program_find_2] at hF; cases hF
  | succ n ih =>
    intro l2 H r hF
    rw [B_Program_find_2] at hF
    have hm := Sa.rf H
    obtain ⟨q26, hG⟩ := ck_s hF; clear hF
    obtain ⟨x27, -, hF⟩ := bnd_g hG; clear hG
    rcases ite_s hF with ⟨q_2, hG⟩ | ⟨q_2, hG⟩
    · clear hF
      have hr := Option.some.inj hG; subst hr
      exact hm
    · clear hF
      obtain ⟨a29, e30, hF⟩ := rf_s hG; clear hG
      obtain ⟨n31, q32, hG⟩ := ar_s hF; clear hF
      obtain ⟨q33, hF⟩ := ck_s hG; clear hG
      obtain ⟨a34, e35, hG⟩ := rf_s hF; clear hF
      obtain ⟨q36, hF⟩ := ck_s hG; clear hG
      obtain ⟨a37, e38, hG⟩ := rf_s hF; clear hF
      obtain ⟨q39, hF⟩ := ck_s hG; clear hG
      obtain ⟨v41, H42, z40, hG⟩ := bC_s hF; clear hF
      replace hm : Sa H H42 := hm.tr (m_Str_equals z40)
      rcases ite_s hG with ⟨q_4, hF⟩ | ⟨q_4, hF⟩
      · clear hG
        exact hm.tr (ih (l2 + 1) H42 r hF)
      · clear hG
        obtain ⟨a44, e45, hG⟩ := rf_s hF; clear hF
        obtain ⟨n46, q47, hF⟩ := ar_s hG; clear hG
        obtain ⟨q48, hG⟩ := ck_s hF; clear hF
        obtain ⟨a49, e50, hF⟩ := rf_s hG; clear hG
        have hr := Option.some.inj hF; subst hr
        exact hm
set_option maxRecDepth 20000 in
set_option maxHeartbeats 2000000 in
theorem kB_Program_find_2 {N : Nat} {p0 : Nat} {p1 : Nat} : ∀ (n : Nat) (l2 : Int32) (H : Hp) (r : (Option Nat) × Hp), B_Program_find_2 N p0 p1 n l2 H = some r → ab_V y_Program_find { frames := 2, cells := 0, slots := 0, locals := 44 } (po (.returned (some (ab_rf r.1))) r.2) 0 0 0 0 2 [some (.ref p0), some (.ref p1), some (.int l2)] [] (hpw H) := by
  intro n
  induction n with
  | zero => intro l2 H r hF; rw [B_Program_find_2] at hF; cases hF
  | succ n ih =>
    intro l2 H r hF
    rw [B_Program_find_2] at hF
    refine ab_iload_n d_Program_find_2 rfl rfl ?_
    refine ab_aload_n d_Program_find_3 rfl rfl rfl ?_
    obtain ⟨q1, hG⟩ := ck_s hF; clear hF
    refine hp_getI (f := 1) d_Program_find_4 q1 (by decide) rfl (by decide) (k3 54 rfl rfl) rfl ?_
    refine ab_topi (fun x2 ex2 => ?_)
    replace hG := bnd_s ex2 hG
    refine ab_icmp_ge (tgt := 39) d_Program_find_7 (by decide) (fun q3 => ?_) (fun q3 => ?_)
    · rw [if_pos q3] at hG
      refine ab_null d_Program_find_39 ?_
      exact ab_aret d_Program_find_40 rfl (Or.inl ⟨_, rfl⟩) rfl (Nat.le_refl _) (Nat.le_refl _) (by have hr := Option.some.inj hG; subst hr; exact ⟨rfl, rfl⟩)
    · rw [if_neg q3] at hG
      refine ab_aload_n d_Program_find_10 rfl rfl rfl ?_
      obtain ⟨a4, e5, hF⟩ := rf_s hG; clear hG
      refine hp_getR (f := 0) d_Program_find_11 q1 (by decide) rfl (by decide) (k3 53 rfl rfl) rfl e5 ?_
      refine ab_iload_n d_Program_find_14 rfl rfl ?_
      obtain ⟨n6, q7, hG⟩ := ar_s hF; clear hF
      obtain ⟨q8, hF⟩ := ck_s hG; clear hG
      obtain ⟨a9, e10, hG⟩ := rf_s hF; clear hF
      refine hp_aald (q := 106) d_Program_find_15 (by decide) tN q7 q8 e10 ?_
      obtain ⟨q11, hF⟩ := ck_s hG; clear hG
      obtain ⟨a12, e13, hG⟩ := rf_s hF; clear hF
      refine hp_getR (f := 0) d_Program_find_16 q11 (by decide) rfl (by decide) (k2 229 rfl rfl) rfl e13 ?_
      refine ab_aload_n d_Program_find_19 rfl rfl rfl ?_
      obtain ⟨q14, hF⟩ := ck_s hG; clear hG
      obtain ⟨v16, H17, z15, hG⟩ := bC_s hF; clear hF
      refine hp_callV_a (v := .int v16) (H1 := H17) (As := [.ref p1]) (rest := []) d_Program_find_20 (k_Str_equals z15) (ab_mkC s_Str_equals (Nat.le_of_ble_eq_true rfl) (Nat.le_of_ble_eq_true rfl) (Nat.le_refl 0) (Nat.le_refl 0)) (k5 3 rfl rfl) i_Str_equals v_Str_equals q14 (by decide) rfl rfl (Nat.le_of_ble_eq_true rfl) ?_
      have s_1 : Sa H H17 := (m_Str_equals z15)
      refine ab_if_eq (tgt := 33) d_Program_find_23 (by decide) (fun q18 => ?_) (fun q18 => ?_)
      · rw [if_pos q18] at hG
        refine ab_iinc (v := l2 + 1) (lv' := [some (.ref p0), some (.ref p1), some (.int (l2 + 1))]) d_Program_find_33 rfl rfl (by decide) rfl ?_
        refine ab_goto (tgt := 2) d_Program_find_36 (by decide) ?_
        exact ih (l2 + 1) H17 r hG
      · rw [if_neg q18] at hG
        refine ab_aload_n d_Program_find_26 rfl rfl rfl ?_
        obtain ⟨a19, e20, hF⟩ := rf_s hG; clear hG
        refine hp_getR (f := 0) d_Program_find_27 (by rw [(s_1).1]; exact q1) (by decide) rfl (by decide) (k3 53 rfl rfl) rfl e20 ?_
        refine ab_iload_n d_Program_find_30 rfl rfl ?_
        obtain ⟨n21, q22, hG⟩ := ar_s hF; clear hF
        rw [(s_1).1] at q22
        obtain ⟨q23, hF⟩ := ck_s hG; clear hG
        obtain ⟨a24, e25, hG⟩ := rf_s hF; clear hF
        refine hp_aald (q := 106) d_Program_find_31 (by decide) tN (by rw [(s_1).1]; exact q22) q23 e25 ?_
        exact ab_aret d_Program_find_32 rfl (Or.inl ⟨_, rfl⟩) rfl (Nat.le_refl _) (Nat.le_refl _) (by have hr := Option.some.inj hG; subst hr; exact ⟨rfl, rfl⟩)
def F_Program_find (N : Nat) (p0 : Nat) (p1 : Nat) (H : Hp) : Option ((Option Nat) × Hp) :=
    B_Program_find_2 N p0 p1 N 0 H
set_option maxRecDepth 20000 in
set_option maxHeartbeats 2000000 in
theorem m_Program_find {N : Nat} {p0 : Nat} {p1 : Nat} {H : Hp} {r : (Option Nat) × Hp} (hF : F_Program_find N p0 p1 H = some r) : Sa H r.2 := by
  unfold F_Program_find at hF
  have hm := Sa.rf H
  exact hm.tr (mB_Program_find_2 N 0 H r hF)
set_option maxRecDepth 20000 in
set_option maxHeartbeats 2000000 in
theorem k_Program_find {N : Nat} {p0 : Nat} {p1 : Nat} {H : Hp} {r : (Option Nat) × Hp} (hF : F_Program_find N p0 p1 H = some r) : ab_M y_Program_find { frames := 2, cells := 0, slots := 0, locals := 44 } [.ref p0, .ref p1] (hpw H) (po (.returned (some (ab_rf r.1))) r.2) := by
  unfold F_Program_find at hF
  refine ab_of2 (lv := [some (.ref p0), some (.ref p1), none]) 1 rfl rfl (Nat.le_of_ble_eq_true rfl) ?_
  refine ab_iconst (v := 0) d_Program_find_0 (by decide) ?_
  refine ab_istore_n (lv' := [some (.ref p0), some (.ref p1), some (.int 0)]) d_Program_find_1 rfl (by decide) rfl ?_
  exact kB_Program_find_2 N 0 H r hF
def y_Named_tell : ab_Y := (⟨"WorldEngine$Named", "tell", "(Ljava/lang/String;III)V"⟩, prog_4_method_2_code, 5, none, [])
theorem d_Named_tell_0 : decode y_Named_tell.2.1 0 = .ok (.aload_n 0, 1) := by decide +kernel
theorem d_Named_tell_1 : decode y_Named_tell.2.1 1 = .ok (.aload_n 1, 1) := by decide +kernel
theorem d_Named_tell_2 : decode y_Named_tell.2.1 2 = .ok (.putfield 9, 3) := by decide +kernel
theorem d_Named_tell_5 : decode y_Named_tell.2.1 5 = .ok (.aload_n 0, 1) := by decide +kernel
theorem d_Named_tell_6 : decode y_Named_tell.2.1 6 = .ok (.iload_n 2, 1) := by decide +kernel
theorem d_Named_tell_7 : decode y_Named_tell.2.1 7 = .ok (.putfield 15, 3) := by decide +kernel
theorem d_Named_tell_10 : decode y_Named_tell.2.1 10 = .ok (.aload_n 0, 1) := by decide +kernel
theorem d_Named_tell_11 : decode y_Named_tell.2.1 11 = .ok (.iload_n 3, 1) := by decide +kernel
theorem d_Named_tell_12 : decode y_Named_tell.2.1 12 = .ok (.putfield 19, 3) := by decide +kernel
theorem d_Named_tell_15 : decode y_Named_tell.2.1 15 = .ok (.aload_n 0, 1) := by decide +kernel
theorem d_Named_tell_16 : decode y_Named_tell.2.1 16 = .ok (.iload 4, 2) := by decide +kernel
theorem d_Named_tell_18 : decode y_Named_tell.2.1 18 = .ok (.putfield 22, 3) := by decide +kernel
theorem d_Named_tell_21 : decode y_Named_tell.2.1 21 = .ok (.return_, 1) := by decide +kernel
theorem s_Named_tell : ab_Stat y_Named_tell 4 := ⟨(k5 18 rfl rfl), (k1 16 rfl rfl), ⟨by decide, by decide⟩, by decide +kernel⟩
theorem i_Named_tell : Cond.instanceMethod y_Named_tell.1 ∈ ab_T := (k5 16 rfl rfl)
theorem v_Named_tell : Cond.selects "WorldEngine$Named" y_Named_tell.1 y_Named_tell.1 ∈ ab_T := (k5 17 rfl rfl)
def F_Named_tell (N : Nat) (p0 : Nat) (p1 : Nat) (p2 : Int32) (p3 : Int32) (p4 : Int32) (H : Hp) : Option (Unit × Hp) :=
    ck (H.sh[p0]? = some (2, 0)) <|
    bnd (H.sP p0 0 (.ref p1)) fun H2 =>
    bnd (H2.sD p0 1 p2) fun H3 =>
    bnd (H3.sD p0 2 p3) fun H4 =>
    bnd (H4.sD p0 3 p4) fun H5 =>
    some ((), H5)
set_option maxRecDepth 20000 in
set_option maxHeartbeats 2000000 in
theorem m_Named_tell {N : Nat} {p0 : Nat} {p1 : Nat} {p2 : Int32} {p3 : Int32} {p4 : Int32} {H : Hp} {r : Unit × Hp} (hF : F_Named_tell N p0 p1 p2 p3 p4 H = some r) : Sa H r.2 := by
  unfold F_Named_tell at hF
  have hm := Sa.rf H
  obtain ⟨q6, hG⟩ := ck_s hF; clear hF
  obtain ⟨H7, eH7, hF⟩ := bnd_g hG; clear hG
  replace hm : Sa H H7 := by rw [eH7]; exact hm
  obtain ⟨H8, eH8, hG⟩ := bnd_g hF; clear hF
  replace hm : Sa H H8 := by rw [eH8]; exact hm
  obtain ⟨H9, eH9, hF⟩ := bnd_g hG; clear hG
  replace hm : Sa H H9 := by rw [eH9]; exact hm
  obtain ⟨H10, eH10, hG⟩ := bnd_g hF; clear hF
  replace hm : Sa H H10 := by rw [eH10]; exact hm
  have hr := Option.some.inj hG; subst hr
  exact hm
set_option maxRecDepth 20000 in
set_option maxHeartbeats 2000000 in
theorem k_Named_tell {N : Nat} {p0 : Nat} {p1 : Nat} {p2 : Int32} {p3 : Int32} {p4 : Int32} {H : Hp} {r : Unit × Hp} (hF : F_Named_tell N p0 p1 p2 p3 p4 H = some r) : ab_M y_Named_tell { frames := 0, cells := 0, slots := 0, locals := 0 } [.ref p0, .ref p1, .int p2, .int p3, .int p4] (hpw H) (po (.returned none) r.2) := by
  unfold F_Named_tell at hF
  refine ab_of2 (lv := [some (.ref p0), some (.ref p1), some (.int p2), some (.int p3), some (.int p4)]) 0 rfl rfl (Nat.le_of_ble_eq_true rfl) ?_
  refine ab_aload_n d_Named_tell_0 rfl rfl rfl ?_
  refine ab_aload_n d_Named_tell_1 rfl rfl rfl ?_
  obtain ⟨q1, hG⟩ := ck_s hF; clear hF
  refine hp_putP (v := .ref p1) (f := 0) d_Named_tell_2 q1 (by decide) rfl (by decide) (k2 228 rfl rfl) rfl rfl (fun _ => rfl) (fun _ => rfl) rfl ?_
  refine hp_gen (fun H2 eH2 => ?_)
  replace hG := bnd_s eH2 hG
  have s_1 : Sa H H2 := by rw [eH2]; exact Sa.rf _
  refine ab_aload_n d_Named_tell_5 rfl rfl rfl ?_
  refine ab_iload_n d_Named_tell_6 rfl rfl ?_
  refine hp_putI (v := p2) (f := 1) d_Named_tell_7 (by rw [(s_1).1]; exact q1) (by decide) rfl (by decide) (k2 232 rfl rfl) rfl rfl (fun _ => rfl) (fun _ => rfl) rfl ?_
  refine hp_gen (fun H3 eH3 => ?_)
  replace hG := bnd_s eH3 hG
  have s_2 : Sa H H3 := by rw [eH3]; exact s_1
  refine ab_aload_n d_Named_tell_10 rfl rfl rfl ?_
  refine ab_iload_n d_Named_tell_11 rfl rfl ?_
  refine hp_putI (v := p3) (f := 2) d_Named_tell_12 (by rw [(s_2).1]; exact q1) (by decide) rfl (by decide) (k2 235 rfl rfl) rfl rfl (fun _ => rfl) (fun _ => rfl) rfl ?_
  refine hp_gen (fun H4 eH4 => ?_)
  replace hG := bnd_s eH4 hG
  have s_3 : Sa H H4 := by rw [eH4]; exact s_2
  refine ab_aload_n d_Named_tell_15 rfl rfl rfl ?_
  refine ab_iload d_Named_tell_16 rfl ?_
  refine hp_putI (v := p4) (f := 3) d_Named_tell_18 (by rw [(s_3).1]; exact q1) (by decide) rfl (by decide) (k2 238 rfl rfl) rfl rfl (fun _ => rfl) (fun _ => rfl) rfl ?_
  refine hp_gen (fun H5 eH5 => ?_)
  replace hG := bnd_s eH5 hG
  have s_4 : Sa H H5 := by rw [eH5]; exact s_3
  exact ab_vret d_Named_tell_21 rfl (Nat.le_refl _) (Nat.le_refl _) (by have hr := Option.some.inj hG; subst hr; exact ⟨rfl, rfl⟩)
