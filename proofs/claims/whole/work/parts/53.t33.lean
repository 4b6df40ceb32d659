def y_Ticker_runGroup : ab_Y := (⟨"WorldEngine$Ticker", "runGroup", "(I)V"⟩, prog_11_method_3_code, 4, none, [])
theorem d_Ticker_runGroup_0 : decode y_Ticker_runGroup.2.1 0 = .ok (.aload_n 0, 1) := by decide +kernel
theorem d_Ticker_runGroup_1 : decode y_Ticker_runGroup.2.1 1 = .ok (.getfield 10, 3) := by decide +kernel
theorem d_Ticker_runGroup_4 : decode y_Ticker_runGroup.2.1 4 = .ok (.iconst 0, 1) := by decide +kernel
theorem d_Ticker_runGroup_5 : decode y_Ticker_runGroup.2.1 5 = .ok (.putfield 52, 3) := by decide +kernel
theorem d_Ticker_runGroup_8 : decode y_Ticker_runGroup.2.1 8 = .ok (.iconst 0, 1) := by decide +kernel
theorem d_Ticker_runGroup_9 : decode y_Ticker_runGroup.2.1 9 = .ok (.istore_n 2, 1) := by decide +kernel
theorem d_Ticker_runGroup_10 : decode y_Ticker_runGroup.2.1 10 = .ok (.iload_n 2, 1) := by decide +kernel
theorem d_Ticker_runGroup_11 : decode y_Ticker_runGroup.2.1 11 = .ok (.aload_n 0, 1) := by decide +kernel
theorem d_Ticker_runGroup_12 : decode y_Ticker_runGroup.2.1 12 = .ok (.getfield 16, 3) := by decide +kernel
theorem d_Ticker_runGroup_15 : decode y_Ticker_runGroup.2.1 15 = .ok (.getfield 55, 3) := by decide +kernel
theorem d_Ticker_runGroup_18 : decode y_Ticker_runGroup.2.1 18 = .ok (.if_icmp .ge 79, 3) := by decide +kernel
theorem d_Ticker_runGroup_21 : decode y_Ticker_runGroup.2.1 21 = .ok (.iconst 0, 1) := by decide +kernel
theorem d_Ticker_runGroup_22 : decode y_Ticker_runGroup.2.1 22 = .ok (.istore_n 3, 1) := by decide +kernel
theorem d_Ticker_runGroup_23 : decode y_Ticker_runGroup.2.1 23 = .ok (.iload_n 3, 1) := by decide +kernel
theorem d_Ticker_runGroup_24 : decode y_Ticker_runGroup.2.1 24 = .ok (.aload_n 0, 1) := by decide +kernel
theorem d_Ticker_runGroup_25 : decode y_Ticker_runGroup.2.1 25 = .ok (.getfield 20, 3) := by decide +kernel
theorem d_Ticker_runGroup_28 : decode y_Ticker_runGroup.2.1 28 = .ok (.getfield 58, 3) := by decide +kernel
theorem d_Ticker_runGroup_31 : decode y_Ticker_runGroup.2.1 31 = .ok (.if_icmp .ge 60, 3) := by decide +kernel
theorem d_Ticker_runGroup_34 : decode y_Ticker_runGroup.2.1 34 = .ok (.aload_n 0, 1) := by decide +kernel
theorem d_Ticker_runGroup_35 : decode y_Ticker_runGroup.2.1 35 = .ok (.getfield 16, 3) := by decide +kernel
theorem d_Ticker_runGroup_38 : decode y_Ticker_runGroup.2.1 38 = .ok (.getfield 61, 3) := by decide +kernel
theorem d_Ticker_runGroup_41 : decode y_Ticker_runGroup.2.1 41 = .ok (.iload_n 2, 1) := by decide +kernel
theorem d_Ticker_runGroup_42 : decode y_Ticker_runGroup.2.1 42 = .ok (.iaload, 1) := by decide +kernel
theorem d_Ticker_runGroup_43 : decode y_Ticker_runGroup.2.1 43 = .ok (.iload_n 1, 1) := by decide +kernel
theorem d_Ticker_runGroup_44 : decode y_Ticker_runGroup.2.1 44 = .ok (.if_icmp .ne 47, 3) := by decide +kernel
theorem d_Ticker_runGroup_47 : decode y_Ticker_runGroup.2.1 47 = .ok (.aload_n 0, 1) := by decide +kernel
theorem d_Ticker_runGroup_48 : decode y_Ticker_runGroup.2.1 48 = .ok (.getfield 20, 3) := by decide +kernel
theorem d_Ticker_runGroup_51 : decode y_Ticker_runGroup.2.1 51 = .ok (.iload_n 3, 1) := by decide +kernel
theorem d_Ticker_runGroup_52 : decode y_Ticker_runGroup.2.1 52 = .ok (.aload_n 0, 1) := by decide +kernel
theorem d_Ticker_runGroup_53 : decode y_Ticker_runGroup.2.1 53 = .ok (.getfield 16, 3) := by decide +kernel
theorem d_Ticker_runGroup_56 : decode y_Ticker_runGroup.2.1 56 = .ok (.getfield 65, 3) := by decide +kernel
theorem d_Ticker_runGroup_59 : decode y_Ticker_runGroup.2.1 59 = .ok (.iload_n 2, 1) := by decide +kernel
theorem d_Ticker_runGroup_60 : decode y_Ticker_runGroup.2.1 60 = .ok (.iaload, 1) := by decide +kernel
theorem d_Ticker_runGroup_61 : decode y_Ticker_runGroup.2.1 61 = .ok (.aload_n 0, 1) := by decide +kernel
theorem d_Ticker_runGroup_62 : decode y_Ticker_runGroup.2.1 62 = .ok (.getfield 16, 3) := by decide +kernel
theorem d_Ticker_runGroup_65 : decode y_Ticker_runGroup.2.1 65 = .ok (.getfield 68, 3) := by decide +kernel
theorem d_Ticker_runGroup_68 : decode y_Ticker_runGroup.2.1 68 = .ok (.iload_n 2, 1) := by decide +kernel
theorem d_Ticker_runGroup_69 : decode y_Ticker_runGroup.2.1 69 = .ok (.iaload, 1) := by decide +kernel
theorem d_Ticker_runGroup_70 : decode y_Ticker_runGroup.2.1 70 = .ok (.invokevirtual 71, 3) := by decide +kernel
theorem d_Ticker_runGroup_73 : decode y_Ticker_runGroup.2.1 73 = .ok (.ifCond .eq 12, 3) := by decide +kernel
theorem d_Ticker_runGroup_76 : decode y_Ticker_runGroup.2.1 76 = .ok (.aload_n 0, 1) := by decide +kernel
theorem d_Ticker_runGroup_77 : decode y_Ticker_runGroup.2.1 77 = .ok (.getfield 10, 3) := by decide +kernel
theorem d_Ticker_runGroup_80 : decode y_Ticker_runGroup.2.1 80 = .ok (.iload_n 2, 1) := by decide +kernel
theorem d_Ticker_runGroup_81 : decode y_Ticker_runGroup.2.1 81 = .ok (.iload_n 3, 1) := by decide +kernel
theorem d_Ticker_runGroup_82 : decode y_Ticker_runGroup.2.1 82 = .ok (.invokevirtual 75, 3) := by decide +kernel
theorem d_Ticker_runGroup_85 : decode y_Ticker_runGroup.2.1 85 = .ok (.iinc 3 1, 3) := by decide +kernel
theorem d_Ticker_runGroup_88 : decode y_Ticker_runGroup.2.1 88 = .ok (.goto (-65), 3) := by decide +kernel
theorem d_Ticker_runGroup_91 : decode y_Ticker_runGroup.2.1 91 = .ok (.iinc 2 1, 3) := by decide +kernel
theorem d_Ticker_runGroup_94 : decode y_Ticker_runGroup.2.1 94 = .ok (.goto (-84), 3) := by decide +kernel
theorem d_Ticker_runGroup_97 : decode y_Ticker_runGroup.2.1 97 = .ok (.iconst 0, 1) := by decide +kernel
theorem d_Ticker_runGroup_98 : decode y_Ticker_runGroup.2.1 98 = .ok (.istore_n 2, 1) := by decide +kernel
theorem d_Ticker_runGroup_99 : decode y_Ticker_runGroup.2.1 99 = .ok (.iload_n 2, 1) := by decide +kernel
theorem d_Ticker_runGroup_100 : decode y_Ticker_runGroup.2.1 100 = .ok (.aload_n 0, 1) := by decide +kernel
theorem d_Ticker_runGroup_101 : decode y_Ticker_runGroup.2.1 101 = .ok (.getfield 10, 3) := by decide +kernel
theorem d_Ticker_runGroup_104 : decode y_Ticker_runGroup.2.1 104 = .ok (.getfield 52, 3) := by decide +kernel
theorem d_Ticker_runGroup_107 : decode y_Ticker_runGroup.2.1 107 = .ok (.if_icmp .ge 40, 3) := by decide +kernel
theorem d_Ticker_runGroup_110 : decode y_Ticker_runGroup.2.1 110 = .ok (.aload_n 0, 1) := by decide +kernel
theorem d_Ticker_runGroup_111 : decode y_Ticker_runGroup.2.1 111 = .ok (.aload_n 0, 1) := by decide +kernel
theorem d_Ticker_runGroup_112 : decode y_Ticker_runGroup.2.1 112 = .ok (.getfield 10, 3) := by decide +kernel
theorem d_Ticker_runGroup_115 : decode y_Ticker_runGroup.2.1 115 = .ok (.getfield 79, 3) := by decide +kernel
theorem d_Ticker_runGroup_118 : decode y_Ticker_runGroup.2.1 118 = .ok (.iload_n 2, 1) := by decide +kernel
theorem d_Ticker_runGroup_119 : decode y_Ticker_runGroup.2.1 119 = .ok (.bipush 11, 2) := by decide +kernel
theorem d_Ticker_runGroup_121 : decode y_Ticker_runGroup.2.1 121 = .ok (.imul, 1) := by decide +kernel
theorem d_Ticker_runGroup_122 : decode y_Ticker_runGroup.2.1 122 = .ok (.invokevirtual 82, 3) := by decide +kernel
theorem d_Ticker_runGroup_125 : decode y_Ticker_runGroup.2.1 125 = .ok (.ifCond .ne 16, 3) := by decide +kernel
theorem d_Ticker_runGroup_128 : decode y_Ticker_runGroup.2.1 128 = .ok (.aload_n 0, 1) := by decide +kernel
theorem d_Ticker_runGroup_129 : decode y_Ticker_runGroup.2.1 129 = .ok (.getfield 20, 3) := by decide +kernel
theorem d_Ticker_runGroup_132 : decode y_Ticker_runGroup.2.1 132 = .ok (.dup, 1) := by decide +kernel
theorem d_Ticker_runGroup_133 : decode y_Ticker_runGroup.2.1 133 = .ok (.getfield 86, 3) := by decide +kernel
theorem d_Ticker_runGroup_136 : decode y_Ticker_runGroup.2.1 136 = .ok (.iconst 1, 1) := by decide +kernel
theorem d_Ticker_runGroup_137 : decode y_Ticker_runGroup.2.1 137 = .ok (.iadd, 1) := by decide +kernel
theorem d_Ticker_runGroup_138 : decode y_Ticker_runGroup.2.1 138 = .ok (.putfield 86, 3) := by decide +kernel
theorem d_Ticker_runGroup_141 : decode y_Ticker_runGroup.2.1 141 = .ok (.iinc 2 1, 3) := by decide +kernel
theorem d_Ticker_runGroup_144 : decode y_Ticker_runGroup.2.1 144 = .ok (.goto (-45), 3) := by decide +kernel
theorem d_Ticker_runGroup_147 : decode y_Ticker_runGroup.2.1 147 = .ok (.return_, 1) := by decide +kernel
theorem s_Ticker_runGroup : ab_Stat y_Ticker_runGroup 1 := ⟨(k6 195 rfl rfl), (k1 12 rfl rfl), ⟨by decide, by decide⟩, by decide +kernel⟩
theorem i_Ticker_runGroup : Cond.instanceMethod y_Ticker_runGroup.1 ∈ ab_T := (k6 194 rfl rfl)
theorem v_Ticker_runGroup : Cond.selects "WorldEngine$Ticker" y_Ticker_runGroup.1 y_Ticker_runGroup.1 ∈ ab_T := ab_s (List.mem_of_getElem? (i := 67) rfl) rfl
def B_Ticker_runGroup_141 (N : Nat) (p0 : Nat) (p1 : Int32) (kq99 : Int32 → Hp → Option (Unit × Hp)) (l2 : Int32) (H : Hp) : Option (Unit × Hp) :=
    kq99 (l2 + 1) H
set_option maxRecDepth 20000 in
set_option maxHeartbeats 2000000 in
theorem mB_Ticker_runGroup_141 {N : Nat} {p0 : Nat} {p1 : Int32} {kq99 : Int32 → Hp → Option (Unit × Hp)} (hm99 : ∀ (l2 : Int32) (H : Hp) (r : Unit × Hp), kq99 l2 H = some r → Mo H r.2) {l2 : Int32} {H : Hp} {r : Unit × Hp} (hF : B_Ticker_runGroup_141 N p0 p1 kq99 l2 H = some r) : Mo H r.2 := by
  unfold B_Ticker_runGroup_141 at hF
  have hm := Mo.rf H
  exact hm.tr (hm99 (l2 + 1) H r hF)
set_option maxRecDepth 20000 in
set_option maxHeartbeats 2000000 in
theorem kB_Ticker_runGroup_141 {N : Nat} {p0 : Nat} {p1 : Int32} {kq99 : Int32 → Hp → Option (Unit × Hp)} {c0 s0 C Sl : Nat} (hm99 : ∀ (l2 : Int32) (H : Hp) (r : Unit × Hp), kq99 l2 H = some r → Mo H r.2) (hk99 : ∀ (l2 : Int32) (H : Hp) (r : Unit × Hp), kq99 l2 H = some r → c0 ≤ H.sh.length → s0 ≤ H.sl → H.sh.length ≤ c0 + C → H.sl ≤ s0 + Sl → r.2.sh.length ≤ c0 + C → r.2.sl ≤ s0 + Sl → ab_V y_Ticker_runGroup { frames := 5, cells := C, slots := Sl, locals := 148 } (po (.returned none) r.2) C Sl (H.sh.length - c0) (H.sl - s0) 99 [some (.ref p0), some (.int p1), some (.int l2), none] [] (hpw H)) {l2 : Int32} {H : Hp} {r : Unit × Hp} (hF : B_Ticker_runGroup_141 N p0 p1 kq99 l2 H = some r) (hc0 : c0 ≤ H.sh.length) (hs0 : s0 ≤ H.sl) (hcc : H.sh.length ≤ c0 + C) (hss : H.sl ≤ s0 + Sl) (hC : r.2.sh.length ≤ c0 + C) (hS : r.2.sl ≤ s0 + Sl) : ab_V y_Ticker_runGroup { frames := 5, cells := C, slots := Sl, locals := 148 } (po (.returned none) r.2) C Sl (H.sh.length - c0) (H.sl - s0) 141 [some (.ref p0), some (.int p1), some (.int l2), none] [] (hpw H) := by
  unfold B_Ticker_runGroup_141 at hF
  refine ab_iinc (v := l2 + 1) (lv' := [some (.ref p0), some (.int p1), some (.int (l2 + 1)), none]) d_Ticker_runGroup_141 rfl rfl (by decide) rfl ?_
  refine ab_goto (tgt := 99) d_Ticker_runGroup_144 (by decide) ?_
  exact hk99 (l2 + 1) H r hF hc0 hs0 hcc hss hC hS
def B_Ticker_runGroup_99 (N : Nat) (p0 : Nat) (p1 : Int32) : Nat → Int32 → Hp → Option (Unit × Hp)
  | 0, _, _ => none
  | n + 1, l2, H =>
    ck (H.sh[p0]? = some (9, 0)) <|
    rf (H.P p0 0) fun a13 =>
    ck (H.sh[a13]? = some (8, 0)) <|
    bnd ((H.D a13 1)) fun x16 =>
    if x16 ≤ l2 then
    some ((), H)
    else
    rf (H.P p0 0) fun a18 =>
    ck (H.sh[a18]? = some (8, 0)) <|
    rf (H.P a18 0) fun a21 =>
    bC (F_Ticker_acts N p0 a21 (l2 * (11 : Int32)) H) fun v24 H25 =>
    if v24 = (0 : Int32) then
    rf (H25.P p0 2) fun a27 =>
    ck (H25.sh[a27]? = some (7, 0)) <|
    bnd ((H25.D a27 3)) fun x30 =>
    bnd (H25.sD a27 3 (x30 + (1 : Int32))) fun H31 =>
    B_Ticker_runGroup_141 N p0 p1 (fun l2 H => B_Ticker_runGroup_99 N p0 p1 n l2 H) l2 H31
    else
    B_Ticker_runGroup_141 N p0 p1 (fun l2 H => B_Ticker_runGroup_99 N p0 p1 n l2 H) l2 H25
termination_by structural n => n
set_option maxRecDepth 20000 in
set_option maxHeartbeats 2000000 in
theorem mB_Ticker_runGroup_99 {N : Nat} {p0 : Nat} {p1 : Int32} : ∀ (n : Nat) (l2 : Int32) (H : Hp) (r : Unit × Hp), B_Ticker_runGroup_99 N p0 p1 n l2 H = some r → Mo H r.2 := by
  intro n
  induction n with
  | zero => intro l2 H r hF; rw [B_Ticker_runGroup_99] at hF; cases hF
  | succ n ih =>
    intro l2 H r hF
    rw [B_Ticker_runGroup_99] at hF
    have hm := Mo.rf H
    obtain ⟨q32, hG⟩ := ck_s hF; clear hF
    obtain ⟨a33, e34, hF⟩ := rf_s hG; clear hG
    obtain ⟨q35, hG⟩ := ck_s hF; clear hF
    obtain ⟨x36, -, hF⟩ := bnd_g hG; clear hG
    rcases ite_s hF with ⟨q_5, hG⟩ | ⟨q_5, hG⟩
    · clear hF
      have hr := Option.some.inj hG; subst hr
      exact hm
    · clear hF
      obtain ⟨a38, e39, hF⟩ := rf_s hG; clear hG
      obtain ⟨q40, hG⟩ := ck_s hF; clear hF
      obtain ⟨a41, e42, hF⟩ := rf_s hG; clear hG
      obtain ⟨v44, H45, z43, hG⟩ := bC_s hF; clear hF
      replace hm : Mo H H45 := hm.tr ((m_Ticker_acts z43)).mo
      rcases ite_s hG with ⟨q_6, hF⟩ | ⟨q_6, hF⟩
      · clear hG
        obtain ⟨a47, e48, hG⟩ := rf_s hF; clear hF
        obtain ⟨q49, hF⟩ := ck_s hG; clear hG
        obtain ⟨x50, -, hG⟩ := bnd_g hF; clear hF
        obtain ⟨H51, eH51, hF⟩ := bnd_g hG; clear hG
        replace hm : Mo H H51 := by rw [eH51]; exact hm
        exact hm.tr (mB_Ticker_runGroup_141 ih hF)
      · clear hG
        exact hm.tr (mB_Ticker_runGroup_141 ih hF)
set_option maxRecDepth 20000 in
set_option maxHeartbeats 2000000 in
theorem kB_Ticker_runGroup_99 {N : Nat} {p0 : Nat} {p1 : Int32} {c0 s0 C Sl : Nat} : ∀ (n : Nat) (l2 : Int32) (H : Hp) (r : Unit × Hp), B_Ticker_runGroup_99 N p0 p1 n l2 H = some r → c0 ≤ H.sh.length → s0 ≤ H.sl → H.sh.length ≤ c0 + C → H.sl ≤ s0 + Sl → r.2.sh.length ≤ c0 + C → r.2.sl ≤ s0 + Sl → ab_V y_Ticker_runGroup { frames := 5, cells := C, slots := Sl, locals := 148 } (po (.returned none) r.2) C Sl (H.sh.length - c0) (H.sl - s0) 99 [some (.ref p0), some (.int p1), some (.int l2), none] [] (hpw H) := by
  intro n
  induction n with
  | zero => intro l2 H r hF; rw [B_Ticker_runGroup_99] at hF; cases hF
  | succ n ih =>
    intro l2 H r hF hc0 hs0 hcc hss hC hS
    rw [B_Ticker_runGroup_99] at hF
    refine ab_iload_n d_Ticker_runGroup_99 rfl rfl ?_
    refine ab_aload_n d_Ticker_runGroup_100 rfl rfl rfl ?_
    obtain ⟨q12, hG⟩ := ck_s hF; clear hF
    obtain ⟨a13, e14, hF⟩ := rf_s hG; clear hG
    refine hp_getR (f := 0) d_Ticker_runGroup_101 q12 (by decide) rfl (by decide) (k2 120 rfl rfl) rfl e14 ?_
    obtain ⟨q15, hG⟩ := ck_s hF; clear hF
    refine hp_getI (f := 1) d_Ticker_runGroup_104 q15 (by decide) rfl (by decide) (k2 62 rfl rfl) rfl ?_
    refine ab_topi (fun x16 ex16 => ?_)
    replace hG := bnd_s ex16 hG
    refine ab_icmp_ge (tgt := 147) d_Ticker_runGroup_107 (by decide) (fun q17 => ?_) (fun q17 => ?_)
    · rw [if_pos q17] at hG
      exact ab_vret d_Ticker_runGroup_147 rfl (by show _ ≤ C; omega) (by show _ ≤ Sl; omega) (by have hr := Option.some.inj hG; subst hr; exact ⟨rfl, rfl⟩)
    · rw [if_neg q17] at hG
      refine ab_aload_n d_Ticker_runGroup_110 rfl rfl rfl ?_
      refine ab_aload_n d_Ticker_runGroup_111 rfl rfl rfl ?_
      obtain ⟨a18, e19, hF⟩ := rf_s hG; clear hG
      refine hp_getR (f := 0) d_Ticker_runGroup_112 q12 (by decide) rfl (by decide) (k2 120 rfl rfl) rfl e19 ?_
      obtain ⟨q20, hG⟩ := ck_s hF; clear hF
      obtain ⟨a21, e22, hF⟩ := rf_s hG; clear hG
      refine hp_getR (f := 0) d_Ticker_runGroup_115 q20 (by decide) rfl (by decide) (k2 61 rfl rfl) rfl e22 ?_
      refine ab_iload_n d_Ticker_runGroup_118 rfl rfl ?_
      refine ab_bipush (v := 11) d_Ticker_runGroup_119 (by decide) ?_
      refine ab_imul d_Ticker_runGroup_121 ?_
      obtain ⟨v24, H25, z23, hG⟩ := bC_s hF; clear hF
      refine hp_callV_a (v := .int v24) (H1 := H25) (As := [.ref a21, .int (l2 * (11 : Int32))]) (rest := []) d_Ticker_runGroup_122 (k_Ticker_acts z23) (ab_mkC s_Ticker_acts (Nat.le_of_ble_eq_true rfl) (Nat.le_of_ble_eq_true rfl) (show (H.sh.length - c0) + 0 ≤ C from by omega) (show (H.sl - s0) + 0 ≤ Sl from by omega)) (k7 82 rfl rfl) i_Ticker_acts v_Ticker_acts q12 (by decide) rfl rfl (Nat.le_of_ble_eq_true rfl) ?_
      have s_3 : Sa H H25 := (m_Ticker_acts z23)
      refine ab_widen (cells' := H.sh.length - c0) (slots' := H.sl - s0) (by show (H.sh.length - c0) + 0 ≤ _; omega) (by show (H.sl - s0) + 0 ≤ _; omega) ?_
      refine ab_if_ne (tgt := 141) d_Ticker_runGroup_125 (by decide) (fun q26 => ?_) (fun q26 => ?_)
      · rw [if_neg q26] at hG
        refine ab_widen (cells' := H25.sh.length - c0) (slots' := H25.sl - s0) (by rw [(s_3).1]; exact Nat.le_refl _) (by rw [(s_3).2]; exact Nat.le_refl _) ?_
        exact kB_Ticker_runGroup_141 (mB_Ticker_runGroup_99 n) ih hG (by rw [(s_3).1]; exact hc0) (by rw [(s_3).2]; exact hs0) (by rw [(s_3).1]; exact hcc) (by rw [(s_3).2]; exact hss) hC hS
      · rw [if_pos q26] at hG
        refine ab_aload_n d_Ticker_runGroup_128 rfl rfl rfl ?_
        obtain ⟨a27, e28, hF⟩ := rf_s hG; clear hG
        refine hp_getR (f := 2) d_Ticker_runGroup_129 (by rw [(s_3).1]; exact q12) (by decide) rfl (by decide) (k2 122 rfl rfl) rfl e28 ?_
        refine ab_dup d_Ticker_runGroup_132 rfl ?_
        obtain ⟨q29, hG⟩ := ck_s hF; clear hF
        rw [(s_3).1] at q29
        refine hp_getI (f := 3) d_Ticker_runGroup_133 (by rw [(s_3).1]; exact q29) (by decide) rfl (by decide) (k1 218 rfl rfl) rfl ?_
        refine ab_topi (fun x30 ex30 => ?_)
        replace hG := bnd_s ex30 hG
        refine ab_iconst (v := 1) d_Ticker_runGroup_136 (by decide) ?_
        refine ab_iadd d_Ticker_runGroup_137 ?_
        refine hp_putI (v := x30 + (1 : Int32)) (f := 3) d_Ticker_runGroup_138 (by rw [(s_3).1]; exact q29) (by decide) rfl (by decide) (k1 218 rfl rfl) rfl rfl (fun _ => rfl) (fun _ => rfl) rfl ?_
        refine hp_gen (fun H31 eH31 => ?_)
        replace hG := bnd_s eH31 hG
        have s_4 : Sa H H31 := by rw [eH31]; exact s_3
        refine ab_widen (cells' := H31.sh.length - c0) (slots' := H31.sl - s0) (by rw [(s_4).1]; exact Nat.le_refl _) (by rw [(s_4).2]; exact Nat.le_refl _) ?_
        exact kB_Ticker_runGroup_141 (mB_Ticker_runGroup_99 n) ih hG (by rw [(s_4).1]; exact hc0) (by rw [(s_4).2]; exact hs0) (by rw [(s_4).1]; exact hcc) (by rw [(s_4).2]; exact hss) hC hS
def B_Ticker_runGroup_91 (N : Nat) (p0 : Nat) (p1 : Int32) (kq10 : Int32 → Hp → Option (Unit × Hp)) (l2 : Int32) (H : Hp) : Option (Unit × Hp) :=
    kq10 (l2 + 1) H
set_option maxRecDepth 20000 in
set_option maxHeartbeats 2000000 in
theorem mB_Ticker_runGroup_91 {N : Nat} {p0 : Nat} {p1 : Int32} {kq10 : Int32 → Hp → Option (Unit × Hp)} (hm10 : ∀ (l2 : Int32) (H : Hp) (r : Unit × Hp), kq10 l2 H = some r → Mo H r.2) {l2 : Int32} {H : Hp} {r : Unit × Hp} (hF : B_Ticker_runGroup_91 N p0 p1 kq10 l2 H = some r) : Mo H r.2 := by
  unfold B_Ticker_runGroup_91 at hF
  have hm := Mo.rf H
  exact hm.tr (hm10 (l2 + 1) H r hF)
set_option maxRecDepth 20000 in
set_option maxHeartbeats 2000000 in
theorem kB_Ticker_runGroup_91 {N : Nat} {p0 : Nat} {p1 : Int32} {kq10 : Int32 → Hp → Option (Unit × Hp)} {c0 s0 C Sl : Nat} (hm10 : ∀ (l2 : Int32) (H : Hp) (r : Unit × Hp), kq10 l2 H = some r → Mo H r.2) (hk10 : ∀ (l2 : Int32) (H : Hp) (r : Unit × Hp), kq10 l2 H = some r → c0 ≤ H.sh.length → s0 ≤ H.sl → H.sh.length ≤ c0 + C → H.sl ≤ s0 + Sl → r.2.sh.length ≤ c0 + C → r.2.sl ≤ s0 + Sl → ab_V y_Ticker_runGroup { frames := 5, cells := C, slots := Sl, locals := 148 } (po (.returned none) r.2) C Sl (H.sh.length - c0) (H.sl - s0) 10 [some (.ref p0), some (.int p1), some (.int l2), none] [] (hpw H)) {l2 : Int32} {H : Hp} {r : Unit × Hp} (hF : B_Ticker_runGroup_91 N p0 p1 kq10 l2 H = some r) (hc0 : c0 ≤ H.sh.length) (hs0 : s0 ≤ H.sl) (hcc : H.sh.length ≤ c0 + C) (hss : H.sl ≤ s0 + Sl) (hC : r.2.sh.length ≤ c0 + C) (hS : r.2.sl ≤ s0 + Sl) : ab_V y_Ticker_runGroup { frames := 5, cells := C, slots := Sl, locals := 148 } (po (.returned none) r.2) C Sl (H.sh.length - c0) (H.sl - s0) 91 [some (.ref p0), some (.int p1), some (.int l2), none] [] (hpw H) := by
  unfold B_Ticker_runGroup_91 at hF
  refine ab_iinc (v := l2 + 1) (lv' := [some (.ref p0), some (.int p1), some (.int (l2 + 1)), none]) d_Ticker_runGroup_91 rfl rfl (by decide) rfl ?_
  refine ab_goto (tgt := 10) d_Ticker_runGroup_94 (by decide) ?_
  exact hk10 (l2 + 1) H r hF hc0 hs0 hcc hss hC hS
def B_Ticker_runGroup_85 (N : Nat) (p0 : Nat) (p1 : Int32) (kq10 : Int32 → Hp → Option (Unit × Hp)) (kq23 : Int32 → Int32 → Hp → Option (Unit × Hp)) (l2 : Int32) (l3 : Int32) (H : Hp) : Option (Unit × Hp) :=
    kq23 l2 (l3 + 1) H
set_option maxRecDepth 20000 in
set_option maxHeartbeats 2000000 in
theorem mB_Ticker_runGroup_85 {N : Nat} {p0 : Nat} {p1 : Int32} {kq10 : Int32 → Hp → Option (Unit × Hp)} {kq23 : Int32 → Int32 → Hp → Option (Unit × Hp)} (hm10 : ∀ (l2 : Int32) (H : Hp) (r : Unit × Hp), kq10 l2 H = some r → Mo H r.2) (hm23 : ∀ (l2 : Int32) (l3 : Int32) (H : Hp) (r : Unit × Hp), kq23 l2 l3 H = some r → Mo H r.2) {l2 : Int32} {l3 : Int32} {H : Hp} {r : Unit × Hp} (hF : B_Ticker_runGroup_85 N p0 p1 kq10 kq23 l2 l3 H = some r) : Mo H r.2 := by
  unfold B_Ticker_runGroup_85 at hF
  have hm := Mo.rf H
  exact hm.tr (hm23 l2 (l3 + 1) H r hF)
set_option maxRecDepth 20000 in
set_option maxHeartbeats 2000000 in
theorem kB_Ticker_runGroup_85 {N : Nat} {p0 : Nat} {p1 : Int32} {kq10 : Int32 → Hp → Option (Unit × Hp)} {kq23 : Int32 → Int32 → Hp → Option (Unit × Hp)} {c0 s0 C Sl : Nat} (hm10 : ∀ (l2 : Int32) (H : Hp) (r : Unit × Hp), kq10 l2 H = some r → Mo H r.2) (hm23 : ∀ (l2 : Int32) (l3 : Int32) (H : Hp) (r : Unit × Hp), kq23 l2 l3 H = some r → Mo H r.2) (hk10 : ∀ (l2 : Int32) (H : Hp) (r : Unit × Hp), kq10 l2 H = some r → c0 ≤ H.sh.length → s0 ≤ H.sl → H.sh.length ≤ c0 + C → H.sl ≤ s0 + Sl → r.2.sh.length ≤ c0 + C → r.2.sl ≤ s0 + Sl → ab_V y_Ticker_runGroup { frames := 5, cells := C, slots := Sl, locals := 148 } (po (.returned none) r.2) C Sl (H.sh.length - c0) (H.sl - s0) 10 [some (.ref p0), some (.int p1), some (.int l2), none] [] (hpw H)) (hk23 : ∀ (l2 : Int32) (l3 : Int32) (H : Hp) (r : Unit × Hp), kq23 l2 l3 H = some r → c0 ≤ H.sh.length → s0 ≤ H.sl → H.sh.length ≤ c0 + C → H.sl ≤ s0 + Sl → r.2.sh.length ≤ c0 + C → r.2.sl ≤ s0 + Sl → ab_V y_Ticker_runGroup { frames := 5, cells := C, slots := Sl, locals := 148 } (po (.returned none) r.2) C Sl (H.sh.length - c0) (H.sl - s0) 23 [some (.ref p0), some (.int p1), some (.int l2), some (.int l3)] [] (hpw H)) {l2 : Int32} {l3 : Int32} {H : Hp} {r : Unit × Hp} (hF : B_Ticker_runGroup_85 N p0 p1 kq10 kq23 l2 l3 H = some r) (hc0 : c0 ≤ H.sh.length) (hs0 : s0 ≤ H.sl) (hcc : H.sh.length ≤ c0 + C) (hss : H.sl ≤ s0 + Sl) (hC : r.2.sh.length ≤ c0 + C) (hS : r.2.sl ≤ s0 + Sl) : ab_V y_Ticker_runGroup { frames := 5, cells := C, slots := Sl, locals := 148 } (po (.returned none) r.2) C Sl (H.sh.length - c0) (H.sl - s0) 85 [some (.ref p0), some (.int p1), some (.int l2), some (.int l3)] [] (hpw H) := by
  unfold B_Ticker_runGroup_85 at hF
  refine ab_iinc (v := l3 + 1) (lv' := [some (.ref p0), some (.int p1), some (.int l2), some (.int (l3 + 1))]) d_Ticker_runGroup_85 rfl rfl (by decide) rfl ?_
  refine ab_goto (tgt := 23) d_Ticker_runGroup_88 (by decide) ?_
  exact hk23 l2 (l3 + 1) H r hF hc0 hs0 hcc hss hC hS
def B_Ticker_runGroup_23 (N : Nat) (p0 : Nat) (p1 : Int32) (kq10 : Int32 → Hp → Option (Unit × Hp)) : Nat → Int32 → Int32 → Hp → Option (Unit × Hp)
  | 0, _, _, _ => none
  | n + 1, l2, l3, H =>
    ck (H.sh[p0]? = some (9, 0)) <|
    rf (H.P p0 2) fun a53 =>
    ck (H.sh[a53]? = some (7, 0)) <|
    bnd ((H.D a53 9)) fun x56 =>
    if x56 ≤ l3 then
    B_Ticker_runGroup_91 N p0 p1 kq10 l2 H
    else
    rf (H.P p0 1) fun a58 =>
    ck (H.sh[a58]? = some (4, 0)) <|
    rf (H.P a58 14) fun a61 =>
    ar H 100 a61 fun n63 =>
    ck (inb l2 n63) <|
    bnd ((H.D a61 (l2).toNatClampNeg)) fun x66 =>
    if x66 = p1 then
    rf (H.P p0 2) fun a68 =>
    rf (H.P p0 1) fun a70 =>
    ck (H.sh[a70]? = some (4, 0)) <|
    rf (H.P a70 9) fun a73 =>
    ar H 100 a73 fun n75 =>
    ck (inb l2 n75) <|
    bnd ((H.D a73 (l2).toNatClampNeg)) fun x78 =>
    rf (H.P p0 1) fun a79 =>
    ck (H.sh[a79]? = some (4, 0)) <|
    rf (H.P a79 10) fun a82 =>
    ar H 100 a82 fun n84 =>
    ck (inb l2 n84) <|
    bnd ((H.D a82 (l2).toNatClampNeg)) fun x87 =>
    ck (H.sh[a68]? = some (7, 0)) <|
    bC (F_World_matches N a68 l3 x78 x87 H) fun v90 H91 =>
    if v90 = (0 : Int32) then
    B_Ticker_runGroup_85 N p0 p1 kq10 (fun l2 l3 H => B_Ticker_runGroup_23 N p0 p1 kq10 n l2 l3 H) l2 l3 H91
    else
    rf (H91.P p0 0) fun a93 =>
    ck (H91.sh[a93]? = some (8, 0)) <|
    bC (F_Row_runRow N a93 l2 l3 H91) fun v97 H98 =>
    B_Ticker_runGroup_85 N p0 p1 kq10 (fun l2 l3 H => B_Ticker_runGroup_23 N p0 p1 kq10 n l2 l3 H) l2 l3 H98
    else
    B_Ticker_runGroup_91 N p0 p1 kq10 l2 H
termination_by structural n => n
set_option maxRecDepth 20000 in
set_option maxHeartbeats 2000000 in
theorem mB_Ticker_runGroup_23 {N : Nat} {p0 : Nat} {p1 : Int32} {kq10 : Int32 → Hp → Option (Unit × Hp)} (hm10 : ∀ (l2 : Int32) (H : Hp) (r : Unit × Hp), kq10 l2 H = some r → Mo H r.2) : ∀ (n : Nat) (l2 : Int32) (l3 : Int32) (H : Hp) (r : Unit × Hp), B_Ticker_runGroup_23 N p0 p1 kq10 n l2 l3 H = some r → Mo H r.2 := by
  intro n
  induction n with
  | zero => intro l2 l3 H r hF; rw [B_Ticker_runGroup_23] at hF; cases hF
  | succ n ih =>
    intro l2 l3 H r hF
    rw [B_Ticker_runGroup_23] at hF
    have hm := Mo.rf H
    obtain ⟨q99, hG⟩ := ck_s hF; clear hF
    obtain ⟨a100, e101, hF⟩ := rf_s hG; clear hG
    obtain ⟨q102, hG⟩ := ck_s hF; clear hF
    obtain ⟨x103, -, hF⟩ := bnd_g hG; clear hG
    rcases ite_s hF with ⟨q_22, hG⟩ | ⟨q_22, hG⟩
    · clear hF
      exact hm.tr (mB_Ticker_runGroup_91 hm10 hG)
    · clear hF
      obtain ⟨a105, e106, hF⟩ := rf_s hG; clear hG
      obtain ⟨q107, hG⟩ := ck_s hF; clear hF
      obtain ⟨a108, e109, hF⟩ := rf_s hG; clear hG
      obtain ⟨n110, q111, hG⟩ := ar_s hF; clear hF
      obtain ⟨q112, hF⟩ := ck_s hG; clear hG
      obtain ⟨x113, -, hG⟩ := bnd_g hF; clear hF
      rcases ite_s hG with ⟨q_23, hF⟩ | ⟨q_23, hF⟩
      · clear hG
        obtain ⟨a115, e116, hG⟩ := rf_s hF; clear hF
        obtain ⟨a117, e118, hF⟩ := rf_s hG; clear hG
        obtain ⟨q119, hG⟩ := ck_s hF; clear hF
        obtain ⟨a120, e121, hF⟩ := rf_s hG; clear hG
        obtain ⟨n122, q123, hG⟩ := ar_s hF; clear hF
        obtain ⟨q124, hF⟩ := ck_s hG; clear hG
        obtain ⟨x125, -, hG⟩ := bnd_g hF; clear hF
        obtain ⟨a126, e127, hF⟩ := rf_s hG; clear hG
        obtain ⟨q128, hG⟩ := ck_s hF; clear hF
        obtain ⟨a129, e130, hF⟩ := rf_s hG; clear hG
        obtain ⟨n131, q132, hG⟩ := ar_s hF; clear hF
        obtain ⟨q133, hF⟩ := ck_s hG; clear hG
        obtain ⟨x134, -, hG⟩ := bnd_g hF; clear hF
        obtain ⟨q135, hF⟩ := ck_s hG; clear hG
        obtain ⟨v137, H138, z136, hG⟩ := bC_s hF; clear hF
        replace hm : Mo H H138 := hm.tr ((m_World_matches z136)).mo
        rcases ite_s hG with ⟨q_24, hF⟩ | ⟨q_24, hF⟩
        · clear hG
          exact hm.tr (mB_Ticker_runGroup_85 hm10 ih hF)
        · clear hG
          obtain ⟨a140, e141, hG⟩ := rf_s hF; clear hF
          obtain ⟨q142, hF⟩ := ck_s hG; clear hG
          obtain ⟨v144, H145, z143, hG⟩ := bC_s hF; clear hF
          replace hm : Mo H H145 := hm.tr (m_Row_runRow z143)
          exact hm.tr (mB_Ticker_runGroup_85 hm10 ih hG)
      · clear hG
        exact hm.tr (mB_Ticker_runGroup_91 hm10 hF)
set_option maxRecDepth 20000 in
set_option maxHeartbeats 2000000 in
theorem kB_Ticker_runGroup_23 {N : Nat} {p0 : Nat} {p1 : Int32} {kq10 : Int32 → Hp → Option (Unit × Hp)} {c0 s0 C Sl : Nat} (hm10 : ∀ (l2 : Int32) (H : Hp) (r : Unit × Hp), kq10 l2 H = some r → Mo H r.2) (hk10 : ∀ (l2 : Int32) (H : Hp) (r : Unit × Hp), kq10 l2 H = some r → c0 ≤ H.sh.length → s0 ≤ H.sl → H.sh.length ≤ c0 + C → H.sl ≤ s0 + Sl → r.2.sh.length ≤ c0 + C → r.2.sl ≤ s0 + Sl → ab_V y_Ticker_runGroup { frames := 5, cells := C, slots := Sl, locals := 148 } (po (.returned none) r.2) C Sl (H.sh.length - c0) (H.sl - s0) 10 [some (.ref p0), some (.int p1), some (.int l2), none] [] (hpw H)) : ∀ (n : Nat) (l2 : Int32) (l3 : Int32) (H : Hp) (r : Unit × Hp), B_Ticker_runGroup_23 N p0 p1 kq10 n l2 l3 H = some r → c0 ≤ H.sh.length → s0 ≤ H.sl → H.sh.length ≤ c0 + C → H.sl ≤ s0 + Sl → r.2.sh.length ≤ c0 + C → r.2.sl ≤ s0 + Sl → ab_V y_Ticker_runGroup { frames := 5, cells := C, slots := Sl, locals := 148 } (po (.returned none) r.2) C Sl (H.sh.length - c0) (H.sl - s0) 23 [some (.ref p0), some (.int p1), some (.int l2), some (.int l3)] [] (hpw H) := by
  intro n
  induction n with
  | zero => intro l2 l3 H r hF; rw [B_Ticker_runGroup_23] at hF; cases hF
  | succ n ih =>
    intro l2 l3 H r hF hc0 hs0 hcc hss hC hS
    rw [B_Ticker_runGroup_23] at hF
    refine ab_iload_n d_Ticker_runGroup_23 rfl rfl ?_
    refine ab_aload_n d_Ticker_runGroup_24 rfl rfl rfl ?_
    obtain ⟨q52, hG⟩ := ck_s hF; clear hF
    obtain ⟨a53, e54, hF⟩ := rf_s hG; clear hG
    refine hp_getR (f := 2) d_Ticker_runGroup_25 q52 (by decide) rfl (by decide) (k2 122 rfl rfl) rfl e54 ?_
    obtain ⟨q55, hG⟩ := ck_s hF; clear hF
    refine hp_getI (f := 9) d_Ticker_runGroup_28 q55 (by decide) rfl (by decide) (k1 232 rfl rfl) rfl ?_
    refine ab_topi (fun x56 ex56 => ?_)
    replace hG := bnd_s ex56 hG
    refine ab_icmp_ge (tgt := 91) d_Ticker_runGroup_31 (by decide) (fun q57 => ?_) (fun q57 => ?_)
    · rw [if_pos q57] at hG
      refine ab_le (lv' := [some (.ref p0), some (.int p1), some (.int l2), none]) ⟨rfl, ⟨rfl, ⟨rfl, trivial⟩⟩⟩ ?_
      exact kB_Ticker_runGroup_91 hm10 hk10 hG hc0 hs0 hcc hss hC hS
    · rw [if_neg q57] at hG
      refine ab_aload_n d_Ticker_runGroup_34 rfl rfl rfl ?_
      obtain ⟨a58, e59, hF⟩ := rf_s hG; clear hG
      refine hp_getR (f := 1) d_Ticker_runGroup_35 q52 (by decide) rfl (by decide) (k2 121 rfl rfl) rfl e59 ?_
      obtain ⟨q60, hG⟩ := ck_s hF; clear hF
      obtain ⟨a61, e62, hF⟩ := rf_s hG; clear hG
      refine hp_getR (f := 14) d_Ticker_runGroup_38 q60 (by decide) rfl (by decide) (k3 105 rfl rfl) rfl e62 ?_
      refine ab_iload_n d_Ticker_runGroup_41 rfl rfl ?_
      obtain ⟨n63, q64, hG⟩ := ar_s hF; clear hF
      obtain ⟨q65, hF⟩ := ck_s hG; clear hG
      refine hp_iald d_Ticker_runGroup_42 tI q64 q65 ?_
      refine ab_topi (fun x66 ex66 => ?_)
      replace hF := bnd_s ex66 hF
      refine ab_iload_n d_Ticker_runGroup_43 rfl rfl ?_
      refine ab_icmp_ne (tgt := 91) d_Ticker_runGroup_44 (by decide) (fun q67 => ?_) (fun q67 => ?_)
      · rw [if_neg q67] at hF
        refine ab_le (lv' := [some (.ref p0), some (.int p1), some (.int l2), none]) ⟨rfl, ⟨rfl, ⟨rfl, trivial⟩⟩⟩ ?_
        exact kB_Ticker_runGroup_91 hm10 hk10 hF hc0 hs0 hcc hss hC hS
      · rw [if_pos q67] at hF
        refine ab_aload_n d_Ticker_runGroup_47 rfl rfl rfl ?_
        obtain ⟨a68, e69, hG⟩ := rf_s hF; clear hF
        refine hp_getR (f := 2) d_Ticker_runGroup_48 q52 (by decide) rfl (by decide) (k2 122 rfl rfl) rfl e69 ?_
        refine ab_iload_n d_Ticker_runGroup_51 rfl rfl ?_
        refine ab_aload_n d_Ticker_runGroup_52 rfl rfl rfl ?_
        obtain ⟨a70, e71, hF⟩ := rf_s hG; clear hG
        refine hp_getR (f := 1) d_Ticker_runGroup_53 q52 (by decide) rfl (by decide) (k2 121 rfl rfl) rfl e71 ?_
        obtain ⟨q72, hG⟩ := ck_s hF; clear hF
        obtain ⟨a73, e74, hF⟩ := rf_s hG; clear hG
        refine hp_getR (f := 9) d_Ticker_runGroup_56 q72 (by decide) rfl (by decide) (k3 87 rfl rfl) rfl e74 ?_
        refine ab_iload_n d_Ticker_runGroup_59 rfl rfl ?_
        obtain ⟨n75, q76, hG⟩ := ar_s hF; clear hF
        obtain ⟨q77, hF⟩ := ck_s hG; clear hG
        refine hp_iald d_Ticker_runGroup_60 tI q76 q77 ?_
        refine ab_topi (fun x78 ex78 => ?_)
        replace hF := bnd_s ex78 hF
        refine ab_aload_n d_Ticker_runGroup_61 rfl rfl rfl ?_
        obtain ⟨a79, e80, hG⟩ := rf_s hF; clear hF
        refine hp_getR (f := 1) d_Ticker_runGroup_62 q52 (by decide) rfl (by decide) (k2 121 rfl rfl) rfl e80 ?_
        obtain ⟨q81, hF⟩ := ck_s hG; clear hG
        obtain ⟨a82, e83, hG⟩ := rf_s hF; clear hF
        refine hp_getR (f := 10) d_Ticker_runGroup_65 q81 (by decide) rfl (by decide) (k3 92 rfl rfl) rfl e83 ?_
        refine ab_iload_n d_Ticker_runGroup_68 rfl rfl ?_
        obtain ⟨n84, q85, hF⟩ := ar_s hG; clear hG
        obtain ⟨q86, hG⟩ := ck_s hF; clear hF
        refine hp_iald d_Ticker_runGroup_69 tI q85 q86 ?_
        refine ab_topi (fun x87 ex87 => ?_)
        replace hG := bnd_s ex87 hG
        obtain ⟨q88, hF⟩ := ck_s hG; clear hG
        obtain ⟨v90, H91, z89, hG⟩ := bC_s hF; clear hF
        refine hp_callV_a (v := .int v90) (H1 := H91) (As := [.int l3, .int x78, .int x87]) (rest := []) d_Ticker_runGroup_70 (k_World_matches z89) (ab_mkC s_World_matches (Nat.le_of_ble_eq_true rfl) (Nat.le_of_ble_eq_true rfl) (show (H.sh.length - c0) + 0 ≤ C from by omega) (show (H.sl - s0) + 0 ≤ Sl from by omega)) (k6 196 rfl rfl) i_World_matches v_World_matches q88 (by decide) rfl rfl (Nat.le_of_ble_eq_true rfl) ?_
        have s_9 : Sa H H91 := (m_World_matches z89)
        refine ab_widen (cells' := H.sh.length - c0) (slots' := H.sl - s0) (by show (H.sh.length - c0) + 0 ≤ _; omega) (by show (H.sl - s0) + 0 ≤ _; omega) ?_
        refine ab_if_eq (tgt := 85) d_Ticker_runGroup_73 (by decide) (fun q92 => ?_) (fun q92 => ?_)
        · rw [if_pos q92] at hG
          refine ab_widen (cells' := H91.sh.length - c0) (slots' := H91.sl - s0) (by rw [(s_9).1]; exact Nat.le_refl _) (by rw [(s_9).2]; exact Nat.le_refl _) ?_
          exact kB_Ticker_runGroup_85 hm10 (mB_Ticker_runGroup_23 hm10 n) hk10 ih hG (by rw [(s_9).1]; exact hc0) (by rw [(s_9).2]; exact hs0) (by rw [(s_9).1]; exact hcc) (by rw [(s_9).2]; exact hss) hC hS
        · rw [if_neg q92] at hG
          refine ab_aload_n d_Ticker_runGroup_76 rfl rfl rfl ?_
          obtain ⟨a93, e94, hF⟩ := rf_s hG; clear hG
          refine hp_getR (f := 0) d_Ticker_runGroup_77 (by rw [(s_9).1]; exact q52) (by decide) rfl (by decide) (k2 120 rfl rfl) rfl e94 ?_
          refine ab_iload_n d_Ticker_runGroup_80 rfl rfl ?_
          refine ab_iload_n d_Ticker_runGroup_81 rfl rfl ?_
          obtain ⟨q95, hG⟩ := ck_s hF; clear hF
          rw [(s_9).1] at q95
          obtain ⟨v97, H98, z96, hF⟩ := bC_s hG; clear hG
          refine ab_widen (cells' := H91.sh.length - c0) (slots' := H91.sl - s0) (by rw [(s_9).1]; exact Nat.le_refl _) (by rw [(s_9).2]; exact Nat.le_refl _) ?_
          have mz_10 : Mo H91 H98 := (m_Row_runRow z96)
          have b_11l := (mz_10).len
          have b_11s := (mz_10).2
          have b_11e := congrArg List.length (s_9).1
          have b_11f := (s_9).2
          have b_11c : c0 ≤ H98.sh.length := by omega
          have b_11d : s0 ≤ H98.sl := by omega
          have q_12 := (mz_10).get (by rw [(s_9).1]; exact q52)
          have q_13 := (mz_10).get (by rw [(s_9).1]; exact q55)
          have q_14 := (mz_10).get (by rw [(s_9).1]; exact q60)
          have q_15 := (mz_10).get (by rw [(s_9).1]; exact q64)
          have q_16 := (mz_10).get (by rw [(s_9).1]; exact q72)
          have q_17 := (mz_10).get (by rw [(s_9).1]; exact q76)
          have q_18 := (mz_10).get (by rw [(s_9).1]; exact q81)
          have q_19 := (mz_10).get (by rw [(s_9).1]; exact q85)
          have q_20 := (mz_10).get (by rw [(s_9).1]; exact q88)
          have q_21 := (mz_10).get (by rw [(s_9).1]; exact q95)
          have fH98 : Mo H98 r.2 := by
            have hm := Mo.rf H98
            exact hm.tr (mB_Ticker_runGroup_85 hm10 (mB_Ticker_runGroup_23 hm10 n) hF)
          have b_11m := (fH98).len
          have b_11n := (fH98).2
          have b_11p : H98.sh.length ≤ c0 + C := by omega
          have b_11q : H98.sl ≤ s0 + Sl := by omega
          refine hp_callV_v (H1 := H98) (As := [.int l2, .int l3]) (rest := []) d_Ticker_runGroup_82 (k_Row_runRow z96 (C := H98.sh.length - H91.sh.length) (Sl := H98.sl - H91.sl) (by show H98.sh.length ≤ _; omega) (by show H98.sl ≤ _; omega)) (ab_mkC s_Row_runRow (Nat.le_of_ble_eq_true rfl) (Nat.le_of_ble_eq_true rfl) (show (H91.sh.length - c0) + (H98.sh.length - H91.sh.length) ≤ C from by omega) (show (H91.sl - s0) + (H98.sl - H91.sl) ≤ Sl from by omega)) (k6 200 rfl rfl) i_Row_runRow v_Row_runRow (by rw [(s_9).1]; exact q95) (by decide) rfl rfl (Nat.le_of_ble_eq_true rfl) ?_
          refine ab_widen (cells' := H98.sh.length - c0) (slots' := H98.sl - s0) (by show _ + (H98.sh.length - H91.sh.length) ≤ _; omega) (by show _ + (H98.sl - H91.sl) ≤ _; omega) ?_
          clear b_11l b_11s b_11m b_11n b_11e b_11f
          exact kB_Ticker_runGroup_85 hm10 (mB_Ticker_runGroup_23 hm10 n) hk10 ih hF b_11c b_11d b_11p b_11q hC hS
def B_Ticker_runGroup_10 (N : Nat) (p0 : Nat) (p1 : Int32) : Nat → Int32 → Hp → Option (Unit × Hp)
  | 0, _, _ => none
  | n + 1, l2, H =>
    ck (H.sh[p0]? = some (9, 0)) <|
    rf (H.P p0 1) fun a7 =>
    ck (H.sh[a7]? = some (4, 0)) <|
    bnd ((H.D a7 7)) fun x10 =>
    if x10 ≤ l2 then
    B_Ticker_runGroup_99 N p0 p1 N 0 H
    else
    B_Ticker_runGroup_23 N p0 p1 (fun l2 H => B_Ticker_runGroup_10 N p0 p1 n l2 H) N l2 0 H
termination_by structural n => n
set_option maxRecDepth 20000 in
set_option maxHeartbeats 2000000 in
theorem mB_Ticker_runGroup_10 {N : Nat} {p0 : Nat} {p1 : Int32} : ∀ (n : Nat) (l2 : Int32) (H : Hp) (r : Unit × Hp), B_Ticker_runGroup_10 N p0 p1 n l2 H = some r → Mo H r.2 := by
  intro n
  induction n with
  | zero => intro l2 H r hF; rw [B_Ticker_runGroup_10] at hF; cases hF
  | succ n ih =>
    intro l2 H r hF
    rw [B_Ticker_runGroup_10] at hF
    have hm := Mo.rf H
    obtain ⟨q146, hG⟩ := ck_s hF; clear hF
    obtain ⟨a147, e148, hF⟩ := rf_s hG; clear hG
    obtain ⟨q149, hG⟩ := ck_s hF; clear hF
    obtain ⟨x150, -, hF⟩ := bnd_g hG; clear hG
    rcases ite_s hF with ⟨q_36, hG⟩ | ⟨q_36, hG⟩
    · clear hF
      exact hm.tr (mB_Ticker_runGroup_99 N 0 H r hG)
    · clear hF
      exact hm.tr (mB_Ticker_runGroup_23 ih N l2 0 H r hG)
set_option maxRecDepth 20000 in
set_option maxHeartbeats 2000000 in
theorem kB_Ticker_runGroup_10 {N : Nat} {p0 : Nat} {p1 : Int32} {c0 s0 C Sl : Nat} : ∀ (n : Nat) (l2 : Int32) (H : Hp) (r : Unit × Hp), B_Ticker_runGroup_10 N p0 p1 n l2 H = some r → c0 ≤ H.sh.length → s0 ≤ H.sl → H.sh.length ≤ c0 + C → H.sl ≤ s0 + Sl → r.2.sh.length ≤ c0 + C → r.2.sl ≤ s0 + Sl → ab_V y_Ticker_runGroup { frames := 5, cells := C, slots := Sl, locals := 148 } (po (.returned none) r.2) C Sl (H.sh.length - c0) (H.sl - s0) 10 [some (.ref p0), some (.int p1), some (.int l2), none] [] (hpw H) := by
  intro n
  induction n with
  | zero => intro l2 H r hF; rw [B_Ticker_runGroup_10] at hF; cases hF
  | succ n ih =>
    intro l2 H r hF hc0 hs0 hcc hss hC hS
    rw [B_Ticker_runGroup_10] at hF
    refine ab_iload_n d_Ticker_runGroup_10 rfl rfl ?_
    refine ab_aload_n d_Ticker_runGroup_11 rfl rfl rfl ?_
    obtain ⟨q6, hG⟩ := ck_s hF; clear hF
    obtain ⟨a7, e8, hF⟩ := rf_s hG; clear hG
    refine hp_getR (f := 1) d_Ticker_runGroup_12 q6 (by decide) rfl (by decide) (k2 121 rfl rfl) rfl e8 ?_
    obtain ⟨q9, hG⟩ := ck_s hF; clear hF
    refine hp_getI (f := 7) d_Ticker_runGroup_15 q9 (by decide) rfl (by decide) (k3 81 rfl rfl) rfl ?_
    refine ab_topi (fun x10 ex10 => ?_)
    replace hG := bnd_s ex10 hG
    refine ab_icmp_ge (tgt := 97) d_Ticker_runGroup_18 (by decide) (fun q11 => ?_) (fun q11 => ?_)
    · rw [if_pos q11] at hG
      refine ab_iconst (v := 0) d_Ticker_runGroup_97 (by decide) ?_
      refine ab_istore_n (lv' := [some (.ref p0), some (.int p1), some (.int 0), none]) d_Ticker_runGroup_98 rfl (by decide) rfl ?_
      exact kB_Ticker_runGroup_99 N 0 H r hG hc0 hs0 hcc hss hC hS
    · rw [if_neg q11] at hG
      refine ab_iconst (v := 0) d_Ticker_runGroup_21 (by decide) ?_
      refine ab_istore_n (lv' := [some (.ref p0), some (.int p1), some (.int l2), some (.int 0)]) d_Ticker_runGroup_22 rfl (by decide) rfl ?_
      exact kB_Ticker_runGroup_23 (mB_Ticker_runGroup_10 n) ih N l2 0 H r hG hc0 hs0 hcc hss hC hS
def F_Ticker_runGroup (N : Nat) (p0 : Nat) (p1 : Int32) (H : Hp) : Option (Unit × Hp) :=
    ck (H.sh[p0]? = some (9, 0)) <|
    rf (H.P p0 0) fun a2 =>
    ck (H.sh[a2]? = some (8, 0)) <|
    bnd (H.sD a2 1 (0 : Int32)) fun H5 =>
    B_Ticker_runGroup_10 N p0 p1 N 0 H5
set_option maxRecDepth 20000 in
set_option maxHeartbeats 2000000 in
theorem m_Ticker_runGroup {N : Nat} {p0 : Nat} {p1 : Int32} {H : Hp} {r : Unit × Hp} (hF : F_Ticker_runGroup N p0 p1 H = some r) : Mo H r.2 := by
  unfold F_Ticker_runGroup at hF
  have hm := Mo.rf H
  obtain ⟨q152, hG⟩ := ck_s hF; clear hF
  obtain ⟨a153, e154, hF⟩ := rf_s hG; clear hG
  obtain ⟨q155, hG⟩ := ck_s hF; clear hF
  obtain ⟨H156, eH156, hF⟩ := bnd_g hG; clear hG
  replace hm : Mo H H156 := by rw [eH156]; exact hm
  exact hm.tr (mB_Ticker_runGroup_10 N 0 H156 r hF)
set_option maxRecDepth 20000 in
set_option maxHeartbeats 2000000 in
theorem k_Ticker_runGroup {N : Nat} {p0 : Nat} {p1 : Int32} {H : Hp} {r : Unit × Hp} {C Sl : Nat} (hF : F_Ticker_runGroup N p0 p1 H = some r) (hC : r.2.sh.length ≤ H.sh.length + C) (hS : r.2.sl ≤ H.sl + Sl) : ab_M y_Ticker_runGroup { frames := 5, cells := C, slots := Sl, locals := 148 } [.ref p0, .int p1] (hpw H) (po (.returned none) r.2) := by
  unfold F_Ticker_runGroup at hF
  obtain ⟨c0, e0⟩ : ∃ q, q = H.sh.length := ⟨_, rfl⟩
  obtain ⟨s0, e1⟩ : ∃ q, q = H.sl := ⟨_, rfl⟩
  rw [← e0] at hC
  rw [← e1] at hS
  have hc0 : c0 ≤ H.sh.length := Nat.le_of_eq e0
  have hs0 : s0 ≤ H.sl := Nat.le_of_eq e1
  have hcc : H.sh.length ≤ c0 + C := by omega
  have hss : H.sl ≤ s0 + Sl := by omega
  refine ab_of2 (lv := [some (.ref p0), some (.int p1), none, none]) 2 rfl rfl (Nat.le_of_ble_eq_true rfl) ?_
  refine ab_widen (cells' := H.sh.length - c0) (slots' := H.sl - s0) (Nat.zero_le _) (Nat.zero_le _) ?_
  refine ab_aload_n d_Ticker_runGroup_0 rfl rfl rfl ?_
  obtain ⟨q1, hG⟩ := ck_s hF; clear hF
  obtain ⟨a2, e3, hF⟩ := rf_s hG; clear hG
  refine hp_getR (f := 0) d_Ticker_runGroup_1 q1 (by decide) rfl (by decide) (k2 120 rfl rfl) rfl e3 ?_
  refine ab_iconst (v := 0) d_Ticker_runGroup_4 (by decide) ?_
  obtain ⟨q4, hG⟩ := ck_s hF; clear hF
  refine hp_putI (v := 0) (f := 1) d_Ticker_runGroup_5 q4 (by decide) rfl (by decide) (k2 62 rfl rfl) rfl rfl (fun _ => rfl) (fun _ => rfl) rfl ?_
  refine hp_gen (fun H5 eH5 => ?_)
  replace hG := bnd_s eH5 hG
  have s_1 : Sa H H5 := by rw [eH5]; exact Sa.rf _
  refine ab_iconst (v := 0) d_Ticker_runGroup_8 (by decide) ?_
  refine ab_istore_n (lv' := [some (.ref p0), some (.int p1), some (.int 0), none]) d_Ticker_runGroup_9 rfl (by decide) rfl ?_
  refine ab_widen (cells' := H5.sh.length - c0) (slots' := H5.sl - s0) (by rw [(s_1).1]; exact Nat.le_refl _) (by rw [(s_1).2]; exact Nat.le_refl _) ?_
  exact kB_Ticker_runGroup_10 N 0 H5 r hG (by rw [(s_1).1]; exact hc0) (by rw [(s_1).2]; exact hs0) (by rw [(s_1).1]; exact hcc) (by rw [(s_1).2]; exact hss) hC hS
def y_World_dropDue : ab_Y := (⟨"WorldEngine$World", "dropDue", "()V"⟩, prog_12_method_18_code, 3, none, [])
theorem d_World_dropDue_0 : decode y_World_dropDue.2.1 0 = .ok (.iconst 0, 1) := by decide +kernel
theorem d_World_dropDue_1 : decode y_World_dropDue.2.1 1 = .ok (.istore_n 1, 1) := by decide +kernel
theorem d_World_dropDue_2 : decode y_World_dropDue.2.1 2 = .ok (.iconst 0, 1) := by decide +kernel
theorem d_World_dropDue_3 : decode y_World_dropDue.2.1 3 = .ok (.istore_n 2, 1) := by decide +kernel
theorem d_World_dropDue_4 : decode y_World_dropDue.2.1 4 = .ok (.iload_n 2, 1) := by decide +kernel
theorem d_World_dropDue_5 : decode y_World_dropDue.2.1 5 = .ok (.aload_n 0, 1) := by decide +kernel
theorem d_World_dropDue_6 : decode y_World_dropDue.2.1 6 = .ok (.getfield 55, 3) := by decide +kernel
theorem d_World_dropDue_9 : decode y_World_dropDue.2.1 9 = .ok (.if_icmp .ge 51, 3) := by decide +kernel
theorem d_World_dropDue_12 : decode y_World_dropDue.2.1 12 = .ok (.aload_n 0, 1) := by decide +kernel
theorem d_World_dropDue_13 : decode y_World_dropDue.2.1 13 = .ok (.getfield 27, 3) := by decide +kernel
theorem d_World_dropDue_16 : decode y_World_dropDue.2.1 16 = .ok (.iload_n 2, 1) := by decide +kernel
theorem d_World_dropDue_17 : decode y_World_dropDue.2.1 17 = .ok (.bipush 7, 2) := by decide +kernel
theorem d_World_dropDue_19 : decode y_World_dropDue.2.1 19 = .ok (.imul, 1) := by decide +kernel
theorem d_World_dropDue_20 : decode y_World_dropDue.2.1 20 = .ok (.iconst 1, 1) := by decide +kernel
theorem d_World_dropDue_21 : decode y_World_dropDue.2.1 21 = .ok (.iadd, 1) := by decide +kernel
theorem d_World_dropDue_22 : decode y_World_dropDue.2.1 22 = .ok (.iaload, 1) := by decide +kernel
theorem d_World_dropDue_23 : decode y_World_dropDue.2.1 23 = .ok (.aload_n 0, 1) := by decide +kernel
theorem d_World_dropDue_24 : decode y_World_dropDue.2.1 24 = .ok (.getfield 33, 3) := by decide +kernel
theorem d_World_dropDue_27 : decode y_World_dropDue.2.1 27 = .ok (.if_icmp .eq 27, 3) := by decide +kernel
theorem d_World_dropDue_30 : decode y_World_dropDue.2.1 30 = .ok (.aload_n 0, 1) := by decide +kernel
theorem d_World_dropDue_31 : decode y_World_dropDue.2.1 31 = .ok (.getfield 27, 3) := by decide +kernel
theorem d_World_dropDue_34 : decode y_World_dropDue.2.1 34 = .ok (.iload_n 2, 1) := by decide +kernel
theorem d_World_dropDue_35 : decode y_World_dropDue.2.1 35 = .ok (.bipush 7, 2) := by decide +kernel
theorem d_World_dropDue_37 : decode y_World_dropDue.2.1 37 = .ok (.imul, 1) := by decide +kernel
theorem d_World_dropDue_38 : decode y_World_dropDue.2.1 38 = .ok (.aload_n 0, 1) := by decide +kernel
theorem d_World_dropDue_39 : decode y_World_dropDue.2.1 39 = .ok (.getfield 27, 3) := by decide +kernel
theorem d_World_dropDue_42 : decode y_World_dropDue.2.1 42 = .ok (.iload_n 1, 1) := by decide +kernel
theorem d_World_dropDue_43 : decode y_World_dropDue.2.1 43 = .ok (.bipush 7, 2) := by decide +kernel
theorem d_World_dropDue_45 : decode y_World_dropDue.2.1 45 = .ok (.imul, 1) := by decide +kernel
theorem d_World_dropDue_46 : decode y_World_dropDue.2.1 46 = .ok (.bipush 7, 2) := by decide +kernel
theorem d_World_dropDue_48 : decode y_World_dropDue.2.1 48 = .ok (.invokestatic 67, 3) := by decide +kernel
theorem d_World_dropDue_51 : decode y_World_dropDue.2.1 51 = .ok (.iinc 1 1, 3) := by decide +kernel
theorem d_World_dropDue_54 : decode y_World_dropDue.2.1 54 = .ok (.iinc 2 1, 3) := by decide +kernel
theorem d_World_dropDue_57 : decode y_World_dropDue.2.1 57 = .ok (.goto (-53), 3) := by decide +kernel
theorem d_World_dropDue_60 : decode y_World_dropDue.2.1 60 = .ok (.aload_n 0, 1) := by decide +kernel
theorem d_World_dropDue_61 : decode y_World_dropDue.2.1 61 = .ok (.iload_n 1, 1) := by decide +kernel
theorem d_World_dropDue_62 : decode y_World_dropDue.2.1 62 = .ok (.putfield 55, 3) := by decide +kernel
theorem d_World_dropDue_65 : decode y_World_dropDue.2.1 65 = .ok (.return_, 1) := by decide +kernel
theorem s_World_dropDue : ab_Stat y_World_dropDue 0 := ⟨(k7 129 rfl rfl), (k1 10 rfl rfl), ⟨by decide, by decide⟩, by decide +kernel⟩
theorem i_World_dropDue : Cond.instanceMethod y_World_dropDue.1 ∈ ab_T := (k7 127 rfl rfl)
theorem v_World_dropDue : Cond.selects "WorldEngine$World" y_World_dropDue.1 y_World_dropDue.1 ∈ ab_T := (k7 128 rfl rfl)
def B_World_dropDue_54 (N : Nat) (p0 : Nat) (kq4 : Int32 → Int32 → Hp → Option (Unit × Hp)) (l1 : Int32) (l2 : Int32) (H : Hp) : Option (Unit × Hp) :=
    kq4 l1 (l2 + 1) H
set_option maxRecDepth 20000 in
set_option maxHeartbeats 2000000 in
theorem mB_World_dropDue_54 {N : Nat} {p0 : Nat} {kq4 : Int32 → Int32 → Hp → Option (Unit × Hp)} (hm4 : ∀ (l1 : Int32) (l2 : Int32) (H : Hp) (r : Unit × Hp), kq4 l1 l2 H = some r → Sa H r.2) {l1 : Int32} {l2 : Int32} {H : Hp} {r : Unit × Hp} (hF : B_World_dropDue_54 N p0 kq4 l1 l2 H = some r) : Sa H r.2 := by
  unfold B_World_dropDue_54 at hF
  have hm := Sa.rf H
  exact hm.tr (hm4 l1 (l2 + 1) H r hF)
set_option maxRecDepth 20000 in
set_option maxHeartbeats 2000000 in
theorem kB_World_dropDue_54 {N : Nat} {p0 : Nat} {kq4 : Int32 → Int32 → Hp → Option (Unit × Hp)} (hm4 : ∀ (l1 : Int32) (l2 : Int32) (H : Hp) (r : Unit × Hp), kq4 l1 l2 H = some r → Sa H r.2) (hk4 : ∀ (l1 : Int32) (l2 : Int32) (H : Hp) (r : Unit × Hp), kq4 l1 l2 H = some r → ab_V y_World_dropDue { frames := 1, cells := 0, slots := 0, locals := 60 } (po (.returned none) r.2) 0 0 0 0 4 [some (.ref p0), some (.int l1), some (.int l2)] [] (hpw H)) {l1 : Int32} {l2 : Int32} {H : Hp} {r : Unit × Hp} (hF : B_World_dropDue_54 N p0 kq4 l1 l2 H = some r) : ab_V y_World_dropDue { frames := 1, cells := 0, slots := 0, locals := 60 } (po (.returned none) r.2) 0 0 0 0 54 [some (.ref p0), some (.int l1), some (.int l2)] [] (hpw H) := by
  unfold B_World_dropDue_54 at hF
  refine ab_iinc (v := l2 + 1) (lv' := [some (.ref p0), some (.int l1), some (.int (l2 + 1))]) d_World_dropDue_54 rfl rfl (by decide) rfl ?_
  refine ab_goto (tgt := 4) d_World_dropDue_57 (by decide) ?_
  exact hk4 l1 (l2 + 1) H r hF
def B_World_dropDue_4 (N : Nat) (p0 : Nat) : Nat → Int32 → Int32 → Hp → Option (Unit × Hp)
  | 0, _, _, _ => none
  | n + 1, l1, l2, H =>
    ck (H.sh[p0]? = some (7, 0)) <|
    bnd ((H.D p0 13)) fun x2 =>
    if x2 ≤ l2 then
    bnd (H.sD p0 13 l1) fun H4 =>
    some ((), H4)
    else
    rf (H.P p0 12) fun a5 =>
    ar H 100 a5 fun n7 =>
    ck (inb ((l2 * (7 : Int32)) + (1 : Int32)) n7) <|
    bnd ((H.D a5 (((l2 * (7 : Int32)) + (1 : Int32))).toNatClampNeg)) fun x10 =>
    bnd ((H.D p0 0)) fun x11 =>
    if x10 = x11 then
    B_World_dropDue_54 N p0 (fun l1 l2 H => B_World_dropDue_4 N p0 n l1 l2 H) l1 l2 H
    else
    rf (H.P p0 12) fun a13 =>
    rf (H.P p0 12) fun a15 =>
    ar H 100 a13 fun n17 =>
    ar H 100 a15 fun n19 =>
    ck (¬ (l2 * (7 : Int32)) < 0) <|
    ck (¬ (l1 * (7 : Int32)) < 0) <|
    ck (¬ (7 : Int32) < 0) <|
    ck (((l2 * (7 : Int32))).toNatClampNeg + ((7 : Int32)).toNatClampNeg ≤ n17) <|
    ck (((l1 * (7 : Int32))).toNatClampNeg + ((7 : Int32)).toNatClampNeg ≤ n19) <|
    bnd (H.cpy a13 a15 ((l2 * (7 : Int32))).toNatClampNeg ((l1 * (7 : Int32))).toNatClampNeg ((7 : Int32)).toNatClampNeg) fun H26 =>
    B_World_dropDue_54 N p0 (fun l1 l2 H => B_World_dropDue_4 N p0 n l1 l2 H) (l1 + 1) l2 H26
termination_by structural n => n
set_option maxRecDepth 20000 in
set_option maxHeartbeats 2000000 in
theorem mB_World_dropDue_4 {N : Nat} {p0 : Nat} : ∀ (n : Nat) (l1 : Int32) (l2 : Int32) (H : Hp) (r : Unit × Hp), B_World_dropDue_4 N p0 n l1 l2 H = some r → Sa H r.2 := by
  intro n
  induction n with
  | zero => intro l1 l2 H r hF; rw [B_World_dropDue_4] at hF; cases hF
  | succ n ih =>
    intro l1 l2 H r hF
    rw [B_World_dropDue_4] at hF
    have hm := Sa.rf H
    obtain ⟨q27, hG⟩ := ck_s hF; clear hF
    obtain ⟨x28, -, hF⟩ := bnd_g hG; clear hG
    rcases ite_s hF with ⟨q_3, hG⟩ | ⟨q_3, hG⟩
    · clear hF
      obtain ⟨H30, eH30, hF⟩ := bnd_g hG; clear hG
      replace hm : Sa H H30 := by rw [eH30]; exact hm
      have hr := Option.some.inj hF; subst hr
      exact hm
    · clear hF
      obtain ⟨a31, e32, hF⟩ := rf_s hG; clear hG
      obtain ⟨n33, q34, hG⟩ := ar_s hF; clear hF
      obtain ⟨q35, hF⟩ := ck_s hG; clear hG
      obtain ⟨x36, -, hG⟩ := bnd_g hF; clear hF
      obtain ⟨x37, -, hF⟩ := bnd_g hG; clear hG
      rcases ite_s hF with ⟨q_5, hG⟩ | ⟨q_5, hG⟩
      · clear hF
        exact hm.tr (mB_World_dropDue_54 ih hG)
      · clear hF
        obtain ⟨a39, e40, hF⟩ := rf_s hG; clear hG
        obtain ⟨a41, e42, hG⟩ := rf_s hF; clear hF
        obtain ⟨n43, q44, hF⟩ := ar_s hG; clear hG
        obtain ⟨n45, q46, hG⟩ := ar_s hF; clear hF
        obtain ⟨q47, hF⟩ := ck_s hG; clear hG
        obtain ⟨q48, hG⟩ := ck_s hF; clear hF
        obtain ⟨q49, hF⟩ := ck_s hG; clear hG
        obtain ⟨q50, hG⟩ := ck_s hF; clear hF
        obtain ⟨q51, hF⟩ := ck_s hG; clear hG
        obtain ⟨H52, eH52, hG⟩ := bnd_g hF; clear hF
        replace hm : Sa H H52 := by rw [eH52]; exact hm
        exact hm.tr (mB_World_dropDue_54 ih hG)
set_option maxRecDepth 20000 in
set_option maxHeartbeats 2000000 in
theorem kB_World_dropDue_4 {N : Nat} {p0 : Nat} : ∀ (n : Nat) (l1 : Int32) (l2 : Int32) (H : Hp) (r : Unit × Hp), B_World_dropDue_4 N p0 n l1 l2 H = some r → ab_V y_World_dropDue { frames := 1, cells := 0, slots := 0, locals := 60 } (po (.returned none) r.2) 0 0 0 0 4 [some (.ref p0), some (.int l1), some (.int l2)] [] (hpw H) := by
  intro n
  induction n with
  | zero => intro l1 l2 H r hF; rw [B_World_dropDue_4] at hF; cases hF
  | succ n ih =>
    intro l1 l2 H r hF
    rw [B_World_dropDue_4] at hF
    refine ab_iload_n d_World_dropDue_4 rfl rfl ?_
    refine ab_aload_n d_World_dropDue_5 rfl rfl rfl ?_
    obtain ⟨q1, hG⟩ := ck_s hF; clear hF
    refine hp_getI (f := 13) d_World_dropDue_6 q1 (by decide) rfl (by decide) (k2 3 rfl rfl) rfl ?_
    refine ab_topi (fun x2 ex2 => ?_)
    replace hG := bnd_s ex2 hG
    refine ab_icmp_ge (tgt := 60) d_World_dropDue_9 (by decide) (fun q3 => ?_) (fun q3 => ?_)
    · rw [if_pos q3] at hG
      refine ab_aload_n d_World_dropDue_60 rfl rfl rfl ?_
      refine ab_iload_n d_World_dropDue_61 rfl rfl ?_
      refine hp_putI (v := l1) (f := 13) d_World_dropDue_62 q1 (by decide) rfl (by decide) (k2 3 rfl rfl) rfl rfl (fun _ => rfl) (fun _ => rfl) rfl ?_
      refine hp_gen (fun H4 eH4 => ?_)
      replace hG := bnd_s eH4 hG
      have s_1 : Sa H H4 := by rw [eH4]; exact Sa.rf _
      exact ab_vret d_World_dropDue_65 rfl (Nat.le_refl _) (Nat.le_refl _) (by have hr := Option.some.inj hG; subst hr; exact ⟨rfl, rfl⟩)
    · rw [if_neg q3] at hG
      refine ab_aload_n d_World_dropDue_12 rfl rfl rfl ?_
      obtain ⟨a5, e6, hF⟩ := rf_s hG; clear hG
      refine hp_getR (f := 12) d_World_dropDue_13 q1 (by decide) rfl (by decide) (k1 238 rfl rfl) rfl e6 ?_
      refine ab_iload_n d_World_dropDue_16 rfl rfl ?_
      refine ab_bipush (v := 7) d_World_dropDue_17 (by decide) ?_
      refine ab_imul d_World_dropDue_19 ?_
      refine ab_iconst (v := 1) d_World_dropDue_20 (by decide) ?_
      refine ab_iadd d_World_dropDue_21 ?_
      obtain ⟨n7, q8, hG⟩ := ar_s hF; clear hF
      obtain ⟨q9, hF⟩ := ck_s hG; clear hG
      refine hp_iald d_World_dropDue_22 tI q8 q9 ?_
      refine ab_topi (fun x10 ex10 => ?_)
      replace hF := bnd_s ex10 hF
      refine ab_aload_n d_World_dropDue_23 rfl rfl rfl ?_
      refine hp_getI (f := 0) d_World_dropDue_24 q1 (by decide) rfl (by decide) (k1 204 rfl rfl) rfl ?_
      refine ab_topi (fun x11 ex11 => ?_)
      replace hF := bnd_s ex11 hF
      refine ab_icmp_eq (tgt := 54) d_World_dropDue_27 (by decide) (fun q12 => ?_) (fun q12 => ?_)
      · rw [if_pos q12] at hF
        exact kB_World_dropDue_54 (mB_World_dropDue_4 n) ih hF
      · rw [if_neg q12] at hF
        refine ab_aload_n d_World_dropDue_30 rfl rfl rfl ?_
        obtain ⟨a13, e14, hG⟩ := rf_s hF; clear hF
        refine hp_getR (f := 12) d_World_dropDue_31 q1 (by decide) rfl (by decide) (k1 238 rfl rfl) rfl e14 ?_
        refine ab_iload_n d_World_dropDue_34 rfl rfl ?_
        refine ab_bipush (v := 7) d_World_dropDue_35 (by decide) ?_
        refine ab_imul d_World_dropDue_37 ?_
        refine ab_aload_n d_World_dropDue_38 rfl rfl rfl ?_
        obtain ⟨a15, e16, hF⟩ := rf_s hG; clear hG
        refine hp_getR (f := 12) d_World_dropDue_39 q1 (by decide) rfl (by decide) (k1 238 rfl rfl) rfl e16 ?_
        refine ab_iload_n d_World_dropDue_42 rfl rfl ?_
        refine ab_bipush (v := 7) d_World_dropDue_43 (by decide) ?_
        refine ab_imul d_World_dropDue_45 ?_
        refine ab_bipush (v := 7) d_World_dropDue_46 (by decide) ?_
        obtain ⟨n17, q18, hG⟩ := ar_s hF; clear hF
        obtain ⟨n19, q20, hF⟩ := ar_s hG; clear hG
        obtain ⟨q21, hG⟩ := ck_s hF; clear hF
        obtain ⟨q22, hF⟩ := ck_s hG; clear hG
        obtain ⟨q23, hG⟩ := ck_s hF; clear hF
        obtain ⟨q24, hF⟩ := ck_s hG; clear hG
        obtain ⟨q25, hG⟩ := ck_s hF; clear hF
        refine hp_acopy d_World_dropDue_48 (k6 111 rfl rfl) (k6 113 rfl rfl) (k6 112 rfl rfl) (k1 29 rfl rfl) q18 q20 q21 q22 q23 q24 q25 (Nat.le_of_ble_eq_true rfl) (Nat.le_of_ble_eq_true rfl) ?_
        refine hp_gen (fun H26 eH26 => ?_)
        replace hG := bnd_s eH26 hG
        have s_2 : Sa H H26 := by rw [eH26]; exact Sa.rf _
        refine ab_iinc (v := l1 + 1) (lv' := [some (.ref p0), some (.int (l1 + 1)), some (.int l2)]) d_World_dropDue_51 rfl rfl (by decide) rfl ?_
        exact kB_World_dropDue_54 (mB_World_dropDue_4 n) ih hG
def F_World_dropDue (N : Nat) (p0 : Nat) (H : Hp) : Option (Unit × Hp) :=
    B_World_dropDue_4 N p0 N 0 0 H
set_option maxRecDepth 20000 in
set_option maxHeartbeats 2000000 in
theorem m_World_dropDue {N : Nat} {p0 : Nat} {H : Hp} {r : Unit × Hp} (hF : F_World_dropDue N p0 H = some r) : Sa H r.2 := by
  unfold F_World_dropDue at hF
  have hm := Sa.rf H
  exact hm.tr (mB_World_dropDue_4 N 0 0 H r hF)
set_option maxRecDepth 20000 in
set_option maxHeartbeats 2000000 in
theorem k_World_dropDue {N : Nat} {p0 : Nat} {H : Hp} {r : Unit × Hp} (hF : F_World_dropDue N p0 H = some r) : ab_M y_World_dropDue { frames := 1, cells := 0, slots := 0, locals := 60 } [.ref p0] (hpw H) (po (.returned none) r.2) := by
  unfold F_World_dropDue at hF
  refine ab_of2 (lv := [some (.ref p0), none, none]) 2 rfl rfl (Nat.le_of_ble_eq_true rfl) ?_
  refine ab_iconst (v := 0) d_World_dropDue_0 (by decide) ?_
  refine ab_istore_n (lv' := [some (.ref p0), some (.int 0), none]) d_World_dropDue_1 rfl (by decide) rfl ?_
  refine ab_iconst (v := 0) d_World_dropDue_2 (by decide) ?_
  refine ab_istore_n (lv' := [some (.ref p0), some (.int 0), some (.int 0)]) d_World_dropDue_3 rfl (by decide) rfl ?_
  exact kB_World_dropDue_4 N 0 0 H r hF
def y_Ticker_runTick : ab_Y := (⟨"WorldEngine$Ticker", "runTick", "(LWorldEngine$Program;LWorldEngine$World;[I)V"⟩, prog_11_method_2_code, 5, none, [])
theorem d_Ticker_runTick_0 : decode y_Ticker_runTick.2.1 0 = .ok (.aload_n 0, 1) := by decide +kernel
theorem d_Ticker_runTick_1 : decode y_Ticker_runTick.2.1 1 = .ok (.aload_n 1, 1) := by decide +kernel
theorem d_Ticker_runTick_2 : decode y_Ticker_runTick.2.1 2 = .ok (.putfield 16, 3) := by decide +kernel
theorem d_Ticker_runTick_5 : decode y_Ticker_runTick.2.1 5 = .ok (.aload_n 0, 1) := by decide +kernel
theorem d_Ticker_runTick_6 : decode y_Ticker_runTick.2.1 6 = .ok (.aload_n 2, 1) := by decide +kernel
theorem d_Ticker_runTick_7 : decode y_Ticker_runTick.2.1 7 = .ok (.putfield 20, 3) := by decide +kernel
theorem d_Ticker_runTick_10 : decode y_Ticker_runTick.2.1 10 = .ok (.aload_n 0, 1) := by decide +kernel
theorem d_Ticker_runTick_11 : decode y_Ticker_runTick.2.1 11 = .ok (.getfield 20, 3) := by decide +kernel
theorem d_Ticker_runTick_14 : decode y_Ticker_runTick.2.1 14 = .ok (.dup, 1) := by decide +kernel
theorem d_Ticker_runTick_15 : decode y_Ticker_runTick.2.1 15 = .ok (.getfield 24, 3) := by decide +kernel
theorem d_Ticker_runTick_18 : decode y_Ticker_runTick.2.1 18 = .ok (.iconst 1, 1) := by decide +kernel
theorem d_Ticker_runTick_19 : decode y_Ticker_runTick.2.1 19 = .ok (.iadd, 1) := by decide +kernel
theorem d_Ticker_runTick_20 : decode y_Ticker_runTick.2.1 20 = .ok (.putfield 24, 3) := by decide +kernel
theorem d_Ticker_runTick_23 : decode y_Ticker_runTick.2.1 23 = .ok (.aload_n 0, 1) := by decide +kernel
theorem d_Ticker_runTick_24 : decode y_Ticker_runTick.2.1 24 = .ok (.getfield 20, 3) := by decide +kernel
theorem d_Ticker_runTick_27 : decode y_Ticker_runTick.2.1 27 = .ok (.iconst 0, 1) := by decide +kernel
theorem d_Ticker_runTick_28 : decode y_Ticker_runTick.2.1 28 = .ok (.putfield 30, 3) := by decide +kernel
theorem d_Ticker_runTick_31 : decode y_Ticker_runTick.2.1 31 = .ok (.aload_n 0, 1) := by decide +kernel
theorem d_Ticker_runTick_32 : decode y_Ticker_runTick.2.1 32 = .ok (.getfield 20, 3) := by decide +kernel
theorem d_Ticker_runTick_35 : decode y_Ticker_runTick.2.1 35 = .ok (.iconst 0, 1) := by decide +kernel
theorem d_Ticker_runTick_36 : decode y_Ticker_runTick.2.1 36 = .ok (.putfield 33, 3) := by decide +kernel
theorem d_Ticker_runTick_39 : decode y_Ticker_runTick.2.1 39 = .ok (.aload_n 0, 1) := by decide +kernel
theorem d_Ticker_runTick_40 : decode y_Ticker_runTick.2.1 40 = .ok (.getfield 10, 3) := by decide +kernel
theorem d_Ticker_runTick_43 : decode y_Ticker_runTick.2.1 43 = .ok (.aload_n 0, 1) := by decide +kernel
theorem d_Ticker_runTick_44 : decode y_Ticker_runTick.2.1 44 = .ok (.getfield 16, 3) := by decide +kernel
theorem d_Ticker_runTick_47 : decode y_Ticker_runTick.2.1 47 = .ok (.aload_n 0, 1) := by decide +kernel
theorem d_Ticker_runTick_48 : decode y_Ticker_runTick.2.1 48 = .ok (.getfield 20, 3) := by decide +kernel
theorem d_Ticker_runTick_51 : decode y_Ticker_runTick.2.1 51 = .ok (.aload_n 3, 1) := by decide +kernel
theorem d_Ticker_runTick_52 : decode y_Ticker_runTick.2.1 52 = .ok (.invokevirtual 36, 3) := by decide +kernel
theorem d_Ticker_runTick_55 : decode y_Ticker_runTick.2.1 55 = .ok (.iconst 0, 1) := by decide +kernel
theorem d_Ticker_runTick_56 : decode y_Ticker_runTick.2.1 56 = .ok (.istore 4, 2) := by decide +kernel
theorem d_Ticker_runTick_58 : decode y_Ticker_runTick.2.1 58 = .ok (.iload 4, 2) := by decide +kernel
theorem d_Ticker_runTick_60 : decode y_Ticker_runTick.2.1 60 = .ok (.aload_n 0, 1) := by decide +kernel
theorem d_Ticker_runTick_61 : decode y_Ticker_runTick.2.1 61 = .ok (.getfield 16, 3) := by decide +kernel
theorem d_Ticker_runTick_64 : decode y_Ticker_runTick.2.1 64 = .ok (.getfield 40, 3) := by decide +kernel
theorem d_Ticker_runTick_67 : decode y_Ticker_runTick.2.1 67 = .ok (.if_icmp .ge 15, 3) := by decide +kernel
theorem d_Ticker_runTick_70 : decode y_Ticker_runTick.2.1 70 = .ok (.aload_n 0, 1) := by decide +kernel
theorem d_Ticker_runTick_71 : decode y_Ticker_runTick.2.1 71 = .ok (.iload 4, 2) := by decide +kernel
theorem d_Ticker_runTick_73 : decode y_Ticker_runTick.2.1 73 = .ok (.invokevirtual 45, 3) := by decide +kernel
theorem d_Ticker_runTick_76 : decode y_Ticker_runTick.2.1 76 = .ok (.iinc 4 1, 3) := by decide +kernel
theorem d_Ticker_runTick_79 : decode y_Ticker_runTick.2.1 79 = .ok (.goto (-21), 3) := by decide +kernel
theorem d_Ticker_runTick_82 : decode y_Ticker_runTick.2.1 82 = .ok (.aload_n 0, 1) := by decide +kernel
theorem d_Ticker_runTick_83 : decode y_Ticker_runTick.2.1 83 = .ok (.getfield 20, 3) := by decide +kernel
theorem d_Ticker_runTick_86 : decode y_Ticker_runTick.2.1 86 = .ok (.invokevirtual 49, 3) := by decide +kernel
theorem d_Ticker_runTick_89 : decode y_Ticker_runTick.2.1 89 = .ok (.return_, 1) := by decide +kernel
theorem s_Ticker_runTick : ab_Stat y_Ticker_runTick 3 := ⟨(k6 187 rfl rfl), (k1 12 rfl rfl), ⟨by decide, by decide⟩, by decide +kernel⟩
theorem i_Ticker_runTick : Cond.instanceMethod y_Ticker_runTick.1 ∈ ab_T := (k6 185 rfl rfl)
theorem v_Ticker_runTick : Cond.selects "WorldEngine$Ticker" y_Ticker_runTick.1 y_Ticker_runTick.1 ∈ ab_T := (k6 186 rfl rfl)
def B_Ticker_runTick_58 (N : Nat) (p0 : Nat) (p1 : Nat) (p2 : Nat) (p3 : Nat) : Nat → Int32 → Hp → Option (Unit × Hp)
  | 0, _, _ => none
  | n + 1, l4, H =>
    ck (H.sh[p0]? = some (9, 0)) <|
    rf (H.P p0 1) fun a28 =>
    ck (H.sh[a28]? = some (4, 0)) <|
    bnd ((H.D a28 15)) fun x31 =>
    if x31 ≤ l4 then
    rf (H.P p0 2) fun a33 =>
    ck (H.sh[a33]? = some (7, 0)) <|
    bC (F_World_dropDue N a33 H) fun v37 H38 =>
    some ((), H38)
    else
    bC (F_Ticker_runGroup N p0 l4 H) fun v40 H41 =>
    B_Ticker_runTick_58 N p0 p1 p2 p3 n (l4 + 1) H41
termination_by structural n => n
set_option maxRecDepth 20000 in
set_option maxHeartbeats 2000000 in
theorem mB_Ticker_runTick_58 {N : Nat} {p0 : Nat} {p1 : Nat} {p2 : Nat} {p3 : Nat} : ∀ (n : Nat) (l4 : Int32) (H : Hp) (r : Unit × Hp), B_Ticker_runTick_58 N p0 p1 p2 p3 n l4 H = some r → Mo H r.2 := by
  intro n
  induction n with
  | zero => intro l4 H r hF; rw [B_Ticker_runTick_58] at hF; cases hF
  | succ n ih =>
    intro l4 H r hF
    rw [B_Ticker_runTick_58] at hF
    have hm := Mo.rf H
    obtain ⟨q42, hG⟩ := ck_s hF; clear hF
    obtain ⟨a43, e44, hF⟩ := rf_s hG; clear hG
    obtain ⟨q45, hG⟩ := ck_s hF; clear hF
    obtain ⟨x46, -, hF⟩ := bnd_g hG; clear hG
    rcases ite_s hF with ⟨q_14, hG⟩ | ⟨q_14, hG⟩
    · clear hF
      obtain ⟨a48, e49, hF⟩ := rf_s hG; clear hG
      obtain ⟨q50, hG⟩ := ck_s hF; clear hF
      obtain ⟨v52, H53, z51, hF⟩ := bC_s hG; clear hG
      replace hm : Mo H H53 := hm.tr ((m_World_dropDue z51)).mo
      have hr := Option.some.inj hF; subst hr
      exact hm
    · clear hF
      obtain ⟨v55, H56, z54, hF⟩ := bC_s hG; clear hG
      replace hm : Mo H H56 := hm.tr (m_Ticker_runGroup z54)
      exact hm.tr (ih (l4 + 1) H56 r hF)
set_option maxRecDepth 20000 in
set_option maxHeartbeats 2000000 in
theorem kB_Ticker_runTick_58 {N : Nat} {p0 : Nat} {p1 : Nat} {p2 : Nat} {p3 : Nat} {c0 s0 C Sl : Nat} : ∀ (n : Nat) (l4 : Int32) (H : Hp) (r : Unit × Hp), B_Ticker_runTick_58 N p0 p1 p2 p3 n l4 H = some r → c0 ≤ H.sh.length → s0 ≤ H.sl → H.sh.length ≤ c0 + C → H.sl ≤ s0 + Sl → r.2.sh.length ≤ c0 + C → r.2.sl ≤ s0 + Sl → ab_V y_Ticker_runTick { frames := 6, cells := C, slots := Sl, locals := 171 } (po (.returned none) r.2) C Sl (H.sh.length - c0) (H.sl - s0) 58 [some (.ref p0), some (.ref p1), some (.ref p2), some (.ref p3), some (.int l4)] [] (hpw H) := by
  intro n
  induction n with
  | zero => intro l4 H r hF; rw [B_Ticker_runTick_58] at hF; cases hF
  | succ n ih =>
    intro l4 H r hF hc0 hs0 hcc hss hC hS
    rw [B_Ticker_runTick_58] at hF
    refine ab_iload d_Ticker_runTick_58 rfl ?_
    refine ab_aload_n d_Ticker_runTick_60 rfl rfl rfl ?_
    obtain ⟨q27, hG⟩ := ck_s hF; clear hF
    obtain ⟨a28, e29, hF⟩ := rf_s hG; clear hG
    refine hp_getR (f := 1) d_Ticker_runTick_61 q27 (by decide) rfl (by decide) (k2 121 rfl rfl) rfl e29 ?_
    obtain ⟨q30, hG⟩ := ck_s hF; clear hF
    refine hp_getI (f := 15) d_Ticker_runTick_64 q30 (by decide) rfl (by decide) (k3 108 rfl rfl) rfl ?_
    refine ab_topi (fun x31 ex31 => ?_)
    replace hG := bnd_s ex31 hG
    refine ab_icmp_ge (tgt := 82) d_Ticker_runTick_67 (by decide) (fun q32 => ?_) (fun q32 => ?_)
    · rw [if_pos q32] at hG
      refine ab_aload_n d_Ticker_runTick_82 rfl rfl rfl ?_
      obtain ⟨a33, e34, hF⟩ := rf_s hG; clear hG
      refine hp_getR (f := 2) d_Ticker_runTick_83 q27 (by decide) rfl (by decide) (k2 122 rfl rfl) rfl e34 ?_
      obtain ⟨q35, hG⟩ := ck_s hF; clear hF
      obtain ⟨v37, H38, z36, hF⟩ := bC_s hG; clear hG
      refine hp_callV_v (H1 := H38) (As := []) (rest := []) d_Ticker_runTick_86 (k_World_dropDue z36) (ab_mkC s_World_dropDue (Nat.le_of_ble_eq_true rfl) (Nat.le_of_ble_eq_true rfl) (show (H.sh.length - c0) + 0 ≤ C from by omega) (show (H.sl - s0) + 0 ≤ Sl from by omega)) (k7 126 rfl rfl) i_World_dropDue v_World_dropDue q35 (by decide) rfl rfl (Nat.le_of_ble_eq_true rfl) ?_
      have s_9 : Sa H H38 := (m_World_dropDue z36)
      refine ab_widen (cells' := H.sh.length - c0) (slots' := H.sl - s0) (by show (H.sh.length - c0) + 0 ≤ _; omega) (by show (H.sl - s0) + 0 ≤ _; omega) ?_
      exact ab_vret d_Ticker_runTick_89 rfl (by show _ ≤ C; omega) (by show _ ≤ Sl; omega) (by have hr := Option.some.inj hF; subst hr; exact ⟨rfl, rfl⟩)
    · rw [if_neg q32] at hG
      refine ab_aload_n d_Ticker_runTick_70 rfl rfl rfl ?_
      refine ab_iload d_Ticker_runTick_71 rfl ?_
      obtain ⟨v40, H41, z39, hF⟩ := bC_s hG; clear hG
      have mz_10 : Mo H H41 := (m_Ticker_runGroup z39)
      have b_11l := (mz_10).len
      have b_11s := (mz_10).2
      have b_11c : c0 ≤ H41.sh.length := by omega
      have b_11d : s0 ≤ H41.sl := by omega
      have q_12 := (mz_10).get q27
      have q_13 := (mz_10).get q30
      have fH41 : Mo H41 r.2 := by
        have hm := Mo.rf H41
        exact hm.tr (mB_Ticker_runTick_58 n (l4 + 1) H41 r hF)
      have b_11m := (fH41).len
      have b_11n := (fH41).2
      have b_11p : H41.sh.length ≤ c0 + C := by omega
      have b_11q : H41.sl ≤ s0 + Sl := by omega
      refine hp_callV_v (H1 := H41) (As := [.int l4]) (rest := []) d_Ticker_runTick_73 (k_Ticker_runGroup z39 (C := H41.sh.length - H.sh.length) (Sl := H41.sl - H.sl) (by show H41.sh.length ≤ _; omega) (by show H41.sl ≤ _; omega)) (ab_mkC s_Ticker_runGroup (Nat.le_of_ble_eq_true rfl) (Nat.le_of_ble_eq_true rfl) (show (H.sh.length - c0) + (H41.sh.length - H.sh.length) ≤ C from by omega) (show (H.sl - s0) + (H41.sl - H.sl) ≤ Sl from by omega)) (k6 192 rfl rfl) i_Ticker_runGroup v_Ticker_runGroup q27 (by decide) rfl rfl (Nat.le_of_ble_eq_true rfl) ?_
      refine ab_widen (cells' := H41.sh.length - c0) (slots' := H41.sl - s0) (by show _ + (H41.sh.length - H.sh.length) ≤ _; omega) (by show _ + (H41.sl - H.sl) ≤ _; omega) ?_
      clear b_11l b_11s b_11m b_11n
      refine ab_iinc (v := l4 + 1) (lv' := [some (.ref p0), some (.ref p1), some (.ref p2), some (.ref p3), some (.int (l4 + 1))]) d_Ticker_runTick_76 rfl rfl (by decide) rfl ?_
      refine ab_goto (tgt := 58) d_Ticker_runTick_79 (by decide) ?_
      exact ih (l4 + 1) H41 r hF b_11c b_11d b_11p b_11q hC hS
def F_Ticker_runTick (N : Nat) (p0 : Nat) (p1 : Nat) (p2 : Nat) (p3 : Nat) (H : Hp) : Option (Unit × Hp) :=
    ck (H.sh[p0]? = some (9, 0)) <|
    bnd (H.sP p0 1 (.ref p1)) fun H2 =>
    bnd (H2.sP p0 2 (.ref p2)) fun H3 =>
    rf (H3.P p0 2) fun a4 =>
    ck (H3.sh[a4]? = some (7, 0)) <|
    bnd ((H3.D a4 0)) fun x7 =>
    bnd (H3.sD a4 0 (x7 + (1 : Int32))) fun H8 =>
    rf (H8.P p0 2) fun a9 =>
    ck (H8.sh[a9]? = some (7, 0)) <|
    bnd (H8.sD a9 6 (0 : Int32)) fun H12 =>
    rf (H12.P p0 2) fun a13 =>
    ck (H12.sh[a13]? = some (7, 0)) <|
    bnd (H12.sD a13 15 (0 : Int32)) fun H16 =>
    rf (H16.P p0 0) fun a17 =>
    rf (H16.P p0 1) fun a19 =>
    rf (H16.P p0 2) fun a21 =>
    ck (H16.sh[a17]? = some (8, 0)) <|
    bC (F_Row_open N a17 a19 a21 p3 H16) fun v25 H26 =>
    B_Ticker_runTick_58 N p0 p1 p2 p3 N 0 H26
set_option maxRecDepth 20000 in
set_option maxHeartbeats 2000000 in
theorem m_Ticker_runTick {N : Nat} {p0 : Nat} {p1 : Nat} {p2 : Nat} {p3 : Nat} {H : Hp} {r : Unit × Hp} (hF : F_Ticker_runTick N p0 p1 p2 p3 H = some r) : Mo H r.2 := by
  unfold F_Ticker_runTick at hF
  have hm := Mo.rf H
  obtain ⟨q57, hG⟩ := ck_s hF; clear hF
  obtain ⟨H58, eH58, hF⟩ := bnd_g hG; clear hG
  replace hm : Mo H H58 := by rw [eH58]; exact hm
  obtain ⟨H59, eH59, hG⟩ := bnd_g hF; clear hF
  replace hm : Mo H H59 := by rw [eH59]; exact hm
  obtain ⟨a60, e61, hF⟩ := rf_s hG; clear hG
  obtain ⟨q62, hG⟩ := ck_s hF; clear hF
  obtain ⟨x63, -, hF⟩ := bnd_g hG; clear hG
  obtain ⟨H64, eH64, hG⟩ := bnd_g hF; clear hF
  replace hm : Mo H H64 := by rw [eH64]; exact hm
  obtain ⟨a65, e66, hF⟩ := rf_s hG; clear hG
  obtain ⟨q67, hG⟩ := ck_s hF; clear hF
  obtain ⟨H68, eH68, hF⟩ := bnd_g hG; clear hG
  replace hm : Mo H H68 := by rw [eH68]; exact hm
  obtain ⟨a69, e70, hG⟩ := rf_s hF; clear hF
  obtain ⟨q71, hF⟩ := ck_s hG; clear hG
  obtain ⟨H72, eH72, hG⟩ := bnd_g hF; clear hF
  replace hm : Mo H H72 := by rw [eH72]; exact hm
  obtain ⟨a73, e74, hF⟩ := rf_s hG; clear hG
  obtain ⟨a75, e76, hG⟩ := rf_s hF; clear hF
  obtain ⟨a77, e78, hF⟩ := rf_s hG; clear hG
  obtain ⟨q79, hG⟩ := ck_s hF; clear hF
  obtain ⟨v81, H82, z80, hF⟩ := bC_s hG; clear hG
  replace hm : Mo H H82 := hm.tr ((m_Row_open z80)).mo
  exact hm.tr (mB_Ticker_runTick_58 N 0 H82 r hF)
set_option maxRecDepth 20000 in
set_option maxHeartbeats 2000000 in
theorem k_Ticker_runTick {N : Nat} {p0 : Nat} {p1 : Nat} {p2 : Nat} {p3 : Nat} {H : Hp} {r : Unit × Hp} {C Sl : Nat} (hF : F_Ticker_runTick N p0 p1 p2 p3 H = some r) (hC : r.2.sh.length ≤ H.sh.length + C) (hS : r.2.sl ≤ H.sl + Sl) : ab_M y_Ticker_runTick { frames := 6, cells := C, slots := Sl, locals := 171 } [.ref p0, .ref p1, .ref p2, .ref p3] (hpw H) (po (.returned none) r.2) := by
  unfold F_Ticker_runTick at hF
  obtain ⟨c0, e0⟩ : ∃ q, q = H.sh.length := ⟨_, rfl⟩
  obtain ⟨s0, e1⟩ : ∃ q, q = H.sl := ⟨_, rfl⟩
  rw [← e0] at hC
  rw [← e1] at hS
  have hc0 : c0 ≤ H.sh.length := Nat.le_of_eq e0
  have hs0 : s0 ≤ H.sl := Nat.le_of_eq e1
  have hcc : H.sh.length ≤ c0 + C := by omega
  have hss : H.sl ≤ s0 + Sl := by omega
  refine ab_of2 (lv := [some (.ref p0), some (.ref p1), some (.ref p2), some (.ref p3), none]) 1 rfl rfl (Nat.le_of_ble_eq_true rfl) ?_
  refine ab_widen (cells' := H.sh.length - c0) (slots' := H.sl - s0) (Nat.zero_le _) (Nat.zero_le _) ?_
  refine ab_aload_n d_Ticker_runTick_0 rfl rfl rfl ?_
  refine ab_aload_n d_Ticker_runTick_1 rfl rfl rfl ?_
  obtain ⟨q1, hG⟩ := ck_s hF; clear hF
  refine hp_putP (v := .ref p1) (f := 1) d_Ticker_runTick_2 q1 (by decide) rfl (by decide) (k2 121 rfl rfl) rfl rfl (fun _ => rfl) (fun _ => rfl) rfl ?_
  refine hp_gen (fun H2 eH2 => ?_)
  replace hG := bnd_s eH2 hG
  have s_1 : Sa H H2 := by rw [eH2]; exact Sa.rf _
  refine ab_aload_n d_Ticker_runTick_5 rfl rfl rfl ?_
  refine ab_aload_n d_Ticker_runTick_6 rfl rfl rfl ?_
  refine hp_putP (v := .ref p2) (f := 2) d_Ticker_runTick_7 (by rw [(s_1).1]; exact q1) (by decide) rfl (by decide) (k2 122 rfl rfl) rfl rfl (fun _ => rfl) (fun _ => rfl) rfl ?_
  refine hp_gen (fun H3 eH3 => ?_)
  replace hG := bnd_s eH3 hG
  have s_2 : Sa H H3 := by rw [eH3]; exact s_1
  refine ab_aload_n d_Ticker_runTick_10 rfl rfl rfl ?_
  obtain ⟨a4, e5, hF⟩ := rf_s hG; clear hG
  refine hp_getR (f := 2) d_Ticker_runTick_11 (by rw [(s_2).1]; exact q1) (by decide) rfl (by decide) (k2 122 rfl rfl) rfl e5 ?_
  refine ab_dup d_Ticker_runTick_14 rfl ?_
  obtain ⟨q6, hG⟩ := ck_s hF; clear hF
  rw [(s_2).1] at q6
  refine hp_getI (f := 0) d_Ticker_runTick_15 (by rw [(s_2).1]; exact q6) (by decide) rfl (by decide) (k1 206 rfl rfl) rfl ?_
  refine ab_topi (fun x7 ex7 => ?_)
  replace hG := bnd_s ex7 hG
  refine ab_iconst (v := 1) d_Ticker_runTick_18 (by decide) ?_
  refine ab_iadd d_Ticker_runTick_19 ?_
  refine hp_putI (v := x7 + (1 : Int32)) (f := 0) d_Ticker_runTick_20 (by rw [(s_2).1]; exact q6) (by decide) rfl (by decide) (k1 206 rfl rfl) rfl rfl (fun _ => rfl) (fun _ => rfl) rfl ?_
  refine hp_gen (fun H8 eH8 => ?_)
  replace hG := bnd_s eH8 hG
  have s_3 : Sa H H8 := by rw [eH8]; exact s_2
  refine ab_aload_n d_Ticker_runTick_23 rfl rfl rfl ?_
  obtain ⟨a9, e10, hF⟩ := rf_s hG; clear hG
  refine hp_getR (f := 2) d_Ticker_runTick_24 (by rw [(s_3).1]; exact q1) (by decide) rfl (by decide) (k2 122 rfl rfl) rfl e10 ?_
  refine ab_iconst (v := 0) d_Ticker_runTick_27 (by decide) ?_
  obtain ⟨q11, hG⟩ := ck_s hF; clear hF
  rw [(s_3).1] at q11
  refine hp_putI (v := 0) (f := 6) d_Ticker_runTick_28 (by rw [(s_3).1]; exact q11) (by decide) rfl (by decide) (k1 225 rfl rfl) rfl rfl (fun _ => rfl) (fun _ => rfl) rfl ?_
  refine hp_gen (fun H12 eH12 => ?_)
  replace hG := bnd_s eH12 hG
  have s_4 : Sa H H12 := by rw [eH12]; exact s_3
  refine ab_aload_n d_Ticker_runTick_31 rfl rfl rfl ?_
  obtain ⟨a13, e14, hF⟩ := rf_s hG; clear hG
  refine hp_getR (f := 2) d_Ticker_runTick_32 (by rw [(s_4).1]; exact q1) (by decide) rfl (by decide) (k2 122 rfl rfl) rfl e14 ?_
  refine ab_iconst (v := 0) d_Ticker_runTick_35 (by decide) ?_
  obtain ⟨q15, hG⟩ := ck_s hF; clear hF
  rw [(s_4).1] at q15
  refine hp_putI (v := 0) (f := 15) d_Ticker_runTick_36 (by rw [(s_4).1]; exact q15) (by decide) rfl (by decide) (k2 11 rfl rfl) rfl rfl (fun _ => rfl) (fun _ => rfl) rfl ?_
  refine hp_gen (fun H16 eH16 => ?_)
  replace hG := bnd_s eH16 hG
  have s_5 : Sa H H16 := by rw [eH16]; exact s_4
  refine ab_aload_n d_Ticker_runTick_39 rfl rfl rfl ?_
  obtain ⟨a17, e18, hF⟩ := rf_s hG; clear hG
  refine hp_getR (f := 0) d_Ticker_runTick_40 (by rw [(s_5).1]; exact q1) (by decide) rfl (by decide) (k2 120 rfl rfl) rfl e18 ?_
  refine ab_aload_n d_Ticker_runTick_43 rfl rfl rfl ?_
  obtain ⟨a19, e20, hG⟩ := rf_s hF; clear hF
  refine hp_getR (f := 1) d_Ticker_runTick_44 (by rw [(s_5).1]; exact q1) (by decide) rfl (by decide) (k2 121 rfl rfl) rfl e20 ?_
  refine ab_aload_n d_Ticker_runTick_47 rfl rfl rfl ?_
  obtain ⟨a21, e22, hF⟩ := rf_s hG; clear hG
  refine hp_getR (f := 2) d_Ticker_runTick_48 (by rw [(s_5).1]; exact q1) (by decide) rfl (by decide) (k2 122 rfl rfl) rfl e22 ?_
  refine ab_aload_n d_Ticker_runTick_51 rfl rfl rfl ?_
  obtain ⟨q23, hG⟩ := ck_s hF; clear hF
  rw [(s_5).1] at q23
  obtain ⟨v25, H26, z24, hF⟩ := bC_s hG; clear hG
  refine ab_widen (cells' := H16.sh.length - c0) (slots' := H16.sl - s0) (by rw [(s_5).1]; exact Nat.le_refl _) (by rw [(s_5).2]; exact Nat.le_refl _) ?_
  have b_6e := congrArg List.length (s_5).1
  have b_6f := (s_5).2
  refine hp_callV_v (H1 := H26) (As := [.ref a19, .ref a21, .ref p3]) (rest := []) d_Ticker_runTick_52 (k_Row_open z24) (ab_mkC s_Row_open (Nat.le_of_ble_eq_true rfl) (Nat.le_of_ble_eq_true rfl) (show (H16.sh.length - c0) + 0 ≤ C from by omega) (show (H16.sl - s0) + 0 ≤ Sl from by omega)) (k6 188 rfl rfl) i_Row_open v_Row_open (by rw [(s_5).1]; exact q23) (by decide) rfl rfl (Nat.le_of_ble_eq_true rfl) ?_
  have s_7 : Sa H H26 := (s_5).tr (m_Row_open z24)
  refine ab_widen (cells' := H.sh.length - c0) (slots' := H.sl - s0) (by show (H16.sh.length - c0) + 0 ≤ _; omega) (by show (H16.sl - s0) + 0 ≤ _; omega) ?_
  clear b_6e b_6f
  refine ab_iconst (v := 0) d_Ticker_runTick_55 (by decide) ?_
  refine ab_istore (lv' := [some (.ref p0), some (.ref p1), some (.ref p2), some (.ref p3), some (.int 0)]) d_Ticker_runTick_56 (by decide) rfl ?_
  refine ab_widen (cells' := H26.sh.length - c0) (slots' := H26.sl - s0) (by rw [(s_7).1]; exact Nat.le_refl _) (by rw [(s_7).2]; exact Nat.le_refl _) ?_
  exact kB_Ticker_runTick_58 N 0 H26 r hF (by rw [(s_7).1]; exact hc0) (by rw [(s_7).2]; exact hs0) (by rw [(s_7).1]; exact hcc) (by rw [(s_7).2]; exact hss) hC hS
def y_Play_isKnown : ab_Y := (⟨"WorldEngine$Play", "isKnown", "(I)Z"⟩, prog_5_method_18_code, 3, (some FieldType.boolean), [])
theorem d_Play_isKnown_0 : decode y_Play_isKnown.2.1 0 = .ok (.iconst 0, 1) := by decide +kernel
theorem d_Play_isKnown_1 : decode y_Play_isKnown.2.1 1 = .ok (.istore_n 2, 1) := by decide +kernel
theorem d_Play_isKnown_2 : decode y_Play_isKnown.2.1 2 = .ok (.iload_n 2, 1) := by decide +kernel
theorem d_Play_isKnown_3 : decode y_Play_isKnown.2.1 3 = .ok (.iconst 4, 1) := by decide +kernel
theorem d_Play_isKnown_4 : decode y_Play_isKnown.2.1 4 = .ok (.if_icmp .ge 41, 3) := by decide +kernel
theorem d_Play_isKnown_7 : decode y_Play_isKnown.2.1 7 = .ok (.aload_n 0, 1) := by decide +kernel
theorem d_Play_isKnown_8 : decode y_Play_isKnown.2.1 8 = .ok (.getfield 45, 3) := by decide +kernel
theorem d_Play_isKnown_11 : decode y_Play_isKnown.2.1 11 = .ok (.iload_n 1, 1) := by decide +kernel
theorem d_Play_isKnown_12 : decode y_Play_isKnown.2.1 12 = .ok (.bipush 15, 2) := by decide +kernel
theorem d_Play_isKnown_14 : decode y_Play_isKnown.2.1 14 = .ok (.iand, 1) := by decide +kernel
theorem d_Play_isKnown_15 : decode y_Play_isKnown.2.1 15 = .ok (.iaload, 1) := by decide +kernel
theorem d_Play_isKnown_16 : decode y_Play_isKnown.2.1 16 = .ok (.iload_n 2, 1) := by decide +kernel
theorem d_Play_isKnown_17 : decode y_Play_isKnown.2.1 17 = .ok (.ishr, 1) := by decide +kernel
theorem d_Play_isKnown_18 : decode y_Play_isKnown.2.1 18 = .ok (.iconst 1, 1) := by decide +kernel
theorem d_Play_isKnown_19 : decode y_Play_isKnown.2.1 19 = .ok (.iand, 1) := by decide +kernel
theorem d_Play_isKnown_20 : decode y_Play_isKnown.2.1 20 = .ok (.iconst 1, 1) := by decide +kernel
theorem d_Play_isKnown_21 : decode y_Play_isKnown.2.1 21 = .ok (.if_icmp .ne 18, 3) := by decide +kernel
theorem d_Play_isKnown_24 : decode y_Play_isKnown.2.1 24 = .ok (.aload_n 0, 1) := by decide +kernel
theorem d_Play_isKnown_25 : decode y_Play_isKnown.2.1 25 = .ok (.getfield 35, 3) := by decide +kernel
theorem d_Play_isKnown_28 : decode y_Play_isKnown.2.1 28 = .ok (.iload_n 2, 1) := by decide +kernel
theorem d_Play_isKnown_29 : decode y_Play_isKnown.2.1 29 = .ok (.iload_n 1, 1) := by decide +kernel
theorem d_Play_isKnown_30 : decode y_Play_isKnown.2.1 30 = .ok (.invokestatic 91, 3) := by decide +kernel
theorem d_Play_isKnown_33 : decode y_Play_isKnown.2.1 33 = .ok (.baload, 1) := by decide +kernel
theorem d_Play_isKnown_34 : decode y_Play_isKnown.2.1 34 = .ok (.ifCond .ne 5, 3) := by decide +kernel
theorem d_Play_isKnown_37 : decode y_Play_isKnown.2.1 37 = .ok (.iconst 0, 1) := by decide +kernel
theorem d_Play_isKnown_38 : decode y_Play_isKnown.2.1 38 = .ok (.ireturn, 1) := by decide +kernel
theorem d_Play_isKnown_39 : decode y_Play_isKnown.2.1 39 = .ok (.iinc 2 1, 3) := by decide +kernel
theorem d_Play_isKnown_42 : decode y_Play_isKnown.2.1 42 = .ok (.goto (-40), 3) := by decide +kernel
theorem d_Play_isKnown_45 : decode y_Play_isKnown.2.1 45 = .ok (.iconst 1, 1) := by decide +kernel
theorem d_Play_isKnown_46 : decode y_Play_isKnown.2.1 46 = .ok (.ireturn, 1) := by decide +kernel
theorem s_Play_isKnown : ab_Stat y_Play_isKnown 1 := ⟨(k7 137 rfl rfl), (k1 9 rfl rfl), ⟨by decide, by decide⟩, by decide +kernel⟩
theorem i_Play_isKnown : Cond.instanceMethod y_Play_isKnown.1 ∈ ab_T := (k7 136 rfl rfl)
theorem v_Play_isKnown : Cond.selects "WorldEngine$Play" y_Play_isKnown.1 y_Play_isKnown.1 ∈ ab_T := ab_s (List.mem_of_getElem? (i := 89) rfl) rfl
def B_Play_isKnown_39 (N : Nat) (p0 : Nat) (p1 : Int32) (kq2 : Int32 → Hp → Option (Int32 × Hp)) (l2 : Int32) (H : Hp) : Option (Int32 × Hp) :=
    kq2 (l2 + 1) H
set_option maxRecDepth 20000 in
set_option maxHeartbeats 2000000 in
theorem mB_Play_isKnown_39 {N : Nat} {p0 : Nat} {p1 : Int32} {kq2 : Int32 → Hp → Option (Int32 × Hp)} (hm2 : ∀ (l2 : Int32) (H : Hp) (r : Int32 × Hp), kq2 l2 H = some r → Sa H r.2) {l2 : Int32} {H : Hp} {r : Int32 × Hp} (hF : B_Play_isKnown_39 N p0 p1 kq2 l2 H = some r) : Sa H r.2 := by
  unfold B_Play_isKnown_39 at hF
  have hm := Sa.rf H
  exact hm.tr (hm2 (l2 + 1) H r hF)
set_option maxRecDepth 20000 in
set_option maxHeartbeats 2000000 in
theorem kB_Play_isKnown_39 {N : Nat} {p0 : Nat} {p1 : Int32} {kq2 : Int32 → Hp → Option (Int32 × Hp)} (hm2 : ∀ (l2 : Int32) (H : Hp) (r : Int32 × Hp), kq2 l2 H = some r → Sa H r.2) (hk2 : ∀ (l2 : Int32) (H : Hp) (r : Int32 × Hp), kq2 l2 H = some r → ab_V y_Play_isKnown { frames := 1, cells := 0, slots := 0, locals := 21 } (po (.returned (some (.int r.1))) r.2) 0 0 0 0 2 [some (.ref p0), some (.int p1), some (.int l2)] [] (hpw H)) {l2 : Int32} {H : Hp} {r : Int32 × Hp} (hF : B_Play_isKnown_39 N p0 p1 kq2 l2 H = some r) : ab_V y_Play_isKnown { frames := 1, cells := 0, slots := 0, locals := 21 } (po (.returned (some (.int r.1))) r.2) 0 0 0 0 39 [some (.ref p0), some (.int p1), some (.int l2)] [] (hpw H) := by
  unfold B_Play_isKnown_39 at hF
  refine ab_iinc (v := l2 + 1) (lv' := [some (.ref p0), some (.int p1), some (.int (l2 + 1))]) d_Play_isKnown_39 rfl rfl (by decide) rfl ?_
  refine ab_goto (tgt := 2) d_Play_isKnown_42 (by decide) ?_
  exact hk2 (l2 + 1) H r hF
def B_Play_isKnown_2 (N : Nat) (p0 : Nat) (p1 : Int32) : Nat → Int32 → Hp → Option (Int32 × Hp)
  | 0, _, _ => none
  | n + 1, l2, H =>
    if (4 : Int32) ≤ l2 then
    some (1, H)
    else
    ck (H.sh[p0]? = some (10, 0)) <|
    rf (H.P p0 11) fun a3 =>
    ar H 100 a3 fun n5 =>
    ck (inb (p1 &&& (15 : Int32)) n5) <|
    bnd ((H.D a3 ((p1 &&& (15 : Int32))).toNatClampNeg)) fun x8 =>
    if ((x8 >>> (l2 &&& 31)) &&& (1 : Int32)) = (1 : Int32) then
    rf (H.P p0 8) fun a10 =>
    bC (F_Play_slot N l2 p1 H) fun v13 H14 =>
    ar H14 102 a10 fun n15 =>
    ck (inb v13 n15) <|
    bnd ((H14.D a10 (v13).toNatClampNeg)) fun x18 =>
    if x18 = (0 : Int32) then
    some (0, H14)
    else
    B_Play_isKnown_39 N p0 p1 (fun l2 H => B_Play_isKnown_2 N p0 p1 n l2 H) l2 H14
    else
    B_Play_isKnown_39 N p0 p1 (fun l2 H => B_Play_isKnown_2 N p0 p1 n l2 H) l2 H
termination_by structural n => n
set_option maxRecDepth 20000 in
set_option maxHeartbeats 2000000 in
theorem mB_Play_isKnown_2 {N : Nat} {p0 : Nat} {p1 : Int32} : ∀ (n : Nat) (l2 : Int32) (H : Hp) (r : Int32 × Hp), B_Play_isKnown_2 N p0 p1 n l2 H = some r → Sa H r.2 := by
  intro n
  induction n with
  | zero => intro l2 H r hF; rw [B_Play_isKnown_2] at hF; cases hF
  | succ n ih =>
    intro l2 H r hF
    rw [B_Play_isKnown_2] at hF
    have hm := Sa.rf H
    rcases ite_s hF with ⟨q_2, hG⟩ | ⟨q_2, hG⟩
    · clear hF
      have hr := Option.some.inj hG; subst hr
      exact hm
    · clear hF
      obtain ⟨q21, hF⟩ := ck_s hG; clear hG
      obtain ⟨a22, e23, hG⟩ := rf_s hF; clear hF
      obtain ⟨n24, q25, hF⟩ := ar_s hG; clear hG
      obtain ⟨q26, hG⟩ := ck_s hF; clear hF
      obtain ⟨x27, -, hF⟩ := bnd_g hG; clear hG
      rcases ite_s hF with ⟨q_3, hG⟩ | ⟨q_3, hG⟩
      · clear hF
        obtain ⟨a29, e30, hF⟩ := rf_s hG; clear hG
        obtain ⟨v32, H33, z31, hG⟩ := bC_s hF; clear hF
        replace hm : Sa H H33 := hm.tr (m_Play_slot z31)
        obtain ⟨n34, q35, hF⟩ := ar_s hG; clear hG
        obtain ⟨q36, hG⟩ := ck_s hF; clear hF
        obtain ⟨x37, -, hF⟩ := bnd_g hG; clear hG
        rcases ite_s hF with ⟨q_5, hG⟩ | ⟨q_5, hG⟩
        · clear hF
          have hr := Option.some.inj hG; subst hr
          exact hm
        · clear hF
          exact hm.tr (mB_Play_isKnown_39 ih hG)
      · clear hF
        exact hm.tr (mB_Play_isKnown_39 ih hG)
set_option maxRecDepth 20000 in
set_option maxHeartbeats 2000000 in
theorem kB_Play_isKnown_2 {N : Nat} {p0 : Nat} {p1 : Int32} : ∀ (n : Nat) (l2 : Int32) (H : Hp) (r : Int32 × Hp), B_Play_isKnown_2 N p0 p1 n l2 H = some r → ab_V y_Play_isKnown { frames := 1, cells := 0, slots := 0, locals := 21 } (po (.returned (some (.int r.1))) r.2) 0 0 0 0 2 [some (.ref p0), some (.int p1), some (.int l2)] [] (hpw H) := by
  intro n
  induction n with
  | zero => intro l2 H r hF; rw [B_Play_isKnown_2] at hF; cases hF
  | succ n ih =>
    intro l2 H r hF
    rw [B_Play_isKnown_2] at hF
    refine ab_iload_n d_Play_isKnown_2 rfl rfl ?_
    refine ab_iconst (v := 4) d_Play_isKnown_3 (by decide) ?_
    refine ab_icmp_ge (tgt := 45) d_Play_isKnown_4 (by decide) (fun q1 => ?_) (fun q1 => ?_)
    · rw [if_pos q1] at hF
      refine ab_iconst (v := 1) d_Play_isKnown_45 (by decide) ?_
      exact ab_zret d_Play_isKnown_46 rfl rfl (Nat.le_refl _) (Nat.le_refl _) (by have hr := Option.some.inj hF; subst hr; exact ⟨rfl, rfl⟩)
    · rw [if_neg q1] at hF
      refine ab_aload_n d_Play_isKnown_7 rfl rfl rfl ?_
      obtain ⟨q2, hG⟩ := ck_s hF; clear hF
      obtain ⟨a3, e4, hF⟩ := rf_s hG; clear hG
      refine hp_getR (f := 11) d_Play_isKnown_8 q2 (by decide) rfl (by decide) (k2 147 rfl rfl) rfl e4 ?_
      refine ab_iload_n d_Play_isKnown_11 rfl rfl ?_
      refine ab_bipush (v := 15) d_Play_isKnown_12 (by decide) ?_
      refine ab_iand d_Play_isKnown_14 ?_
      obtain ⟨n5, q6, hG⟩ := ar_s hF; clear hF
      obtain ⟨q7, hF⟩ := ck_s hG; clear hG
      refine hp_iald d_Play_isKnown_15 tI q6 q7 ?_
      refine ab_topi (fun x8 ex8 => ?_)
      replace hF := bnd_s ex8 hF
      refine ab_iload_n d_Play_isKnown_16 rfl rfl ?_
      refine ab_ishr d_Play_isKnown_17 ?_
      refine ab_iconst (v := 1) d_Play_isKnown_18 (by decide) ?_
      refine ab_iand d_Play_isKnown_19 ?_
      refine ab_iconst (v := 1) d_Play_isKnown_20 (by decide) ?_
      refine ab_icmp_ne (tgt := 39) d_Play_isKnown_21 (by decide) (fun q9 => ?_) (fun q9 => ?_)
      · rw [if_neg q9] at hF
        exact kB_Play_isKnown_39 (mB_Play_isKnown_2 n) ih hF
      · rw [if_pos q9] at hF
        refine ab_aload_n d_Play_isKnown_24 rfl rfl rfl ?_
        obtain ⟨a10, e11, hG⟩ := rf_s hF; clear hF
        refine hp_getR (f := 8) d_Play_isKnown_25 q2 (by decide) rfl (by decide) (k2 144 rfl rfl) rfl e11 ?_
        refine ab_iload_n d_Play_isKnown_28 rfl rfl ?_
        refine ab_iload_n d_Play_isKnown_29 rfl rfl ?_
        obtain ⟨v13, H14, z12, hF⟩ := bC_s hG; clear hG
        refine hp_callS_a (v := .int v13) (H1 := H14) (As := [.int l2, .int p1]) (rest := [.ref a10]) d_Play_isKnown_30 (k_Play_slot z12) (ab_mkC s_Play_slot (Nat.le_of_ble_eq_true rfl) (Nat.le_of_ble_eq_true rfl) (Nat.le_refl 0) (Nat.le_refl 0)) (k6 181 rfl rfl) t_Play_slot rfl (Nat.le_of_ble_eq_true rfl) ?_
        have s_1 : Sa H H14 := (m_Play_slot z12)
        obtain ⟨n15, q16, hG⟩ := ar_s hF; clear hF
        rw [(s_1).1] at q16
        obtain ⟨q17, hF⟩ := ck_s hG; clear hG
        refine hp_zald d_Play_isKnown_33 tZ (by rw [(s_1).1]; exact q16) q17 ?_
        refine ab_topi (fun x18 ex18 => ?_)
        replace hF := bnd_s ex18 hF
        refine ab_if_ne (tgt := 39) d_Play_isKnown_34 (by decide) (fun q19 => ?_) (fun q19 => ?_)
        · rw [if_neg q19] at hF
          exact kB_Play_isKnown_39 (mB_Play_isKnown_2 n) ih hF
        · rw [if_pos q19] at hF
          refine ab_iconst (v := 0) d_Play_isKnown_37 (by decide) ?_
          exact ab_zret d_Play_isKnown_38 rfl rfl (Nat.le_refl _) (Nat.le_refl _) (by have hr := Option.some.inj hF; subst hr; exact ⟨rfl, rfl⟩)
def F_Play_isKnown (N : Nat) (p0 : Nat) (p1 : Int32) (H : Hp) : Option (Int32 × Hp) :=
    B_Play_isKnown_2 N p0 p1 N 0 H
set_option maxRecDepth 20000 in
set_option maxHeartbeats 2000000 in
theorem m_Play_isKnown {N : Nat} {p0 : Nat} {p1 : Int32} {H : Hp} {r : Int32 × Hp} (hF : F_Play_isKnown N p0 p1 H = some r) : Sa H r.2 := by
  unfold F_Play_isKnown at hF
  have hm := Sa.rf H
  exact hm.tr (mB_Play_isKnown_2 N 0 H r hF)
set_option maxRecDepth 20000 in
set_option maxHeartbeats 2000000 in
theorem k_Play_isKnown {N : Nat} {p0 : Nat} {p1 : Int32} {H : Hp} {r : Int32 × Hp} (hF : F_Play_isKnown N p0 p1 H = some r) : ab_M y_Play_isKnown { frames := 1, cells := 0, slots := 0, locals := 21 } [.ref p0, .int p1] (hpw H) (po (.returned (some (.int r.1))) r.2) := by
  unfold F_Play_isKnown at hF
  refine ab_of2 (lv := [some (.ref p0), some (.int p1), none]) 1 rfl rfl (Nat.le_of_ble_eq_true rfl) ?_
  refine ab_iconst (v := 0) d_Play_isKnown_0 (by decide) ?_
  refine ab_istore_n (lv' := [some (.ref p0), some (.int p1), some (.int 0)]) d_Play_isKnown_1 rfl (by decide) rfl ?_
  exact kB_Play_isKnown_2 N 0 H r hF
def y_Play_tell : ab_Y := (⟨"WorldEngine$Play", "tell", "(LWorldEngine$World;)V"⟩, prog_5_method_19_code, 3, none, [])
theorem d_Play_tell_0 : decode y_Play_tell.2.1 0 = .ok (.iconst 0, 1) := by decide +kernel
theorem d_Play_tell_1 : decode y_Play_tell.2.1 1 = .ok (.istore_n 2, 1) := by decide +kernel
theorem d_Play_tell_2 : decode y_Play_tell.2.1 2 = .ok (.iload_n 2, 1) := by decide +kernel
theorem d_Play_tell_3 : decode y_Play_tell.2.1 3 = .ok (.aload_n 1, 1) := by decide +kernel
theorem d_Play_tell_4 : decode y_Play_tell.2.1 4 = .ok (.getfield 123, 3) := by decide +kernel
theorem d_Play_tell_7 : decode y_Play_tell.2.1 7 = .ok (.if_icmp .ge 38, 3) := by decide +kernel
theorem d_Play_tell_10 : decode y_Play_tell.2.1 10 = .ok (.aload_n 0, 1) := by decide +kernel
theorem d_Play_tell_11 : decode y_Play_tell.2.1 11 = .ok (.getfield 24, 3) := by decide +kernel
theorem d_Play_tell_14 : decode y_Play_tell.2.1 14 = .ok (.aload_n 0, 1) := by decide +kernel
theorem d_Play_tell_15 : decode y_Play_tell.2.1 15 = .ok (.getfield 64, 3) := by decide +kernel
theorem d_Play_tell_18 : decode y_Play_tell.2.1 18 = .ok (.sipush 255, 3) := by decide +kernel
theorem d_Play_tell_21 : decode y_Play_tell.2.1 21 = .ok (.iand, 1) := by decide +kernel
theorem d_Play_tell_22 : decode y_Play_tell.2.1 22 = .ok (.aload_n 1, 1) := by decide +kernel
theorem d_Play_tell_23 : decode y_Play_tell.2.1 23 = .ok (.getfield 126, 3) := by decide +kernel
theorem d_Play_tell_26 : decode y_Play_tell.2.1 26 = .ok (.iload_n 2, 1) := by decide +kernel
theorem d_Play_tell_27 : decode y_Play_tell.2.1 27 = .ok (.iaload, 1) := by decide +kernel
theorem d_Play_tell_28 : decode y_Play_tell.2.1 28 = .ok (.iastore, 1) := by decide +kernel
theorem d_Play_tell_29 : decode y_Play_tell.2.1 29 = .ok (.aload_n 0, 1) := by decide +kernel
theorem d_Play_tell_30 : decode y_Play_tell.2.1 30 = .ok (.dup, 1) := by decide +kernel
theorem d_Play_tell_31 : decode y_Play_tell.2.1 31 = .ok (.getfield 64, 3) := by decide +kernel
theorem d_Play_tell_34 : decode y_Play_tell.2.1 34 = .ok (.iconst 1, 1) := by decide +kernel
theorem d_Play_tell_35 : decode y_Play_tell.2.1 35 = .ok (.iadd, 1) := by decide +kernel
theorem d_Play_tell_36 : decode y_Play_tell.2.1 36 = .ok (.putfield 64, 3) := by decide +kernel
theorem d_Play_tell_39 : decode y_Play_tell.2.1 39 = .ok (.iinc 2 1, 3) := by decide +kernel
theorem d_Play_tell_42 : decode y_Play_tell.2.1 42 = .ok (.goto (-40), 3) := by decide +kernel
theorem d_Play_tell_45 : decode y_Play_tell.2.1 45 = .ok (.return_, 1) := by decide +kernel
theorem s_Play_tell : ab_Stat y_Play_tell 1 := ⟨(k7 141 rfl rfl), (k1 9 rfl rfl), ⟨by decide, by decide⟩, by decide +kernel⟩
theorem i_Play_tell : Cond.instanceMethod y_Play_tell.1 ∈ ab_T := (k7 140 rfl rfl)
theorem v_Play_tell : Cond.selects "WorldEngine$Play" y_Play_tell.1 y_Play_tell.1 ∈ ab_T := ab_s (List.mem_of_getElem? (i := 90) rfl) rfl
def B_Play_tell_2 (N : Nat) (p0 : Nat) (p1 : Nat) : Nat → Int32 → Hp → Option (Unit × Hp)
  | 0, _, _ => none
  | n + 1, l2, H =>
    ck (H.sh[p1]? = some (7, 0)) <|
    bnd ((H.D p1 15)) fun x2 =>
    if x2 ≤ l2 then
    some ((), H)
    else
    ck (H.sh[p0]? = some (10, 0)) <|
    rf (H.P p0 4) fun a5 =>
    bnd ((H.D p0 5)) fun x7 =>
    rf (H.P p1 14) fun a8 =>
    ar H 100 a8 fun n10 =>
    ck (inb l2 n10) <|
    bnd ((H.D a8 (l2).toNatClampNeg)) fun x13 =>
    ar H 100 a5 fun n14 =>
    ck (inb (x7 &&& (255 : Int32)) n14) <|
    bnd (H.sD a5 ((x7 &&& (255 : Int32))).toNatClampNeg x13) fun H17 =>
    bnd ((H17.D p0 5)) fun x18 =>
    bnd (H17.sD p0 5 (x18 + (1 : Int32))) fun H19 =>
    B_Play_tell_2 N p0 p1 n (l2 + 1) H19
termination_by structural n => n
set_option maxRecDepth 20000 in
set_option maxHeartbeats 2000000 in
theorem mB_Play_tell_2 {N : Nat} {p0 : Nat} {p1 : Nat} : ∀ (n : Nat) (l2 : Int32) (H : Hp) (r : Unit × Hp), B_Play_tell_2 N p0 p1 n l2 H = some r → Sa H r.2 := by
  intro n
  induction n with
  | zero => intro l2 H r hF; rw [B_Play_tell_2] at hF; cases hF
  | succ n ih =>
    intro l2 H r hF
    rw [B_Play_tell_2] at hF
    have hm := Sa.rf H
    obtain ⟨q20, hG⟩ := ck_s hF; clear hF
    obtain ⟨x21, -, hF⟩ := bnd_g hG; clear hG
    rcases ite_s hF with ⟨q_3, hG⟩ | ⟨q_3, hG⟩
    · clear hF
      have hr := Option.some.inj hG; subst hr
      exact hm
    · clear hF
      obtain ⟨q23, hF⟩ := ck_s hG; clear hG
      obtain ⟨a24, e25, hG⟩ := rf_s hF; clear hF
      obtain ⟨x26, -, hF⟩ := bnd_g hG; clear hG
      obtain ⟨a27, e28, hG⟩ := rf_s hF; clear hF
      obtain ⟨n29, q30, hF⟩ := ar_s hG; clear hG
      obtain ⟨q31, hG⟩ := ck_s hF; clear hF
      obtain ⟨x32, -, hF⟩ := bnd_g hG; clear hG
      obtain ⟨n33, q34, hG⟩ := ar_s hF; clear hF
      obtain ⟨q35, hF⟩ := ck_s hG; clear hG
      obtain ⟨H36, eH36, hG⟩ := bnd_g hF; clear hF
      replace hm : Sa H H36 := by rw [eH36]; exact hm
      obtain ⟨x37, -, hF⟩ := bnd_g hG; clear hG
      obtain ⟨H38, eH38, hG⟩ := bnd_g hF; clear hF
      replace hm : Sa H H38 := by rw [eH38]; exact hm
      exact hm.tr (ih (l2 + 1) H38 r hG)
set_option maxRecDepth 20000 in
set_option maxHeartbeats 2000000 in
theorem kB_Play_tell_2 {N : Nat} {p0 : Nat} {p1 : Nat} : ∀ (n : Nat) (l2 : Int32) (H : Hp) (r : Unit × Hp), B_Play_tell_2 N p0 p1 n l2 H = some r → ab_V y_Play_tell { frames := 0, cells := 0, slots := 0, locals := 0 } (po (.returned none) r.2) 0 0 0 0 2 [some (.ref p0), some (.ref p1), some (.int l2)] [] (hpw H) := by
  intro n
  induction n with
  | zero => intro l2 H r hF; rw [B_Play_tell_2] at hF; cases hF
  | succ n ih =>
    intro l2 H r hF
    rw [B_Play_tell_2] at hF
    refine ab_iload_n d_Play_tell_2 rfl rfl ?_
    refine ab_aload_n d_Play_tell_3 rfl rfl rfl ?_
    obtain ⟨q1, hG⟩ := ck_s hF; clear hF
    refine hp_getI (f := 15) d_Play_tell_4 q1 (by decide) rfl (by decide) (k2 13 rfl rfl) rfl ?_
    refine ab_topi (fun x2 ex2 => ?_)
    replace hG := bnd_s ex2 hG
    refine ab_icmp_ge (tgt := 45) d_Play_tell_7 (by decide) (fun q3 => ?_) (fun q3 => ?_)
    · rw [if_pos q3] at hG
      exact ab_vret d_Play_tell_45 rfl (Nat.le_refl _) (Nat.le_refl _) (by have hr := Option.some.inj hG; subst hr; exact ⟨rfl, rfl⟩)
    · rw [if_neg q3] at hG
      refine ab_aload_n d_Play_tell_10 rfl rfl rfl ?_
      obtain ⟨q4, hF⟩ := ck_s hG; clear hG
      obtain ⟨a5, e6, hG⟩ := rf_s hF; clear hF
      refine hp_getR (f := 4) d_Play_tell_11 q4 (by decide) rfl (by decide) (k2 138 rfl rfl) rfl e6 ?_
      refine ab_aload_n d_Play_tell_14 rfl rfl rfl ?_
      refine hp_getI (f := 5) d_Play_tell_15 q4 (by decide) rfl (by decide) (k2 140 rfl rfl) rfl ?_
      refine ab_topi (fun x7 ex7 => ?_)
      replace hG := bnd_s ex7 hG
      refine ab_sipush (v := 255) d_Play_tell_18 (by decide) ?_
      refine ab_iand d_Play_tell_21 ?_
      refine ab_aload_n d_Play_tell_22 rfl rfl rfl ?_
      obtain ⟨a8, e9, hF⟩ := rf_s hG; clear hG
      refine hp_getR (f := 14) d_Play_tell_23 q1 (by decide) rfl (by decide) (k2 10 rfl rfl) rfl e9 ?_
      refine ab_iload_n d_Play_tell_26 rfl rfl ?_
      obtain ⟨n10, q11, hG⟩ := ar_s hF; clear hF
      obtain ⟨q12, hF⟩ := ck_s hG; clear hG
      refine hp_iald d_Play_tell_27 tI q11 q12 ?_
      refine ab_topi (fun x13 ex13 => ?_)
      replace hF := bnd_s ex13 hF
      obtain ⟨n14, q15, hG⟩ := ar_s hF; clear hF
      obtain ⟨q16, hF⟩ := ck_s hG; clear hG
      refine hp_iast d_Play_tell_28 tI q15 q16 ?_
      refine hp_gen (fun H17 eH17 => ?_)
      replace hF := bnd_s eH17 hF
      have s_1 : Sa H H17 := by rw [eH17]; exact Sa.rf _
      refine ab_aload_n d_Play_tell_29 rfl rfl rfl ?_
      refine ab_dup d_Play_tell_30 rfl ?_
      refine hp_getI (f := 5) d_Play_tell_31 (by rw [(s_1).1]; exact q4) (by decide) rfl (by decide) (k2 140 rfl rfl) rfl ?_
      refine ab_topi (fun x18 ex18 => ?_)
      replace hF := bnd_s ex18 hF
      refine ab_iconst (v := 1) d_Play_tell_34 (by decide) ?_
      refine ab_iadd d_Play_tell_35 ?_
      refine hp_putI (v := x18 + (1 : Int32)) (f := 5) d_Play_tell_36 (by rw [(s_1).1]; exact q4) (by decide) rfl (by decide) (k2 140 rfl rfl) rfl rfl (fun _ => rfl) (fun _ => rfl) rfl ?_
      refine hp_gen (fun H19 eH19 => ?_)
      replace hF := bnd_s eH19 hF
      have s_2 : Sa H H19 := by rw [eH19]; exact s_1
      refine ab_iinc (v := l2 + 1) (lv' := [some (.ref p0), some (.ref p1), some (.int (l2 + 1))]) d_Play_tell_39 rfl rfl (by decide) rfl ?_
      refine ab_goto (tgt := 2) d_Play_tell_42 (by decide) ?_
      exact ih (l2 + 1) H19 r hF
def F_Play_tell (N : Nat) (p0 : Nat) (p1 : Nat) (H : Hp) : Option (Unit × Hp) :=
    B_Play_tell_2 N p0 p1 N 0 H
set_option maxRecDepth 20000 in
set_option maxHeartbeats 2000000 in
theorem m_Play_tell {N : Nat} {p0 : Nat} {p1 : Nat} {H : Hp} {r : Unit × Hp} (hF : F_Play_tell N p0 p1 H = some r) : Sa H r.2 := by
  unfold F_Play_tell at hF
  have hm := Sa.rf H
  exact hm.tr (mB_Play_tell_2 N 0 H r hF)
set_option maxRecDepth 20000 in
set_option maxHeartbeats 2000000 in
theorem k_Play_tell {N : Nat} {p0 : Nat} {p1 : Nat} {H : Hp} {r : Unit × Hp} (hF : F_Play_tell N p0 p1 H = some r) : ab_M y_Play_tell { frames := 0, cells := 0, slots := 0, locals := 0 } [.ref p0, .ref p1] (hpw H) (po (.returned none) r.2) := by
  unfold F_Play_tell at hF
  refine ab_of2 (lv := [some (.ref p0), some (.ref p1), none]) 1 rfl rfl (Nat.le_of_ble_eq_true rfl) ?_
  refine ab_iconst (v := 0) d_Play_tell_0 (by decide) ?_
  refine ab_istore_n (lv' := [some (.ref p0), some (.ref p1), some (.int 0)]) d_Play_tell_1 rfl (by decide) rfl ?_
  exact kB_Play_tell_2 N 0 H r hF
