def y_Store_restore : ab_Y := (⟨"WorldEngine$Store", "restore", "(LWorldEngine$Program;LWorldEngine$World;)Z"⟩, prog_10_method_8_code, 4, (some FieldType.boolean), [(17, 140, 143, 141)])
theorem d_Store_restore_0 : decode y_Store_restore.2.1 0 = .ok (.aload_n 0, 1) := by decide +kernel
theorem d_Store_restore_1 : decode y_Store_restore.2.1 1 = .ok (.iconst 0, 1) := by decide +kernel
theorem d_Store_restore_2 : decode y_Store_restore.2.1 2 = .ok (.putfield 111, 3) := by decide +kernel
theorem d_Store_restore_5 : decode y_Store_restore.2.1 5 = .ok (.aload_n 2, 1) := by decide +kernel
theorem d_Store_restore_6 : decode y_Store_restore.2.1 6 = .ok (.iconst 0, 1) := by decide +kernel
theorem d_Store_restore_7 : decode y_Store_restore.2.1 7 = .ok (.aload_n 1, 1) := by decide +kernel
theorem d_Store_restore_8 : decode y_Store_restore.2.1 8 = .ok (.getfield 31, 3) := by decide +kernel
theorem d_Store_restore_11 : decode y_Store_restore.2.1 11 = .ok (.invokevirtual 114, 3) := by decide +kernel
theorem d_Store_restore_14 : decode y_Store_restore.2.1 14 = .ok (.invokevirtual 118, 3) := by decide +kernel
theorem d_Store_restore_17 : decode y_Store_restore.2.1 17 = .ok (.aload_n 0, 1) := by decide +kernel
theorem d_Store_restore_18 : decode y_Store_restore.2.1 18 = .ok (.iconst 1, 1) := by decide +kernel
theorem d_Store_restore_19 : decode y_Store_restore.2.1 19 = .ok (.bipush 87, 2) := by decide +kernel
theorem d_Store_restore_21 : decode y_Store_restore.2.1 21 = .ok (.bipush 87, 2) := by decide +kernel
theorem d_Store_restore_23 : decode y_Store_restore.2.1 23 = .ok (.invokevirtual 122, 3) := by decide +kernel
theorem d_Store_restore_26 : decode y_Store_restore.2.1 26 = .ok (.pop, 1) := by decide +kernel
theorem d_Store_restore_27 : decode y_Store_restore.2.1 27 = .ok (.aload_n 0, 1) := by decide +kernel
theorem d_Store_restore_28 : decode y_Store_restore.2.1 28 = .ok (.iconst 1, 1) := by decide +kernel
theorem d_Store_restore_29 : decode y_Store_restore.2.1 29 = .ok (.bipush 69, 2) := by decide +kernel
theorem d_Store_restore_31 : decode y_Store_restore.2.1 31 = .ok (.bipush 69, 2) := by decide +kernel
theorem d_Store_restore_33 : decode y_Store_restore.2.1 33 = .ok (.invokevirtual 122, 3) := by decide +kernel
theorem d_Store_restore_36 : decode y_Store_restore.2.1 36 = .ok (.pop, 1) := by decide +kernel
theorem d_Store_restore_37 : decode y_Store_restore.2.1 37 = .ok (.aload_n 0, 1) := by decide +kernel
theorem d_Store_restore_38 : decode y_Store_restore.2.1 38 = .ok (.aload_n 1, 1) := by decide +kernel
theorem d_Store_restore_39 : decode y_Store_restore.2.1 39 = .ok (.getfield 31, 3) := by decide +kernel
theorem d_Store_restore_42 : decode y_Store_restore.2.1 42 = .ok (.invokevirtual 126, 3) := by decide +kernel
theorem d_Store_restore_45 : decode y_Store_restore.2.1 45 = .ok (.aload_n 0, 1) := by decide +kernel
theorem d_Store_restore_46 : decode y_Store_restore.2.1 46 = .ok (.aload_n 1, 1) := by decide +kernel
theorem d_Store_restore_47 : decode y_Store_restore.2.1 47 = .ok (.getfield 41, 3) := by decide +kernel
theorem d_Store_restore_50 : decode y_Store_restore.2.1 50 = .ok (.invokevirtual 126, 3) := by decide +kernel
theorem d_Store_restore_53 : decode y_Store_restore.2.1 53 = .ok (.aload_n 2, 1) := by decide +kernel
theorem d_Store_restore_54 : decode y_Store_restore.2.1 54 = .ok (.aload_n 0, 1) := by decide +kernel
theorem d_Store_restore_55 : decode y_Store_restore.2.1 55 = .ok (.iconst 4, 1) := by decide +kernel
theorem d_Store_restore_56 : decode y_Store_restore.2.1 56 = .ok (.iconst 0, 1) := by decide +kernel
theorem d_Store_restore_57 : decode y_Store_restore.2.1 57 = .ok (.ldc 129, 2) := by decide +kernel
theorem d_Store_restore_59 : decode y_Store_restore.2.1 59 = .ok (.invokevirtual 122, 3) := by decide +kernel
theorem d_Store_restore_62 : decode y_Store_restore.2.1 62 = .ok (.putfield 44, 3) := by decide +kernel
theorem d_Store_restore_65 : decode y_Store_restore.2.1 65 = .ok (.aload_n 2, 1) := by decide +kernel
theorem d_Store_restore_66 : decode y_Store_restore.2.1 66 = .ok (.aload_n 0, 1) := by decide +kernel
theorem d_Store_restore_67 : decode y_Store_restore.2.1 67 = .ok (.iconst 4, 1) := by decide +kernel
theorem d_Store_restore_68 : decode y_Store_restore.2.1 68 = .ok (.ldc 130, 2) := by decide +kernel
theorem d_Store_restore_70 : decode y_Store_restore.2.1 70 = .ok (.ldc 131, 2) := by decide +kernel
theorem d_Store_restore_72 : decode y_Store_restore.2.1 72 = .ok (.invokevirtual 122, 3) := by decide +kernel
theorem d_Store_restore_75 : decode y_Store_restore.2.1 75 = .ok (.putfield 52, 3) := by decide +kernel
theorem d_Store_restore_78 : decode y_Store_restore.2.1 78 = .ok (.aload_n 2, 1) := by decide +kernel
theorem d_Store_restore_79 : decode y_Store_restore.2.1 79 = .ok (.aload_n 0, 1) := by decide +kernel
theorem d_Store_restore_80 : decode y_Store_restore.2.1 80 = .ok (.iconst 4, 1) := by decide +kernel
theorem d_Store_restore_81 : decode y_Store_restore.2.1 81 = .ok (.iconst 0, 1) := by decide +kernel
theorem d_Store_restore_82 : decode y_Store_restore.2.1 82 = .ok (.ldc 129, 2) := by decide +kernel
theorem d_Store_restore_84 : decode y_Store_restore.2.1 84 = .ok (.invokevirtual 122, 3) := by decide +kernel
theorem d_Store_restore_87 : decode y_Store_restore.2.1 87 = .ok (.putfield 55, 3) := by decide +kernel
theorem d_Store_restore_90 : decode y_Store_restore.2.1 90 = .ok (.aload_n 2, 1) := by decide +kernel
theorem d_Store_restore_91 : decode y_Store_restore.2.1 91 = .ok (.aload_n 0, 1) := by decide +kernel
theorem d_Store_restore_92 : decode y_Store_restore.2.1 92 = .ok (.iconst 4, 1) := by decide +kernel
theorem d_Store_restore_93 : decode y_Store_restore.2.1 93 = .ok (.iconst 0, 1) := by decide +kernel
theorem d_Store_restore_94 : decode y_Store_restore.2.1 94 = .ok (.ldc 129, 2) := by decide +kernel
theorem d_Store_restore_96 : decode y_Store_restore.2.1 96 = .ok (.invokevirtual 122, 3) := by decide +kernel
theorem d_Store_restore_99 : decode y_Store_restore.2.1 99 = .ok (.putfield 58, 3) := by decide +kernel
theorem d_Store_restore_102 : decode y_Store_restore.2.1 102 = .ok (.iconst 0, 1) := by decide +kernel
theorem d_Store_restore_103 : decode y_Store_restore.2.1 103 = .ok (.istore_n 3, 1) := by decide +kernel
theorem d_Store_restore_104 : decode y_Store_restore.2.1 104 = .ok (.iload_n 3, 1) := by decide +kernel
theorem d_Store_restore_105 : decode y_Store_restore.2.1 105 = .ok (.sipush 256, 3) := by decide +kernel
theorem d_Store_restore_108 : decode y_Store_restore.2.1 108 = .ok (.if_icmp .ge 19, 3) := by decide +kernel
theorem d_Store_restore_111 : decode y_Store_restore.2.1 111 = .ok (.aload_n 0, 1) := by decide +kernel
theorem d_Store_restore_112 : decode y_Store_restore.2.1 112 = .ok (.aload_n 1, 1) := by decide +kernel
theorem d_Store_restore_113 : decode y_Store_restore.2.1 113 = .ok (.getfield 31, 3) := by decide +kernel
theorem d_Store_restore_116 : decode y_Store_restore.2.1 116 = .ok (.aload_n 2, 1) := by decide +kernel
theorem d_Store_restore_117 : decode y_Store_restore.2.1 117 = .ok (.iload_n 3, 1) := by decide +kernel
theorem d_Store_restore_118 : decode y_Store_restore.2.1 118 = .ok (.invokevirtual 132, 3) := by decide +kernel
theorem d_Store_restore_121 : decode y_Store_restore.2.1 121 = .ok (.iinc 3 1, 3) := by decide +kernel
theorem d_Store_restore_124 : decode y_Store_restore.2.1 124 = .ok (.goto (-20), 3) := by decide +kernel
theorem d_Store_restore_127 : decode y_Store_restore.2.1 127 = .ok (.aload_n 0, 1) := by decide +kernel
theorem d_Store_restore_128 : decode y_Store_restore.2.1 128 = .ok (.aload_n 1, 1) := by decide +kernel
theorem d_Store_restore_129 : decode y_Store_restore.2.1 129 = .ok (.getfield 41, 3) := by decide +kernel
theorem d_Store_restore_132 : decode y_Store_restore.2.1 132 = .ok (.aload_n 2, 1) := by decide +kernel
theorem d_Store_restore_133 : decode y_Store_restore.2.1 133 = .ok (.invokevirtual 135, 3) := by decide +kernel
theorem d_Store_restore_136 : decode y_Store_restore.2.1 136 = .ok (.aload_n 0, 1) := by decide +kernel
theorem d_Store_restore_137 : decode y_Store_restore.2.1 137 = .ok (.invokevirtual 138, 3) := by decide +kernel
theorem d_Store_restore_140 : decode y_Store_restore.2.1 140 = .ok (.goto 6, 3) := by decide +kernel
theorem d_Store_restore_143 : decode y_Store_restore.2.1 143 = .ok (.astore_n 3, 1) := by decide +kernel
theorem d_Store_restore_144 : decode y_Store_restore.2.1 144 = .ok (.iconst 0, 1) := by decide +kernel
theorem d_Store_restore_145 : decode y_Store_restore.2.1 145 = .ok (.ireturn, 1) := by decide +kernel
theorem d_Store_restore_146 : decode y_Store_restore.2.1 146 = .ok (.iconst 1, 1) := by decide +kernel
theorem d_Store_restore_147 : decode y_Store_restore.2.1 147 = .ok (.ireturn, 1) := by decide +kernel
theorem s_Store_restore : ab_Stat y_Store_restore 2 := ⟨(k8 49 rfl rfl), (k1 14 rfl rfl), ⟨by decide, by decide⟩, by decide +kernel⟩
theorem i_Store_restore : Cond.instanceMethod y_Store_restore.1 ∈ ab_T := (k8 47 rfl rfl)
theorem v_Store_restore : Cond.selects "WorldEngine$Store" y_Store_restore.1 y_Store_restore.1 ∈ ab_T := (k8 48 rfl rfl)
def B_Store_restore_143 (N : Nat) (p0 : Nat) (p1 : Nat) (p2 : Nat) (w0 : Nat) (H : Hp) : Option (Int32 × Hp) :=
    some (0, H)
set_option maxRecDepth 20000 in
set_option maxHeartbeats 2000000 in
theorem mB_Store_restore_143 {N : Nat} {p0 : Nat} {p1 : Nat} {p2 : Nat} {w0 : Nat} {H : Hp} {r : Int32 × Hp} (hF : B_Store_restore_143 N p0 p1 p2 w0 H = some r) : Mo H r.2 := by
  unfold B_Store_restore_143 at hF
  have hm := Mo.rf H
  have hr := Option.some.inj hF; subst hr
  exact hm
set_option maxRecDepth 20000 in
set_option maxHeartbeats 2000000 in
theorem kB_Store_restore_143 {N : Nat} {p0 : Nat} {p1 : Nat} {p2 : Nat} {c0 s0 C Sl : Nat} {w0 : Nat} {H : Hp} {r : Int32 × Hp} (hF : B_Store_restore_143 N p0 p1 p2 w0 H = some r) (hc0 : c0 ≤ H.sh.length) (hs0 : s0 ≤ H.sl) (hcc : H.sh.length ≤ c0 + C) (hss : H.sl ≤ s0 + Sl) (hC : r.2.sh.length ≤ c0 + C) (hS : r.2.sl ≤ s0 + Sl) : ab_V y_Store_restore { frames := 9, cells := C, slots := Sl, locals := 174 } (po (.returned (some (.int r.1))) r.2) C Sl (H.sh.length - c0) (H.sl - s0) 143 [some (.ref p0), some (.ref p1), some (.ref p2), none] [.ref w0] (hpw H) := by
  unfold B_Store_restore_143 at hF
  refine ab_astore_n (lv' := [some (.ref p0), some (.ref p1), some (.ref p2), some (.ref w0)]) d_Store_restore_143 rfl (by decide) rfl rfl ?_
  refine ab_iconst (v := 0) d_Store_restore_144 (by decide) ?_
  exact ab_zret d_Store_restore_145 rfl rfl (by show _ ≤ C; omega) (by show _ ≤ Sl; omega) (by have hr := Option.some.inj hF; subst hr; exact ⟨rfl, rfl⟩)
def B_Store_restore_104 (N : Nat) (p0 : Nat) (p1 : Nat) (p2 : Nat) : Nat → Int32 → Hp → Option (Int32 × Hp)
  | 0, _, _ => none
  | n + 1, l3, H =>
    if (256 : Int32) ≤ l3 then
    ck (H.sh[p1]? = some (4, 0)) <|
    rf (H.P p1 3) fun a64 =>
    ck (H.sh[p0]? = some (11, 0)) <|
    bH (F_Store_readEvents N p0 a64 p2 H) (fun v68 H69 =>
    bH (F_Store_readEnd N p0 H69) (fun v73 H74 =>
    some (1, H74))
    (fun x75 H74 =>
    ck (H74.sh[x75]? = some (17, 0)) <|
    B_Store_restore_143 N p0 p1 p2 x75 H74))
    (fun x70 H69 =>
    ck (H69.sh[x70]? = some (17, 0)) <|
    B_Store_restore_143 N p0 p1 p2 x70 H69)
    else
    ck (H.sh[p1]? = some (4, 0)) <|
    rf (H.P p1 2) fun a78 =>
    ck (H.sh[p0]? = some (11, 0)) <|
    bH (F_Store_readPlace N p0 a78 p2 l3 H) (fun v82 H83 =>
    B_Store_restore_104 N p0 p1 p2 n (l3 + 1) H83)
    (fun x84 H83 =>
    ck (H83.sh[x84]? = some (17, 0)) <|
    B_Store_restore_143 N p0 p1 p2 x84 H83)
termination_by structural n => n
set_option maxRecDepth 20000 in
set_option maxHeartbeats 2000000 in
theorem mB_Store_restore_104 {N : Nat} {p0 : Nat} {p1 : Nat} {p2 : Nat} : ∀ (n : Nat) (l3 : Int32) (H : Hp) (r : Int32 × Hp), B_Store_restore_104 N p0 p1 p2 n l3 H = some r → Mo H r.2 := by
  intro n
  induction n with
  | zero => intro l3 H r hF; rw [B_Store_restore_104] at hF; cases hF
  | succ n ih =>
    intro l3 H r hF
    rw [B_Store_restore_104] at hF
    have hm := Mo.rf H
    rcases ite_s hF with ⟨q_70, hG⟩ | ⟨q_70, hG⟩
    · clear hF
      obtain ⟨q87, hF⟩ := ck_s hG; clear hG
      obtain ⟨a88, e89, hG⟩ := rf_s hF; clear hF
      obtain ⟨q90, hF⟩ := ck_s hG; clear hG
      refine bH_c hF (fun x94 H93 z91 hG => ?_) (fun v92 H93 z91 hG => ?_)
      · clear hF
        replace hm : Mo H H93 := hm.tr (m_Store_readEvents z91)
        obtain ⟨q95, hF⟩ := ck_s hG; clear hG
        exact hm.tr (mB_Store_restore_143 hF)
      clear hF
      replace hm : Mo H H93 := hm.tr (m_Store_readEvents z91)
      refine bH_c hG (fun x99 H98 z96 hF => ?_) (fun v97 H98 z96 hF => ?_)
      · clear hG
        replace hm : Mo H H98 := hm.tr (m_Store_readEnd z96)
        obtain ⟨q100, hG⟩ := ck_s hF; clear hF
        exact hm.tr (mB_Store_restore_143 hG)
      clear hG
      replace hm : Mo H H98 := hm.tr (m_Store_readEnd z96)
      have hr := Option.some.inj hF; subst hr
      exact hm
    · clear hF
      obtain ⟨q101, hF⟩ := ck_s hG; clear hG
      obtain ⟨a102, e103, hG⟩ := rf_s hF; clear hF
      obtain ⟨q104, hF⟩ := ck_s hG; clear hG
      refine bH_c hF (fun x108 H107 z105 hG => ?_) (fun v106 H107 z105 hG => ?_)
      · clear hF
        replace hm : Mo H H107 := hm.tr (m_Store_readPlace z105)
        obtain ⟨q109, hF⟩ := ck_s hG; clear hG
        exact hm.tr (mB_Store_restore_143 hF)
      clear hF
      replace hm : Mo H H107 := hm.tr (m_Store_readPlace z105)
      exact hm.tr (ih (l3 + 1) H107 r hG)
set_option maxRecDepth 20000 in
set_option maxHeartbeats 2000000 in
theorem kB_Store_restore_104 {N : Nat} {p0 : Nat} {p1 : Nat} {p2 : Nat} {c0 s0 C Sl : Nat} : ∀ (n : Nat) (l3 : Int32) (H : Hp) (r : Int32 × Hp), B_Store_restore_104 N p0 p1 p2 n l3 H = some r → c0 ≤ H.sh.length → s0 ≤ H.sl → H.sh.length ≤ c0 + C → H.sl ≤ s0 + Sl → r.2.sh.length ≤ c0 + C → r.2.sl ≤ s0 + Sl → ab_V y_Store_restore { frames := 9, cells := C, slots := Sl, locals := 174 } (po (.returned (some (.int r.1))) r.2) C Sl (H.sh.length - c0) (H.sl - s0) 104 [some (.ref p0), some (.ref p1), some (.ref p2), some (.int l3)] [] (hpw H) := by
  intro n
  induction n with
  | zero => intro l3 H r hF; rw [B_Store_restore_104] at hF; cases hF
  | succ n ih =>
    intro l3 H r hF hc0 hs0 hcc hss hC hS
    rw [B_Store_restore_104] at hF
    refine ab_iload_n d_Store_restore_104 rfl rfl ?_
    refine ab_sipush (v := 256) d_Store_restore_105 (by decide) ?_
    refine ab_icmp_ge (tgt := 127) d_Store_restore_108 (by decide) (fun q62 => ?_) (fun q62 => ?_)
    · rw [if_pos q62] at hF
      refine ab_aload_n d_Store_restore_127 rfl rfl rfl ?_
      refine ab_aload_n d_Store_restore_128 rfl rfl rfl ?_
      obtain ⟨q63, hG⟩ := ck_s hF; clear hF
      obtain ⟨a64, e65, hF⟩ := rf_s hG; clear hG
      refine hp_getR (f := 3) d_Store_restore_129 q63 (by decide) rfl (by decide) (k3 63 rfl rfl) rfl e65 ?_
      refine ab_aload_n d_Store_restore_132 rfl rfl rfl ?_
      obtain ⟨q66, hG⟩ := ck_s hF; clear hF
      refine bH_c hG (fun x70 H69 z67 hF => ?_) (fun v68 H69 z67 hF => ?_)
      · clear hG
        have mz : Mo H H69 := (m_Store_readEvents z67)
        have b_52l := (mz).len
        have b_52s := (mz).2
        have b_52c : c0 ≤ H69.sh.length := by omega
        have b_52d : s0 ≤ H69.sl := by omega
        obtain ⟨q71, hG⟩ := ck_s hF; clear hF
        have fH69 : Mo H69 r.2 := by
          have hm := Mo.rf H69
          exact hm.tr (mB_Store_restore_143 hG)
        have b_52m := (fH69).len
        have b_52n := (fH69).2
        have b_52p : H69.sh.length ≤ c0 + C := by omega
        have b_52q : H69.sl ≤ s0 + Sl := by omega
        refine hp_callV_t (x := x70) (H1 := H69) (As := [.ref a64, .ref p2]) (rest := []) d_Store_restore_133 (k_Store_readEvents z67 (C := H69.sh.length - H.sh.length) (Sl := H69.sl - H.sl) (by show H69.sh.length ≤ _; omega) (by show H69.sl ≤ _; omega)) (ab_mkC s_Store_readEvents (Nat.le_of_ble_eq_true rfl) (Nat.le_of_ble_eq_true rfl) (show (H.sh.length - c0) + (H69.sh.length - H.sh.length) ≤ C from by omega) (show (H.sl - s0) + (H69.sl - H.sl) ≤ Sl from by omega)) (k8 82 rfl rfl) i_Store_readEvents v_Store_readEvents q66 (by decide) rfl rfl (Nat.le_of_ble_eq_true rfl) ?_
        refine ab_U_catch rfl rfl (by decide) (k8 50 rfl rfl) (hp_ob q71 (by decide)) rfl ?_
        refine ab_widen (cells' := H69.sh.length - c0) (slots' := H69.sl - s0) (by show _ + (H69.sh.length - H.sh.length) ≤ _; omega) (by show _ + (H69.sl - H.sl) ≤ _; omega) ?_
        refine ab_le (lv' := [some (.ref p0), some (.ref p1), some (.ref p2), none]) ⟨rfl, ⟨rfl, ⟨rfl, trivial⟩⟩⟩ ?_
        exact kB_Store_restore_143 hG b_52c b_52d b_52p b_52q hC hS
      clear hG
      have mz_53 : Mo H H69 := (m_Store_readEvents z67)
      have b_54l := (mz_53).len
      have b_54s := (mz_53).2
      have b_54c : c0 ≤ H69.sh.length := by omega
      have b_54d : s0 ≤ H69.sl := by omega
      have q_55 := (mz_53).get q63
      have q_56 := (mz_53).get q66
      have fH69 : Mo H69 r.2 := by
        have hm := Mo.rf H69
        refine bH_c hF (fun x75 H74 z72 hG => ?_) (fun v73 H74 z72 hG => ?_)
        · clear hF
          replace hm : Mo H69 H74 := hm.tr (m_Store_readEnd z72)
          obtain ⟨q76, hF⟩ := ck_s hG; clear hG
          exact hm.tr (mB_Store_restore_143 hF)
        clear hF
        replace hm : Mo H69 H74 := hm.tr (m_Store_readEnd z72)
        have hr := Option.some.inj hG; subst hr
        exact hm
      have b_54m := (fH69).len
      have b_54n := (fH69).2
      have b_54p : H69.sh.length ≤ c0 + C := by omega
      have b_54q : H69.sl ≤ s0 + Sl := by omega
      refine hp_callV_v (H1 := H69) (As := [.ref a64, .ref p2]) (rest := []) d_Store_restore_133 (k_Store_readEvents z67 (C := H69.sh.length - H.sh.length) (Sl := H69.sl - H.sl) (by show H69.sh.length ≤ _; omega) (by show H69.sl ≤ _; omega)) (ab_mkC s_Store_readEvents (Nat.le_of_ble_eq_true rfl) (Nat.le_of_ble_eq_true rfl) (show (H.sh.length - c0) + (H69.sh.length - H.sh.length) ≤ C from by omega) (show (H.sl - s0) + (H69.sl - H.sl) ≤ Sl from by omega)) (k8 82 rfl rfl) i_Store_readEvents v_Store_readEvents q66 (by decide) rfl rfl (Nat.le_of_ble_eq_true rfl) ?_
      refine ab_widen (cells' := H69.sh.length - c0) (slots' := H69.sl - s0) (by show _ + (H69.sh.length - H.sh.length) ≤ _; omega) (by show _ + (H69.sl - H.sl) ≤ _; omega) ?_
      clear b_54l b_54s b_54m b_54n
      refine ab_aload_n d_Store_restore_136 rfl rfl rfl ?_
      refine bH_c hF (fun x75 H74 z72 hG => ?_) (fun v73 H74 z72 hG => ?_)
      · clear hF
        have mz : Mo H69 H74 := (m_Store_readEnd z72)
        have b_60l := (mz).len
        have b_60s := (mz).2
        have b_60c : c0 ≤ H74.sh.length := by omega
        have b_60d : s0 ≤ H74.sl := by omega
        obtain ⟨q76, hF⟩ := ck_s hG; clear hG
        have fH74 : Mo H74 r.2 := by
          have hm := Mo.rf H74
          exact hm.tr (mB_Store_restore_143 hF)
        have b_60m := (fH74).len
        have b_60n := (fH74).2
        have b_60p : H74.sh.length ≤ c0 + C := by omega
        have b_60q : H74.sl ≤ s0 + Sl := by omega
        refine hp_callV_t (x := x75) (H1 := H74) (As := []) (rest := []) d_Store_restore_137 (k_Store_readEnd z72 (C := H74.sh.length - H69.sh.length) (Sl := H74.sl - H69.sl) (by show H74.sh.length ≤ _; omega) (by show H74.sl ≤ _; omega)) (ab_mkC s_Store_readEnd (Nat.le_of_ble_eq_true rfl) (Nat.le_of_ble_eq_true rfl) (show (H69.sh.length - c0) + (H74.sh.length - H69.sh.length) ≤ C from by omega) (show (H69.sl - s0) + (H74.sl - H69.sl) ≤ Sl from by omega)) (k8 86 rfl rfl) i_Store_readEnd v_Store_readEnd q_56 (by decide) rfl rfl (Nat.le_of_ble_eq_true rfl) ?_
        refine ab_U_catch rfl rfl (by decide) (k8 50 rfl rfl) (hp_ob q76 (by decide)) rfl ?_
        refine ab_widen (cells' := H74.sh.length - c0) (slots' := H74.sl - s0) (by show _ + (H74.sh.length - H69.sh.length) ≤ _; omega) (by show _ + (H74.sl - H69.sl) ≤ _; omega) ?_
        refine ab_le (lv' := [some (.ref p0), some (.ref p1), some (.ref p2), none]) ⟨rfl, ⟨rfl, ⟨rfl, trivial⟩⟩⟩ ?_
        exact kB_Store_restore_143 hF b_60c b_60d b_60p b_60q hC hS
      clear hF
      have mz_61 : Mo H69 H74 := (m_Store_readEnd z72)
      have b_62l := (mz_61).len
      have b_62s := (mz_61).2
      have b_62c : c0 ≤ H74.sh.length := by omega
      have b_62d : s0 ≤ H74.sl := by omega
      have q_63 := (mz_61).get q_55
      have q_64 := (mz_61).get q_56
      have fH74 : Mo H74 r.2 := by
        have hm := Mo.rf H74
        have hr := Option.some.inj hG; subst hr
        exact hm
      have b_62m := (fH74).len
      have b_62n := (fH74).2
      have b_62p : H74.sh.length ≤ c0 + C := by omega
      have b_62q : H74.sl ≤ s0 + Sl := by omega
      refine hp_callV_v (H1 := H74) (As := []) (rest := []) d_Store_restore_137 (k_Store_readEnd z72 (C := H74.sh.length - H69.sh.length) (Sl := H74.sl - H69.sl) (by show H74.sh.length ≤ _; omega) (by show H74.sl ≤ _; omega)) (ab_mkC s_Store_readEnd (Nat.le_of_ble_eq_true rfl) (Nat.le_of_ble_eq_true rfl) (show (H69.sh.length - c0) + (H74.sh.length - H69.sh.length) ≤ C from by omega) (show (H69.sl - s0) + (H74.sl - H69.sl) ≤ Sl from by omega)) (k8 86 rfl rfl) i_Store_readEnd v_Store_readEnd q_56 (by decide) rfl rfl (Nat.le_of_ble_eq_true rfl) ?_
      refine ab_widen (cells' := H74.sh.length - c0) (slots' := H74.sl - s0) (by show _ + (H74.sh.length - H69.sh.length) ≤ _; omega) (by show _ + (H74.sl - H69.sl) ≤ _; omega) ?_
      clear b_62l b_62s b_62m b_62n b_54c b_54d b_54p b_54q
      refine ab_goto (tgt := 146) d_Store_restore_140 (by decide) ?_
      refine ab_iconst (v := 1) d_Store_restore_146 (by decide) ?_
      exact ab_zret d_Store_restore_147 rfl rfl (by show _ ≤ C; omega) (by show _ ≤ Sl; omega) (by have hr := Option.some.inj hG; subst hr; exact ⟨rfl, rfl⟩)
    · rw [if_neg q62] at hF
      refine ab_aload_n d_Store_restore_111 rfl rfl rfl ?_
      refine ab_aload_n d_Store_restore_112 rfl rfl rfl ?_
      obtain ⟨q77, hG⟩ := ck_s hF; clear hF
      obtain ⟨a78, e79, hF⟩ := rf_s hG; clear hG
      refine hp_getR (f := 2) d_Store_restore_113 q77 (by decide) rfl (by decide) (k3 56 rfl rfl) rfl e79 ?_
      refine ab_aload_n d_Store_restore_116 rfl rfl rfl ?_
      refine ab_iload_n d_Store_restore_117 rfl rfl ?_
      obtain ⟨q80, hG⟩ := ck_s hF; clear hF
      refine bH_c hG (fun x84 H83 z81 hF => ?_) (fun v82 H83 z81 hF => ?_)
      · clear hG
        have mz : Mo H H83 := (m_Store_readPlace z81)
        have b_65l := (mz).len
        have b_65s := (mz).2
        have b_65c : c0 ≤ H83.sh.length := by omega
        have b_65d : s0 ≤ H83.sl := by omega
        obtain ⟨q85, hG⟩ := ck_s hF; clear hF
        have fH83 : Mo H83 r.2 := by
          have hm := Mo.rf H83
          exact hm.tr (mB_Store_restore_143 hG)
        have b_65m := (fH83).len
        have b_65n := (fH83).2
        have b_65p : H83.sh.length ≤ c0 + C := by omega
        have b_65q : H83.sl ≤ s0 + Sl := by omega
        refine hp_callV_t (x := x84) (H1 := H83) (As := [.ref a78, .ref p2, .int l3]) (rest := []) d_Store_restore_118 (k_Store_readPlace z81 (C := H83.sh.length - H.sh.length) (Sl := H83.sl - H.sl) (by show H83.sh.length ≤ _; omega) (by show H83.sl ≤ _; omega)) (ab_mkC s_Store_readPlace (Nat.le_of_ble_eq_true rfl) (Nat.le_of_ble_eq_true rfl) (show (H.sh.length - c0) + (H83.sh.length - H.sh.length) ≤ C from by omega) (show (H.sl - s0) + (H83.sl - H.sl) ≤ Sl from by omega)) (k8 67 rfl rfl) i_Store_readPlace v_Store_readPlace q80 (by decide) rfl rfl (Nat.le_of_ble_eq_true rfl) ?_
        refine ab_U_catch rfl rfl (by decide) (k8 50 rfl rfl) (hp_ob q85 (by decide)) rfl ?_
        refine ab_widen (cells' := H83.sh.length - c0) (slots' := H83.sl - s0) (by show _ + (H83.sh.length - H.sh.length) ≤ _; omega) (by show _ + (H83.sl - H.sl) ≤ _; omega) ?_
        refine ab_le (lv' := [some (.ref p0), some (.ref p1), some (.ref p2), none]) ⟨rfl, ⟨rfl, ⟨rfl, trivial⟩⟩⟩ ?_
        exact kB_Store_restore_143 hG b_65c b_65d b_65p b_65q hC hS
      clear hG
      have mz_66 : Mo H H83 := (m_Store_readPlace z81)
      have b_67l := (mz_66).len
      have b_67s := (mz_66).2
      have b_67c : c0 ≤ H83.sh.length := by omega
      have b_67d : s0 ≤ H83.sl := by omega
      have q_68 := (mz_66).get q77
      have q_69 := (mz_66).get q80
      have fH83 : Mo H83 r.2 := by
        have hm := Mo.rf H83
        exact hm.tr (mB_Store_restore_104 n (l3 + 1) H83 r hF)
      have b_67m := (fH83).len
      have b_67n := (fH83).2
      have b_67p : H83.sh.length ≤ c0 + C := by omega
      have b_67q : H83.sl ≤ s0 + Sl := by omega
      refine hp_callV_v (H1 := H83) (As := [.ref a78, .ref p2, .int l3]) (rest := []) d_Store_restore_118 (k_Store_readPlace z81 (C := H83.sh.length - H.sh.length) (Sl := H83.sl - H.sl) (by show H83.sh.length ≤ _; omega) (by show H83.sl ≤ _; omega)) (ab_mkC s_Store_readPlace (Nat.le_of_ble_eq_true rfl) (Nat.le_of_ble_eq_true rfl) (show (H.sh.length - c0) + (H83.sh.length - H.sh.length) ≤ C from by omega) (show (H.sl - s0) + (H83.sl - H.sl) ≤ Sl from by omega)) (k8 67 rfl rfl) i_Store_readPlace v_Store_readPlace q80 (by decide) rfl rfl (Nat.le_of_ble_eq_true rfl) ?_
      refine ab_widen (cells' := H83.sh.length - c0) (slots' := H83.sl - s0) (by show _ + (H83.sh.length - H.sh.length) ≤ _; omega) (by show _ + (H83.sl - H.sl) ≤ _; omega) ?_
      clear b_67l b_67s b_67m b_67n
      refine ab_iinc (v := l3 + 1) (lv' := [some (.ref p0), some (.ref p1), some (.ref p2), some (.int (l3 + 1))]) d_Store_restore_121 rfl rfl (by decide) rfl ?_
      refine ab_goto (tgt := 104) d_Store_restore_124 (by decide) ?_
      exact ih (l3 + 1) H83 r hF b_67c b_67d b_67p b_67q hC hS
def F_Store_restore (N : Nat) (p0 : Nat) (p1 : Nat) (p2 : Nat) (H : Hp) : Option (Int32 × Hp) :=
    ck (H.sh[p0]? = some (11, 0)) <|
    bnd (H.sD p0 5 (0 : Int32)) fun H2 =>
    ck (H2.sh[p1]? = some (4, 0)) <|
    rf (H2.P p1 2) fun a4 =>
    ck (H2.sh[a4]? = some (3, 0)) <|
    bC (F_Shapes_total N a4 H2) fun v8 H9 =>
    ck (H9.sh[p2]? = some (7, 0)) <|
    bC (F_World_clear N p2 (0 : Int32) v8 H9) fun v12 H13 =>
    bH (F_Store_readNumber N p0 (1 : Int32) (87 : Int32) (87 : Int32) H13) (fun v15 H16 =>
    bH (F_Store_readNumber N p0 (1 : Int32) (69 : Int32) (69 : Int32) H16) (fun v20 H21 =>
    rf (H21.P p1 2) fun a24 =>
    bH (F_Store_readShapes N p0 a24 H21) (fun v27 H28 =>
    rf (H28.P p1 3) fun a31 =>
    bH (F_Store_readShapes N p0 a31 H28) (fun v34 H35 =>
    bH (F_Store_readNumber N p0 (4 : Int32) (0 : Int32) (1000000000 : Int32) H35) (fun v39 H40 =>
    bnd (H40.sD p2 0 v39) fun H43 =>
    bH (F_Store_readNumber N p0 (4 : Int32) ((-2147483648) : Int32) (2147483647 : Int32) H43) (fun v45 H46 =>
    bnd (H46.sD p2 1 v45) fun H49 =>
    bH (F_Store_readNumber N p0 (4 : Int32) (0 : Int32) (1000000000 : Int32) H49) (fun v51 H52 =>
    bnd (H52.sD p2 2 v51) fun H55 =>
    bH (F_Store_readNumber N p0 (4 : Int32) (0 : Int32) (1000000000 : Int32) H55) (fun v57 H58 =>
    bnd (H58.sD p2 3 v57) fun H61 =>
    B_Store_restore_104 N p0 p1 p2 N 0 H61)
    (fun x59 H58 =>
    ck (H58.sh[x59]? = some (17, 0)) <|
    B_Store_restore_143 N p0 p1 p2 x59 H58))
    (fun x53 H52 =>
    ck (H52.sh[x53]? = some (17, 0)) <|
    B_Store_restore_143 N p0 p1 p2 x53 H52))
    (fun x47 H46 =>
    ck (H46.sh[x47]? = some (17, 0)) <|
    B_Store_restore_143 N p0 p1 p2 x47 H46))
    (fun x41 H40 =>
    ck (H40.sh[x41]? = some (17, 0)) <|
    B_Store_restore_143 N p0 p1 p2 x41 H40))
    (fun x36 H35 =>
    ck (H35.sh[x36]? = some (17, 0)) <|
    B_Store_restore_143 N p0 p1 p2 x36 H35))
    (fun x29 H28 =>
    ck (H28.sh[x29]? = some (17, 0)) <|
    B_Store_restore_143 N p0 p1 p2 x29 H28))
    (fun x22 H21 =>
    ck (H21.sh[x22]? = some (17, 0)) <|
    B_Store_restore_143 N p0 p1 p2 x22 H21))
    (fun x17 H16 =>
    ck (H16.sh[x17]? = some (17, 0)) <|
    B_Store_restore_143 N p0 p1 p2 x17 H16)
set_option maxRecDepth 20000 in
set_option maxHeartbeats 2000000 in
theorem m_Store_restore {N : Nat} {p0 : Nat} {p1 : Nat} {p2 : Nat} {H : Hp} {r : Int32 × Hp} (hF : F_Store_restore N p0 p1 p2 H = some r) : Mo H r.2 := by
  unfold F_Store_restore at hF
  have hm := Mo.rf H
  obtain ⟨q62, hG⟩ := ck_s hF; clear hF
  obtain ⟨H63, eH63, hF⟩ := bnd_g hG; clear hG
  replace hm : Mo H H63 := by rw [eH63]; exact hm
  obtain ⟨q64, hG⟩ := ck_s hF; clear hF
  obtain ⟨a65, e66, hF⟩ := rf_s hG; clear hG
  obtain ⟨q67, hG⟩ := ck_s hF; clear hF
  obtain ⟨v69, H70, z68, hF⟩ := bC_s hG; clear hG
  replace hm : Mo H H70 := hm.tr ((m_Shapes_total z68)).mo
  obtain ⟨q71, hG⟩ := ck_s hF; clear hF
  obtain ⟨v73, H74, z72, hF⟩ := bC_s hG; clear hG
  replace hm : Mo H H74 := hm.tr ((m_World_clear z72)).mo
  refine bH_c hF (fun x78 H77 z75 hG => ?_) (fun v76 H77 z75 hG => ?_)
  · clear hF
    replace hm : Mo H H77 := hm.tr (m_Store_readNumber z75)
    obtain ⟨q79, hF⟩ := ck_s hG; clear hG
    exact hm.tr (mB_Store_restore_143 hF)
  clear hF
  replace hm : Mo H H77 := hm.tr (m_Store_readNumber z75)
  refine bH_c hG (fun x83 H82 z80 hF => ?_) (fun v81 H82 z80 hF => ?_)
  · clear hG
    replace hm : Mo H H82 := hm.tr (m_Store_readNumber z80)
    obtain ⟨q84, hG⟩ := ck_s hF; clear hF
    exact hm.tr (mB_Store_restore_143 hG)
  clear hG
  replace hm : Mo H H82 := hm.tr (m_Store_readNumber z80)
  obtain ⟨a85, e86, hG⟩ := rf_s hF; clear hF
  refine bH_c hG (fun x90 H89 z87 hF => ?_) (fun v88 H89 z87 hF => ?_)
  · clear hG
    replace hm : Mo H H89 := hm.tr (m_Store_readShapes z87)
    obtain ⟨q91, hG⟩ := ck_s hF; clear hF
    exact hm.tr (mB_Store_restore_143 hG)
  clear hG
  replace hm : Mo H H89 := hm.tr (m_Store_readShapes z87)
  obtain ⟨a92, e93, hG⟩ := rf_s hF; clear hF
  refine bH_c hG (fun x97 H96 z94 hF => ?_) (fun v95 H96 z94 hF => ?_)
  · clear hG
    replace hm : Mo H H96 := hm.tr (m_Store_readShapes z94)
    obtain ⟨q98, hG⟩ := ck_s hF; clear hF
    exact hm.tr (mB_Store_restore_143 hG)
  clear hG
  replace hm : Mo H H96 := hm.tr (m_Store_readShapes z94)
  refine bH_c hF (fun x102 H101 z99 hG => ?_) (fun v100 H101 z99 hG => ?_)
  · clear hF
    replace hm : Mo H H101 := hm.tr (m_Store_readNumber z99)
    obtain ⟨q103, hF⟩ := ck_s hG; clear hG
    exact hm.tr (mB_Store_restore_143 hF)
  clear hF
  replace hm : Mo H H101 := hm.tr (m_Store_readNumber z99)
  obtain ⟨H104, eH104, hF⟩ := bnd_g hG; clear hG
  replace hm : Mo H H104 := by rw [eH104]; exact hm
  refine bH_c hF (fun x108 H107 z105 hG => ?_) (fun v106 H107 z105 hG => ?_)
  · clear hF
    replace hm : Mo H H107 := hm.tr (m_Store_readNumber z105)
    obtain ⟨q109, hF⟩ := ck_s hG; clear hG
    exact hm.tr (mB_Store_restore_143 hF)
  clear hF
  replace hm : Mo H H107 := hm.tr (m_Store_readNumber z105)
  obtain ⟨H110, eH110, hF⟩ := bnd_g hG; clear hG
  replace hm : Mo H H110 := by rw [eH110]; exact hm
  refine bH_c hF (fun x114 H113 z111 hG => ?_) (fun v112 H113 z111 hG => ?_)
  · clear hF
    replace hm : Mo H H113 := hm.tr (m_Store_readNumber z111)
    obtain ⟨q115, hF⟩ := ck_s hG; clear hG
    exact hm.tr (mB_Store_restore_143 hF)
  clear hF
  replace hm : Mo H H113 := hm.tr (m_Store_readNumber z111)
  obtain ⟨H116, eH116, hF⟩ := bnd_g hG; clear hG
  replace hm : Mo H H116 := by rw [eH116]; exact hm
  refine bH_c hF (fun x120 H119 z117 hG => ?_) (fun v118 H119 z117 hG => ?_)
  · clear hF
    replace hm : Mo H H119 := hm.tr (m_Store_readNumber z117)
    obtain ⟨q121, hF⟩ := ck_s hG; clear hG
    exact hm.tr (mB_Store_restore_143 hF)
  clear hF
  replace hm : Mo H H119 := hm.tr (m_Store_readNumber z117)
  obtain ⟨H122, eH122, hF⟩ := bnd_g hG; clear hG
  replace hm : Mo H H122 := by rw [eH122]; exact hm
  exact hm.tr (mB_Store_restore_104 N 0 H122 r hF)
set_option maxRecDepth 20000 in
set_option maxHeartbeats 2000000 in
theorem k_Store_restore {N : Nat} {p0 : Nat} {p1 : Nat} {p2 : Nat} {H : Hp} {r : Int32 × Hp} {C Sl : Nat} (hF : F_Store_restore N p0 p1 p2 H = some r) (hC : r.2.sh.length ≤ H.sh.length + C) (hS : r.2.sl ≤ H.sl + Sl) : ab_M y_Store_restore { frames := 9, cells := C, slots := Sl, locals := 174 } [.ref p0, .ref p1, .ref p2] (hpw H) (po (.returned (some (.int r.1))) r.2) := by
  unfold F_Store_restore at hF
  obtain ⟨c0, e0⟩ : ∃ q, q = H.sh.length := ⟨_, rfl⟩
  obtain ⟨s0, e1⟩ : ∃ q, q = H.sl := ⟨_, rfl⟩
  rw [← e0] at hC
  rw [← e1] at hS
  have hc0 : c0 ≤ H.sh.length := Nat.le_of_eq e0
  have hs0 : s0 ≤ H.sl := Nat.le_of_eq e1
  have hcc : H.sh.length ≤ c0 + C := by omega
  have hss : H.sl ≤ s0 + Sl := by omega
  refine ab_of2 (lv := [some (.ref p0), some (.ref p1), some (.ref p2), none]) 1 rfl rfl (Nat.le_of_ble_eq_true rfl) ?_
  refine ab_widen (cells' := H.sh.length - c0) (slots' := H.sl - s0) (Nat.zero_le _) (Nat.zero_le _) ?_
  refine ab_aload_n d_Store_restore_0 rfl rfl rfl ?_
  refine ab_iconst (v := 0) d_Store_restore_1 (by decide) ?_
  obtain ⟨q1, hG⟩ := ck_s hF; clear hF
  refine hp_putI (v := 0) (f := 5) d_Store_restore_2 q1 (by decide) rfl (by decide) (k2 194 rfl rfl) rfl rfl (fun _ => rfl) (fun _ => rfl) rfl ?_
  refine hp_gen (fun H2 eH2 => ?_)
  replace hG := bnd_s eH2 hG
  have s_1 : Sa H H2 := by rw [eH2]; exact Sa.rf _
  refine ab_aload_n d_Store_restore_5 rfl rfl rfl ?_
  refine ab_iconst (v := 0) d_Store_restore_6 (by decide) ?_
  refine ab_aload_n d_Store_restore_7 rfl rfl rfl ?_
  obtain ⟨q3, hF⟩ := ck_s hG; clear hG
  rw [(s_1).1] at q3
  obtain ⟨a4, e5, hG⟩ := rf_s hF; clear hF
  refine hp_getR (f := 2) d_Store_restore_8 (by rw [(s_1).1]; exact q3) (by decide) rfl (by decide) (k3 56 rfl rfl) rfl e5 ?_
  obtain ⟨q6, hF⟩ := ck_s hG; clear hG
  rw [(s_1).1] at q6
  obtain ⟨v8, H9, z7, hG⟩ := bC_s hF; clear hF
  refine ab_widen (cells' := H2.sh.length - c0) (slots' := H2.sl - s0) (by rw [(s_1).1]; exact Nat.le_refl _) (by rw [(s_1).2]; exact Nat.le_refl _) ?_
  have b_2e := congrArg List.length (s_1).1
  have b_2f := (s_1).2
  refine hp_callV_a (v := .int v8) (H1 := H9) (As := []) (rest := [.int 0, .ref p2]) d_Store_restore_11 (k_Shapes_total z7) (ab_mkC s_Shapes_total (Nat.le_of_ble_eq_true rfl) (Nat.le_of_ble_eq_true rfl) (show (H2.sh.length - c0) + 0 ≤ C from by omega) (show (H2.sl - s0) + 0 ≤ Sl from by omega)) (k8 51 rfl rfl) i_Shapes_total v_Shapes_total (by rw [(s_1).1]; exact q6) (by decide) rfl rfl (Nat.le_of_ble_eq_true rfl) ?_
  have s_3 : Sa H H9 := (s_1).tr (m_Shapes_total z7)
  refine ab_widen (cells' := H.sh.length - c0) (slots' := H.sl - s0) (by show (H2.sh.length - c0) + 0 ≤ _; omega) (by show (H2.sl - s0) + 0 ≤ _; omega) ?_
  clear b_2e b_2f
  obtain ⟨q10, hF⟩ := ck_s hG; clear hG
  rw [(s_3).1] at q10
  obtain ⟨v12, H13, z11, hG⟩ := bC_s hF; clear hF
  refine ab_widen (cells' := H9.sh.length - c0) (slots' := H9.sl - s0) (by rw [(s_3).1]; exact Nat.le_refl _) (by rw [(s_3).2]; exact Nat.le_refl _) ?_
  have b_4e := congrArg List.length (s_3).1
  have b_4f := (s_3).2
  refine hp_callV_v (H1 := H13) (As := [.int 0, .int v8]) (rest := []) d_Store_restore_14 (k_World_clear z11) (ab_mkC s_World_clear (Nat.le_of_ble_eq_true rfl) (Nat.le_of_ble_eq_true rfl) (show (H9.sh.length - c0) + 0 ≤ C from by omega) (show (H9.sl - s0) + 0 ≤ Sl from by omega)) (k8 52 rfl rfl) i_World_clear v_World_clear (by rw [(s_3).1]; exact q10) (by decide) rfl rfl (Nat.le_of_ble_eq_true rfl) ?_
  have s_5 : Sa H H13 := (s_3).tr (m_World_clear z11)
  refine ab_widen (cells' := H.sh.length - c0) (slots' := H.sl - s0) (by show (H9.sh.length - c0) + 0 ≤ _; omega) (by show (H9.sl - s0) + 0 ≤ _; omega) ?_
  clear b_4e b_4f
  refine ab_aload_n d_Store_restore_17 rfl rfl rfl ?_
  refine ab_iconst (v := 1) d_Store_restore_18 (by decide) ?_
  refine ab_bipush (v := 87) d_Store_restore_19 (by decide) ?_
  refine ab_bipush (v := 87) d_Store_restore_21 (by decide) ?_
  refine bH_c hG (fun x17 H16 z14 hF => ?_) (fun v15 H16 z14 hF => ?_)
  · clear hG
    refine ab_widen (cells' := H13.sh.length - c0) (slots' := H13.sl - s0) (by rw [(s_5).1]; exact Nat.le_refl _) (by rw [(s_5).2]; exact Nat.le_refl _) ?_
    have mz : Mo H13 H16 := (m_Store_readNumber z14)
    have b_6l := (mz).len
    have b_6s := (mz).2
    have b_6e := congrArg List.length (s_5).1
    have b_6f := (s_5).2
    have b_6c : c0 ≤ H16.sh.length := by omega
    have b_6d : s0 ≤ H16.sl := by omega
    obtain ⟨q18, hG⟩ := ck_s hF; clear hF
    have fH16 : Mo H16 r.2 := by
      have hm := Mo.rf H16
      exact hm.tr (mB_Store_restore_143 hG)
    have b_6m := (fH16).len
    have b_6n := (fH16).2
    have b_6p : H16.sh.length ≤ c0 + C := by omega
    have b_6q : H16.sl ≤ s0 + Sl := by omega
    refine hp_callV_t (x := x17) (H1 := H16) (As := [.int 1, .int 87, .int 87]) (rest := []) d_Store_restore_23 (k_Store_readNumber z14 (C := H16.sh.length - H13.sh.length) (Sl := H16.sl - H13.sl) (by show H16.sh.length ≤ _; omega) (by show H16.sl ≤ _; omega)) (ab_mkC s_Store_readNumber (Nat.le_of_ble_eq_true rfl) (Nat.le_of_ble_eq_true rfl) (show (H13.sh.length - c0) + (H16.sh.length - H13.sh.length) ≤ C from by omega) (show (H13.sl - s0) + (H16.sl - H13.sl) ≤ Sl from by omega)) (k8 53 rfl rfl) i_Store_readNumber v_Store_readNumber (by rw [(s_5).1]; exact q1) (by decide) rfl rfl (Nat.le_of_ble_eq_true rfl) ?_
    refine ab_U_catch rfl rfl (by decide) (k8 50 rfl rfl) (hp_ob q18 (by decide)) rfl ?_
    refine ab_widen (cells' := H16.sh.length - c0) (slots' := H16.sl - s0) (by show _ + (H16.sh.length - H13.sh.length) ≤ _; omega) (by show _ + (H16.sl - H13.sl) ≤ _; omega) ?_
    exact kB_Store_restore_143 hG b_6c b_6d b_6p b_6q hC hS
  clear hG
  refine ab_widen (cells' := H13.sh.length - c0) (slots' := H13.sl - s0) (by rw [(s_5).1]; exact Nat.le_refl _) (by rw [(s_5).2]; exact Nat.le_refl _) ?_
  have mz_7 : Mo H13 H16 := (m_Store_readNumber z14)
  have b_8l := (mz_7).len
  have b_8s := (mz_7).2
  have b_8e := congrArg List.length (s_5).1
  have b_8f := (s_5).2
  have b_8c : c0 ≤ H16.sh.length := by omega
  have b_8d : s0 ≤ H16.sl := by omega
  have q_9 := (mz_7).get (by rw [(s_5).1]; exact q1)
  have q_10 := (mz_7).get (by rw [(s_5).1]; exact q3)
  have q_11 := (mz_7).get (by rw [(s_5).1]; exact q6)
  have q_12 := (mz_7).get (by rw [(s_5).1]; exact q10)
  have fH16 : Mo H16 r.2 := by
    have hm := Mo.rf H16
    refine bH_c hF (fun x22 H21 z19 hG => ?_) (fun v20 H21 z19 hG => ?_)
    · clear hF
      replace hm : Mo H16 H21 := hm.tr (m_Store_readNumber z19)
      obtain ⟨q23, hF⟩ := ck_s hG; clear hG
      exact hm.tr (mB_Store_restore_143 hF)
    clear hF
    replace hm : Mo H16 H21 := hm.tr (m_Store_readNumber z19)
    obtain ⟨a24, e25, hF⟩ := rf_s hG; clear hG
    refine bH_c hF (fun x29 H28 z26 hG => ?_) (fun v27 H28 z26 hG => ?_)
    · clear hF
      replace hm : Mo H16 H28 := hm.tr (m_Store_readShapes z26)
      obtain ⟨q30, hF⟩ := ck_s hG; clear hG
      exact hm.tr (mB_Store_restore_143 hF)
    clear hF
    replace hm : Mo H16 H28 := hm.tr (m_Store_readShapes z26)
    obtain ⟨a31, e32, hF⟩ := rf_s hG; clear hG
    refine bH_c hF (fun x36 H35 z33 hG => ?_) (fun v34 H35 z33 hG => ?_)
    · clear hF
      replace hm : Mo H16 H35 := hm.tr (m_Store_readShapes z33)
      obtain ⟨q37, hF⟩ := ck_s hG; clear hG
      exact hm.tr (mB_Store_restore_143 hF)
    clear hF
    replace hm : Mo H16 H35 := hm.tr (m_Store_readShapes z33)
    refine bH_c hG (fun x41 H40 z38 hF => ?_) (fun v39 H40 z38 hF => ?_)
    · clear hG
      replace hm : Mo H16 H40 := hm.tr (m_Store_readNumber z38)
      obtain ⟨q42, hG⟩ := ck_s hF; clear hF
      exact hm.tr (mB_Store_restore_143 hG)
    clear hG
    replace hm : Mo H16 H40 := hm.tr (m_Store_readNumber z38)
    obtain ⟨H43, eH43, hG⟩ := bnd_g hF; clear hF
    replace hm : Mo H16 H43 := by rw [eH43]; exact hm
    refine bH_c hG (fun x47 H46 z44 hF => ?_) (fun v45 H46 z44 hF => ?_)
    · clear hG
      replace hm : Mo H16 H46 := hm.tr (m_Store_readNumber z44)
      obtain ⟨q48, hG⟩ := ck_s hF; clear hF
      exact hm.tr (mB_Store_restore_143 hG)
    clear hG
    replace hm : Mo H16 H46 := hm.tr (m_Store_readNumber z44)
    obtain ⟨H49, eH49, hG⟩ := bnd_g hF; clear hF
    replace hm : Mo H16 H49 := by rw [eH49]; exact hm
    refine bH_c hG (fun x53 H52 z50 hF => ?_) (fun v51 H52 z50 hF => ?_)
    · clear hG
      replace hm : Mo H16 H52 := hm.tr (m_Store_readNumber z50)
      obtain ⟨q54, hG⟩ := ck_s hF; clear hF
      exact hm.tr (mB_Store_restore_143 hG)
    clear hG
    replace hm : Mo H16 H52 := hm.tr (m_Store_readNumber z50)
    obtain ⟨H55, eH55, hG⟩ := bnd_g hF; clear hF
    replace hm : Mo H16 H55 := by rw [eH55]; exact hm
    refine bH_c hG (fun x59 H58 z56 hF => ?_) (fun v57 H58 z56 hF => ?_)
    · clear hG
      replace hm : Mo H16 H58 := hm.tr (m_Store_readNumber z56)
      obtain ⟨q60, hG⟩ := ck_s hF; clear hF
      exact hm.tr (mB_Store_restore_143 hG)
    clear hG
    replace hm : Mo H16 H58 := hm.tr (m_Store_readNumber z56)
    obtain ⟨H61, eH61, hG⟩ := bnd_g hF; clear hF
    replace hm : Mo H16 H61 := by rw [eH61]; exact hm
    exact hm.tr (mB_Store_restore_104 N 0 H61 r hG)
  have b_8m := (fH16).len
  have b_8n := (fH16).2
  have b_8p : H16.sh.length ≤ c0 + C := by omega
  have b_8q : H16.sl ≤ s0 + Sl := by omega
  refine hp_callV_a (v := .int v15) (H1 := H16) (As := [.int 1, .int 87, .int 87]) (rest := []) d_Store_restore_23 (k_Store_readNumber z14 (C := H16.sh.length - H13.sh.length) (Sl := H16.sl - H13.sl) (by show H16.sh.length ≤ _; omega) (by show H16.sl ≤ _; omega)) (ab_mkC s_Store_readNumber (Nat.le_of_ble_eq_true rfl) (Nat.le_of_ble_eq_true rfl) (show (H13.sh.length - c0) + (H16.sh.length - H13.sh.length) ≤ C from by omega) (show (H13.sl - s0) + (H16.sl - H13.sl) ≤ Sl from by omega)) (k8 53 rfl rfl) i_Store_readNumber v_Store_readNumber (by rw [(s_5).1]; exact q1) (by decide) rfl rfl (Nat.le_of_ble_eq_true rfl) ?_
  refine ab_widen (cells' := H16.sh.length - c0) (slots' := H16.sl - s0) (by show _ + (H16.sh.length - H13.sh.length) ≤ _; omega) (by show _ + (H16.sl - H13.sl) ≤ _; omega) ?_
  clear b_8l b_8s b_8m b_8n b_8e b_8f
  refine ab_pop d_Store_restore_26 rfl ?_
  refine ab_aload_n d_Store_restore_27 rfl rfl rfl ?_
  refine ab_iconst (v := 1) d_Store_restore_28 (by decide) ?_
  refine ab_bipush (v := 69) d_Store_restore_29 (by decide) ?_
  refine ab_bipush (v := 69) d_Store_restore_31 (by decide) ?_
  refine bH_c hF (fun x22 H21 z19 hG => ?_) (fun v20 H21 z19 hG => ?_)
  · clear hF
    have mz : Mo H16 H21 := (m_Store_readNumber z19)
    have b_80l := (mz).len
    have b_80s := (mz).2
    have b_80c : c0 ≤ H21.sh.length := by omega
    have b_80d : s0 ≤ H21.sl := by omega
    obtain ⟨q23, hF⟩ := ck_s hG; clear hG
    have fH21 : Mo H21 r.2 := by
      have hm := Mo.rf H21
      exact hm.tr (mB_Store_restore_143 hF)
    have b_80m := (fH21).len
    have b_80n := (fH21).2
    have b_80p : H21.sh.length ≤ c0 + C := by omega
    have b_80q : H21.sl ≤ s0 + Sl := by omega
    refine hp_callV_t (x := x22) (H1 := H21) (As := [.int 1, .int 69, .int 69]) (rest := []) d_Store_restore_33 (k_Store_readNumber z19 (C := H21.sh.length - H16.sh.length) (Sl := H21.sl - H16.sl) (by show H21.sh.length ≤ _; omega) (by show H21.sl ≤ _; omega)) (ab_mkC s_Store_readNumber (Nat.le_of_ble_eq_true rfl) (Nat.le_of_ble_eq_true rfl) (show (H16.sh.length - c0) + (H21.sh.length - H16.sh.length) ≤ C from by omega) (show (H16.sl - s0) + (H21.sl - H16.sl) ≤ Sl from by omega)) (k8 53 rfl rfl) i_Store_readNumber v_Store_readNumber q_9 (by decide) rfl rfl (Nat.le_of_ble_eq_true rfl) ?_
    refine ab_U_catch rfl rfl (by decide) (k8 50 rfl rfl) (hp_ob q23 (by decide)) rfl ?_
    refine ab_widen (cells' := H21.sh.length - c0) (slots' := H21.sl - s0) (by show _ + (H21.sh.length - H16.sh.length) ≤ _; omega) (by show _ + (H21.sl - H16.sl) ≤ _; omega) ?_
    exact kB_Store_restore_143 hF b_80c b_80d b_80p b_80q hC hS
  clear hF
  have mz_81 : Mo H16 H21 := (m_Store_readNumber z19)
  have b_82l := (mz_81).len
  have b_82s := (mz_81).2
  have b_82c : c0 ≤ H21.sh.length := by omega
  have b_82d : s0 ≤ H21.sl := by omega
  have q_83 := (mz_81).get q_9
  have q_84 := (mz_81).get q_10
  have q_85 := (mz_81).get q_11
  have q_86 := (mz_81).get q_12
  obtain ⟨a24, e25, hF⟩ := rf_s hG; clear hG
  have fH21 : Mo H21 r.2 := by
    have hm := Mo.rf H21
    refine bH_c hF (fun x29 H28 z26 hG => ?_) (fun v27 H28 z26 hG => ?_)
    · clear hF
      replace hm : Mo H21 H28 := hm.tr (m_Store_readShapes z26)
      obtain ⟨q30, hF⟩ := ck_s hG; clear hG
      exact hm.tr (mB_Store_restore_143 hF)
    clear hF
    replace hm : Mo H21 H28 := hm.tr (m_Store_readShapes z26)
    obtain ⟨a31, e32, hF⟩ := rf_s hG; clear hG
    refine bH_c hF (fun x36 H35 z33 hG => ?_) (fun v34 H35 z33 hG => ?_)
    · clear hF
      replace hm : Mo H21 H35 := hm.tr (m_Store_readShapes z33)
      obtain ⟨q37, hF⟩ := ck_s hG; clear hG
      exact hm.tr (mB_Store_restore_143 hF)
    clear hF
    replace hm : Mo H21 H35 := hm.tr (m_Store_readShapes z33)
    refine bH_c hG (fun x41 H40 z38 hF => ?_) (fun v39 H40 z38 hF => ?_)
    · clear hG
      replace hm : Mo H21 H40 := hm.tr (m_Store_readNumber z38)
      obtain ⟨q42, hG⟩ := ck_s hF; clear hF
      exact hm.tr (mB_Store_restore_143 hG)
    clear hG
    replace hm : Mo H21 H40 := hm.tr (m_Store_readNumber z38)
    obtain ⟨H43, eH43, hG⟩ := bnd_g hF; clear hF
    replace hm : Mo H21 H43 := by rw [eH43]; exact hm
    refine bH_c hG (fun x47 H46 z44 hF => ?_) (fun v45 H46 z44 hF => ?_)
    · clear hG
      replace hm : Mo H21 H46 := hm.tr (m_Store_readNumber z44)
      obtain ⟨q48, hG⟩ := ck_s hF; clear hF
      exact hm.tr (mB_Store_restore_143 hG)
    clear hG
    replace hm : Mo H21 H46 := hm.tr (m_Store_readNumber z44)
    obtain ⟨H49, eH49, hG⟩ := bnd_g hF; clear hF
    replace hm : Mo H21 H49 := by rw [eH49]; exact hm
    refine bH_c hG (fun x53 H52 z50 hF => ?_) (fun v51 H52 z50 hF => ?_)
    · clear hG
      replace hm : Mo H21 H52 := hm.tr (m_Store_readNumber z50)
      obtain ⟨q54, hG⟩ := ck_s hF; clear hF
      exact hm.tr (mB_Store_restore_143 hG)
    clear hG
    replace hm : Mo H21 H52 := hm.tr (m_Store_readNumber z50)
    obtain ⟨H55, eH55, hG⟩ := bnd_g hF; clear hF
    replace hm : Mo H21 H55 := by rw [eH55]; exact hm
    refine bH_c hG (fun x59 H58 z56 hF => ?_) (fun v57 H58 z56 hF => ?_)
    · clear hG
      replace hm : Mo H21 H58 := hm.tr (m_Store_readNumber z56)
      obtain ⟨q60, hG⟩ := ck_s hF; clear hF
      exact hm.tr (mB_Store_restore_143 hG)
    clear hG
    replace hm : Mo H21 H58 := hm.tr (m_Store_readNumber z56)
    obtain ⟨H61, eH61, hG⟩ := bnd_g hF; clear hF
    replace hm : Mo H21 H61 := by rw [eH61]; exact hm
    exact hm.tr (mB_Store_restore_104 N 0 H61 r hG)
  have b_82m := (fH21).len
  have b_82n := (fH21).2
  have b_82p : H21.sh.length ≤ c0 + C := by omega
  have b_82q : H21.sl ≤ s0 + Sl := by omega
  refine hp_callV_a (v := .int v20) (H1 := H21) (As := [.int 1, .int 69, .int 69]) (rest := []) d_Store_restore_33 (k_Store_readNumber z19 (C := H21.sh.length - H16.sh.length) (Sl := H21.sl - H16.sl) (by show H21.sh.length ≤ _; omega) (by show H21.sl ≤ _; omega)) (ab_mkC s_Store_readNumber (Nat.le_of_ble_eq_true rfl) (Nat.le_of_ble_eq_true rfl) (show (H16.sh.length - c0) + (H21.sh.length - H16.sh.length) ≤ C from by omega) (show (H16.sl - s0) + (H21.sl - H16.sl) ≤ Sl from by omega)) (k8 53 rfl rfl) i_Store_readNumber v_Store_readNumber q_9 (by decide) rfl rfl (Nat.le_of_ble_eq_true rfl) ?_
  refine ab_widen (cells' := H21.sh.length - c0) (slots' := H21.sl - s0) (by show _ + (H21.sh.length - H16.sh.length) ≤ _; omega) (by show _ + (H21.sl - H16.sl) ≤ _; omega) ?_
  clear b_82l b_82s b_82m b_82n b_8c b_8d b_8p b_8q
  refine ab_pop d_Store_restore_36 rfl ?_
  refine ab_aload_n d_Store_restore_37 rfl rfl rfl ?_
  refine ab_aload_n d_Store_restore_38 rfl rfl rfl ?_
  refine hp_getR (f := 2) d_Store_restore_39 q_84 (by decide) rfl (by decide) (k3 56 rfl rfl) rfl e25 ?_
  refine bH_c hF (fun x29 H28 z26 hG => ?_) (fun v27 H28 z26 hG => ?_)
  · clear hF
    have mz : Mo H21 H28 := (m_Store_readShapes z26)
    have b_121l := (mz).len
    have b_121s := (mz).2
    have b_121c : c0 ≤ H28.sh.length := by omega
    have b_121d : s0 ≤ H28.sl := by omega
    obtain ⟨q30, hF⟩ := ck_s hG; clear hG
    have fH28 : Mo H28 r.2 := by
      have hm := Mo.rf H28
      exact hm.tr (mB_Store_restore_143 hF)
    have b_121m := (fH28).len
    have b_121n := (fH28).2
    have b_121p : H28.sh.length ≤ c0 + C := by omega
    have b_121q : H28.sl ≤ s0 + Sl := by omega
    refine hp_callV_t (x := x29) (H1 := H28) (As := [.ref a24]) (rest := []) d_Store_restore_42 (k_Store_readShapes z26 (C := H28.sh.length - H21.sh.length) (Sl := H28.sl - H21.sl) (by show H28.sh.length ≤ _; omega) (by show H28.sl ≤ _; omega)) (ab_mkC s_Store_readShapes (Nat.le_of_ble_eq_true rfl) (Nat.le_of_ble_eq_true rfl) (show (H21.sh.length - c0) + (H28.sh.length - H21.sh.length) ≤ C from by omega) (show (H21.sl - s0) + (H28.sl - H21.sl) ≤ Sl from by omega)) (k8 60 rfl rfl) i_Store_readShapes v_Store_readShapes q_83 (by decide) rfl rfl (Nat.le_of_ble_eq_true rfl) ?_
    refine ab_U_catch rfl rfl (by decide) (k8 50 rfl rfl) (hp_ob q30 (by decide)) rfl ?_
    refine ab_widen (cells' := H28.sh.length - c0) (slots' := H28.sl - s0) (by show _ + (H28.sh.length - H21.sh.length) ≤ _; omega) (by show _ + (H28.sl - H21.sl) ≤ _; omega) ?_
    exact kB_Store_restore_143 hF b_121c b_121d b_121p b_121q hC hS
  clear hF
  have mz_122 : Mo H21 H28 := (m_Store_readShapes z26)
  have b_123l := (mz_122).len
  have b_123s := (mz_122).2
  have b_123c : c0 ≤ H28.sh.length := by omega
  have b_123d : s0 ≤ H28.sl := by omega
  have q_124 := (mz_122).get q_83
  have q_125 := (mz_122).get q_84
  have q_126 := (mz_122).get q_85
  have q_127 := (mz_122).get q_86
  obtain ⟨a31, e32, hF⟩ := rf_s hG; clear hG
  have fH28 : Mo H28 r.2 := by
    have hm := Mo.rf H28
    refine bH_c hF (fun x36 H35 z33 hG => ?_) (fun v34 H35 z33 hG => ?_)
    · clear hF
      replace hm : Mo H28 H35 := hm.tr (m_Store_readShapes z33)
      obtain ⟨q37, hF⟩ := ck_s hG; clear hG
      exact hm.tr (mB_Store_restore_143 hF)
    clear hF
    replace hm : Mo H28 H35 := hm.tr (m_Store_readShapes z33)
    refine bH_c hG (fun x41 H40 z38 hF => ?_) (fun v39 H40 z38 hF => ?_)
    · clear hG
      replace hm : Mo H28 H40 := hm.tr (m_Store_readNumber z38)
      obtain ⟨q42, hG⟩ := ck_s hF; clear hF
      exact hm.tr (mB_Store_restore_143 hG)
    clear hG
    replace hm : Mo H28 H40 := hm.tr (m_Store_readNumber z38)
    obtain ⟨H43, eH43, hG⟩ := bnd_g hF; clear hF
    replace hm : Mo H28 H43 := by rw [eH43]; exact hm
    refine bH_c hG (fun x47 H46 z44 hF => ?_) (fun v45 H46 z44 hF => ?_)
    · clear hG
      replace hm : Mo H28 H46 := hm.tr (m_Store_readNumber z44)
      obtain ⟨q48, hG⟩ := ck_s hF; clear hF
      exact hm.tr (mB_Store_restore_143 hG)
    clear hG
    replace hm : Mo H28 H46 := hm.tr (m_Store_readNumber z44)
    obtain ⟨H49, eH49, hG⟩ := bnd_g hF; clear hF
    replace hm : Mo H28 H49 := by rw [eH49]; exact hm
    refine bH_c hG (fun x53 H52 z50 hF => ?_) (fun v51 H52 z50 hF => ?_)
    · clear hG
      replace hm : Mo H28 H52 := hm.tr (m_Store_readNumber z50)
      obtain ⟨q54, hG⟩ := ck_s hF; clear hF
      exact hm.tr (mB_Store_restore_143 hG)
    clear hG
    replace hm : Mo H28 H52 := hm.tr (m_Store_readNumber z50)
    obtain ⟨H55, eH55, hG⟩ := bnd_g hF; clear hF
    replace hm : Mo H28 H55 := by rw [eH55]; exact hm
    refine bH_c hG (fun x59 H58 z56 hF => ?_) (fun v57 H58 z56 hF => ?_)
    · clear hG
      replace hm : Mo H28 H58 := hm.tr (m_Store_readNumber z56)
      obtain ⟨q60, hG⟩ := ck_s hF; clear hF
      exact hm.tr (mB_Store_restore_143 hG)
    clear hG
    replace hm : Mo H28 H58 := hm.tr (m_Store_readNumber z56)
    obtain ⟨H61, eH61, hG⟩ := bnd_g hF; clear hF
    replace hm : Mo H28 H61 := by rw [eH61]; exact hm
    exact hm.tr (mB_Store_restore_104 N 0 H61 r hG)
  have b_123m := (fH28).len
  have b_123n := (fH28).2
  have b_123p : H28.sh.length ≤ c0 + C := by omega
  have b_123q : H28.sl ≤ s0 + Sl := by omega
  refine hp_callV_v (H1 := H28) (As := [.ref a24]) (rest := []) d_Store_restore_42 (k_Store_readShapes z26 (C := H28.sh.length - H21.sh.length) (Sl := H28.sl - H21.sl) (by show H28.sh.length ≤ _; omega) (by show H28.sl ≤ _; omega)) (ab_mkC s_Store_readShapes (Nat.le_of_ble_eq_true rfl) (Nat.le_of_ble_eq_true rfl) (show (H21.sh.length - c0) + (H28.sh.length - H21.sh.length) ≤ C from by omega) (show (H21.sl - s0) + (H28.sl - H21.sl) ≤ Sl from by omega)) (k8 60 rfl rfl) i_Store_readShapes v_Store_readShapes q_83 (by decide) rfl rfl (Nat.le_of_ble_eq_true rfl) ?_
  refine ab_widen (cells' := H28.sh.length - c0) (slots' := H28.sl - s0) (by show _ + (H28.sh.length - H21.sh.length) ≤ _; omega) (by show _ + (H28.sl - H21.sl) ≤ _; omega) ?_
  clear b_123l b_123s b_123m b_123n b_82c b_82d b_82p b_82q
  refine ab_aload_n d_Store_restore_45 rfl rfl rfl ?_
  refine ab_aload_n d_Store_restore_46 rfl rfl rfl ?_
  refine hp_getR (f := 3) d_Store_restore_47 q_125 (by decide) rfl (by decide) (k3 63 rfl rfl) rfl e32 ?_
  refine bH_c hF (fun x36 H35 z33 hG => ?_) (fun v34 H35 z33 hG => ?_)
  · clear hF
    have mz : Mo H28 H35 := (m_Store_readShapes z33)
    have b_157l := (mz).len
    have b_157s := (mz).2
    have b_157c : c0 ≤ H35.sh.length := by omega
    have b_157d : s0 ≤ H35.sl := by omega
    obtain ⟨q37, hF⟩ := ck_s hG; clear hG
    have fH35 : Mo H35 r.2 := by
      have hm := Mo.rf H35
      exact hm.tr (mB_Store_restore_143 hF)
    have b_157m := (fH35).len
    have b_157n := (fH35).2
    have b_157p : H35.sh.length ≤ c0 + C := by omega
    have b_157q : H35.sl ≤ s0 + Sl := by omega
    refine hp_callV_t (x := x36) (H1 := H35) (As := [.ref a31]) (rest := []) d_Store_restore_50 (k_Store_readShapes z33 (C := H35.sh.length - H28.sh.length) (Sl := H35.sl - H28.sl) (by show H35.sh.length ≤ _; omega) (by show H35.sl ≤ _; omega)) (ab_mkC s_Store_readShapes (Nat.le_of_ble_eq_true rfl) (Nat.le_of_ble_eq_true rfl) (show (H28.sh.length - c0) + (H35.sh.length - H28.sh.length) ≤ C from by omega) (show (H28.sl - s0) + (H35.sl - H28.sl) ≤ Sl from by omega)) (k8 60 rfl rfl) i_Store_readShapes v_Store_readShapes q_124 (by decide) rfl rfl (Nat.le_of_ble_eq_true rfl) ?_
    refine ab_U_catch rfl rfl (by decide) (k8 50 rfl rfl) (hp_ob q37 (by decide)) rfl ?_
    refine ab_widen (cells' := H35.sh.length - c0) (slots' := H35.sl - s0) (by show _ + (H35.sh.length - H28.sh.length) ≤ _; omega) (by show _ + (H35.sl - H28.sl) ≤ _; omega) ?_
    exact kB_Store_restore_143 hF b_157c b_157d b_157p b_157q hC hS
  clear hF
  have mz_158 : Mo H28 H35 := (m_Store_readShapes z33)
  have b_159l := (mz_158).len
  have b_159s := (mz_158).2
  have b_159c : c0 ≤ H35.sh.length := by omega
  have b_159d : s0 ≤ H35.sl := by omega
  have q_160 := (mz_158).get q_124
  have q_161 := (mz_158).get q_125
  have q_162 := (mz_158).get q_126
  have q_163 := (mz_158).get q_127
  have fH35 : Mo H35 r.2 := by
    have hm := Mo.rf H35
    refine bH_c hG (fun x41 H40 z38 hF => ?_) (fun v39 H40 z38 hF => ?_)
    · clear hG
      replace hm : Mo H35 H40 := hm.tr (m_Store_readNumber z38)
      obtain ⟨q42, hG⟩ := ck_s hF; clear hF
      exact hm.tr (mB_Store_restore_143 hG)
    clear hG
    replace hm : Mo H35 H40 := hm.tr (m_Store_readNumber z38)
    obtain ⟨H43, eH43, hG⟩ := bnd_g hF; clear hF
    replace hm : Mo H35 H43 := by rw [eH43]; exact hm
    refine bH_c hG (fun x47 H46 z44 hF => ?_) (fun v45 H46 z44 hF => ?_)
    · clear hG
      replace hm : Mo H35 H46 := hm.tr (m_Store_readNumber z44)
      obtain ⟨q48, hG⟩ := ck_s hF; clear hF
      exact hm.tr (mB_Store_restore_143 hG)
    clear hG
    replace hm : Mo H35 H46 := hm.tr (m_Store_readNumber z44)
    obtain ⟨H49, eH49, hG⟩ := bnd_g hF; clear hF
    replace hm : Mo H35 H49 := by rw [eH49]; exact hm
    refine bH_c hG (fun x53 H52 z50 hF => ?_) (fun v51 H52 z50 hF => ?_)
    · clear hG
      replace hm : Mo H35 H52 := hm.tr (m_Store_readNumber z50)
      obtain ⟨q54, hG⟩ := ck_s hF; clear hF
      exact hm.tr (mB_Store_restore_143 hG)
    clear hG
    replace hm : Mo H35 H52 := hm.tr (m_Store_readNumber z50)
    obtain ⟨H55, eH55, hG⟩ := bnd_g hF; clear hF
    replace hm : Mo H35 H55 := by rw [eH55]; exact hm
    refine bH_c hG (fun x59 H58 z56 hF => ?_) (fun v57 H58 z56 hF => ?_)
    · clear hG
      replace hm : Mo H35 H58 := hm.tr (m_Store_readNumber z56)
      obtain ⟨q60, hG⟩ := ck_s hF; clear hF
      exact hm.tr (mB_Store_restore_143 hG)
    clear hG
    replace hm : Mo H35 H58 := hm.tr (m_Store_readNumber z56)
    obtain ⟨H61, eH61, hG⟩ := bnd_g hF; clear hF
    replace hm : Mo H35 H61 := by rw [eH61]; exact hm
    exact hm.tr (mB_Store_restore_104 N 0 H61 r hG)
  have b_159m := (fH35).len
  have b_159n := (fH35).2
  have b_159p : H35.sh.length ≤ c0 + C := by omega
  have b_159q : H35.sl ≤ s0 + Sl := by omega
  refine hp_callV_v (H1 := H35) (As := [.ref a31]) (rest := []) d_Store_restore_50 (k_Store_readShapes z33 (C := H35.sh.length - H28.sh.length) (Sl := H35.sl - H28.sl) (by show H35.sh.length ≤ _; omega) (by show H35.sl ≤ _; omega)) (ab_mkC s_Store_readShapes (Nat.le_of_ble_eq_true rfl) (Nat.le_of_ble_eq_true rfl) (show (H28.sh.length - c0) + (H35.sh.length - H28.sh.length) ≤ C from by omega) (show (H28.sl - s0) + (H35.sl - H28.sl) ≤ Sl from by omega)) (k8 60 rfl rfl) i_Store_readShapes v_Store_readShapes q_124 (by decide) rfl rfl (Nat.le_of_ble_eq_true rfl) ?_
  refine ab_widen (cells' := H35.sh.length - c0) (slots' := H35.sl - s0) (by show _ + (H35.sh.length - H28.sh.length) ≤ _; omega) (by show _ + (H35.sl - H28.sl) ≤ _; omega) ?_
  clear b_159l b_159s b_159m b_159n b_123c b_123d b_123p b_123q
  refine ab_aload_n d_Store_restore_53 rfl rfl rfl ?_
  refine ab_aload_n d_Store_restore_54 rfl rfl rfl ?_
  refine ab_iconst (v := 4) d_Store_restore_55 (by decide) ?_
  refine ab_iconst (v := 0) d_Store_restore_56 (by decide) ?_
  refine ab_ldc d_Store_restore_57 (k8 64 rfl rfl) ?_
  refine bH_c hG (fun x41 H40 z38 hF => ?_) (fun v39 H40 z38 hF => ?_)
  · clear hG
    have mz : Mo H35 H40 := (m_Store_readNumber z38)
    have b_188l := (mz).len
    have b_188s := (mz).2
    have b_188c : c0 ≤ H40.sh.length := by omega
    have b_188d : s0 ≤ H40.sl := by omega
    obtain ⟨q42, hG⟩ := ck_s hF; clear hF
    have fH40 : Mo H40 r.2 := by
      have hm := Mo.rf H40
      exact hm.tr (mB_Store_restore_143 hG)
    have b_188m := (fH40).len
    have b_188n := (fH40).2
    have b_188p : H40.sh.length ≤ c0 + C := by omega
    have b_188q : H40.sl ≤ s0 + Sl := by omega
    refine hp_callV_t (x := x41) (H1 := H40) (As := [.int 4, .int 0, .int 1000000000]) (rest := [.ref p2]) d_Store_restore_59 (k_Store_readNumber z38 (C := H40.sh.length - H35.sh.length) (Sl := H40.sl - H35.sl) (by show H40.sh.length ≤ _; omega) (by show H40.sl ≤ _; omega)) (ab_mkC s_Store_readNumber (Nat.le_of_ble_eq_true rfl) (Nat.le_of_ble_eq_true rfl) (show (H35.sh.length - c0) + (H40.sh.length - H35.sh.length) ≤ C from by omega) (show (H35.sl - s0) + (H40.sl - H35.sl) ≤ Sl from by omega)) (k8 53 rfl rfl) i_Store_readNumber v_Store_readNumber q_160 (by decide) rfl rfl (Nat.le_of_ble_eq_true rfl) ?_
    refine ab_U_catch rfl rfl (by decide) (k8 50 rfl rfl) (hp_ob q42 (by decide)) rfl ?_
    refine ab_widen (cells' := H40.sh.length - c0) (slots' := H40.sl - s0) (by show _ + (H40.sh.length - H35.sh.length) ≤ _; omega) (by show _ + (H40.sl - H35.sl) ≤ _; omega) ?_
    exact kB_Store_restore_143 hG b_188c b_188d b_188p b_188q hC hS
  clear hG
  have mz_189 : Mo H35 H40 := (m_Store_readNumber z38)
  have b_190l := (mz_189).len
  have b_190s := (mz_189).2
  have b_190c : c0 ≤ H40.sh.length := by omega
  have b_190d : s0 ≤ H40.sl := by omega
  have q_191 := (mz_189).get q_160
  have q_192 := (mz_189).get q_161
  have q_193 := (mz_189).get q_162
  have q_194 := (mz_189).get q_163
  obtain ⟨H43, eH43, hG⟩ := bnd_g hF; clear hF
  have jH43 : Mo H40 H43 := by rw [eH43]; exact Mo.rf _
  have fH43 : Mo H43 r.2 := by
    have hm := Mo.rf H43
    refine bH_c hG (fun x47 H46 z44 hF => ?_) (fun v45 H46 z44 hF => ?_)
    · clear hG
      replace hm : Mo H43 H46 := hm.tr (m_Store_readNumber z44)
      obtain ⟨q48, hG⟩ := ck_s hF; clear hF
      exact hm.tr (mB_Store_restore_143 hG)
    clear hG
    replace hm : Mo H43 H46 := hm.tr (m_Store_readNumber z44)
    obtain ⟨H49, eH49, hG⟩ := bnd_g hF; clear hF
    replace hm : Mo H43 H49 := by rw [eH49]; exact hm
    refine bH_c hG (fun x53 H52 z50 hF => ?_) (fun v51 H52 z50 hF => ?_)
    · clear hG
      replace hm : Mo H43 H52 := hm.tr (m_Store_readNumber z50)
      obtain ⟨q54, hG⟩ := ck_s hF; clear hF
      exact hm.tr (mB_Store_restore_143 hG)
    clear hG
    replace hm : Mo H43 H52 := hm.tr (m_Store_readNumber z50)
    obtain ⟨H55, eH55, hG⟩ := bnd_g hF; clear hF
    replace hm : Mo H43 H55 := by rw [eH55]; exact hm
    refine bH_c hG (fun x59 H58 z56 hF => ?_) (fun v57 H58 z56 hF => ?_)
    · clear hG
      replace hm : Mo H43 H58 := hm.tr (m_Store_readNumber z56)
      obtain ⟨q60, hG⟩ := ck_s hF; clear hF
      exact hm.tr (mB_Store_restore_143 hG)
    clear hG
    replace hm : Mo H43 H58 := hm.tr (m_Store_readNumber z56)
    obtain ⟨H61, eH61, hG⟩ := bnd_g hF; clear hF
    replace hm : Mo H43 H61 := by rw [eH61]; exact hm
    exact hm.tr (mB_Store_restore_104 N 0 H61 r hG)
  have fH40 : Mo H40 r.2 := jH43.tr fH43
  have b_190m := (fH40).len
  have b_190n := (fH40).2
  have b_190p : H40.sh.length ≤ c0 + C := by omega
  have b_190q : H40.sl ≤ s0 + Sl := by omega
  refine hp_callV_a (v := .int v39) (H1 := H40) (As := [.int 4, .int 0, .int 1000000000]) (rest := [.ref p2]) d_Store_restore_59 (k_Store_readNumber z38 (C := H40.sh.length - H35.sh.length) (Sl := H40.sl - H35.sl) (by show H40.sh.length ≤ _; omega) (by show H40.sl ≤ _; omega)) (ab_mkC s_Store_readNumber (Nat.le_of_ble_eq_true rfl) (Nat.le_of_ble_eq_true rfl) (show (H35.sh.length - c0) + (H40.sh.length - H35.sh.length) ≤ C from by omega) (show (H35.sl - s0) + (H40.sl - H35.sl) ≤ Sl from by omega)) (k8 53 rfl rfl) i_Store_readNumber v_Store_readNumber q_160 (by decide) rfl rfl (Nat.le_of_ble_eq_true rfl) ?_
  refine ab_widen (cells' := H40.sh.length - c0) (slots' := H40.sl - s0) (by show _ + (H40.sh.length - H35.sh.length) ≤ _; omega) (by show _ + (H40.sl - H35.sl) ≤ _; omega) ?_
  clear b_190l b_190s b_190m b_190n b_159c b_159d b_159p b_159q
  refine hp_putI (v := v39) (f := 0) d_Store_restore_62 q_194 (by decide) rfl (by decide) (k1 207 rfl rfl) rfl rfl (fun _ => rfl) (fun _ => rfl) rfl ?_
  refine hp_genx eH43 ?_
  have s_214 : Sa H40 H43 := by rw [eH43]; exact Sa.rf _
  refine ab_aload_n d_Store_restore_65 rfl rfl rfl ?_
  refine ab_aload_n d_Store_restore_66 rfl rfl rfl ?_
  refine ab_iconst (v := 4) d_Store_restore_67 (by decide) ?_
  refine ab_ldc d_Store_restore_68 (k8 65 rfl rfl) ?_
  refine ab_ldc d_Store_restore_70 (k8 66 rfl rfl) ?_
  refine bH_c hG (fun x47 H46 z44 hF => ?_) (fun v45 H46 z44 hF => ?_)
  · clear hG
    refine ab_widen (cells' := H43.sh.length - c0) (slots' := H43.sl - s0) (by rw [(s_214).1]; exact Nat.le_refl _) (by rw [(s_214).2]; exact Nat.le_refl _) ?_
    have mz : Mo H43 H46 := (m_Store_readNumber z44)
    have b_215l := (mz).len
    have b_215s := (mz).2
    have b_215e := congrArg List.length (s_214).1
    have b_215f := (s_214).2
    have b_215c : c0 ≤ H46.sh.length := by omega
    have b_215d : s0 ≤ H46.sl := by omega
    obtain ⟨q48, hG⟩ := ck_s hF; clear hF
    have fH46 : Mo H46 r.2 := by
      have hm := Mo.rf H46
      exact hm.tr (mB_Store_restore_143 hG)
    have b_215m := (fH46).len
    have b_215n := (fH46).2
    have b_215p : H46.sh.length ≤ c0 + C := by omega
    have b_215q : H46.sl ≤ s0 + Sl := by omega
    refine hp_callV_t (x := x47) (H1 := H46) (As := [.int 4, .int (-2147483648), .int 2147483647]) (rest := [.ref p2]) d_Store_restore_72 (k_Store_readNumber z44 (C := H46.sh.length - H43.sh.length) (Sl := H46.sl - H43.sl) (by show H46.sh.length ≤ _; omega) (by show H46.sl ≤ _; omega)) (ab_mkC s_Store_readNumber (Nat.le_of_ble_eq_true rfl) (Nat.le_of_ble_eq_true rfl) (show (H43.sh.length - c0) + (H46.sh.length - H43.sh.length) ≤ C from by omega) (show (H43.sl - s0) + (H46.sl - H43.sl) ≤ Sl from by omega)) (k8 53 rfl rfl) i_Store_readNumber v_Store_readNumber (by rw [(s_214).1]; exact q_191) (by decide) rfl rfl (Nat.le_of_ble_eq_true rfl) ?_
    refine ab_U_catch rfl rfl (by decide) (k8 50 rfl rfl) (hp_ob q48 (by decide)) rfl ?_
    refine ab_widen (cells' := H46.sh.length - c0) (slots' := H46.sl - s0) (by show _ + (H46.sh.length - H43.sh.length) ≤ _; omega) (by show _ + (H46.sl - H43.sl) ≤ _; omega) ?_
    exact kB_Store_restore_143 hG b_215c b_215d b_215p b_215q hC hS
  clear hG
  refine ab_widen (cells' := H43.sh.length - c0) (slots' := H43.sl - s0) (by rw [(s_214).1]; exact Nat.le_refl _) (by rw [(s_214).2]; exact Nat.le_refl _) ?_
  have mz_216 : Mo H43 H46 := (m_Store_readNumber z44)
  have b_217l := (mz_216).len
  have b_217s := (mz_216).2
  have b_217e := congrArg List.length (s_214).1
  have b_217f := (s_214).2
  have b_217c : c0 ≤ H46.sh.length := by omega
  have b_217d : s0 ≤ H46.sl := by omega
  have q_218 := (mz_216).get (by rw [(s_214).1]; exact q_191)
  have q_219 := (mz_216).get (by rw [(s_214).1]; exact q_192)
  have q_220 := (mz_216).get (by rw [(s_214).1]; exact q_193)
  have q_221 := (mz_216).get (by rw [(s_214).1]; exact q_194)
  obtain ⟨H49, eH49, hG⟩ := bnd_g hF; clear hF
  have jH49 : Mo H46 H49 := by rw [eH49]; exact Mo.rf _
  have fH49 : Mo H49 r.2 := by
    have hm := Mo.rf H49
    refine bH_c hG (fun x53 H52 z50 hF => ?_) (fun v51 H52 z50 hF => ?_)
    · clear hG
      replace hm : Mo H49 H52 := hm.tr (m_Store_readNumber z50)
      obtain ⟨q54, hG⟩ := ck_s hF; clear hF
      exact hm.tr (mB_Store_restore_143 hG)
    clear hG
    replace hm : Mo H49 H52 := hm.tr (m_Store_readNumber z50)
    obtain ⟨H55, eH55, hG⟩ := bnd_g hF; clear hF
    replace hm : Mo H49 H55 := by rw [eH55]; exact hm
    refine bH_c hG (fun x59 H58 z56 hF => ?_) (fun v57 H58 z56 hF => ?_)
    · clear hG
      replace hm : Mo H49 H58 := hm.tr (m_Store_readNumber z56)
      obtain ⟨q60, hG⟩ := ck_s hF; clear hF
      exact hm.tr (mB_Store_restore_143 hG)
    clear hG
    replace hm : Mo H49 H58 := hm.tr (m_Store_readNumber z56)
    obtain ⟨H61, eH61, hG⟩ := bnd_g hF; clear hF
    replace hm : Mo H49 H61 := by rw [eH61]; exact hm
    exact hm.tr (mB_Store_restore_104 N 0 H61 r hG)
  have fH46 : Mo H46 r.2 := jH49.tr fH49
  have b_217m := (fH46).len
  have b_217n := (fH46).2
  have b_217p : H46.sh.length ≤ c0 + C := by omega
  have b_217q : H46.sl ≤ s0 + Sl := by omega
  refine hp_callV_a (v := .int v45) (H1 := H46) (As := [.int 4, .int (-2147483648), .int 2147483647]) (rest := [.ref p2]) d_Store_restore_72 (k_Store_readNumber z44 (C := H46.sh.length - H43.sh.length) (Sl := H46.sl - H43.sl) (by show H46.sh.length ≤ _; omega) (by show H46.sl ≤ _; omega)) (ab_mkC s_Store_readNumber (Nat.le_of_ble_eq_true rfl) (Nat.le_of_ble_eq_true rfl) (show (H43.sh.length - c0) + (H46.sh.length - H43.sh.length) ≤ C from by omega) (show (H43.sl - s0) + (H46.sl - H43.sl) ≤ Sl from by omega)) (k8 53 rfl rfl) i_Store_readNumber v_Store_readNumber (by rw [(s_214).1]; exact q_191) (by decide) rfl rfl (Nat.le_of_ble_eq_true rfl) ?_
  refine ab_widen (cells' := H46.sh.length - c0) (slots' := H46.sl - s0) (by show _ + (H46.sh.length - H43.sh.length) ≤ _; omega) (by show _ + (H46.sl - H43.sl) ≤ _; omega) ?_
  clear b_217l b_217s b_217m b_217n b_217e b_217f b_190c b_190d b_190p b_190q
  refine hp_putI (v := v45) (f := 1) d_Store_restore_75 q_221 (by decide) rfl (by decide) (k1 211 rfl rfl) rfl rfl (fun _ => rfl) (fun _ => rfl) rfl ?_
  refine hp_genx eH49 ?_
  have s_235 : Sa H46 H49 := by rw [eH49]; exact Sa.rf _
  refine ab_aload_n d_Store_restore_78 rfl rfl rfl ?_
  refine ab_aload_n d_Store_restore_79 rfl rfl rfl ?_
  refine ab_iconst (v := 4) d_Store_restore_80 (by decide) ?_
  refine ab_iconst (v := 0) d_Store_restore_81 (by decide) ?_
  refine ab_ldc d_Store_restore_82 (k8 64 rfl rfl) ?_
  refine bH_c hG (fun x53 H52 z50 hF => ?_) (fun v51 H52 z50 hF => ?_)
  · clear hG
    refine ab_widen (cells' := H49.sh.length - c0) (slots' := H49.sl - s0) (by rw [(s_235).1]; exact Nat.le_refl _) (by rw [(s_235).2]; exact Nat.le_refl _) ?_
    have mz : Mo H49 H52 := (m_Store_readNumber z50)
    have b_236l := (mz).len
    have b_236s := (mz).2
    have b_236e := congrArg List.length (s_235).1
    have b_236f := (s_235).2
    have b_236c : c0 ≤ H52.sh.length := by omega
    have b_236d : s0 ≤ H52.sl := by omega
    obtain ⟨q54, hG⟩ := ck_s hF; clear hF
    have fH52 : Mo H52 r.2 := by
      have hm := Mo.rf H52
      exact hm.tr (mB_Store_restore_143 hG)
    have b_236m := (fH52).len
    have b_236n := (fH52).2
    have b_236p : H52.sh.length ≤ c0 + C := by omega
    have b_236q : H52.sl ≤ s0 + Sl := by omega
    refine hp_callV_t (x := x53) (H1 := H52) (As := [.int 4, .int 0, .int 1000000000]) (rest := [.ref p2]) d_Store_restore_84 (k_Store_readNumber z50 (C := H52.sh.length - H49.sh.length) (Sl := H52.sl - H49.sl) (by show H52.sh.length ≤ _; omega) (by show H52.sl ≤ _; omega)) (ab_mkC s_Store_readNumber (Nat.le_of_ble_eq_true rfl) (Nat.le_of_ble_eq_true rfl) (show (H49.sh.length - c0) + (H52.sh.length - H49.sh.length) ≤ C from by omega) (show (H49.sl - s0) + (H52.sl - H49.sl) ≤ Sl from by omega)) (k8 53 rfl rfl) i_Store_readNumber v_Store_readNumber (by rw [(s_235).1]; exact q_218) (by decide) rfl rfl (Nat.le_of_ble_eq_true rfl) ?_
    refine ab_U_catch rfl rfl (by decide) (k8 50 rfl rfl) (hp_ob q54 (by decide)) rfl ?_
    refine ab_widen (cells' := H52.sh.length - c0) (slots' := H52.sl - s0) (by show _ + (H52.sh.length - H49.sh.length) ≤ _; omega) (by show _ + (H52.sl - H49.sl) ≤ _; omega) ?_
    exact kB_Store_restore_143 hG b_236c b_236d b_236p b_236q hC hS
  clear hG
  refine ab_widen (cells' := H49.sh.length - c0) (slots' := H49.sl - s0) (by rw [(s_235).1]; exact Nat.le_refl _) (by rw [(s_235).2]; exact Nat.le_refl _) ?_
  have mz_237 : Mo H49 H52 := (m_Store_readNumber z50)
  have b_238l := (mz_237).len
  have b_238s := (mz_237).2
  have b_238e := congrArg List.length (s_235).1
  have b_238f := (s_235).2
  have b_238c : c0 ≤ H52.sh.length := by omega
  have b_238d : s0 ≤ H52.sl := by omega
  have q_239 := (mz_237).get (by rw [(s_235).1]; exact q_218)
  have q_240 := (mz_237).get (by rw [(s_235).1]; exact q_219)
  have q_241 := (mz_237).get (by rw [(s_235).1]; exact q_220)
  have q_242 := (mz_237).get (by rw [(s_235).1]; exact q_221)
  obtain ⟨H55, eH55, hG⟩ := bnd_g hF; clear hF
  have jH55 : Mo H52 H55 := by rw [eH55]; exact Mo.rf _
  have fH55 : Mo H55 r.2 := by
    have hm := Mo.rf H55
    refine bH_c hG (fun x59 H58 z56 hF => ?_) (fun v57 H58 z56 hF => ?_)
    · clear hG
      replace hm : Mo H55 H58 := hm.tr (m_Store_readNumber z56)
      obtain ⟨q60, hG⟩ := ck_s hF; clear hF
      exact hm.tr (mB_Store_restore_143 hG)
    clear hG
    replace hm : Mo H55 H58 := hm.tr (m_Store_readNumber z56)
    obtain ⟨H61, eH61, hG⟩ := bnd_g hF; clear hF
    replace hm : Mo H55 H61 := by rw [eH61]; exact hm
    exact hm.tr (mB_Store_restore_104 N 0 H61 r hG)
  have fH52 : Mo H52 r.2 := jH55.tr fH55
  have b_238m := (fH52).len
  have b_238n := (fH52).2
  have b_238p : H52.sh.length ≤ c0 + C := by omega
  have b_238q : H52.sl ≤ s0 + Sl := by omega
  refine hp_callV_a (v := .int v51) (H1 := H52) (As := [.int 4, .int 0, .int 1000000000]) (rest := [.ref p2]) d_Store_restore_84 (k_Store_readNumber z50 (C := H52.sh.length - H49.sh.length) (Sl := H52.sl - H49.sl) (by show H52.sh.length ≤ _; omega) (by show H52.sl ≤ _; omega)) (ab_mkC s_Store_readNumber (Nat.le_of_ble_eq_true rfl) (Nat.le_of_ble_eq_true rfl) (show (H49.sh.length - c0) + (H52.sh.length - H49.sh.length) ≤ C from by omega) (show (H49.sl - s0) + (H52.sl - H49.sl) ≤ Sl from by omega)) (k8 53 rfl rfl) i_Store_readNumber v_Store_readNumber (by rw [(s_235).1]; exact q_218) (by decide) rfl rfl (Nat.le_of_ble_eq_true rfl) ?_
  refine ab_widen (cells' := H52.sh.length - c0) (slots' := H52.sl - s0) (by show _ + (H52.sh.length - H49.sh.length) ≤ _; omega) (by show _ + (H52.sl - H49.sl) ≤ _; omega) ?_
  clear b_238l b_238s b_238m b_238n b_238e b_238f b_217c b_217d b_217p b_217q
  refine hp_putI (v := v51) (f := 2) d_Store_restore_87 q_242 (by decide) rfl (by decide) (k1 214 rfl rfl) rfl rfl (fun _ => rfl) (fun _ => rfl) rfl ?_
  refine hp_genx eH55 ?_
  have s_250 : Sa H52 H55 := by rw [eH55]; exact Sa.rf _
  refine ab_aload_n d_Store_restore_90 rfl rfl rfl ?_
  refine ab_aload_n d_Store_restore_91 rfl rfl rfl ?_
  refine ab_iconst (v := 4) d_Store_restore_92 (by decide) ?_
  refine ab_iconst (v := 0) d_Store_restore_93 (by decide) ?_
  refine ab_ldc d_Store_restore_94 (k8 64 rfl rfl) ?_
  refine bH_c hG (fun x59 H58 z56 hF => ?_) (fun v57 H58 z56 hF => ?_)
  · clear hG
    refine ab_widen (cells' := H55.sh.length - c0) (slots' := H55.sl - s0) (by rw [(s_250).1]; exact Nat.le_refl _) (by rw [(s_250).2]; exact Nat.le_refl _) ?_
    have mz : Mo H55 H58 := (m_Store_readNumber z56)
    have b_251l := (mz).len
    have b_251s := (mz).2
    have b_251e := congrArg List.length (s_250).1
    have b_251f := (s_250).2
    have b_251c : c0 ≤ H58.sh.length := by omega
    have b_251d : s0 ≤ H58.sl := by omega
    obtain ⟨q60, hG⟩ := ck_s hF; clear hF
    have fH58 : Mo H58 r.2 := by
      have hm := Mo.rf H58
      exact hm.tr (mB_Store_restore_143 hG)
    have b_251m := (fH58).len
    have b_251n := (fH58).2
    have b_251p : H58.sh.length ≤ c0 + C := by omega
    have b_251q : H58.sl ≤ s0 + Sl := by omega
    refine hp_callV_t (x := x59) (H1 := H58) (As := [.int 4, .int 0, .int 1000000000]) (rest := [.ref p2]) d_Store_restore_96 (k_Store_readNumber z56 (C := H58.sh.length - H55.sh.length) (Sl := H58.sl - H55.sl) (by show H58.sh.length ≤ _; omega) (by show H58.sl ≤ _; omega)) (ab_mkC s_Store_readNumber (Nat.le_of_ble_eq_true rfl) (Nat.le_of_ble_eq_true rfl) (show (H55.sh.length - c0) + (H58.sh.length - H55.sh.length) ≤ C from by omega) (show (H55.sl - s0) + (H58.sl - H55.sl) ≤ Sl from by omega)) (k8 53 rfl rfl) i_Store_readNumber v_Store_readNumber (by rw [(s_250).1]; exact q_239) (by decide) rfl rfl (Nat.le_of_ble_eq_true rfl) ?_
    refine ab_U_catch rfl rfl (by decide) (k8 50 rfl rfl) (hp_ob q60 (by decide)) rfl ?_
    refine ab_widen (cells' := H58.sh.length - c0) (slots' := H58.sl - s0) (by show _ + (H58.sh.length - H55.sh.length) ≤ _; omega) (by show _ + (H58.sl - H55.sl) ≤ _; omega) ?_
    exact kB_Store_restore_143 hG b_251c b_251d b_251p b_251q hC hS
  clear hG
  refine ab_widen (cells' := H55.sh.length - c0) (slots' := H55.sl - s0) (by rw [(s_250).1]; exact Nat.le_refl _) (by rw [(s_250).2]; exact Nat.le_refl _) ?_
  have mz_252 : Mo H55 H58 := (m_Store_readNumber z56)
  have b_253l := (mz_252).len
  have b_253s := (mz_252).2
  have b_253e := congrArg List.length (s_250).1
  have b_253f := (s_250).2
  have b_253c : c0 ≤ H58.sh.length := by omega
  have b_253d : s0 ≤ H58.sl := by omega
  have q_254 := (mz_252).get (by rw [(s_250).1]; exact q_239)
  have q_255 := (mz_252).get (by rw [(s_250).1]; exact q_240)
  have q_256 := (mz_252).get (by rw [(s_250).1]; exact q_241)
  have q_257 := (mz_252).get (by rw [(s_250).1]; exact q_242)
  obtain ⟨H61, eH61, hG⟩ := bnd_g hF; clear hF
  have jH61 : Mo H58 H61 := by rw [eH61]; exact Mo.rf _
  have fH61 : Mo H61 r.2 := by
    have hm := Mo.rf H61
    exact hm.tr (mB_Store_restore_104 N 0 H61 r hG)
  have fH58 : Mo H58 r.2 := jH61.tr fH61
  have b_253m := (fH58).len
  have b_253n := (fH58).2
  have b_253p : H58.sh.length ≤ c0 + C := by omega
  have b_253q : H58.sl ≤ s0 + Sl := by omega
  refine hp_callV_a (v := .int v57) (H1 := H58) (As := [.int 4, .int 0, .int 1000000000]) (rest := [.ref p2]) d_Store_restore_96 (k_Store_readNumber z56 (C := H58.sh.length - H55.sh.length) (Sl := H58.sl - H55.sl) (by show H58.sh.length ≤ _; omega) (by show H58.sl ≤ _; omega)) (ab_mkC s_Store_readNumber (Nat.le_of_ble_eq_true rfl) (Nat.le_of_ble_eq_true rfl) (show (H55.sh.length - c0) + (H58.sh.length - H55.sh.length) ≤ C from by omega) (show (H55.sl - s0) + (H58.sl - H55.sl) ≤ Sl from by omega)) (k8 53 rfl rfl) i_Store_readNumber v_Store_readNumber (by rw [(s_250).1]; exact q_239) (by decide) rfl rfl (Nat.le_of_ble_eq_true rfl) ?_
  refine ab_widen (cells' := H58.sh.length - c0) (slots' := H58.sl - s0) (by show _ + (H58.sh.length - H55.sh.length) ≤ _; omega) (by show _ + (H58.sl - H55.sl) ≤ _; omega) ?_
  clear b_253l b_253s b_253m b_253n b_253e b_253f b_238c b_238d b_238p b_238q
  refine hp_putI (v := v57) (f := 3) d_Store_restore_99 q_257 (by decide) rfl (by decide) (k1 217 rfl rfl) rfl rfl (fun _ => rfl) (fun _ => rfl) rfl ?_
  refine hp_genx eH61 ?_
  have s_259 : Sa H58 H61 := by rw [eH61]; exact Sa.rf _
  refine ab_iconst (v := 0) d_Store_restore_102 (by decide) ?_
  refine ab_istore_n (lv' := [some (.ref p0), some (.ref p1), some (.ref p2), some (.int 0)]) d_Store_restore_103 rfl (by decide) rfl ?_
  refine ab_widen (cells' := H61.sh.length - c0) (slots' := H61.sl - s0) (by rw [(s_259).1]; exact Nat.le_refl _) (by rw [(s_259).2]; exact Nat.le_refl _) ?_
  exact kB_Store_restore_104 N 0 H61 r hG (by rw [(s_259).1]; exact b_253c) (by rw [(s_259).2]; exact b_253d) (by rw [(s_259).1]; exact b_253p) (by rw [(s_259).2]; exact b_253q) hC hS
def y_Play_adopt : ab_Y := (⟨"WorldEngine$Play", "adopt", "(LWorldEngine$World;)V"⟩, prog_5_method_8_code, 2, none, [])
theorem d_Play_adopt_0 : decode y_Play_adopt.2.1 0 = .ok (.aload_n 0, 1) := by decide +kernel
theorem d_Play_adopt_1 : decode y_Play_adopt.2.1 1 = .ok (.getfield 10, 3) := by decide +kernel
theorem d_Play_adopt_4 : decode y_Play_adopt.2.1 4 = .ok (.aload_n 1, 1) := by decide +kernel
theorem d_Play_adopt_5 : decode y_Play_adopt.2.1 5 = .ok (.invokevirtual 83, 3) := by decide +kernel
theorem d_Play_adopt_8 : decode y_Play_adopt.2.1 8 = .ok (.aload_n 0, 1) := by decide +kernel
theorem d_Play_adopt_9 : decode y_Play_adopt.2.1 9 = .ok (.invokevirtual 70, 3) := by decide +kernel
theorem d_Play_adopt_12 : decode y_Play_adopt.2.1 12 = .ok (.return_, 1) := by decide +kernel
theorem s_Play_adopt : ab_Stat y_Play_adopt 1 := ⟨(k8 94 rfl rfl), (k1 9 rfl rfl), ⟨by decide, by decide⟩, by decide +kernel⟩
theorem i_Play_adopt : Cond.instanceMethod y_Play_adopt.1 ∈ ab_T := (k8 92 rfl rfl)
theorem v_Play_adopt : Cond.selects "WorldEngine$Play" y_Play_adopt.1 y_Play_adopt.1 ∈ ab_T := (k8 93 rfl rfl)
def F_Play_adopt (N : Nat) (p0 : Nat) (p1 : Nat) (H : Hp) : Option (Unit × Hp) :=
    ck (H.sh[p0]? = some (10, 0)) <|
    rf (H.P p0 0) fun a2 =>
    ck (H.sh[a2]? = some (7, 0)) <|
    bC (F_World_copyFrom N a2 p1 H) fun v6 H7 =>
    bC (F_Play_forgetInputs N p0 H7) fun v9 H10 =>
    some ((), H10)
set_option maxRecDepth 20000 in
set_option maxHeartbeats 2000000 in
theorem m_Play_adopt {N : Nat} {p0 : Nat} {p1 : Nat} {H : Hp} {r : Unit × Hp} (hF : F_Play_adopt N p0 p1 H = some r) : Sa H r.2 := by
  unfold F_Play_adopt at hF
  have hm := Sa.rf H
  obtain ⟨q11, hG⟩ := ck_s hF; clear hF
  obtain ⟨a12, e13, hF⟩ := rf_s hG; clear hG
  obtain ⟨q14, hG⟩ := ck_s hF; clear hF
  obtain ⟨v16, H17, z15, hF⟩ := bC_s hG; clear hG
  replace hm : Sa H H17 := hm.tr (m_World_copyFrom z15)
  obtain ⟨v19, H20, z18, hG⟩ := bC_s hF; clear hF
  replace hm : Sa H H20 := hm.tr (m_Play_forgetInputs z18)
  have hr := Option.some.inj hG; subst hr
  exact hm
set_option maxRecDepth 20000 in
set_option maxHeartbeats 2000000 in
theorem k_Play_adopt {N : Nat} {p0 : Nat} {p1 : Nat} {H : Hp} {r : Unit × Hp} (hF : F_Play_adopt N p0 p1 H = some r) : ab_M y_Play_adopt { frames := 2, cells := 0, slots := 0, locals := 81 } [.ref p0, .ref p1] (hpw H) (po (.returned none) r.2) := by
  unfold F_Play_adopt at hF
  refine ab_of2 (lv := [some (.ref p0), some (.ref p1)]) 0 rfl rfl (Nat.le_of_ble_eq_true rfl) ?_
  refine ab_aload_n d_Play_adopt_0 rfl rfl rfl ?_
  obtain ⟨q1, hG⟩ := ck_s hF; clear hF
  obtain ⟨a2, e3, hF⟩ := rf_s hG; clear hG
  refine hp_getR (f := 0) d_Play_adopt_1 q1 (by decide) rfl (by decide) (k2 130 rfl rfl) rfl e3 ?_
  refine ab_aload_n d_Play_adopt_4 rfl rfl rfl ?_
  obtain ⟨q4, hG⟩ := ck_s hF; clear hF
  obtain ⟨v6, H7, z5, hF⟩ := bC_s hG; clear hG
  refine hp_callV_v (H1 := H7) (As := [.ref p1]) (rest := []) d_Play_adopt_5 (k_World_copyFrom z5) (ab_mkC s_World_copyFrom (Nat.le_of_ble_eq_true rfl) (Nat.le_of_ble_eq_true rfl) (Nat.le_refl 0) (Nat.le_refl 0)) (k6 107 rfl rfl) i_World_copyFrom v_World_copyFrom q4 (by decide) rfl rfl (Nat.le_of_ble_eq_true rfl) ?_
  have s_1 : Sa H H7 := (m_World_copyFrom z5)
  refine ab_aload_n d_Play_adopt_8 rfl rfl rfl ?_
  obtain ⟨v9, H10, z8, hG⟩ := bC_s hF; clear hF
  refine hp_callV_v (H1 := H10) (As := []) (rest := []) d_Play_adopt_9 (k_Play_forgetInputs z8) (ab_mkC s_Play_forgetInputs (Nat.le_of_ble_eq_true rfl) (Nat.le_of_ble_eq_true rfl) (Nat.le_refl 0) (Nat.le_refl 0)) (k6 82 rfl rfl) i_Play_forgetInputs v_Play_forgetInputs (by rw [(s_1).1]; exact q1) (by decide) rfl rfl (Nat.le_of_ble_eq_true rfl) ?_
  have s_2 : Sa H H10 := (s_1).tr (m_Play_forgetInputs z8)
  exact ab_vret d_Play_adopt_12 rfl (Nat.le_refl _) (Nat.le_refl _) (by have hr := Option.some.inj hG; subst hr; exact ⟨rfl, rfl⟩)
def y_W_load : ab_Y := (⟨"WorldEngine", "load", "()I"⟩, prog_1_method_29_code, 2, (some FieldType.int), [])
theorem d_W_load_0 : decode y_W_load.2.1 0 = .ok (.aload_n 0, 1) := by decide +kernel
theorem d_W_load_1 : decode y_W_load.2.1 1 = .ok (.getfield 28, 3) := by decide +kernel
theorem d_W_load_4 : decode y_W_load.2.1 4 = .ok (.invokevirtual 110, 3) := by decide +kernel
theorem d_W_load_7 : decode y_W_load.2.1 7 = .ok (.ifCond .ne 7, 3) := by decide +kernel
theorem d_W_load_10 : decode y_W_load.2.1 10 = .ok (.ldc_w 286, 3) := by decide +kernel
theorem d_W_load_13 : decode y_W_load.2.1 13 = .ok (.ireturn, 1) := by decide +kernel
theorem d_W_load_14 : decode y_W_load.2.1 14 = .ok (.aload_n 0, 1) := by decide +kernel
theorem d_W_load_15 : decode y_W_load.2.1 15 = .ok (.getfield 49, 3) := by decide +kernel
theorem d_W_load_18 : decode y_W_load.2.1 18 = .ok (.ifCond .ne 7, 3) := by decide +kernel
theorem d_W_load_21 : decode y_W_load.2.1 21 = .ok (.ldc_w 287, 3) := by decide +kernel
theorem d_W_load_24 : decode y_W_load.2.1 24 = .ok (.ireturn, 1) := by decide +kernel
theorem d_W_load_25 : decode y_W_load.2.1 25 = .ok (.aload_n 0, 1) := by decide +kernel
theorem d_W_load_26 : decode y_W_load.2.1 26 = .ok (.getfield 28, 3) := by decide +kernel
theorem d_W_load_29 : decode y_W_load.2.1 29 = .ok (.invokevirtual 288, 3) := by decide +kernel
theorem d_W_load_32 : decode y_W_load.2.1 32 = .ok (.astore_n 1, 1) := by decide +kernel
theorem d_W_load_33 : decode y_W_load.2.1 33 = .ok (.aload_n 0, 1) := by decide +kernel
theorem d_W_load_34 : decode y_W_load.2.1 34 = .ok (.getfield 35, 3) := by decide +kernel
theorem d_W_load_37 : decode y_W_load.2.1 37 = .ok (.aload_n 0, 1) := by decide +kernel
theorem d_W_load_38 : decode y_W_load.2.1 38 = .ok (.getfield 42, 3) := by decide +kernel
theorem d_W_load_41 : decode y_W_load.2.1 41 = .ok (.aload_n 1, 1) := by decide +kernel
theorem d_W_load_42 : decode y_W_load.2.1 42 = .ok (.invokevirtual 292, 3) := by decide +kernel
theorem d_W_load_45 : decode y_W_load.2.1 45 = .ok (.ifCond .ne 13, 3) := by decide +kernel
theorem d_W_load_48 : decode y_W_load.2.1 48 = .ok (.iconst (-1), 1) := by decide +kernel
theorem d_W_load_49 : decode y_W_load.2.1 49 = .ok (.aload_n 0, 1) := by decide +kernel
theorem d_W_load_50 : decode y_W_load.2.1 50 = .ok (.getfield 35, 3) := by decide +kernel
theorem d_W_load_53 : decode y_W_load.2.1 53 = .ok (.getfield 296, 3) := by decide +kernel
theorem d_W_load_56 : decode y_W_load.2.1 56 = .ok (.isub, 1) := by decide +kernel
theorem d_W_load_57 : decode y_W_load.2.1 57 = .ok (.ireturn, 1) := by decide +kernel
theorem d_W_load_58 : decode y_W_load.2.1 58 = .ok (.aload_n 0, 1) := by decide +kernel
theorem d_W_load_59 : decode y_W_load.2.1 59 = .ok (.getfield 28, 3) := by decide +kernel
theorem d_W_load_62 : decode y_W_load.2.1 62 = .ok (.aload_n 1, 1) := by decide +kernel
theorem d_W_load_63 : decode y_W_load.2.1 63 = .ok (.invokevirtual 299, 3) := by decide +kernel
theorem d_W_load_66 : decode y_W_load.2.1 66 = .ok (.iconst 0, 1) := by decide +kernel
theorem d_W_load_67 : decode y_W_load.2.1 67 = .ok (.ireturn, 1) := by decide +kernel
theorem s_W_load : ab_Stat y_W_load 0 := ⟨(k8 42 rfl rfl), (k1 1 rfl rfl), ⟨by decide, by decide⟩, by decide +kernel⟩
theorem i_W_load : Cond.instanceMethod y_W_load.1 ∈ ab_T := (k8 40 rfl rfl)
theorem v_W_load : Cond.selects "WorldEngine" y_W_load.1 y_W_load.1 ∈ ab_T := (k8 41 rfl rfl)
def F_W_load (N : Nat) (p0 : Nat) (H : Hp) : Option (Int32 × Hp) :=
    ck (H.sh[p0]? = some (0, 0)) <|
    rf (H.P p0 2) fun a2 =>
    ck (H.sh[a2]? = some (10, 0)) <|
    bC (F_Play_isQuiet N a2 H) fun v6 H7 =>
    if v6 = (0 : Int32) then
    some ((-1000000), H7)
    else
    bnd ((H7.D p0 6)) fun x9 =>
    if x9 = (0 : Int32) then
    some ((-2000000), H7)
    else
    rf (H7.P p0 2) fun a11 =>
    ck (H7.sh[a11]? = some (10, 0)) <|
    bC (F_Play_scratch N a11 H7) fun v15 H16 =>
    on v15 fun a17 =>
    rf (H16.P p0 3) fun a18 =>
    rf (H16.P p0 4) fun a20 =>
    ck (H16.sh[a18]? = some (11, 0)) <|
    bC (F_Store_restore N a18 a20 a17 H16) fun v24 H25 =>
    if v24 = (0 : Int32) then
    rf (H25.P p0 3) fun a33 =>
    ck (H25.sh[a33]? = some (11, 0)) <|
    bnd ((H25.D a33 2)) fun x36 =>
    some (((-1) : Int32) - x36, H25)
    else
    rf (H25.P p0 2) fun a27 =>
    ck (H25.sh[a27]? = some (10, 0)) <|
    bC (F_Play_adopt N a27 a17 H25) fun v31 H32 =>
    some (0, H32)
set_option maxRecDepth 20000 in
set_option maxHeartbeats 2000000 in
theorem m_W_load {N : Nat} {p0 : Nat} {H : Hp} {r : Int32 × Hp} (hF : F_W_load N p0 H = some r) : Mo H r.2 := by
  unfold F_W_load at hF
  have hm := Mo.rf H
  obtain ⟨q37, hG⟩ := ck_s hF; clear hF
  obtain ⟨a38, e39, hF⟩ := rf_s hG; clear hG
  obtain ⟨q40, hG⟩ := ck_s hF; clear hF
  obtain ⟨v42, H43, z41, hF⟩ := bC_s hG; clear hG
  replace hm : Mo H H43 := hm.tr ((m_Play_isQuiet z41)).mo
  rcases ite_s hF with ⟨q_14, hG⟩ | ⟨q_14, hG⟩
  · clear hF
    have hr := Option.some.inj hG; subst hr
    exact hm
  · clear hF
    obtain ⟨x45, -, hF⟩ := bnd_g hG; clear hG
    rcases ite_s hF with ⟨q_15, hG⟩ | ⟨q_15, hG⟩
    · clear hF
      have hr := Option.some.inj hG; subst hr
      exact hm
    · clear hF
      obtain ⟨a47, e48, hF⟩ := rf_s hG; clear hG
      obtain ⟨q49, hG⟩ := ck_s hF; clear hF
      obtain ⟨v51, H52, z50, hF⟩ := bC_s hG; clear hG
      replace hm : Mo H H52 := hm.tr ((m_Play_scratch z50)).mo
      obtain ⟨a53, ea53, hG⟩ := on_s hF; clear hF
      subst ea53
      obtain ⟨a54, e55, hF⟩ := rf_s hG; clear hG
      obtain ⟨a56, e57, hG⟩ := rf_s hF; clear hF
      obtain ⟨q58, hF⟩ := ck_s hG; clear hG
      obtain ⟨v60, H61, z59, hG⟩ := bC_s hF; clear hF
      replace hm : Mo H H61 := hm.tr (m_Store_restore z59)
      rcases ite_s hG with ⟨q_21, hF⟩ | ⟨q_21, hF⟩
      · clear hG
        obtain ⟨a63, e64, hG⟩ := rf_s hF; clear hF
        obtain ⟨q65, hF⟩ := ck_s hG; clear hG
        obtain ⟨x66, -, hG⟩ := bnd_g hF; clear hF
        have hr := Option.some.inj hG; subst hr
        exact hm
      · clear hG
        obtain ⟨a67, e68, hG⟩ := rf_s hF; clear hF
        obtain ⟨q69, hF⟩ := ck_s hG; clear hG
        obtain ⟨v71, H72, z70, hG⟩ := bC_s hF; clear hF
        replace hm : Mo H H72 := hm.tr ((m_Play_adopt z70)).mo
        have hr := Option.some.inj hG; subst hr
        exact hm
set_option maxRecDepth 20000 in
set_option maxHeartbeats 2000000 in
theorem k_W_load {N : Nat} {p0 : Nat} {H : Hp} {r : Int32 × Hp} {C Sl : Nat} (hF : F_W_load N p0 H = some r) (hC : r.2.sh.length ≤ H.sh.length + C) (hS : r.2.sl ≤ H.sl + Sl) : ab_M y_W_load { frames := 10, cells := C, slots := Sl, locals := 197 } [.ref p0] (hpw H) (po (.returned (some (.int r.1))) r.2) := by
  unfold F_W_load at hF
  obtain ⟨c0, e0⟩ : ∃ q, q = H.sh.length := ⟨_, rfl⟩
  obtain ⟨s0, e1⟩ : ∃ q, q = H.sl := ⟨_, rfl⟩
  rw [← e0] at hC
  rw [← e1] at hS
  have hc0 : c0 ≤ H.sh.length := Nat.le_of_eq e0
  have hs0 : s0 ≤ H.sl := Nat.le_of_eq e1
  have hcc : H.sh.length ≤ c0 + C := by omega
  have hss : H.sl ≤ s0 + Sl := by omega
  refine ab_of2 (lv := [some (.ref p0), none]) 1 rfl rfl (Nat.le_of_ble_eq_true rfl) ?_
  refine ab_widen (cells' := H.sh.length - c0) (slots' := H.sl - s0) (Nat.zero_le _) (Nat.zero_le _) ?_
  refine ab_aload_n d_W_load_0 rfl rfl rfl ?_
  obtain ⟨q1, hG⟩ := ck_s hF; clear hF
  obtain ⟨a2, e3, hF⟩ := rf_s hG; clear hG
  refine hp_getR (f := 2) d_W_load_1 q1 (by decide) rfl (by decide) (k3 159 rfl rfl) rfl e3 ?_
  obtain ⟨q4, hG⟩ := ck_s hF; clear hF
  obtain ⟨v6, H7, z5, hF⟩ := bC_s hG; clear hG
  refine hp_callV_a (v := .int v6) (H1 := H7) (As := []) (rest := []) d_W_load_4 (k_Play_isQuiet z5) (ab_mkC s_Play_isQuiet (Nat.le_of_ble_eq_true rfl) (Nat.le_of_ble_eq_true rfl) (show (H.sh.length - c0) + 0 ≤ C from by omega) (show (H.sl - s0) + 0 ≤ Sl from by omega)) (k6 95 rfl rfl) i_Play_isQuiet v_Play_isQuiet q4 (by decide) rfl rfl (Nat.le_of_ble_eq_true rfl) ?_
  have s_2 : Sa H H7 := (m_Play_isQuiet z5)
  refine ab_widen (cells' := H.sh.length - c0) (slots' := H.sl - s0) (by show (H.sh.length - c0) + 0 ≤ _; omega) (by show (H.sl - s0) + 0 ≤ _; omega) ?_
  refine ab_if_ne (tgt := 14) d_W_load_7 (by decide) (fun q8 => ?_) (fun q8 => ?_)
  · rw [if_neg q8] at hF
    refine ab_aload_n d_W_load_14 rfl rfl rfl ?_
    refine hp_getI (f := 6) d_W_load_15 (by rw [(s_2).1]; exact q1) (by decide) rfl (by decide) (k3 163 rfl rfl) rfl ?_
    refine ab_topi (fun x9 ex9 => ?_)
    replace hF := bnd_s ex9 hF
    refine ab_if_ne (tgt := 25) d_W_load_18 (by decide) (fun q10 => ?_) (fun q10 => ?_)
    · rw [if_neg q10] at hF
      refine ab_aload_n d_W_load_25 rfl rfl rfl ?_
      obtain ⟨a11, e12, hG⟩ := rf_s hF; clear hF
      refine hp_getR (f := 2) d_W_load_26 (by rw [(s_2).1]; exact q1) (by decide) rfl (by decide) (k3 159 rfl rfl) rfl e12 ?_
      obtain ⟨q13, hF⟩ := ck_s hG; clear hG
      rw [(s_2).1] at q13
      obtain ⟨v15, H16, z14, hG⟩ := bC_s hF; clear hF
      refine ab_widen (cells' := H7.sh.length - c0) (slots' := H7.sl - s0) (by rw [(s_2).1]; exact Nat.le_refl _) (by rw [(s_2).2]; exact Nat.le_refl _) ?_
      have b_3e := congrArg List.length (s_2).1
      have b_3f := (s_2).2
      refine hp_callV_a (v := ab_rf v15) (H1 := H16) (As := []) (rest := []) d_W_load_29 (k_Play_scratch z14) (ab_mkC s_Play_scratch (Nat.le_of_ble_eq_true rfl) (Nat.le_of_ble_eq_true rfl) (show (H7.sh.length - c0) + 0 ≤ C from by omega) (show (H7.sl - s0) + 0 ≤ Sl from by omega)) (k8 45 rfl rfl) i_Play_scratch v_Play_scratch (by rw [(s_2).1]; exact q13) (by decide) rfl rfl (Nat.le_of_ble_eq_true rfl) ?_
      have s_4 : Sa H H16 := (s_2).tr (m_Play_scratch z14)
      refine ab_widen (cells' := H.sh.length - c0) (slots' := H.sl - s0) (by show (H7.sh.length - c0) + 0 ≤ _; omega) (by show (H7.sl - s0) + 0 ≤ _; omega) ?_
      clear b_3e b_3f
      obtain ⟨a17, ea17, hF⟩ := on_s hG; clear hG
      subst ea17
      refine ab_astore_n (lv' := [some (.ref p0), some (.ref a17)]) d_W_load_32 rfl (by decide) rfl rfl ?_
      refine ab_aload_n d_W_load_33 rfl rfl rfl ?_
      obtain ⟨a18, e19, hG⟩ := rf_s hF; clear hF
      refine hp_getR (f := 3) d_W_load_34 (by rw [(s_4).1]; exact q1) (by decide) rfl (by decide) (k3 160 rfl rfl) rfl e19 ?_
      refine ab_aload_n d_W_load_37 rfl rfl rfl ?_
      obtain ⟨a20, e21, hF⟩ := rf_s hG; clear hG
      refine hp_getR (f := 4) d_W_load_38 (by rw [(s_4).1]; exact q1) (by decide) rfl (by decide) (k3 161 rfl rfl) rfl e21 ?_
      refine ab_aload_n d_W_load_41 rfl rfl rfl ?_
      obtain ⟨q22, hG⟩ := ck_s hF; clear hF
      rw [(s_4).1] at q22
      obtain ⟨v24, H25, z23, hF⟩ := bC_s hG; clear hG
      refine ab_widen (cells' := H16.sh.length - c0) (slots' := H16.sl - s0) (by rw [(s_4).1]; exact Nat.le_refl _) (by rw [(s_4).2]; exact Nat.le_refl _) ?_
      have mz_5 : Mo H16 H25 := (m_Store_restore z23)
      have b_6l := (mz_5).len
      have b_6s := (mz_5).2
      have b_6e := congrArg List.length (s_4).1
      have b_6f := (s_4).2
      have b_6c : c0 ≤ H25.sh.length := by omega
      have b_6d : s0 ≤ H25.sl := by omega
      have q_7 := (mz_5).get (by rw [(s_4).1]; exact q1)
      have q_8 := (mz_5).get (by rw [(s_4).1]; exact q4)
      have q_9 := (mz_5).get (by rw [(s_4).1]; exact q13)
      have q_10 := (mz_5).get (by rw [(s_4).1]; exact q22)
      have fH25 : Mo H25 r.2 := by
        have hm := Mo.rf H25
        rcases ite_s hF with ⟨q_11, hG⟩ | ⟨q_11, hG⟩
        · clear hF
          obtain ⟨a27, e28, hF⟩ := rf_s hG; clear hG
          obtain ⟨q29, hG⟩ := ck_s hF; clear hF
          obtain ⟨x30, -, hF⟩ := bnd_g hG; clear hG
          have hr := Option.some.inj hF; subst hr
          exact hm
        · clear hF
          obtain ⟨a31, e32, hF⟩ := rf_s hG; clear hG
          obtain ⟨q33, hG⟩ := ck_s hF; clear hF
          obtain ⟨v35, H36, z34, hF⟩ := bC_s hG; clear hG
          replace hm : Mo H25 H36 := hm.tr ((m_Play_adopt z34)).mo
          have hr := Option.some.inj hF; subst hr
          exact hm
      have b_6m := (fH25).len
      have b_6n := (fH25).2
      have b_6p : H25.sh.length ≤ c0 + C := by omega
      have b_6q : H25.sl ≤ s0 + Sl := by omega
      refine hp_callV_a (v := .int v24) (H1 := H25) (As := [.ref a20, .ref a17]) (rest := []) d_W_load_42 (k_Store_restore z23 (C := H25.sh.length - H16.sh.length) (Sl := H25.sl - H16.sl) (by show H25.sh.length ≤ _; omega) (by show H25.sl ≤ _; omega)) (ab_mkC s_Store_restore (Nat.le_of_ble_eq_true rfl) (Nat.le_of_ble_eq_true rfl) (show (H16.sh.length - c0) + (H25.sh.length - H16.sh.length) ≤ C from by omega) (show (H16.sl - s0) + (H25.sl - H16.sl) ≤ Sl from by omega)) (k8 46 rfl rfl) i_Store_restore v_Store_restore (by rw [(s_4).1]; exact q22) (by decide) rfl rfl (Nat.le_of_ble_eq_true rfl) ?_
      refine ab_widen (cells' := H25.sh.length - c0) (slots' := H25.sl - s0) (by show _ + (H25.sh.length - H16.sh.length) ≤ _; omega) (by show _ + (H25.sl - H16.sl) ≤ _; omega) ?_
      clear b_6l b_6s b_6m b_6n b_6e b_6f
      refine ab_if_ne (tgt := 58) d_W_load_45 (by decide) (fun q26 => ?_) (fun q26 => ?_)
      · rw [if_neg q26] at hF
        refine ab_aload_n d_W_load_58 rfl rfl rfl ?_
        obtain ⟨a27, e28, hG⟩ := rf_s hF; clear hF
        refine hp_getR (f := 2) d_W_load_59 q_7 (by decide) rfl (by decide) (k3 159 rfl rfl) rfl e28 ?_
        refine ab_aload_n d_W_load_62 rfl rfl rfl ?_
        obtain ⟨q29, hF⟩ := ck_s hG; clear hG
        obtain ⟨v31, H32, z30, hG⟩ := bC_s hF; clear hF
        refine hp_callV_v (H1 := H32) (As := [.ref a17]) (rest := []) d_W_load_63 (k_Play_adopt z30) (ab_mkC s_Play_adopt (Nat.le_of_ble_eq_true rfl) (Nat.le_of_ble_eq_true rfl) (show (H25.sh.length - c0) + 0 ≤ C from by omega) (show (H25.sl - s0) + 0 ≤ Sl from by omega)) (k8 91 rfl rfl) i_Play_adopt v_Play_adopt q29 (by decide) rfl rfl (Nat.le_of_ble_eq_true rfl) ?_
        have s_13 : Sa H25 H32 := (m_Play_adopt z30)
        refine ab_widen (cells' := H25.sh.length - c0) (slots' := H25.sl - s0) (by show (H25.sh.length - c0) + 0 ≤ _; omega) (by show (H25.sl - s0) + 0 ≤ _; omega) ?_
        refine ab_iconst (v := 0) d_W_load_66 (by decide) ?_
        exact ab_iret d_W_load_67 rfl (by show _ ≤ C; omega) (by show _ ≤ Sl; omega) (by have hr := Option.some.inj hG; subst hr; exact ⟨rfl, rfl⟩)
      · rw [if_pos q26] at hF
        refine ab_iconst (v := (-1)) d_W_load_48 (by decide) ?_
        refine ab_aload_n d_W_load_49 rfl rfl rfl ?_
        obtain ⟨a33, e34, hG⟩ := rf_s hF; clear hF
        refine hp_getR (f := 3) d_W_load_50 q_7 (by decide) rfl (by decide) (k3 160 rfl rfl) rfl e34 ?_
        obtain ⟨q35, hF⟩ := ck_s hG; clear hG
        refine hp_getI (f := 2) d_W_load_53 q35 (by decide) rfl (by decide) (k2 191 rfl rfl) rfl ?_
        refine ab_topi (fun x36 ex36 => ?_)
        replace hF := bnd_s ex36 hF
        refine ab_isub d_W_load_56 ?_
        exact ab_iret d_W_load_57 rfl (by show _ ≤ C; omega) (by show _ ≤ Sl; omega) (by have hr := Option.some.inj hF; subst hr; exact ⟨rfl, rfl⟩)
    · rw [if_pos q10] at hF
      refine ab_ldcw d_W_load_21 (k8 44 rfl rfl) ?_
      exact ab_iret d_W_load_24 rfl (by show _ ≤ C; omega) (by show _ ≤ Sl; omega) (by have hr := Option.some.inj hF; subst hr; exact ⟨rfl, rfl⟩)
  · rw [if_pos q8] at hF
    refine ab_ldcw d_W_load_10 (k8 43 rfl rfl) ?_
    exact ab_iret d_W_load_13 rfl (by show _ ≤ C; omega) (by show _ ≤ Sl; omega) (by have hr := Option.some.inj hF; subst hr; exact ⟨rfl, rfl⟩)
def y_W_isWorker : ab_Y := (⟨"WorldEngine", "isWorker", "(I)Z"⟩, prog_1_method_32_code, 2, (some FieldType.boolean), [])
theorem d_W_isWorker_0 : decode y_W_isWorker.2.1 0 = .ok (.iload_n 1, 1) := by decide +kernel
theorem d_W_isWorker_1 : decode y_W_isWorker.2.1 1 = .ok (.ifCond .lt 13, 3) := by decide +kernel
theorem d_W_isWorker_4 : decode y_W_isWorker.2.1 4 = .ok (.iload_n 1, 1) := by decide +kernel
theorem d_W_isWorker_5 : decode y_W_isWorker.2.1 5 = .ok (.bipush 8, 2) := by decide +kernel
theorem d_W_isWorker_7 : decode y_W_isWorker.2.1 7 = .ok (.if_icmp .ge 7, 3) := by decide +kernel
theorem d_W_isWorker_10 : decode y_W_isWorker.2.1 10 = .ok (.iconst 1, 1) := by decide +kernel
theorem d_W_isWorker_11 : decode y_W_isWorker.2.1 11 = .ok (.goto 4, 3) := by decide +kernel
theorem d_W_isWorker_14 : decode y_W_isWorker.2.1 14 = .ok (.iconst 0, 1) := by decide +kernel
theorem d_W_isWorker_15 : decode y_W_isWorker.2.1 15 = .ok (.ireturn, 1) := by decide +kernel
theorem s_W_isWorker : ab_Stat y_W_isWorker 1 := ⟨(k8 102 rfl rfl), (k1 1 rfl rfl), ⟨by decide, by decide⟩, by decide +kernel⟩
theorem i_W_isWorker : Cond.instanceMethod y_W_isWorker.1 ∈ ab_T := (k8 101 rfl rfl)
theorem v_W_isWorker : Cond.selects "WorldEngine" y_W_isWorker.1 y_W_isWorker.1 ∈ ab_T := ab_s (List.mem_of_getElem? (i := 105) rfl) rfl
def F_W_isWorker (N : Nat) (p0 : Nat) (p1 : Int32) (H : Hp) : Option (Int32 × Hp) :=
    if p1 < (0 : Int32) then
    some (0, H)
    else
    if (8 : Int32) ≤ p1 then
    some (0, H)
    else
    some (1, H)
set_option maxRecDepth 20000 in
set_option maxHeartbeats 2000000 in
theorem m_W_isWorker {N : Nat} {p0 : Nat} {p1 : Int32} {H : Hp} {r : Int32 × Hp} (hF : F_W_isWorker N p0 p1 H = some r) : Sa H r.2 := by
  unfold F_W_isWorker at hF
  have hm := Sa.rf H
  rcases ite_s hF with ⟨q_1, hG⟩ | ⟨q_1, hG⟩
  · clear hF
    have hr := Option.some.inj hG; subst hr
    exact hm
  · clear hF
    rcases ite_s hG with ⟨q_2, hF⟩ | ⟨q_2, hF⟩
    · clear hG
      have hr := Option.some.inj hF; subst hr
      exact hm
    · clear hG
      have hr := Option.some.inj hF; subst hr
      exact hm
set_option maxRecDepth 20000 in
set_option maxHeartbeats 2000000 in
theorem k_W_isWorker {N : Nat} {p0 : Nat} {p1 : Int32} {H : Hp} {r : Int32 × Hp} (hF : F_W_isWorker N p0 p1 H = some r) : ab_M y_W_isWorker { frames := 0, cells := 0, slots := 0, locals := 0 } [.ref p0, .int p1] (hpw H) (po (.returned (some (.int r.1))) r.2) := by
  unfold F_W_isWorker at hF
  refine ab_of2 (lv := [some (.ref p0), some (.int p1)]) 0 rfl rfl (Nat.le_of_ble_eq_true rfl) ?_
  refine ab_iload_n d_W_isWorker_0 rfl rfl ?_
  refine ab_if_lt (tgt := 14) d_W_isWorker_1 (by decide) (fun q1 => ?_) (fun q1 => ?_)
  · rw [if_pos q1] at hF
    refine ab_iconst (v := 0) d_W_isWorker_14 (by decide) ?_
    exact ab_zret d_W_isWorker_15 rfl rfl (Nat.le_refl _) (Nat.le_refl _) (by have hr := Option.some.inj hF; subst hr; exact ⟨rfl, rfl⟩)
  · rw [if_neg q1] at hF
    refine ab_iload_n d_W_isWorker_4 rfl rfl ?_
    refine ab_bipush (v := 8) d_W_isWorker_5 (by decide) ?_
    refine ab_icmp_ge (tgt := 14) d_W_isWorker_7 (by decide) (fun q2 => ?_) (fun q2 => ?_)
    · rw [if_pos q2] at hF
      refine ab_iconst (v := 0) d_W_isWorker_14 (by decide) ?_
      exact ab_zret d_W_isWorker_15 rfl rfl (Nat.le_refl _) (Nat.le_refl _) (by have hr := Option.some.inj hF; subst hr; exact ⟨rfl, rfl⟩)
    · rw [if_neg q2] at hF
      refine ab_iconst (v := 1) d_W_isWorker_10 (by decide) ?_
      refine ab_goto (tgt := 15) d_W_isWorker_11 (by decide) ?_
      exact ab_zret d_W_isWorker_15 rfl rfl (Nat.le_refl _) (Nat.le_refl _) (by have hr := Option.some.inj hF; subst hr; exact ⟨rfl, rfl⟩)
def y_W_fall : ab_Y := (⟨"WorldEngine", "fall", "(I)Z"⟩, prog_1_method_30_code, 2, (some FieldType.boolean), [])
theorem d_W_fall_0 : decode y_W_fall.2.1 0 = .ok (.aload_n 0, 1) := by decide +kernel
theorem d_W_fall_1 : decode y_W_fall.2.1 1 = .ok (.iload_n 1, 1) := by decide +kernel
theorem d_W_fall_2 : decode y_W_fall.2.1 2 = .ok (.invokevirtual 303, 3) := by decide +kernel
theorem d_W_fall_5 : decode y_W_fall.2.1 5 = .ok (.ifCond .eq 26, 3) := by decide +kernel
theorem d_W_fall_8 : decode y_W_fall.2.1 8 = .ok (.aload_n 0, 1) := by decide +kernel
theorem d_W_fall_9 : decode y_W_fall.2.1 9 = .ok (.getfield 62, 3) := by decide +kernel
theorem d_W_fall_12 : decode y_W_fall.2.1 12 = .ok (.iload_n 1, 1) := by decide +kernel
theorem d_W_fall_13 : decode y_W_fall.2.1 13 = .ok (.ishr, 1) := by decide +kernel
theorem d_W_fall_14 : decode y_W_fall.2.1 14 = .ok (.iconst 1, 1) := by decide +kernel
theorem d_W_fall_15 : decode y_W_fall.2.1 15 = .ok (.iand, 1) := by decide +kernel
theorem d_W_fall_16 : decode y_W_fall.2.1 16 = .ok (.ifCond .eq 15, 3) := by decide +kernel
theorem d_W_fall_19 : decode y_W_fall.2.1 19 = .ok (.aload_n 0, 1) := by decide +kernel
theorem d_W_fall_20 : decode y_W_fall.2.1 20 = .ok (.getfield 66, 3) := by decide +kernel
theorem d_W_fall_23 : decode y_W_fall.2.1 23 = .ok (.iload_n 1, 1) := by decide +kernel
theorem d_W_fall_24 : decode y_W_fall.2.1 24 = .ok (.ishr, 1) := by decide +kernel
theorem d_W_fall_25 : decode y_W_fall.2.1 25 = .ok (.iconst 1, 1) := by decide +kernel
theorem d_W_fall_26 : decode y_W_fall.2.1 26 = .ok (.iand, 1) := by decide +kernel
theorem d_W_fall_27 : decode y_W_fall.2.1 27 = .ok (.iconst 1, 1) := by decide +kernel
theorem d_W_fall_28 : decode y_W_fall.2.1 28 = .ok (.if_icmp .ne 5, 3) := by decide +kernel
theorem d_W_fall_31 : decode y_W_fall.2.1 31 = .ok (.iconst 0, 1) := by decide +kernel
theorem d_W_fall_32 : decode y_W_fall.2.1 32 = .ok (.ireturn, 1) := by decide +kernel
theorem d_W_fall_33 : decode y_W_fall.2.1 33 = .ok (.aload_n 0, 1) := by decide +kernel
theorem d_W_fall_34 : decode y_W_fall.2.1 34 = .ok (.dup, 1) := by decide +kernel
theorem d_W_fall_35 : decode y_W_fall.2.1 35 = .ok (.getfield 66, 3) := by decide +kernel
theorem d_W_fall_38 : decode y_W_fall.2.1 38 = .ok (.iconst 1, 1) := by decide +kernel
theorem d_W_fall_39 : decode y_W_fall.2.1 39 = .ok (.iload_n 1, 1) := by decide +kernel
theorem d_W_fall_40 : decode y_W_fall.2.1 40 = .ok (.ishl, 1) := by decide +kernel
theorem d_W_fall_41 : decode y_W_fall.2.1 41 = .ok (.ior, 1) := by decide +kernel
theorem d_W_fall_42 : decode y_W_fall.2.1 42 = .ok (.putfield 66, 3) := by decide +kernel
theorem d_W_fall_45 : decode y_W_fall.2.1 45 = .ok (.iconst 1, 1) := by decide +kernel
theorem d_W_fall_46 : decode y_W_fall.2.1 46 = .ok (.ireturn, 1) := by decide +kernel
theorem s_W_fall : ab_Stat y_W_fall 1 := ⟨(k8 98 rfl rfl), (k1 1 rfl rfl), ⟨by decide, by decide⟩, by decide +kernel⟩
theorem i_W_fall : Cond.instanceMethod y_W_fall.1 ∈ ab_T := (k8 96 rfl rfl)
theorem v_W_fall : Cond.selects "WorldEngine" y_W_fall.1 y_W_fall.1 ∈ ab_T := (k8 97 rfl rfl)
def F_W_fall (N : Nat) (p0 : Nat) (p1 : Int32) (H : Hp) : Option (Int32 × Hp) :=
    ck (H.sh[p0]? = some (0, 0)) <|
    bC (F_W_isWorker N p0 p1 H) fun v3 H4 =>
    if v3 = (0 : Int32) then
    some (0, H4)
    else
    bnd ((H4.D p0 7)) fun x6 =>
    if ((x6 >>> (p1 &&& 31)) &&& (1 : Int32)) = (0 : Int32) then
    some (0, H4)
    else
    bnd ((H4.D p0 8)) fun x8 =>
    if ((x8 >>> (p1 &&& 31)) &&& (1 : Int32)) = (1 : Int32) then
    some (0, H4)
    else
    bnd ((H4.D p0 8)) fun x10 =>
    bnd (H4.sD p0 8 (x10 ||| ((1 : Int32) <<< (p1 &&& 31)))) fun H11 =>
    some (1, H11)
set_option maxRecDepth 20000 in
set_option maxHeartbeats 2000000 in
theorem m_W_fall {N : Nat} {p0 : Nat} {p1 : Int32} {H : Hp} {r : Int32 × Hp} (hF : F_W_fall N p0 p1 H = some r) : Sa H r.2 := by
  unfold F_W_fall at hF
  have hm := Sa.rf H
  obtain ⟨q12, hG⟩ := ck_s hF; clear hF
  obtain ⟨v14, H15, z13, hF⟩ := bC_s hG; clear hG
  replace hm : Sa H H15 := hm.tr (m_W_isWorker z13)
  rcases ite_s hF with ⟨q_4, hG⟩ | ⟨q_4, hG⟩
  · clear hF
    have hr := Option.some.inj hG; subst hr
    exact hm
  · clear hF
    obtain ⟨x17, -, hF⟩ := bnd_g hG; clear hG
    rcases ite_s hF with ⟨q_5, hG⟩ | ⟨q_5, hG⟩
    · clear hF
      have hr := Option.some.inj hG; subst hr
      exact hm
    · clear hF
      obtain ⟨x19, -, hF⟩ := bnd_g hG; clear hG
      rcases ite_s hF with ⟨q_6, hG⟩ | ⟨q_6, hG⟩
      · clear hF
        have hr := Option.some.inj hG; subst hr
        exact hm
      · clear hF
        obtain ⟨x21, -, hF⟩ := bnd_g hG; clear hG
        obtain ⟨H22, eH22, hG⟩ := bnd_g hF; clear hF
        replace hm : Sa H H22 := by rw [eH22]; exact hm
        have hr := Option.some.inj hG; subst hr
        exact hm
set_option maxRecDepth 20000 in
set_option maxHeartbeats 2000000 in
theorem k_W_fall {N : Nat} {p0 : Nat} {p1 : Int32} {H : Hp} {r : Int32 × Hp} (hF : F_W_fall N p0 p1 H = some r) : ab_M y_W_fall { frames := 1, cells := 0, slots := 0, locals := 21 } [.ref p0, .int p1] (hpw H) (po (.returned (some (.int r.1))) r.2) := by
  unfold F_W_fall at hF
  refine ab_of2 (lv := [some (.ref p0), some (.int p1)]) 0 rfl rfl (Nat.le_of_ble_eq_true rfl) ?_
  refine ab_aload_n d_W_fall_0 rfl rfl rfl ?_
  refine ab_iload_n d_W_fall_1 rfl rfl ?_
  obtain ⟨q1, hG⟩ := ck_s hF; clear hF
  obtain ⟨v3, H4, z2, hF⟩ := bC_s hG; clear hG
  refine hp_callV_a (v := .int v3) (H1 := H4) (As := [.int p1]) (rest := []) d_W_fall_2 (k_W_isWorker z2) (ab_mkC s_W_isWorker (Nat.le_of_ble_eq_true rfl) (Nat.le_of_ble_eq_true rfl) (Nat.le_refl 0) (Nat.le_refl 0)) (k8 99 rfl rfl) i_W_isWorker v_W_isWorker q1 (by decide) rfl rfl (Nat.le_of_ble_eq_true rfl) ?_
  have s_1 : Sa H H4 := (m_W_isWorker z2)
  refine ab_if_eq (tgt := 31) d_W_fall_5 (by decide) (fun q5 => ?_) (fun q5 => ?_)
  · rw [if_pos q5] at hF
    refine ab_iconst (v := 0) d_W_fall_31 (by decide) ?_
    exact ab_zret d_W_fall_32 rfl rfl (Nat.le_refl _) (Nat.le_refl _) (by have hr := Option.some.inj hF; subst hr; exact ⟨rfl, rfl⟩)
  · rw [if_neg q5] at hF
    refine ab_aload_n d_W_fall_8 rfl rfl rfl ?_
    refine hp_getI (f := 7) d_W_fall_9 (by rw [(s_1).1]; exact q1) (by decide) rfl (by decide) (k3 164 rfl rfl) rfl ?_
    refine ab_topi (fun x6 ex6 => ?_)
    replace hF := bnd_s ex6 hF
    refine ab_iload_n d_W_fall_12 rfl rfl ?_
    refine ab_ishr d_W_fall_13 ?_
    refine ab_iconst (v := 1) d_W_fall_14 (by decide) ?_
    refine ab_iand d_W_fall_15 ?_
    refine ab_if_eq (tgt := 31) d_W_fall_16 (by decide) (fun q7 => ?_) (fun q7 => ?_)
    · rw [if_pos q7] at hF
      refine ab_iconst (v := 0) d_W_fall_31 (by decide) ?_
      exact ab_zret d_W_fall_32 rfl rfl (Nat.le_refl _) (Nat.le_refl _) (by have hr := Option.some.inj hF; subst hr; exact ⟨rfl, rfl⟩)
    · rw [if_neg q7] at hF
      refine ab_aload_n d_W_fall_19 rfl rfl rfl ?_
      refine hp_getI (f := 8) d_W_fall_20 (by rw [(s_1).1]; exact q1) (by decide) rfl (by decide) (k3 165 rfl rfl) rfl ?_
      refine ab_topi (fun x8 ex8 => ?_)
      replace hF := bnd_s ex8 hF
      refine ab_iload_n d_W_fall_23 rfl rfl ?_
      refine ab_ishr d_W_fall_24 ?_
      refine ab_iconst (v := 1) d_W_fall_25 (by decide) ?_
      refine ab_iand d_W_fall_26 ?_
      refine ab_iconst (v := 1) d_W_fall_27 (by decide) ?_
      refine ab_icmp_ne (tgt := 33) d_W_fall_28 (by decide) (fun q9 => ?_) (fun q9 => ?_)
      · rw [if_neg q9] at hF
        refine ab_aload_n d_W_fall_33 rfl rfl rfl ?_
        refine ab_dup d_W_fall_34 rfl ?_
        refine hp_getI (f := 8) d_W_fall_35 (by rw [(s_1).1]; exact q1) (by decide) rfl (by decide) (k3 165 rfl rfl) rfl ?_
        refine ab_topi (fun x10 ex10 => ?_)
        replace hF := bnd_s ex10 hF
        refine ab_iconst (v := 1) d_W_fall_38 (by decide) ?_
        refine ab_iload_n d_W_fall_39 rfl rfl ?_
        refine ab_ishl d_W_fall_40 ?_
        refine ab_ior d_W_fall_41 ?_
        refine hp_putI (v := x10 ||| ((1 : Int32) <<< (p1 &&& 31))) (f := 8) d_W_fall_42 (by rw [(s_1).1]; exact q1) (by decide) rfl (by decide) (k3 165 rfl rfl) rfl rfl (fun _ => rfl) (fun _ => rfl) rfl ?_
        refine hp_gen (fun H11 eH11 => ?_)
        replace hF := bnd_s eH11 hF
        have s_2 : Sa H H11 := by rw [eH11]; exact s_1
        refine ab_iconst (v := 1) d_W_fall_45 (by decide) ?_
        exact ab_zret d_W_fall_46 rfl rfl (Nat.le_refl _) (Nat.le_refl _) (by have hr := Option.some.inj hF; subst hr; exact ⟨rfl, rfl⟩)
      · rw [if_pos q9] at hF
        refine ab_iconst (v := 0) d_W_fall_31 (by decide) ?_
        exact ab_zret d_W_fall_32 rfl rfl (Nat.le_refl _) (Nat.le_refl _) (by have hr := Option.some.inj hF; subst hr; exact ⟨rfl, rfl⟩)
def y_W_stand : ab_Y := (⟨"WorldEngine", "stand", "(I)Z"⟩, prog_1_method_31_code, 2, (some FieldType.boolean), [])
theorem d_W_stand_0 : decode y_W_stand.2.1 0 = .ok (.aload_n 0, 1) := by decide +kernel
theorem d_W_stand_1 : decode y_W_stand.2.1 1 = .ok (.iload_n 1, 1) := by decide +kernel
theorem d_W_stand_2 : decode y_W_stand.2.1 2 = .ok (.invokevirtual 303, 3) := by decide +kernel
theorem d_W_stand_5 : decode y_W_stand.2.1 5 = .ok (.ifCond .ne 5, 3) := by decide +kernel
theorem d_W_stand_8 : decode y_W_stand.2.1 8 = .ok (.iconst 0, 1) := by decide +kernel
theorem d_W_stand_9 : decode y_W_stand.2.1 9 = .ok (.ireturn, 1) := by decide +kernel
theorem d_W_stand_10 : decode y_W_stand.2.1 10 = .ok (.aload_n 0, 1) := by decide +kernel
theorem d_W_stand_11 : decode y_W_stand.2.1 11 = .ok (.getfield 62, 3) := by decide +kernel
theorem d_W_stand_14 : decode y_W_stand.2.1 14 = .ok (.aload_n 0, 1) := by decide +kernel
theorem d_W_stand_15 : decode y_W_stand.2.1 15 = .ok (.getfield 66, 3) := by decide +kernel
theorem d_W_stand_18 : decode y_W_stand.2.1 18 = .ok (.iconst (-1), 1) := by decide +kernel
theorem d_W_stand_19 : decode y_W_stand.2.1 19 = .ok (.ixor, 1) := by decide +kernel
theorem d_W_stand_20 : decode y_W_stand.2.1 20 = .ok (.iand, 1) := by decide +kernel
theorem d_W_stand_21 : decode y_W_stand.2.1 21 = .ok (.iload_n 1, 1) := by decide +kernel
theorem d_W_stand_22 : decode y_W_stand.2.1 22 = .ok (.ishr, 1) := by decide +kernel
theorem d_W_stand_23 : decode y_W_stand.2.1 23 = .ok (.iconst 1, 1) := by decide +kernel
theorem d_W_stand_24 : decode y_W_stand.2.1 24 = .ok (.iand, 1) := by decide +kernel
theorem d_W_stand_25 : decode y_W_stand.2.1 25 = .ok (.iconst 1, 1) := by decide +kernel
theorem d_W_stand_26 : decode y_W_stand.2.1 26 = .ok (.if_icmp .ne 5, 3) := by decide +kernel
theorem d_W_stand_29 : decode y_W_stand.2.1 29 = .ok (.iconst 0, 1) := by decide +kernel
theorem d_W_stand_30 : decode y_W_stand.2.1 30 = .ok (.ireturn, 1) := by decide +kernel
theorem d_W_stand_31 : decode y_W_stand.2.1 31 = .ok (.aload_n 0, 1) := by decide +kernel
theorem d_W_stand_32 : decode y_W_stand.2.1 32 = .ok (.dup, 1) := by decide +kernel
theorem d_W_stand_33 : decode y_W_stand.2.1 33 = .ok (.getfield 62, 3) := by decide +kernel
theorem d_W_stand_36 : decode y_W_stand.2.1 36 = .ok (.iconst 1, 1) := by decide +kernel
theorem d_W_stand_37 : decode y_W_stand.2.1 37 = .ok (.iload_n 1, 1) := by decide +kernel
theorem d_W_stand_38 : decode y_W_stand.2.1 38 = .ok (.ishl, 1) := by decide +kernel
theorem d_W_stand_39 : decode y_W_stand.2.1 39 = .ok (.ior, 1) := by decide +kernel
theorem d_W_stand_40 : decode y_W_stand.2.1 40 = .ok (.putfield 62, 3) := by decide +kernel
theorem d_W_stand_43 : decode y_W_stand.2.1 43 = .ok (.aload_n 0, 1) := by decide +kernel
theorem d_W_stand_44 : decode y_W_stand.2.1 44 = .ok (.dup, 1) := by decide +kernel
theorem d_W_stand_45 : decode y_W_stand.2.1 45 = .ok (.getfield 66, 3) := by decide +kernel
theorem d_W_stand_48 : decode y_W_stand.2.1 48 = .ok (.iconst 1, 1) := by decide +kernel
theorem d_W_stand_49 : decode y_W_stand.2.1 49 = .ok (.iload_n 1, 1) := by decide +kernel
theorem d_W_stand_50 : decode y_W_stand.2.1 50 = .ok (.ishl, 1) := by decide +kernel
theorem d_W_stand_51 : decode y_W_stand.2.1 51 = .ok (.iconst (-1), 1) := by decide +kernel
theorem d_W_stand_52 : decode y_W_stand.2.1 52 = .ok (.ixor, 1) := by decide +kernel
theorem d_W_stand_53 : decode y_W_stand.2.1 53 = .ok (.iand, 1) := by decide +kernel
theorem d_W_stand_54 : decode y_W_stand.2.1 54 = .ok (.putfield 66, 3) := by decide +kernel
theorem d_W_stand_57 : decode y_W_stand.2.1 57 = .ok (.iconst 1, 1) := by decide +kernel
theorem d_W_stand_58 : decode y_W_stand.2.1 58 = .ok (.ireturn, 1) := by decide +kernel
theorem s_W_stand : ab_Stat y_W_stand 1 := ⟨(k8 106 rfl rfl), (k1 1 rfl rfl), ⟨by decide, by decide⟩, by decide +kernel⟩
theorem i_W_stand : Cond.instanceMethod y_W_stand.1 ∈ ab_T := (k8 104 rfl rfl)
theorem v_W_stand : Cond.selects "WorldEngine" y_W_stand.1 y_W_stand.1 ∈ ab_T := (k8 105 rfl rfl)
def F_W_stand (N : Nat) (p0 : Nat) (p1 : Int32) (H : Hp) : Option (Int32 × Hp) :=
    ck (H.sh[p0]? = some (0, 0)) <|
    bC (F_W_isWorker N p0 p1 H) fun v3 H4 =>
    if v3 = (0 : Int32) then
    some (0, H4)
    else
    bnd ((H4.D p0 7)) fun x6 =>
    bnd ((H4.D p0 8)) fun x7 =>
    bnd ((((x6 &&& (x7 ^^^ ((-1) : Int32))) >>> (p1 &&& 31)) &&& (1 : Int32))) fun x8 =>
    if x8 = (1 : Int32) then
    some (0, H4)
    else
    bnd ((H4.D p0 7)) fun x10 =>
    bnd (H4.sD p0 7 (x10 ||| ((1 : Int32) <<< (p1 &&& 31)))) fun H11 =>
    bnd ((H11.D p0 8)) fun x12 =>
    bnd (H11.sD p0 8 (x12 &&& (((1 : Int32) <<< (p1 &&& 31)) ^^^ ((-1) : Int32)))) fun H13 =>
    some (1, H13)
set_option maxRecDepth 20000 in
set_option maxHeartbeats 2000000 in
theorem m_W_stand {N : Nat} {p0 : Nat} {p1 : Int32} {H : Hp} {r : Int32 × Hp} (hF : F_W_stand N p0 p1 H = some r) : Sa H r.2 := by
  unfold F_W_stand at hF
  have hm := Sa.rf H
  obtain ⟨q14, hG⟩ := ck_s hF; clear hF
  obtain ⟨v16, H17, z15, hF⟩ := bC_s hG; clear hG
  replace hm : Sa H H17 := hm.tr (m_W_isWorker z15)
  rcases ite_s hF with ⟨q_5, hG⟩ | ⟨q_5, hG⟩
  · clear hF
    have hr := Option.some.inj hG; subst hr
    exact hm
  · clear hF
    obtain ⟨x19, -, hF⟩ := bnd_g hG; clear hG
    obtain ⟨x20, -, hG⟩ := bnd_g hF; clear hF
    obtain ⟨x21, -, hF⟩ := bnd_g hG; clear hG
    rcases ite_s hF with ⟨q_6, hG⟩ | ⟨q_6, hG⟩
    · clear hF
      have hr := Option.some.inj hG; subst hr
      exact hm
    · clear hF
      obtain ⟨x23, -, hF⟩ := bnd_g hG; clear hG
      obtain ⟨H24, eH24, hG⟩ := bnd_g hF; clear hF
      replace hm : Sa H H24 := by rw [eH24]; exact hm
      obtain ⟨x25, -, hF⟩ := bnd_g hG; clear hG
      obtain ⟨H26, eH26, hG⟩ := bnd_g hF; clear hF
      replace hm : Sa H H26 := by rw [eH26]; exact hm
      have hr := Option.some.inj hG; subst hr
      exact hm
set_option maxRecDepth 20000 in
set_option maxHeartbeats 2000000 in
theorem k_W_stand {N : Nat} {p0 : Nat} {p1 : Int32} {H : Hp} {r : Int32 × Hp} (hF : F_W_stand N p0 p1 H = some r) : ab_M y_W_stand { frames := 1, cells := 0, slots := 0, locals := 21 } [.ref p0, .int p1] (hpw H) (po (.returned (some (.int r.1))) r.2) := by
  unfold F_W_stand at hF
  refine ab_of2 (lv := [some (.ref p0), some (.int p1)]) 0 rfl rfl (Nat.le_of_ble_eq_true rfl) ?_
  refine ab_aload_n d_W_stand_0 rfl rfl rfl ?_
  refine ab_iload_n d_W_stand_1 rfl rfl ?_
  obtain ⟨q1, hG⟩ := ck_s hF; clear hF
  obtain ⟨v3, H4, z2, hF⟩ := bC_s hG; clear hG
  refine hp_callV_a (v := .int v3) (H1 := H4) (As := [.int p1]) (rest := []) d_W_stand_2 (k_W_isWorker z2) (ab_mkC s_W_isWorker (Nat.le_of_ble_eq_true rfl) (Nat.le_of_ble_eq_true rfl) (Nat.le_refl 0) (Nat.le_refl 0)) (k8 99 rfl rfl) i_W_isWorker v_W_isWorker q1 (by decide) rfl rfl (Nat.le_of_ble_eq_true rfl) ?_
  have s_1 : Sa H H4 := (m_W_isWorker z2)
  refine ab_if_ne (tgt := 10) d_W_stand_5 (by decide) (fun q5 => ?_) (fun q5 => ?_)
  · rw [if_neg q5] at hF
    refine ab_aload_n d_W_stand_10 rfl rfl rfl ?_
    refine hp_getI (f := 7) d_W_stand_11 (by rw [(s_1).1]; exact q1) (by decide) rfl (by decide) (k3 164 rfl rfl) rfl ?_
    refine ab_topi (fun x6 ex6 => ?_)
    replace hF := bnd_s ex6 hF
    refine ab_aload_n d_W_stand_14 rfl rfl rfl ?_
    refine hp_getI (f := 8) d_W_stand_15 (by rw [(s_1).1]; exact q1) (by decide) rfl (by decide) (k3 165 rfl rfl) rfl ?_
    refine ab_topi (fun x7 ex7 => ?_)
    replace hF := bnd_s ex7 hF
    refine ab_iconst (v := (-1)) d_W_stand_18 (by decide) ?_
    refine ab_ixor d_W_stand_19 ?_
    refine ab_iand d_W_stand_20 ?_
    refine ab_iload_n d_W_stand_21 rfl rfl ?_
    refine ab_ishr d_W_stand_22 ?_
    refine ab_iconst (v := 1) d_W_stand_23 (by decide) ?_
    refine ab_iand d_W_stand_24 ?_
    refine ab_topi (fun x8 ex8 => ?_)
    replace hF := bnd_s ex8 hF
    refine ab_iconst (v := 1) d_W_stand_25 (by decide) ?_
    refine ab_icmp_ne (tgt := 31) d_W_stand_26 (by decide) (fun q9 => ?_) (fun q9 => ?_)
    · rw [if_neg q9] at hF
      refine ab_aload_n d_W_stand_31 rfl rfl rfl ?_
      refine ab_dup d_W_stand_32 rfl ?_
      refine hp_getI (f := 7) d_W_stand_33 (by rw [(s_1).1]; exact q1) (by decide) rfl (by decide) (k3 164 rfl rfl) rfl ?_
      refine ab_topi (fun x10 ex10 => ?_)
      replace hF := bnd_s ex10 hF
      refine ab_iconst (v := 1) d_W_stand_36 (by decide) ?_
      refine ab_iload_n d_W_stand_37 rfl rfl ?_
      refine ab_ishl d_W_stand_38 ?_
      refine ab_ior d_W_stand_39 ?_
      refine hp_putI (v := x10 ||| ((1 : Int32) <<< (p1 &&& 31))) (f := 7) d_W_stand_40 (by rw [(s_1).1]; exact q1) (by decide) rfl (by decide) (k3 164 rfl rfl) rfl rfl (fun _ => rfl) (fun _ => rfl) rfl ?_
      refine hp_gen (fun H11 eH11 => ?_)
      replace hF := bnd_s eH11 hF
      have s_2 : Sa H H11 := by rw [eH11]; exact s_1
      refine ab_aload_n d_W_stand_43 rfl rfl rfl ?_
      refine ab_dup d_W_stand_44 rfl ?_
      refine hp_getI (f := 8) d_W_stand_45 (by rw [(s_2).1]; exact q1) (by decide) rfl (by decide) (k3 165 rfl rfl) rfl ?_
      refine ab_topi (fun x12 ex12 => ?_)
      replace hF := bnd_s ex12 hF
      refine ab_iconst (v := 1) d_W_stand_48 (by decide) ?_
      refine ab_iload_n d_W_stand_49 rfl rfl ?_
      refine ab_ishl d_W_stand_50 ?_
      refine ab_iconst (v := (-1)) d_W_stand_51 (by decide) ?_
      refine ab_ixor d_W_stand_52 ?_
      refine ab_iand d_W_stand_53 ?_
      refine hp_putI (v := x12 &&& (((1 : Int32) <<< (p1 &&& 31)) ^^^ ((-1) : Int32))) (f := 8) d_W_stand_54 (by rw [(s_2).1]; exact q1) (by decide) rfl (by decide) (k3 165 rfl rfl) rfl rfl (fun _ => rfl) (fun _ => rfl) rfl ?_
      refine hp_gen (fun H13 eH13 => ?_)
      replace hF := bnd_s eH13 hF
      have s_3 : Sa H H13 := by rw [eH13]; exact s_2
      refine ab_iconst (v := 1) d_W_stand_57 (by decide) ?_
      exact ab_zret d_W_stand_58 rfl rfl (Nat.le_refl _) (Nat.le_refl _) (by have hr := Option.some.inj hF; subst hr; exact ⟨rfl, rfl⟩)
    · rw [if_pos q9] at hF
      refine ab_iconst (v := 0) d_W_stand_29 (by decide) ?_
      exact ab_zret d_W_stand_30 rfl rfl (Nat.le_refl _) (Nat.le_refl _) (by have hr := Option.some.inj hF; subst hr; exact ⟨rfl, rfl⟩)
  · rw [if_pos q5] at hF
    refine ab_iconst (v := 0) d_W_stand_8 (by decide) ?_
    exact ab_zret d_W_stand_9 rfl rfl (Nat.le_refl _) (Nat.le_refl _) (by have hr := Option.some.inj hF; subst hr; exact ⟨rfl, rfl⟩)
def y_W_pace : ab_Y := (⟨"WorldEngine", "pace", "(I)V"⟩, prog_1_method_33_code, 2, none, [])
theorem d_W_pace_0 : decode y_W_pace.2.1 0 = .ok (.return_, 1) := by decide +kernel
theorem s_W_pace : ab_Stat y_W_pace 1 := ⟨(k8 110 rfl rfl), (k1 1 rfl rfl), ⟨by decide, by decide⟩, by decide +kernel⟩
theorem i_W_pace : Cond.instanceMethod y_W_pace.1 ∈ ab_T := (k8 108 rfl rfl)
theorem v_W_pace : Cond.selects "WorldEngine" y_W_pace.1 y_W_pace.1 ∈ ab_T := (k8 109 rfl rfl)
def F_W_pace (N : Nat) (p0 : Nat) (p1 : Int32) (H : Hp) : Option (Unit × Hp) :=
    some ((), H)
set_option maxRecDepth 20000 in
set_option maxHeartbeats 2000000 in
theorem m_W_pace {N : Nat} {p0 : Nat} {p1 : Int32} {H : Hp} {r : Unit × Hp} (hF : F_W_pace N p0 p1 H = some r) : Sa H r.2 := by
  unfold F_W_pace at hF
  have hm := Sa.rf H
  have hr := Option.some.inj hF; subst hr
  exact hm
set_option maxRecDepth 20000 in
set_option maxHeartbeats 2000000 in
theorem k_W_pace {N : Nat} {p0 : Nat} {p1 : Int32} {H : Hp} {r : Unit × Hp} (hF : F_W_pace N p0 p1 H = some r) : ab_M y_W_pace { frames := 0, cells := 0, slots := 0, locals := 0 } [.ref p0, .int p1] (hpw H) (po (.returned none) r.2) := by
  unfold F_W_pace at hF
  refine ab_of2 (lv := [some (.ref p0), some (.int p1)]) 0 rfl rfl (Nat.le_of_ble_eq_true rfl) ?_
  exact ab_vret d_W_pace_0 rfl (Nat.le_refl _) (Nat.le_refl _) (by have hr := Option.some.inj hF; subst hr; exact ⟨rfl, rfl⟩)
def y_Law_cell : ab_Y := (⟨"WorldEngineLaw", "cell", "([II)I"⟩, method_2_code, 2, (some FieldType.int), [])
theorem d_Law_cell_0 : decode y_Law_cell.2.1 0 = .ok (.iload_n 1, 1) := by decide +kernel
theorem d_Law_cell_1 : decode y_Law_cell.2.1 1 = .ok (.aload_n 0, 1) := by decide +kernel
theorem d_Law_cell_2 : decode y_Law_cell.2.1 2 = .ok (.arraylength, 1) := by decide +kernel
theorem d_Law_cell_3 : decode y_Law_cell.2.1 3 = .ok (.if_icmp .ge 9, 3) := by decide +kernel
theorem d_Law_cell_6 : decode y_Law_cell.2.1 6 = .ok (.aload_n 0, 1) := by decide +kernel
theorem d_Law_cell_7 : decode y_Law_cell.2.1 7 = .ok (.iload_n 1, 1) := by decide +kernel
theorem d_Law_cell_8 : decode y_Law_cell.2.1 8 = .ok (.iaload, 1) := by decide +kernel
theorem d_Law_cell_9 : decode y_Law_cell.2.1 9 = .ok (.goto 4, 3) := by decide +kernel
theorem d_Law_cell_12 : decode y_Law_cell.2.1 12 = .ok (.iconst 0, 1) := by decide +kernel
theorem d_Law_cell_13 : decode y_Law_cell.2.1 13 = .ok (.ireturn, 1) := by decide +kernel
theorem s_Law_cell : ab_Stat y_Law_cell 2 := ⟨(k8 113 rfl rfl), (k1 0 rfl rfl), ⟨by decide, by decide⟩, by decide +kernel⟩
theorem t_Law_cell : Cond.static y_Law_cell.1 ∈ ab_T := (k8 112 rfl rfl)
def F_Law_cell (N : Nat) (p0 : Nat) (p1 : Int32) (H : Hp) : Option (Int32 × Hp) :=
    ar H 100 p0 fun n1 =>
    if (Int32.ofNat n1) ≤ p1 then
    some (0, H)
    else
    ck (inb p1 n1) <|
    bnd ((H.D p0 (p1).toNatClampNeg)) fun x5 =>
    some (x5, H)
set_option maxRecDepth 20000 in
set_option maxHeartbeats 2000000 in
theorem m_Law_cell {N : Nat} {p0 : Nat} {p1 : Int32} {H : Hp} {r : Int32 × Hp} (hF : F_Law_cell N p0 p1 H = some r) : Sa H r.2 := by
  unfold F_Law_cell at hF
  have hm := Sa.rf H
  obtain ⟨n6, q7, hG⟩ := ar_s hF; clear hF
  rcases ite_s hG with ⟨q_1, hF⟩ | ⟨q_1, hF⟩
  · clear hG
    have hr := Option.some.inj hF; subst hr
    exact hm
  · clear hG
    obtain ⟨q9, hG⟩ := ck_s hF; clear hF
    obtain ⟨x10, -, hF⟩ := bnd_g hG; clear hG
    have hr := Option.some.inj hF; subst hr
    exact hm
set_option maxRecDepth 20000 in
set_option maxHeartbeats 2000000 in
theorem k_Law_cell {N : Nat} {p0 : Nat} {p1 : Int32} {H : Hp} {r : Int32 × Hp} (hF : F_Law_cell N p0 p1 H = some r) : ab_M y_Law_cell { frames := 0, cells := 0, slots := 0, locals := 0 } [.ref p0, .int p1] (hpw H) (po (.returned (some (.int r.1))) r.2) := by
  unfold F_Law_cell at hF
  refine ab_of2 (lv := [some (.ref p0), some (.int p1)]) 0 rfl rfl (Nat.le_of_ble_eq_true rfl) ?_
  refine ab_iload_n d_Law_cell_0 rfl rfl ?_
  refine ab_aload_n d_Law_cell_1 rfl rfl rfl ?_
  obtain ⟨n1, q2, hG⟩ := ar_s hF; clear hF
  refine hp_alen (q := 100) d_Law_cell_2 q2 (Or.inl ⟨by decide, by decide, rfl⟩) tI ?_
  refine ab_icmp_ge (tgt := 12) d_Law_cell_3 (by decide) (fun q3 => ?_) (fun q3 => ?_)
  · rw [if_pos q3] at hG
    refine ab_iconst (v := 0) d_Law_cell_12 (by decide) ?_
    exact ab_iret d_Law_cell_13 rfl (Nat.le_refl _) (Nat.le_refl _) (by have hr := Option.some.inj hG; subst hr; exact ⟨rfl, rfl⟩)
  · rw [if_neg q3] at hG
    refine ab_aload_n d_Law_cell_6 rfl rfl rfl ?_
    refine ab_iload_n d_Law_cell_7 rfl rfl ?_
    obtain ⟨q4, hF⟩ := ck_s hG; clear hG
    refine hp_iald d_Law_cell_8 tI q2 q4 ?_
    refine ab_topi (fun x5 ex5 => ?_)
    replace hF := bnd_s ex5 hF
    refine ab_goto (tgt := 13) d_Law_cell_9 (by decide) ?_
    exact ab_iret d_Law_cell_13 rfl (Nat.le_refl _) (Nat.le_refl _) (by have hr := Option.some.inj hF; subst hr; exact ⟨rfl, rfl⟩)
