def y_Store_readShapes : ab_Y := (⟨"WorldEngine$Store", "readShapes", "(LWorldEngine$Shapes;)V"⟩, prog_10_method_11_code, 6, none, [])
theorem d_Store_readShapes_0 : decode y_Store_readShapes.2.1 0 = .ok (.aload_n 0, 1) := by decide +kernel
theorem d_Store_readShapes_1 : decode y_Store_readShapes.2.1 1 = .ok (.iconst 1, 1) := by decide +kernel
theorem d_Store_readShapes_2 : decode y_Store_readShapes.2.1 2 = .ok (.aload_n 1, 1) := by decide +kernel
theorem d_Store_readShapes_3 : decode y_Store_readShapes.2.1 3 = .ok (.getfield 76, 3) := by decide +kernel
theorem d_Store_readShapes_6 : decode y_Store_readShapes.2.1 6 = .ok (.aload_n 1, 1) := by decide +kernel
theorem d_Store_readShapes_7 : decode y_Store_readShapes.2.1 7 = .ok (.getfield 76, 3) := by decide +kernel
theorem d_Store_readShapes_10 : decode y_Store_readShapes.2.1 10 = .ok (.invokevirtual 122, 3) := by decide +kernel
theorem d_Store_readShapes_13 : decode y_Store_readShapes.2.1 13 = .ok (.pop, 1) := by decide +kernel
theorem d_Store_readShapes_14 : decode y_Store_readShapes.2.1 14 = .ok (.iconst 0, 1) := by decide +kernel
theorem d_Store_readShapes_15 : decode y_Store_readShapes.2.1 15 = .ok (.istore_n 2, 1) := by decide +kernel
theorem d_Store_readShapes_16 : decode y_Store_readShapes.2.1 16 = .ok (.iload_n 2, 1) := by decide +kernel
theorem d_Store_readShapes_17 : decode y_Store_readShapes.2.1 17 = .ok (.aload_n 1, 1) := by decide +kernel
theorem d_Store_readShapes_18 : decode y_Store_readShapes.2.1 18 = .ok (.getfield 76, 3) := by decide +kernel
theorem d_Store_readShapes_21 : decode y_Store_readShapes.2.1 21 = .ok (.if_icmp .ge 67, 3) := by decide +kernel
theorem d_Store_readShapes_24 : decode y_Store_readShapes.2.1 24 = .ok (.aload_n 1, 1) := by decide +kernel
theorem d_Store_readShapes_25 : decode y_Store_readShapes.2.1 25 = .ok (.iload_n 2, 1) := by decide +kernel
theorem d_Store_readShapes_26 : decode y_Store_readShapes.2.1 26 = .ok (.invokevirtual 81, 3) := by decide +kernel
theorem d_Store_readShapes_29 : decode y_Store_readShapes.2.1 29 = .ok (.istore_n 3, 1) := by decide +kernel
theorem d_Store_readShapes_30 : decode y_Store_readShapes.2.1 30 = .ok (.aload_n 0, 1) := by decide +kernel
theorem d_Store_readShapes_31 : decode y_Store_readShapes.2.1 31 = .ok (.iconst 1, 1) := by decide +kernel
theorem d_Store_readShapes_32 : decode y_Store_readShapes.2.1 32 = .ok (.iload_n 3, 1) := by decide +kernel
theorem d_Store_readShapes_33 : decode y_Store_readShapes.2.1 33 = .ok (.iload_n 3, 1) := by decide +kernel
theorem d_Store_readShapes_34 : decode y_Store_readShapes.2.1 34 = .ok (.invokevirtual 122, 3) := by decide +kernel
theorem d_Store_readShapes_37 : decode y_Store_readShapes.2.1 37 = .ok (.pop, 1) := by decide +kernel
theorem d_Store_readShapes_38 : decode y_Store_readShapes.2.1 38 = .ok (.iconst 0, 1) := by decide +kernel
theorem d_Store_readShapes_39 : decode y_Store_readShapes.2.1 39 = .ok (.istore 4, 2) := by decide +kernel
theorem d_Store_readShapes_41 : decode y_Store_readShapes.2.1 41 = .ok (.iload 4, 2) := by decide +kernel
theorem d_Store_readShapes_43 : decode y_Store_readShapes.2.1 43 = .ok (.iload_n 3, 1) := by decide +kernel
theorem d_Store_readShapes_44 : decode y_Store_readShapes.2.1 44 = .ok (.if_icmp .ge 38, 3) := by decide +kernel
theorem d_Store_readShapes_47 : decode y_Store_readShapes.2.1 47 = .ok (.aload_n 1, 1) := by decide +kernel
theorem d_Store_readShapes_48 : decode y_Store_readShapes.2.1 48 = .ok (.getfield 88, 3) := by decide +kernel
theorem d_Store_readShapes_51 : decode y_Store_readShapes.2.1 51 = .ok (.aload_n 1, 1) := by decide +kernel
theorem d_Store_readShapes_52 : decode y_Store_readShapes.2.1 52 = .ok (.getfield 85, 3) := by decide +kernel
theorem d_Store_readShapes_55 : decode y_Store_readShapes.2.1 55 = .ok (.iload_n 2, 1) := by decide +kernel
theorem d_Store_readShapes_56 : decode y_Store_readShapes.2.1 56 = .ok (.iaload, 1) := by decide +kernel
theorem d_Store_readShapes_57 : decode y_Store_readShapes.2.1 57 = .ok (.iload 4, 2) := by decide +kernel
theorem d_Store_readShapes_59 : decode y_Store_readShapes.2.1 59 = .ok (.iadd, 1) := by decide +kernel
theorem d_Store_readShapes_60 : decode y_Store_readShapes.2.1 60 = .ok (.aaload, 1) := by decide +kernel
theorem d_Store_readShapes_61 : decode y_Store_readShapes.2.1 61 = .ok (.getfield 92, 3) := by decide +kernel
theorem d_Store_readShapes_64 : decode y_Store_readShapes.2.1 64 = .ok (.istore 5, 2) := by decide +kernel
theorem d_Store_readShapes_66 : decode y_Store_readShapes.2.1 66 = .ok (.aload_n 0, 1) := by decide +kernel
theorem d_Store_readShapes_67 : decode y_Store_readShapes.2.1 67 = .ok (.iconst 1, 1) := by decide +kernel
theorem d_Store_readShapes_68 : decode y_Store_readShapes.2.1 68 = .ok (.iload 5, 2) := by decide +kernel
theorem d_Store_readShapes_70 : decode y_Store_readShapes.2.1 70 = .ok (.iload 5, 2) := by decide +kernel
theorem d_Store_readShapes_72 : decode y_Store_readShapes.2.1 72 = .ok (.invokevirtual 122, 3) := by decide +kernel
theorem d_Store_readShapes_75 : decode y_Store_readShapes.2.1 75 = .ok (.pop, 1) := by decide +kernel
theorem d_Store_readShapes_76 : decode y_Store_readShapes.2.1 76 = .ok (.iinc 4 1, 3) := by decide +kernel
theorem d_Store_readShapes_79 : decode y_Store_readShapes.2.1 79 = .ok (.goto (-38), 3) := by decide +kernel
theorem d_Store_readShapes_82 : decode y_Store_readShapes.2.1 82 = .ok (.iinc 2 1, 3) := by decide +kernel
theorem d_Store_readShapes_85 : decode y_Store_readShapes.2.1 85 = .ok (.goto (-69), 3) := by decide +kernel
theorem d_Store_readShapes_88 : decode y_Store_readShapes.2.1 88 = .ok (.return_, 1) := by decide +kernel
theorem s_Store_readShapes : ab_Stat y_Store_readShapes 1 := ⟨(k8 63 rfl rfl), (k1 14 rfl rfl), ⟨by decide, by decide⟩, by decide +kernel⟩
theorem i_Store_readShapes : Cond.instanceMethod y_Store_readShapes.1 ∈ ab_T := (k8 62 rfl rfl)
theorem v_Store_readShapes : Cond.selects "WorldEngine$Store" y_Store_readShapes.1 y_Store_readShapes.1 ∈ ab_T := ab_s (List.mem_of_getElem? (i := 99) rfl) rfl
def B_Store_readShapes_41 (N : Nat) (p0 : Nat) (p1 : Nat) (kq16 : Int32 → Hp → Option ((Ot Unit) × Hp)) : Nat → Int32 → Int32 → Int32 → Hp → Option ((Ot Unit) × Hp)
  | 0, _, _, _, _ => none
  | n + 1, l2, l3, l4, H =>
    if l3 ≤ l4 then
    kq16 (l2 + 1) H
    else
    ck (H.sh[p1]? = some (3, 0)) <|
    rf (H.P p1 1) fun a22 =>
    rf (H.P p1 2) fun a24 =>
    ar H 100 a24 fun n26 =>
    ck (inb l2 n26) <|
    bnd ((H.D a24 (l2).toNatClampNeg)) fun x29 =>
    ar H 106 a22 fun n30 =>
    ck (inb (x29 + l4) n30) <|
    rf (H.P a22 ((x29 + l4)).toNatClampNeg) fun a33 =>
    ck (H.sh[a33]? = some (2, 0)) <|
    bnd ((H.D a33 3)) fun x36 =>
    ck (H.sh[p0]? = some (11, 0)) <|
    bT (F_Store_readNumber N p0 (1 : Int32) x36 x36 H) fun v39 H40 =>
    B_Store_readShapes_41 N p0 p1 kq16 n l2 l3 (l4 + 1) H40
termination_by structural n => n
set_option maxRecDepth 20000 in
set_option maxHeartbeats 2000000 in
theorem mB_Store_readShapes_41 {N : Nat} {p0 : Nat} {p1 : Nat} {kq16 : Int32 → Hp → Option ((Ot Unit) × Hp)} (hm16 : ∀ (l2 : Int32) (H : Hp) (r : (Ot Unit) × Hp), kq16 l2 H = some r → Mo H r.2) : ∀ (n : Nat) (l2 : Int32) (l3 : Int32) (l4 : Int32) (H : Hp) (r : (Ot Unit) × Hp), B_Store_readShapes_41 N p0 p1 kq16 n l2 l3 l4 H = some r → Mo H r.2 := by
  intro n
  induction n with
  | zero => intro l2 l3 l4 H r hF; rw [B_Store_readShapes_41] at hF; cases hF
  | succ n ih =>
    intro l2 l3 l4 H r hF
    rw [B_Store_readShapes_41] at hF
    have hm := Mo.rf H
    rcases ite_s hF with ⟨q_18, hG⟩ | ⟨q_18, hG⟩
    · clear hF
      exact hm.tr (hm16 (l2 + 1) H r hG)
    · clear hF
      obtain ⟨q43, hF⟩ := ck_s hG; clear hG
      obtain ⟨a44, e45, hG⟩ := rf_s hF; clear hF
      obtain ⟨a46, e47, hF⟩ := rf_s hG; clear hG
      obtain ⟨n48, q49, hG⟩ := ar_s hF; clear hF
      obtain ⟨q50, hF⟩ := ck_s hG; clear hG
      obtain ⟨x51, -, hG⟩ := bnd_g hF; clear hF
      obtain ⟨n52, q53, hF⟩ := ar_s hG; clear hG
      obtain ⟨q54, hG⟩ := ck_s hF; clear hF
      obtain ⟨a55, e56, hF⟩ := rf_s hG; clear hG
      obtain ⟨q57, hG⟩ := ck_s hF; clear hF
      obtain ⟨x58, -, hF⟩ := bnd_g hG; clear hG
      obtain ⟨q59, hG⟩ := ck_s hF; clear hF
      refine bT_c hG (fun x63 H62 z60 er => ?_) (fun v61 H62 z60 hF => ?_)
      · subst er; exact hm.tr (m_Store_readNumber z60)
      clear hG
      replace hm : Mo H H62 := hm.tr (m_Store_readNumber z60)
      exact hm.tr (ih l2 l3 (l4 + 1) H62 r hF)
set_option maxRecDepth 20000 in
set_option maxHeartbeats 2000000 in
theorem kB_Store_readShapes_41 {N : Nat} {p0 : Nat} {p1 : Nat} {kq16 : Int32 → Hp → Option ((Ot Unit) × Hp)} {c0 s0 C Sl : Nat} (hm16 : ∀ (l2 : Int32) (H : Hp) (r : (Ot Unit) × Hp), kq16 l2 H = some r → Mo H r.2) (hk16 : ∀ (l2 : Int32) (H : Hp) (r : (Ot Unit) × Hp), kq16 l2 H = some r → c0 ≤ H.sh.length → s0 ≤ H.sl → H.sh.length ≤ c0 + C → H.sl ≤ s0 + Sl → r.2.sh.length ≤ c0 + C → r.2.sl ≤ s0 + Sl → ab_V y_Store_readShapes { frames := 7, cells := C, slots := Sl, locals := 125 } (po (oV r.1) r.2) C Sl (H.sh.length - c0) (H.sl - s0) 16 [some (.ref p0), some (.ref p1), some (.int l2), none, none, none] [] (hpw H)) : ∀ (n : Nat) (l2 : Int32) (l3 : Int32) (l4 : Int32) (H : Hp) (r : (Ot Unit) × Hp), B_Store_readShapes_41 N p0 p1 kq16 n l2 l3 l4 H = some r → c0 ≤ H.sh.length → s0 ≤ H.sl → H.sh.length ≤ c0 + C → H.sl ≤ s0 + Sl → r.2.sh.length ≤ c0 + C → r.2.sl ≤ s0 + Sl → ab_V y_Store_readShapes { frames := 7, cells := C, slots := Sl, locals := 125 } (po (oV r.1) r.2) C Sl (H.sh.length - c0) (H.sl - s0) 41 [some (.ref p0), some (.ref p1), some (.int l2), some (.int l3), some (.int l4), none] [] (hpw H) := by
  intro n
  induction n with
  | zero => intro l2 l3 l4 H r hF; rw [B_Store_readShapes_41] at hF; cases hF
  | succ n ih =>
    intro l2 l3 l4 H r hF hc0 hs0 hcc hss hC hS
    rw [B_Store_readShapes_41] at hF
    refine ab_iload d_Store_readShapes_41 rfl ?_
    refine ab_iload_n d_Store_readShapes_43 rfl rfl ?_
    refine ab_icmp_ge (tgt := 82) d_Store_readShapes_44 (by decide) (fun q20 => ?_) (fun q20 => ?_)
    · rw [if_pos q20] at hF
      refine ab_iinc (v := l2 + 1) (lv' := [some (.ref p0), some (.ref p1), some (.int (l2 + 1)), some (.int l3), some (.int l4), none]) d_Store_readShapes_82 rfl rfl (by decide) rfl ?_
      refine ab_goto (tgt := 16) d_Store_readShapes_85 (by decide) ?_
      refine ab_le (lv' := [some (.ref p0), some (.ref p1), some (.int (l2 + 1)), none, none, none]) ⟨rfl, ⟨rfl, ⟨rfl, trivial⟩⟩⟩ ?_
      exact hk16 (l2 + 1) H r hF hc0 hs0 hcc hss hC hS
    · rw [if_neg q20] at hF
      refine ab_aload_n d_Store_readShapes_47 rfl rfl rfl ?_
      obtain ⟨q21, hG⟩ := ck_s hF; clear hF
      obtain ⟨a22, e23, hF⟩ := rf_s hG; clear hG
      refine hp_getR (f := 1) d_Store_readShapes_48 q21 (by decide) rfl (by decide) (k3 26 rfl rfl) rfl e23 ?_
      refine ab_aload_n d_Store_readShapes_51 rfl rfl rfl ?_
      obtain ⟨a24, e25, hG⟩ := rf_s hF; clear hF
      refine hp_getR (f := 2) d_Store_readShapes_52 q21 (by decide) rfl (by decide) (k3 33 rfl rfl) rfl e25 ?_
      refine ab_iload_n d_Store_readShapes_55 rfl rfl ?_
      obtain ⟨n26, q27, hF⟩ := ar_s hG; clear hG
      obtain ⟨q28, hG⟩ := ck_s hF; clear hF
      refine hp_iald d_Store_readShapes_56 tI q27 q28 ?_
      refine ab_topi (fun x29 ex29 => ?_)
      replace hG := bnd_s ex29 hG
      refine ab_iload d_Store_readShapes_57 rfl ?_
      refine ab_iadd d_Store_readShapes_59 ?_
      obtain ⟨n30, q31, hF⟩ := ar_s hG; clear hG
      obtain ⟨q32, hG⟩ := ck_s hF; clear hF
      obtain ⟨a33, e34, hF⟩ := rf_s hG; clear hG
      refine hp_aald (q := 106) d_Store_readShapes_60 (by decide) tN q31 q32 e34 ?_
      obtain ⟨q35, hG⟩ := ck_s hF; clear hF
      refine hp_getI (f := 3) d_Store_readShapes_61 q35 (by decide) rfl (by decide) (k2 239 rfl rfl) rfl ?_
      refine ab_topi (fun x36 ex36 => ?_)
      replace hG := bnd_s ex36 hG
      refine ab_istore (lv' := [some (.ref p0), some (.ref p1), some (.int l2), some (.int l3), some (.int l4), some (.int x36)]) d_Store_readShapes_64 (by decide) rfl ?_
      refine ab_aload_n d_Store_readShapes_66 rfl rfl rfl ?_
      refine ab_iconst (v := 1) d_Store_readShapes_67 (by decide) ?_
      refine ab_iload d_Store_readShapes_68 rfl ?_
      refine ab_iload d_Store_readShapes_70 rfl ?_
      obtain ⟨q37, hF⟩ := ck_s hG; clear hG
      refine bT_c hF (fun x41 H40 z38 er => ?_) (fun v39 H40 z38 hG => ?_)
      · subst er
        have mz : Mo H H40 := (m_Store_readNumber z38)
        have ml := mz.len
        have m2 := mz.2
        have hC9 : H40.sh.length ≤ c0 + C := hC
        have hS9 : H40.sl ≤ s0 + Sl := hS
        refine hp_callV_t (x := x41) (H1 := H40) (As := [.int 1, .int x36, .int x36]) (rest := []) d_Store_readShapes_72 (k_Store_readNumber z38 (C := H40.sh.length - H.sh.length) (Sl := H40.sl - H.sl) (by show H40.sh.length ≤ _; omega) (by show H40.sl ≤ _; omega)) (ab_mkC s_Store_readNumber (Nat.le_of_ble_eq_true rfl) (Nat.le_of_ble_eq_true rfl) (show (H.sh.length - c0) + (H40.sh.length - H.sh.length) ≤ C from by omega) (show (H.sl - s0) + (H40.sl - H.sl) ≤ Sl from by omega)) (k8 53 rfl rfl) i_Store_readNumber v_Store_readNumber q37 (by decide) rfl rfl (Nat.le_of_ble_eq_true rfl) ?_
        exact ab_U_out rfl (by show _ + (H40.sh.length - H.sh.length) ≤ C; omega) (by show _ + (H40.sl - H.sl) ≤ Sl; omega) ⟨rfl, rfl⟩
      clear hF
      have mz_11 : Mo H H40 := (m_Store_readNumber z38)
      have b_12l := (mz_11).len
      have b_12s := (mz_11).2
      have b_12c : c0 ≤ H40.sh.length := by omega
      have b_12d : s0 ≤ H40.sl := by omega
      have q_13 := (mz_11).get q21
      have q_14 := (mz_11).get q27
      have q_15 := (mz_11).get q31
      have q_16 := (mz_11).get q35
      have q_17 := (mz_11).get q37
      have fH40 : Mo H40 r.2 := by
        have hm := Mo.rf H40
        exact hm.tr (mB_Store_readShapes_41 hm16 n l2 l3 (l4 + 1) H40 r hG)
      have b_12m := (fH40).len
      have b_12n := (fH40).2
      have b_12p : H40.sh.length ≤ c0 + C := by omega
      have b_12q : H40.sl ≤ s0 + Sl := by omega
      refine hp_callV_a (v := .int v39) (H1 := H40) (As := [.int 1, .int x36, .int x36]) (rest := []) d_Store_readShapes_72 (k_Store_readNumber z38 (C := H40.sh.length - H.sh.length) (Sl := H40.sl - H.sl) (by show H40.sh.length ≤ _; omega) (by show H40.sl ≤ _; omega)) (ab_mkC s_Store_readNumber (Nat.le_of_ble_eq_true rfl) (Nat.le_of_ble_eq_true rfl) (show (H.sh.length - c0) + (H40.sh.length - H.sh.length) ≤ C from by omega) (show (H.sl - s0) + (H40.sl - H.sl) ≤ Sl from by omega)) (k8 53 rfl rfl) i_Store_readNumber v_Store_readNumber q37 (by decide) rfl rfl (Nat.le_of_ble_eq_true rfl) ?_
      refine ab_widen (cells' := H40.sh.length - c0) (slots' := H40.sl - s0) (by show _ + (H40.sh.length - H.sh.length) ≤ _; omega) (by show _ + (H40.sl - H.sl) ≤ _; omega) ?_
      clear b_12l b_12s b_12m b_12n
      refine ab_pop d_Store_readShapes_75 rfl ?_
      refine ab_iinc (v := l4 + 1) (lv' := [some (.ref p0), some (.ref p1), some (.int l2), some (.int l3), some (.int (l4 + 1)), some (.int x36)]) d_Store_readShapes_76 rfl rfl (by decide) rfl ?_
      refine ab_goto (tgt := 41) d_Store_readShapes_79 (by decide) ?_
      refine ab_le (lv' := [some (.ref p0), some (.ref p1), some (.int l2), some (.int l3), some (.int (l4 + 1)), none]) ⟨rfl, ⟨rfl, ⟨rfl, ⟨rfl, ⟨rfl, trivial⟩⟩⟩⟩⟩ ?_
      exact ih l2 l3 (l4 + 1) H40 r hG b_12c b_12d b_12p b_12q hC hS
def B_Store_readShapes_16 (N : Nat) (p0 : Nat) (p1 : Nat) : Nat → Int32 → Hp → Option ((Ot Unit) × Hp)
  | 0, _, _ => none
  | n + 1, l2, H =>
    ck (H.sh[p1]? = some (3, 0)) <|
    bnd ((H.D p1 3)) fun x10 =>
    if x10 ≤ l2 then
    some (.inl (), H)
    else
    bC (F_Shapes_sizeOf N p1 l2 H) fun v13 H14 =>
    ck (H14.sh[p0]? = some (11, 0)) <|
    bT (F_Store_readNumber N p0 (1 : Int32) v13 v13 H14) fun v17 H18 =>
    B_Store_readShapes_41 N p0 p1 (fun l2 H => B_Store_readShapes_16 N p0 p1 n l2 H) N l2 v13 0 H18
termination_by structural n => n
set_option maxRecDepth 20000 in
set_option maxHeartbeats 2000000 in
theorem mB_Store_readShapes_16 {N : Nat} {p0 : Nat} {p1 : Nat} : ∀ (n : Nat) (l2 : Int32) (H : Hp) (r : (Ot Unit) × Hp), B_Store_readShapes_16 N p0 p1 n l2 H = some r → Mo H r.2 := by
  intro n
  induction n with
  | zero => intro l2 H r hF; rw [B_Store_readShapes_16] at hF; cases hF
  | succ n ih =>
    intro l2 H r hF
    rw [B_Store_readShapes_16] at hF
    have hm := Mo.rf H
    obtain ⟨q20, hG⟩ := ck_s hF; clear hF
    obtain ⟨x21, -, hF⟩ := bnd_g hG; clear hG
    rcases ite_s hF with ⟨q_25, hG⟩ | ⟨q_25, hG⟩
    · clear hF
      have hr := Option.some.inj hG; subst hr
      exact hm
    · clear hF
      obtain ⟨v24, H25, z23, hF⟩ := bC_s hG; clear hG
      replace hm : Mo H H25 := hm.tr ((m_Shapes_sizeOf z23)).mo
      obtain ⟨q26, hG⟩ := ck_s hF; clear hF
      refine bT_c hG (fun x30 H29 z27 er => ?_) (fun v28 H29 z27 hF => ?_)
      · subst er; exact hm.tr (m_Store_readNumber z27)
      clear hG
      replace hm : Mo H H29 := hm.tr (m_Store_readNumber z27)
      exact hm.tr (mB_Store_readShapes_41 ih N l2 v24 0 H29 r hF)
set_option maxRecDepth 20000 in
set_option maxHeartbeats 2000000 in
theorem kB_Store_readShapes_16 {N : Nat} {p0 : Nat} {p1 : Nat} {c0 s0 C Sl : Nat} : ∀ (n : Nat) (l2 : Int32) (H : Hp) (r : (Ot Unit) × Hp), B_Store_readShapes_16 N p0 p1 n l2 H = some r → c0 ≤ H.sh.length → s0 ≤ H.sl → H.sh.length ≤ c0 + C → H.sl ≤ s0 + Sl → r.2.sh.length ≤ c0 + C → r.2.sl ≤ s0 + Sl → ab_V y_Store_readShapes { frames := 7, cells := C, slots := Sl, locals := 125 } (po (oV r.1) r.2) C Sl (H.sh.length - c0) (H.sl - s0) 16 [some (.ref p0), some (.ref p1), some (.int l2), none, none, none] [] (hpw H) := by
  intro n
  induction n with
  | zero => intro l2 H r hF; rw [B_Store_readShapes_16] at hF; cases hF
  | succ n ih =>
    intro l2 H r hF hc0 hs0 hcc hss hC hS
    rw [B_Store_readShapes_16] at hF
    refine ab_iload_n d_Store_readShapes_16 rfl rfl ?_
    refine ab_aload_n d_Store_readShapes_17 rfl rfl rfl ?_
    obtain ⟨q9, hG⟩ := ck_s hF; clear hF
    refine hp_getI (f := 3) d_Store_readShapes_18 q9 (by decide) rfl (by decide) (k3 40 rfl rfl) rfl ?_
    refine ab_topi (fun x10 ex10 => ?_)
    replace hG := bnd_s ex10 hG
    refine ab_icmp_ge (tgt := 88) d_Store_readShapes_21 (by decide) (fun q11 => ?_) (fun q11 => ?_)
    · rw [if_pos q11] at hG
      exact ab_vret d_Store_readShapes_88 rfl (by show _ ≤ C; omega) (by show _ ≤ Sl; omega) (by have hr := Option.some.inj hG; subst hr; exact ⟨rfl, rfl⟩)
    · rw [if_neg q11] at hG
      refine ab_aload_n d_Store_readShapes_24 rfl rfl rfl ?_
      refine ab_iload_n d_Store_readShapes_25 rfl rfl ?_
      obtain ⟨v13, H14, z12, hF⟩ := bC_s hG; clear hG
      refine hp_callV_a (v := .int v13) (H1 := H14) (As := [.int l2]) (rest := []) d_Store_readShapes_26 (k_Shapes_sizeOf z12) (ab_mkC s_Shapes_sizeOf (Nat.le_of_ble_eq_true rfl) (Nat.le_of_ble_eq_true rfl) (show (H.sh.length - c0) + 0 ≤ C from by omega) (show (H.sl - s0) + 0 ≤ Sl from by omega)) (k8 8 rfl rfl) i_Shapes_sizeOf v_Shapes_sizeOf q9 (by decide) rfl rfl (Nat.le_of_ble_eq_true rfl) ?_
      have s_6 : Sa H H14 := (m_Shapes_sizeOf z12)
      refine ab_widen (cells' := H.sh.length - c0) (slots' := H.sl - s0) (by show (H.sh.length - c0) + 0 ≤ _; omega) (by show (H.sl - s0) + 0 ≤ _; omega) ?_
      refine ab_istore_n (lv' := [some (.ref p0), some (.ref p1), some (.int l2), some (.int v13), none, none]) d_Store_readShapes_29 rfl (by decide) rfl ?_
      refine ab_aload_n d_Store_readShapes_30 rfl rfl rfl ?_
      refine ab_iconst (v := 1) d_Store_readShapes_31 (by decide) ?_
      refine ab_iload_n d_Store_readShapes_32 rfl rfl ?_
      refine ab_iload_n d_Store_readShapes_33 rfl rfl ?_
      obtain ⟨q15, hG⟩ := ck_s hF; clear hF
      rw [(s_6).1] at q15
      refine bT_c hG (fun x19 H18 z16 er => ?_) (fun v17 H18 z16 hF => ?_)
      · subst er
        refine ab_widen (cells' := H14.sh.length - c0) (slots' := H14.sl - s0) (by rw [(s_6).1]; exact Nat.le_refl _) (by rw [(s_6).2]; exact Nat.le_refl _) ?_
        have mz : Mo H14 H18 := (m_Store_readNumber z16)
        have ml := mz.len
        have m2 := mz.2
        have be := congrArg List.length (s_6).1
        have bfx := (s_6).2
        have hC9 : H18.sh.length ≤ c0 + C := hC
        have hS9 : H18.sl ≤ s0 + Sl := hS
        refine hp_callV_t (x := x19) (H1 := H18) (As := [.int 1, .int v13, .int v13]) (rest := []) d_Store_readShapes_34 (k_Store_readNumber z16 (C := H18.sh.length - H14.sh.length) (Sl := H18.sl - H14.sl) (by show H18.sh.length ≤ _; omega) (by show H18.sl ≤ _; omega)) (ab_mkC s_Store_readNumber (Nat.le_of_ble_eq_true rfl) (Nat.le_of_ble_eq_true rfl) (show (H14.sh.length - c0) + (H18.sh.length - H14.sh.length) ≤ C from by omega) (show (H14.sl - s0) + (H18.sl - H14.sl) ≤ Sl from by omega)) (k8 53 rfl rfl) i_Store_readNumber v_Store_readNumber (by rw [(s_6).1]; exact q15) (by decide) rfl rfl (Nat.le_of_ble_eq_true rfl) ?_
        exact ab_U_out rfl (by show _ + (H18.sh.length - H14.sh.length) ≤ C; omega) (by show _ + (H18.sl - H14.sl) ≤ Sl; omega) ⟨rfl, rfl⟩
      clear hG
      refine ab_widen (cells' := H14.sh.length - c0) (slots' := H14.sl - s0) (by rw [(s_6).1]; exact Nat.le_refl _) (by rw [(s_6).2]; exact Nat.le_refl _) ?_
      have mz_7 : Mo H14 H18 := (m_Store_readNumber z16)
      have b_8l := (mz_7).len
      have b_8s := (mz_7).2
      have b_8e := congrArg List.length (s_6).1
      have b_8f := (s_6).2
      have b_8c : c0 ≤ H18.sh.length := by omega
      have b_8d : s0 ≤ H18.sl := by omega
      have q_9 := (mz_7).get (by rw [(s_6).1]; exact q9)
      have q_10 := (mz_7).get (by rw [(s_6).1]; exact q15)
      have fH18 : Mo H18 r.2 := by
        have hm := Mo.rf H18
        exact hm.tr (mB_Store_readShapes_41 (mB_Store_readShapes_16 n) N l2 v13 0 H18 r hF)
      have b_8m := (fH18).len
      have b_8n := (fH18).2
      have b_8p : H18.sh.length ≤ c0 + C := by omega
      have b_8q : H18.sl ≤ s0 + Sl := by omega
      refine hp_callV_a (v := .int v17) (H1 := H18) (As := [.int 1, .int v13, .int v13]) (rest := []) d_Store_readShapes_34 (k_Store_readNumber z16 (C := H18.sh.length - H14.sh.length) (Sl := H18.sl - H14.sl) (by show H18.sh.length ≤ _; omega) (by show H18.sl ≤ _; omega)) (ab_mkC s_Store_readNumber (Nat.le_of_ble_eq_true rfl) (Nat.le_of_ble_eq_true rfl) (show (H14.sh.length - c0) + (H18.sh.length - H14.sh.length) ≤ C from by omega) (show (H14.sl - s0) + (H18.sl - H14.sl) ≤ Sl from by omega)) (k8 53 rfl rfl) i_Store_readNumber v_Store_readNumber (by rw [(s_6).1]; exact q15) (by decide) rfl rfl (Nat.le_of_ble_eq_true rfl) ?_
      refine ab_widen (cells' := H18.sh.length - c0) (slots' := H18.sl - s0) (by show _ + (H18.sh.length - H14.sh.length) ≤ _; omega) (by show _ + (H18.sl - H14.sl) ≤ _; omega) ?_
      clear b_8l b_8s b_8m b_8n b_8e b_8f
      refine ab_pop d_Store_readShapes_37 rfl ?_
      refine ab_iconst (v := 0) d_Store_readShapes_38 (by decide) ?_
      refine ab_istore (lv' := [some (.ref p0), some (.ref p1), some (.int l2), some (.int v13), some (.int 0), none]) d_Store_readShapes_39 (by decide) rfl ?_
      exact kB_Store_readShapes_41 (mB_Store_readShapes_16 n) ih N l2 v13 0 H18 r hF b_8c b_8d b_8p b_8q hC hS
def F_Store_readShapes (N : Nat) (p0 : Nat) (p1 : Nat) (H : Hp) : Option ((Ot Unit) × Hp) :=
    ck (H.sh[p1]? = some (3, 0)) <|
    bnd ((H.D p1 3)) fun x2 =>
    bnd ((H.D p1 3)) fun x3 =>
    ck (H.sh[p0]? = some (11, 0)) <|
    bT (F_Store_readNumber N p0 (1 : Int32) x2 x3 H) fun v6 H7 =>
    B_Store_readShapes_16 N p0 p1 N 0 H7
set_option maxRecDepth 20000 in
set_option maxHeartbeats 2000000 in
theorem m_Store_readShapes {N : Nat} {p0 : Nat} {p1 : Nat} {H : Hp} {r : (Ot Unit) × Hp} (hF : F_Store_readShapes N p0 p1 H = some r) : Mo H r.2 := by
  unfold F_Store_readShapes at hF
  have hm := Mo.rf H
  obtain ⟨q9, hG⟩ := ck_s hF; clear hF
  obtain ⟨x10, -, hF⟩ := bnd_g hG; clear hG
  obtain ⟨x11, -, hG⟩ := bnd_g hF; clear hF
  obtain ⟨q12, hF⟩ := ck_s hG; clear hG
  refine bT_c hF (fun x16 H15 z13 er => ?_) (fun v14 H15 z13 hG => ?_)
  · subst er; exact hm.tr (m_Store_readNumber z13)
  clear hF
  replace hm : Mo H H15 := hm.tr (m_Store_readNumber z13)
  exact hm.tr (mB_Store_readShapes_16 N 0 H15 r hG)
set_option maxRecDepth 20000 in
set_option maxHeartbeats 2000000 in
theorem k_Store_readShapes {N : Nat} {p0 : Nat} {p1 : Nat} {H : Hp} {r : (Ot Unit) × Hp} {C Sl : Nat} (hF : F_Store_readShapes N p0 p1 H = some r) (hC : r.2.sh.length ≤ H.sh.length + C) (hS : r.2.sl ≤ H.sl + Sl) : ab_M y_Store_readShapes { frames := 7, cells := C, slots := Sl, locals := 125 } [.ref p0, .ref p1] (hpw H) (po (oV r.1) r.2) := by
  unfold F_Store_readShapes at hF
  obtain ⟨c0, e0⟩ : ∃ q, q = H.sh.length := ⟨_, rfl⟩
  obtain ⟨s0, e1⟩ : ∃ q, q = H.sl := ⟨_, rfl⟩
  rw [← e0] at hC
  rw [← e1] at hS
  have hc0 : c0 ≤ H.sh.length := Nat.le_of_eq e0
  have hs0 : s0 ≤ H.sl := Nat.le_of_eq e1
  have hcc : H.sh.length ≤ c0 + C := by omega
  have hss : H.sl ≤ s0 + Sl := by omega
  refine ab_of2 (lv := [some (.ref p0), some (.ref p1), none, none, none, none]) 4 rfl rfl (Nat.le_of_ble_eq_true rfl) ?_
  refine ab_widen (cells' := H.sh.length - c0) (slots' := H.sl - s0) (Nat.zero_le _) (Nat.zero_le _) ?_
  refine ab_aload_n d_Store_readShapes_0 rfl rfl rfl ?_
  refine ab_iconst (v := 1) d_Store_readShapes_1 (by decide) ?_
  refine ab_aload_n d_Store_readShapes_2 rfl rfl rfl ?_
  obtain ⟨q1, hG⟩ := ck_s hF; clear hF
  refine hp_getI (f := 3) d_Store_readShapes_3 q1 (by decide) rfl (by decide) (k3 40 rfl rfl) rfl ?_
  refine ab_topi (fun x2 ex2 => ?_)
  replace hG := bnd_s ex2 hG
  refine ab_aload_n d_Store_readShapes_6 rfl rfl rfl ?_
  refine hp_getI (f := 3) d_Store_readShapes_7 q1 (by decide) rfl (by decide) (k3 40 rfl rfl) rfl ?_
  refine ab_topi (fun x3 ex3 => ?_)
  replace hG := bnd_s ex3 hG
  obtain ⟨q4, hF⟩ := ck_s hG; clear hG
  refine bT_c hF (fun x8 H7 z5 er => ?_) (fun v6 H7 z5 hG => ?_)
  · subst er
    have mz : Mo H H7 := (m_Store_readNumber z5)
    have ml := mz.len
    have m2 := mz.2
    have hC9 : H7.sh.length ≤ c0 + C := hC
    have hS9 : H7.sl ≤ s0 + Sl := hS
    refine hp_callV_t (x := x8) (H1 := H7) (As := [.int 1, .int x2, .int x3]) (rest := []) d_Store_readShapes_10 (k_Store_readNumber z5 (C := H7.sh.length - H.sh.length) (Sl := H7.sl - H.sl) (by show H7.sh.length ≤ _; omega) (by show H7.sl ≤ _; omega)) (ab_mkC s_Store_readNumber (Nat.le_of_ble_eq_true rfl) (Nat.le_of_ble_eq_true rfl) (show (H.sh.length - c0) + (H7.sh.length - H.sh.length) ≤ C from by omega) (show (H.sl - s0) + (H7.sl - H.sl) ≤ Sl from by omega)) (k8 53 rfl rfl) i_Store_readNumber v_Store_readNumber q4 (by decide) rfl rfl (Nat.le_of_ble_eq_true rfl) ?_
    exact ab_U_out rfl (by show _ + (H7.sh.length - H.sh.length) ≤ C; omega) (by show _ + (H7.sl - H.sl) ≤ Sl; omega) ⟨rfl, rfl⟩
  clear hF
  have mz_1 : Mo H H7 := (m_Store_readNumber z5)
  have b_2l := (mz_1).len
  have b_2s := (mz_1).2
  have b_2c : c0 ≤ H7.sh.length := by omega
  have b_2d : s0 ≤ H7.sl := by omega
  have q_3 := (mz_1).get q1
  have q_4 := (mz_1).get q4
  have fH7 : Mo H7 r.2 := by
    have hm := Mo.rf H7
    exact hm.tr (mB_Store_readShapes_16 N 0 H7 r hG)
  have b_2m := (fH7).len
  have b_2n := (fH7).2
  have b_2p : H7.sh.length ≤ c0 + C := by omega
  have b_2q : H7.sl ≤ s0 + Sl := by omega
  refine hp_callV_a (v := .int v6) (H1 := H7) (As := [.int 1, .int x2, .int x3]) (rest := []) d_Store_readShapes_10 (k_Store_readNumber z5 (C := H7.sh.length - H.sh.length) (Sl := H7.sl - H.sl) (by show H7.sh.length ≤ _; omega) (by show H7.sl ≤ _; omega)) (ab_mkC s_Store_readNumber (Nat.le_of_ble_eq_true rfl) (Nat.le_of_ble_eq_true rfl) (show (H.sh.length - c0) + (H7.sh.length - H.sh.length) ≤ C from by omega) (show (H.sl - s0) + (H7.sl - H.sl) ≤ Sl from by omega)) (k8 53 rfl rfl) i_Store_readNumber v_Store_readNumber q4 (by decide) rfl rfl (Nat.le_of_ble_eq_true rfl) ?_
  refine ab_widen (cells' := H7.sh.length - c0) (slots' := H7.sl - s0) (by show _ + (H7.sh.length - H.sh.length) ≤ _; omega) (by show _ + (H7.sl - H.sl) ≤ _; omega) ?_
  clear b_2l b_2s b_2m b_2n
  refine ab_pop d_Store_readShapes_13 rfl ?_
  refine ab_iconst (v := 0) d_Store_readShapes_14 (by decide) ?_
  refine ab_istore_n (lv' := [some (.ref p0), some (.ref p1), some (.int 0), none, none, none]) d_Store_readShapes_15 rfl (by decide) rfl ?_
  exact kB_Store_readShapes_16 N 0 H7 r hG b_2c b_2d b_2p b_2q hC hS
def y_Store_readParts : ab_Y := (⟨"WorldEngine$Store", "readParts", "(I)I"⟩, prog_10_method_13_code, 2, (some FieldType.int), [])
theorem d_Store_readParts_0 : decode y_Store_readParts.2.1 0 = .ok (.aload_n 0, 1) := by decide +kernel
theorem d_Store_readParts_1 : decode y_Store_readParts.2.1 1 = .ok (.iconst 2, 1) := by decide +kernel
theorem d_Store_readParts_2 : decode y_Store_readParts.2.1 2 = .ok (.iconst 0, 1) := by decide +kernel
theorem d_Store_readParts_3 : decode y_Store_readParts.2.1 3 = .ok (.iconst 1, 1) := by decide +kernel
theorem d_Store_readParts_4 : decode y_Store_readParts.2.1 4 = .ok (.iload_n 1, 1) := by decide +kernel
theorem d_Store_readParts_5 : decode y_Store_readParts.2.1 5 = .ok (.ishl, 1) := by decide +kernel
theorem d_Store_readParts_6 : decode y_Store_readParts.2.1 6 = .ok (.iconst 1, 1) := by decide +kernel
theorem d_Store_readParts_7 : decode y_Store_readParts.2.1 7 = .ok (.isub, 1) := by decide +kernel
theorem d_Store_readParts_8 : decode y_Store_readParts.2.1 8 = .ok (.invokevirtual 122, 3) := by decide +kernel
theorem d_Store_readParts_11 : decode y_Store_readParts.2.1 11 = .ok (.ireturn, 1) := by decide +kernel
theorem s_Store_readParts : ab_Stat y_Store_readParts 1 := ⟨(k8 75 rfl rfl), (k1 14 rfl rfl), ⟨by decide, by decide⟩, by decide +kernel⟩
theorem i_Store_readParts : Cond.instanceMethod y_Store_readParts.1 ∈ ab_T := (k8 74 rfl rfl)
theorem v_Store_readParts : Cond.selects "WorldEngine$Store" y_Store_readParts.1 y_Store_readParts.1 ∈ ab_T := ab_s (List.mem_of_getElem? (i := 101) rfl) rfl
def F_Store_readParts (N : Nat) (p0 : Nat) (p1 : Int32) (H : Hp) : Option ((Ot Int32) × Hp) :=
    ck (H.sh[p0]? = some (11, 0)) <|
    bT (F_Store_readNumber N p0 (2 : Int32) (0 : Int32) (((1 : Int32) <<< (p1 &&& 31)) - (1 : Int32)) H) fun v3 H4 =>
    some (.inl v3, H4)
set_option maxRecDepth 20000 in
set_option maxHeartbeats 2000000 in
theorem m_Store_readParts {N : Nat} {p0 : Nat} {p1 : Int32} {H : Hp} {r : (Ot Int32) × Hp} (hF : F_Store_readParts N p0 p1 H = some r) : Mo H r.2 := by
  unfold F_Store_readParts at hF
  have hm := Mo.rf H
  obtain ⟨q6, hG⟩ := ck_s hF; clear hF
  refine bT_c hG (fun x10 H9 z7 er => ?_) (fun v8 H9 z7 hF => ?_)
  · subst er; exact hm.tr (m_Store_readNumber z7)
  clear hG
  replace hm : Mo H H9 := hm.tr (m_Store_readNumber z7)
  have hr := Option.some.inj hF; subst hr
  exact hm
set_option maxRecDepth 20000 in
set_option maxHeartbeats 2000000 in
theorem k_Store_readParts {N : Nat} {p0 : Nat} {p1 : Int32} {H : Hp} {r : (Ot Int32) × Hp} {C Sl : Nat} (hF : F_Store_readParts N p0 p1 H = some r) (hC : r.2.sh.length ≤ H.sh.length + C) (hS : r.2.sl ≤ H.sl + Sl) : ab_M y_Store_readParts { frames := 7, cells := C, slots := Sl, locals := 125 } [.ref p0, .int p1] (hpw H) (po (oI r.1) r.2) := by
  unfold F_Store_readParts at hF
  obtain ⟨c0, e0⟩ : ∃ q, q = H.sh.length := ⟨_, rfl⟩
  obtain ⟨s0, e1⟩ : ∃ q, q = H.sl := ⟨_, rfl⟩
  rw [← e0] at hC
  rw [← e1] at hS
  have hc0 : c0 ≤ H.sh.length := Nat.le_of_eq e0
  have hs0 : s0 ≤ H.sl := Nat.le_of_eq e1
  have hcc : H.sh.length ≤ c0 + C := by omega
  have hss : H.sl ≤ s0 + Sl := by omega
  refine ab_of2 (lv := [some (.ref p0), some (.int p1)]) 0 rfl rfl (Nat.le_of_ble_eq_true rfl) ?_
  refine ab_widen (cells' := H.sh.length - c0) (slots' := H.sl - s0) (Nat.zero_le _) (Nat.zero_le _) ?_
  refine ab_aload_n d_Store_readParts_0 rfl rfl rfl ?_
  refine ab_iconst (v := 2) d_Store_readParts_1 (by decide) ?_
  refine ab_iconst (v := 0) d_Store_readParts_2 (by decide) ?_
  refine ab_iconst (v := 1) d_Store_readParts_3 (by decide) ?_
  refine ab_iload_n d_Store_readParts_4 rfl rfl ?_
  refine ab_ishl d_Store_readParts_5 ?_
  refine ab_iconst (v := 1) d_Store_readParts_6 (by decide) ?_
  refine ab_isub d_Store_readParts_7 ?_
  obtain ⟨q1, hG⟩ := ck_s hF; clear hF
  refine bT_c hG (fun x5 H4 z2 er => ?_) (fun v3 H4 z2 hF => ?_)
  · subst er
    have mz : Mo H H4 := (m_Store_readNumber z2)
    have ml := mz.len
    have m2 := mz.2
    have hC9 : H4.sh.length ≤ c0 + C := hC
    have hS9 : H4.sl ≤ s0 + Sl := hS
    refine hp_callV_t (x := x5) (H1 := H4) (As := [.int 2, .int 0, .int (((1 : Int32) <<< (p1 &&& 31)) - (1 : Int32))]) (rest := []) d_Store_readParts_8 (k_Store_readNumber z2 (C := H4.sh.length - H.sh.length) (Sl := H4.sl - H.sl) (by show H4.sh.length ≤ _; omega) (by show H4.sl ≤ _; omega)) (ab_mkC s_Store_readNumber (Nat.le_of_ble_eq_true rfl) (Nat.le_of_ble_eq_true rfl) (show (H.sh.length - c0) + (H4.sh.length - H.sh.length) ≤ C from by omega) (show (H.sl - s0) + (H4.sl - H.sl) ≤ Sl from by omega)) (k8 53 rfl rfl) i_Store_readNumber v_Store_readNumber q1 (by decide) rfl rfl (Nat.le_of_ble_eq_true rfl) ?_
    exact ab_U_out rfl (by show _ + (H4.sh.length - H.sh.length) ≤ C; omega) (by show _ + (H4.sl - H.sl) ≤ Sl; omega) ⟨rfl, rfl⟩
  clear hG
  have mz_1 : Mo H H4 := (m_Store_readNumber z2)
  have b_2l := (mz_1).len
  have b_2s := (mz_1).2
  have b_2c : c0 ≤ H4.sh.length := by omega
  have b_2d : s0 ≤ H4.sl := by omega
  have q_3 := (mz_1).get q1
  have fH4 : Mo H4 r.2 := by
    have hm := Mo.rf H4
    have hr := Option.some.inj hF; subst hr
    exact hm
  have b_2m := (fH4).len
  have b_2n := (fH4).2
  have b_2p : H4.sh.length ≤ c0 + C := by omega
  have b_2q : H4.sl ≤ s0 + Sl := by omega
  refine hp_callV_a (v := .int v3) (H1 := H4) (As := [.int 2, .int 0, .int (((1 : Int32) <<< (p1 &&& 31)) - (1 : Int32))]) (rest := []) d_Store_readParts_8 (k_Store_readNumber z2 (C := H4.sh.length - H.sh.length) (Sl := H4.sl - H.sl) (by show H4.sh.length ≤ _; omega) (by show H4.sl ≤ _; omega)) (ab_mkC s_Store_readNumber (Nat.le_of_ble_eq_true rfl) (Nat.le_of_ble_eq_true rfl) (show (H.sh.length - c0) + (H4.sh.length - H.sh.length) ≤ C from by omega) (show (H.sl - s0) + (H4.sl - H.sl) ≤ Sl from by omega)) (k8 53 rfl rfl) i_Store_readNumber v_Store_readNumber q1 (by decide) rfl rfl (Nat.le_of_ble_eq_true rfl) ?_
  refine ab_widen (cells' := H4.sh.length - c0) (slots' := H4.sl - s0) (by show _ + (H4.sh.length - H.sh.length) ≤ _; omega) (by show _ + (H4.sl - H.sl) ≤ _; omega) ?_
  clear b_2l b_2s b_2m b_2n
  exact ab_iret d_Store_readParts_11 rfl (by show _ ≤ C; omega) (by show _ ≤ Sl; omega) (by have hr := Option.some.inj hF; subst hr; exact ⟨rfl, rfl⟩)
def y_Store_readMember : ab_Y := (⟨"WorldEngine$Store", "readMember", "(I)I"⟩, prog_10_method_14_code, 2, (some FieldType.int), [])
theorem d_Store_readMember_0 : decode y_Store_readMember.2.1 0 = .ok (.iload_n 1, 1) := by decide +kernel
theorem d_Store_readMember_1 : decode y_Store_readMember.2.1 1 = .ok (.tableswitch 58 1 4 #[31, 58, 41, 49], 31) := by decide +kernel
theorem d_Store_readMember_32 : decode y_Store_readMember.2.1 32 = .ok (.aload_n 0, 1) := by decide +kernel
theorem d_Store_readMember_33 : decode y_Store_readMember.2.1 33 = .ok (.iconst 4, 1) := by decide +kernel
theorem d_Store_readMember_34 : decode y_Store_readMember.2.1 34 = .ok (.bipush (-128), 2) := by decide +kernel
theorem d_Store_readMember_36 : decode y_Store_readMember.2.1 36 = .ok (.bipush 127, 2) := by decide +kernel
theorem d_Store_readMember_38 : decode y_Store_readMember.2.1 38 = .ok (.invokevirtual 122, 3) := by decide +kernel
theorem d_Store_readMember_41 : decode y_Store_readMember.2.1 41 = .ok (.ireturn, 1) := by decide +kernel
theorem d_Store_readMember_42 : decode y_Store_readMember.2.1 42 = .ok (.aload_n 0, 1) := by decide +kernel
theorem d_Store_readMember_43 : decode y_Store_readMember.2.1 43 = .ok (.iconst 4, 1) := by decide +kernel
theorem d_Store_readMember_44 : decode y_Store_readMember.2.1 44 = .ok (.iconst 0, 1) := by decide +kernel
theorem d_Store_readMember_45 : decode y_Store_readMember.2.1 45 = .ok (.iconst 1, 1) := by decide +kernel
theorem d_Store_readMember_46 : decode y_Store_readMember.2.1 46 = .ok (.invokevirtual 122, 3) := by decide +kernel
theorem d_Store_readMember_49 : decode y_Store_readMember.2.1 49 = .ok (.ireturn, 1) := by decide +kernel
theorem d_Store_readMember_50 : decode y_Store_readMember.2.1 50 = .ok (.aload_n 0, 1) := by decide +kernel
theorem d_Store_readMember_51 : decode y_Store_readMember.2.1 51 = .ok (.iconst 4, 1) := by decide +kernel
theorem d_Store_readMember_52 : decode y_Store_readMember.2.1 52 = .ok (.iconst (-1), 1) := by decide +kernel
theorem d_Store_readMember_53 : decode y_Store_readMember.2.1 53 = .ok (.ldc 131, 2) := by decide +kernel
theorem d_Store_readMember_55 : decode y_Store_readMember.2.1 55 = .ok (.invokevirtual 122, 3) := by decide +kernel
theorem d_Store_readMember_58 : decode y_Store_readMember.2.1 58 = .ok (.ireturn, 1) := by decide +kernel
theorem d_Store_readMember_59 : decode y_Store_readMember.2.1 59 = .ok (.aload_n 0, 1) := by decide +kernel
theorem d_Store_readMember_60 : decode y_Store_readMember.2.1 60 = .ok (.iconst 4, 1) := by decide +kernel
theorem d_Store_readMember_61 : decode y_Store_readMember.2.1 61 = .ok (.ldc 130, 2) := by decide +kernel
theorem d_Store_readMember_63 : decode y_Store_readMember.2.1 63 = .ok (.ldc 131, 2) := by decide +kernel
theorem d_Store_readMember_65 : decode y_Store_readMember.2.1 65 = .ok (.invokevirtual 122, 3) := by decide +kernel
theorem d_Store_readMember_68 : decode y_Store_readMember.2.1 68 = .ok (.ireturn, 1) := by decide +kernel
theorem s_Store_readMember : ab_Stat y_Store_readMember 1 := ⟨(k8 80 rfl rfl), (k1 14 rfl rfl), ⟨by decide, by decide⟩, by decide +kernel⟩
theorem i_Store_readMember : Cond.instanceMethod y_Store_readMember.1 ∈ ab_T := (k8 79 rfl rfl)
theorem v_Store_readMember : Cond.selects "WorldEngine$Store" y_Store_readMember.1 y_Store_readMember.1 ∈ ab_T := ab_s (List.mem_of_getElem? (i := 102) rfl) rfl
def F_Store_readMember (N : Nat) (p0 : Nat) (p1 : Int32) (H : Hp) : Option ((Ot Int32) × Hp) :=
    if p1 = 1 then
    ck (H.sh[p0]? = some (11, 0)) <|
    bT (F_Store_readNumber N p0 (4 : Int32) ((-128) : Int32) (127 : Int32) H) fun v4 H5 =>
    some (.inl v4, H5)
    else if p1 = 3 then
    ck (H.sh[p0]? = some (11, 0)) <|
    bT (F_Store_readNumber N p0 (4 : Int32) (0 : Int32) (1 : Int32) H) fun v10 H11 =>
    some (.inl v10, H11)
    else if p1 = 4 then
    ck (H.sh[p0]? = some (11, 0)) <|
    bT (F_Store_readNumber N p0 (4 : Int32) ((-1) : Int32) (2147483647 : Int32) H) fun v16 H17 =>
    some (.inl v16, H17)
    else ck (H.sh[p0]? = some (11, 0)) <|
    bT (F_Store_readNumber N p0 (4 : Int32) ((-2147483648) : Int32) (2147483647 : Int32) H) fun v22 H23 =>
    some (.inl v22, H23)
set_option maxRecDepth 20000 in
set_option maxHeartbeats 2000000 in
theorem m_Store_readMember {N : Nat} {p0 : Nat} {p1 : Int32} {H : Hp} {r : (Ot Int32) × Hp} (hF : F_Store_readMember N p0 p1 H = some r) : Mo H r.2 := by
  unfold F_Store_readMember at hF
  have hm := Mo.rf H
  rcases ite_s hF with ⟨q_16, hG⟩ | ⟨q_16, hG⟩
  · clear hF
    obtain ⟨q26, hF⟩ := ck_s hG; clear hG
    refine bT_c hF (fun x30 H29 z27 er => ?_) (fun v28 H29 z27 hG => ?_)
    · subst er; exact hm.tr (m_Store_readNumber z27)
    clear hF
    replace hm : Mo H H29 := hm.tr (m_Store_readNumber z27)
    have hr := Option.some.inj hG; subst hr
    exact hm
  clear hF
  rcases ite_s hG with ⟨q_19, hF⟩ | ⟨q_19, hF⟩
  · clear hG
    obtain ⟨q32, hG⟩ := ck_s hF; clear hF
    refine bT_c hG (fun x36 H35 z33 er => ?_) (fun v34 H35 z33 hF => ?_)
    · subst er; exact hm.tr (m_Store_readNumber z33)
    clear hG
    replace hm : Mo H H35 := hm.tr (m_Store_readNumber z33)
    have hr := Option.some.inj hF; subst hr
    exact hm
  clear hG
  rcases ite_s hF with ⟨q_22, hG⟩ | ⟨q_22, hG⟩
  · clear hF
    obtain ⟨q38, hF⟩ := ck_s hG; clear hG
    refine bT_c hF (fun x42 H41 z39 er => ?_) (fun v40 H41 z39 hG => ?_)
    · subst er; exact hm.tr (m_Store_readNumber z39)
    clear hF
    replace hm : Mo H H41 := hm.tr (m_Store_readNumber z39)
    have hr := Option.some.inj hG; subst hr
    exact hm
  clear hF
  obtain ⟨q43, hF⟩ := ck_s hG; clear hG
  refine bT_c hF (fun x47 H46 z44 er => ?_) (fun v45 H46 z44 hG => ?_)
  · subst er; exact hm.tr (m_Store_readNumber z44)
  clear hF
  replace hm : Mo H H46 := hm.tr (m_Store_readNumber z44)
  have hr := Option.some.inj hG; subst hr
  exact hm
set_option maxRecDepth 20000 in
set_option maxHeartbeats 2000000 in
theorem k_Store_readMember {N : Nat} {p0 : Nat} {p1 : Int32} {H : Hp} {r : (Ot Int32) × Hp} {C Sl : Nat} (hF : F_Store_readMember N p0 p1 H = some r) (hC : r.2.sh.length ≤ H.sh.length + C) (hS : r.2.sl ≤ H.sl + Sl) : ab_M y_Store_readMember { frames := 7, cells := C, slots := Sl, locals := 125 } [.ref p0, .int p1] (hpw H) (po (oI r.1) r.2) := by
  unfold F_Store_readMember at hF
  obtain ⟨c0, e0⟩ : ∃ q, q = H.sh.length := ⟨_, rfl⟩
  obtain ⟨s0, e1⟩ : ∃ q, q = H.sl := ⟨_, rfl⟩
  rw [← e0] at hC
  rw [← e1] at hS
  have hc0 : c0 ≤ H.sh.length := Nat.le_of_eq e0
  have hs0 : s0 ≤ H.sl := Nat.le_of_eq e1
  have hcc : H.sh.length ≤ c0 + C := by omega
  have hss : H.sl ≤ s0 + Sl := by omega
  refine ab_of2 (lv := [some (.ref p0), some (.int p1)]) 0 rfl rfl (Nat.le_of_ble_eq_true rfl) ?_
  refine ab_widen (cells' := H.sh.length - c0) (slots' := H.sl - s0) (Nat.zero_le _) (Nat.zero_le _) ?_
  refine ab_iload_n d_Store_readMember_0 rfl rfl ?_
  by_cases t1 : p1 = 1
  · rw [if_pos t1] at hF
    refine ab_tableIn (off := 31) (tgt := 32) d_Store_readMember_1 (by rw [t1]; decide) (by rw [t1]; decide) (by rw [t1]; decide) (by decide) ?_
    refine ab_aload_n d_Store_readMember_32 rfl rfl rfl ?_
    refine ab_iconst (v := 4) d_Store_readMember_33 (by decide) ?_
    refine ab_bipush (v := (-128)) d_Store_readMember_34 (by decide) ?_
    refine ab_bipush (v := 127) d_Store_readMember_36 (by decide) ?_
    obtain ⟨q2, hG⟩ := ck_s hF; clear hF
    refine bT_c hG (fun x6 H5 z3 er => ?_) (fun v4 H5 z3 hF => ?_)
    · subst er
      have mz : Mo H H5 := (m_Store_readNumber z3)
      have ml := mz.len
      have m2 := mz.2
      have hC9 : H5.sh.length ≤ c0 + C := hC
      have hS9 : H5.sl ≤ s0 + Sl := hS
      refine hp_callV_t (x := x6) (H1 := H5) (As := [.int 4, .int (-128), .int 127]) (rest := []) d_Store_readMember_38 (k_Store_readNumber z3 (C := H5.sh.length - H.sh.length) (Sl := H5.sl - H.sl) (by show H5.sh.length ≤ _; omega) (by show H5.sl ≤ _; omega)) (ab_mkC s_Store_readNumber (Nat.le_of_ble_eq_true rfl) (Nat.le_of_ble_eq_true rfl) (show (H.sh.length - c0) + (H5.sh.length - H.sh.length) ≤ C from by omega) (show (H.sl - s0) + (H5.sl - H.sl) ≤ Sl from by omega)) (k8 53 rfl rfl) i_Store_readNumber v_Store_readNumber q2 (by decide) rfl rfl (Nat.le_of_ble_eq_true rfl) ?_
      exact ab_U_out rfl (by show _ + (H5.sh.length - H.sh.length) ≤ C; omega) (by show _ + (H5.sl - H.sl) ≤ Sl; omega) ⟨rfl, rfl⟩
    clear hG
    have mz_1 : Mo H H5 := (m_Store_readNumber z3)
    have b_2l := (mz_1).len
    have b_2s := (mz_1).2
    have b_2c : c0 ≤ H5.sh.length := by omega
    have b_2d : s0 ≤ H5.sl := by omega
    have q_3 := (mz_1).get q2
    have fH5 : Mo H5 r.2 := by
      have hm := Mo.rf H5
      have hr := Option.some.inj hF; subst hr
      exact hm
    have b_2m := (fH5).len
    have b_2n := (fH5).2
    have b_2p : H5.sh.length ≤ c0 + C := by omega
    have b_2q : H5.sl ≤ s0 + Sl := by omega
    refine hp_callV_a (v := .int v4) (H1 := H5) (As := [.int 4, .int (-128), .int 127]) (rest := []) d_Store_readMember_38 (k_Store_readNumber z3 (C := H5.sh.length - H.sh.length) (Sl := H5.sl - H.sl) (by show H5.sh.length ≤ _; omega) (by show H5.sl ≤ _; omega)) (ab_mkC s_Store_readNumber (Nat.le_of_ble_eq_true rfl) (Nat.le_of_ble_eq_true rfl) (show (H.sh.length - c0) + (H5.sh.length - H.sh.length) ≤ C from by omega) (show (H.sl - s0) + (H5.sl - H.sl) ≤ Sl from by omega)) (k8 53 rfl rfl) i_Store_readNumber v_Store_readNumber q2 (by decide) rfl rfl (Nat.le_of_ble_eq_true rfl) ?_
    refine ab_widen (cells' := H5.sh.length - c0) (slots' := H5.sl - s0) (by show _ + (H5.sh.length - H.sh.length) ≤ _; omega) (by show _ + (H5.sl - H.sl) ≤ _; omega) ?_
    clear b_2l b_2s b_2m b_2n
    exact ab_iret d_Store_readMember_41 rfl (by show _ ≤ C; omega) (by show _ ≤ Sl; omega) (by have hr := Option.some.inj hF; subst hr; exact ⟨rfl, rfl⟩)
  rw [if_neg t1] at hF
  have ut1 : ¬ (1 : Int) = (p1).toInt := fun z => t1 (Int32.toInt_inj.mp (z.symm.trans (by decide)))
  by_cases t7 : p1 = 3
  · rw [if_pos t7] at hF
    refine ab_tableIn (off := 41) (tgt := 42) d_Store_readMember_1 (by rw [t7]; decide) (by rw [t7]; decide) (by rw [t7]; decide) (by decide) ?_
    refine ab_aload_n d_Store_readMember_42 rfl rfl rfl ?_
    refine ab_iconst (v := 4) d_Store_readMember_43 (by decide) ?_
    refine ab_iconst (v := 0) d_Store_readMember_44 (by decide) ?_
    refine ab_iconst (v := 1) d_Store_readMember_45 (by decide) ?_
    obtain ⟨q8, hG⟩ := ck_s hF; clear hF
    refine bT_c hG (fun x12 H11 z9 er => ?_) (fun v10 H11 z9 hF => ?_)
    · subst er
      have mz : Mo H H11 := (m_Store_readNumber z9)
      have ml := mz.len
      have m2 := mz.2
      have hC9 : H11.sh.length ≤ c0 + C := hC
      have hS9 : H11.sl ≤ s0 + Sl := hS
      refine hp_callV_t (x := x12) (H1 := H11) (As := [.int 4, .int 0, .int 1]) (rest := []) d_Store_readMember_46 (k_Store_readNumber z9 (C := H11.sh.length - H.sh.length) (Sl := H11.sl - H.sl) (by show H11.sh.length ≤ _; omega) (by show H11.sl ≤ _; omega)) (ab_mkC s_Store_readNumber (Nat.le_of_ble_eq_true rfl) (Nat.le_of_ble_eq_true rfl) (show (H.sh.length - c0) + (H11.sh.length - H.sh.length) ≤ C from by omega) (show (H.sl - s0) + (H11.sl - H.sl) ≤ Sl from by omega)) (k8 53 rfl rfl) i_Store_readNumber v_Store_readNumber q8 (by decide) rfl rfl (Nat.le_of_ble_eq_true rfl) ?_
      exact ab_U_out rfl (by show _ + (H11.sh.length - H.sh.length) ≤ C; omega) (by show _ + (H11.sl - H.sl) ≤ Sl; omega) ⟨rfl, rfl⟩
    clear hG
    have mz_4 : Mo H H11 := (m_Store_readNumber z9)
    have b_5l := (mz_4).len
    have b_5s := (mz_4).2
    have b_5c : c0 ≤ H11.sh.length := by omega
    have b_5d : s0 ≤ H11.sl := by omega
    have q_6 := (mz_4).get q8
    have fH11 : Mo H11 r.2 := by
      have hm := Mo.rf H11
      have hr := Option.some.inj hF; subst hr
      exact hm
    have b_5m := (fH11).len
    have b_5n := (fH11).2
    have b_5p : H11.sh.length ≤ c0 + C := by omega
    have b_5q : H11.sl ≤ s0 + Sl := by omega
    refine hp_callV_a (v := .int v10) (H1 := H11) (As := [.int 4, .int 0, .int 1]) (rest := []) d_Store_readMember_46 (k_Store_readNumber z9 (C := H11.sh.length - H.sh.length) (Sl := H11.sl - H.sl) (by show H11.sh.length ≤ _; omega) (by show H11.sl ≤ _; omega)) (ab_mkC s_Store_readNumber (Nat.le_of_ble_eq_true rfl) (Nat.le_of_ble_eq_true rfl) (show (H.sh.length - c0) + (H11.sh.length - H.sh.length) ≤ C from by omega) (show (H.sl - s0) + (H11.sl - H.sl) ≤ Sl from by omega)) (k8 53 rfl rfl) i_Store_readNumber v_Store_readNumber q8 (by decide) rfl rfl (Nat.le_of_ble_eq_true rfl) ?_
    refine ab_widen (cells' := H11.sh.length - c0) (slots' := H11.sl - s0) (by show _ + (H11.sh.length - H.sh.length) ≤ _; omega) (by show _ + (H11.sl - H.sl) ≤ _; omega) ?_
    clear b_5l b_5s b_5m b_5n
    exact ab_iret d_Store_readMember_49 rfl (by show _ ≤ C; omega) (by show _ ≤ Sl; omega) (by have hr := Option.some.inj hF; subst hr; exact ⟨rfl, rfl⟩)
  rw [if_neg t7] at hF
  have ut7 : ¬ (3 : Int) = (p1).toInt := fun z => t7 (Int32.toInt_inj.mp (z.symm.trans (by decide)))
  by_cases t13 : p1 = 4
  · rw [if_pos t13] at hF
    refine ab_tableIn (off := 49) (tgt := 50) d_Store_readMember_1 (by rw [t13]; decide) (by rw [t13]; decide) (by rw [t13]; decide) (by decide) ?_
    refine ab_aload_n d_Store_readMember_50 rfl rfl rfl ?_
    refine ab_iconst (v := 4) d_Store_readMember_51 (by decide) ?_
    refine ab_iconst (v := (-1)) d_Store_readMember_52 (by decide) ?_
    refine ab_ldc d_Store_readMember_53 (k8 66 rfl rfl) ?_
    obtain ⟨q14, hG⟩ := ck_s hF; clear hF
    refine bT_c hG (fun x18 H17 z15 er => ?_) (fun v16 H17 z15 hF => ?_)
    · subst er
      have mz : Mo H H17 := (m_Store_readNumber z15)
      have ml := mz.len
      have m2 := mz.2
      have hC9 : H17.sh.length ≤ c0 + C := hC
      have hS9 : H17.sl ≤ s0 + Sl := hS
      refine hp_callV_t (x := x18) (H1 := H17) (As := [.int 4, .int (-1), .int 2147483647]) (rest := []) d_Store_readMember_55 (k_Store_readNumber z15 (C := H17.sh.length - H.sh.length) (Sl := H17.sl - H.sl) (by show H17.sh.length ≤ _; omega) (by show H17.sl ≤ _; omega)) (ab_mkC s_Store_readNumber (Nat.le_of_ble_eq_true rfl) (Nat.le_of_ble_eq_true rfl) (show (H.sh.length - c0) + (H17.sh.length - H.sh.length) ≤ C from by omega) (show (H.sl - s0) + (H17.sl - H.sl) ≤ Sl from by omega)) (k8 53 rfl rfl) i_Store_readNumber v_Store_readNumber q14 (by decide) rfl rfl (Nat.le_of_ble_eq_true rfl) ?_
      exact ab_U_out rfl (by show _ + (H17.sh.length - H.sh.length) ≤ C; omega) (by show _ + (H17.sl - H.sl) ≤ Sl; omega) ⟨rfl, rfl⟩
    clear hG
    have mz_7 : Mo H H17 := (m_Store_readNumber z15)
    have b_8l := (mz_7).len
    have b_8s := (mz_7).2
    have b_8c : c0 ≤ H17.sh.length := by omega
    have b_8d : s0 ≤ H17.sl := by omega
    have q_9 := (mz_7).get q14
    have fH17 : Mo H17 r.2 := by
      have hm := Mo.rf H17
      have hr := Option.some.inj hF; subst hr
      exact hm
    have b_8m := (fH17).len
    have b_8n := (fH17).2
    have b_8p : H17.sh.length ≤ c0 + C := by omega
    have b_8q : H17.sl ≤ s0 + Sl := by omega
    refine hp_callV_a (v := .int v16) (H1 := H17) (As := [.int 4, .int (-1), .int 2147483647]) (rest := []) d_Store_readMember_55 (k_Store_readNumber z15 (C := H17.sh.length - H.sh.length) (Sl := H17.sl - H.sl) (by show H17.sh.length ≤ _; omega) (by show H17.sl ≤ _; omega)) (ab_mkC s_Store_readNumber (Nat.le_of_ble_eq_true rfl) (Nat.le_of_ble_eq_true rfl) (show (H.sh.length - c0) + (H17.sh.length - H.sh.length) ≤ C from by omega) (show (H.sl - s0) + (H17.sl - H.sl) ≤ Sl from by omega)) (k8 53 rfl rfl) i_Store_readNumber v_Store_readNumber q14 (by decide) rfl rfl (Nat.le_of_ble_eq_true rfl) ?_
    refine ab_widen (cells' := H17.sh.length - c0) (slots' := H17.sl - s0) (by show _ + (H17.sh.length - H.sh.length) ≤ _; omega) (by show _ + (H17.sl - H.sl) ≤ _; omega) ?_
    clear b_8l b_8s b_8m b_8n
    exact ab_iret d_Store_readMember_58 rfl (by show _ ≤ C; omega) (by show _ ≤ Sl; omega) (by have hr := Option.some.inj hF; subst hr; exact ⟨rfl, rfl⟩)
  rw [if_neg t13] at hF
  have ut13 : ¬ (4 : Int) = (p1).toInt := fun z => t13 (Int32.toInt_inj.mp (z.symm.trans (by decide)))
  by_cases t19 : p1 = 2
  · skip
    refine ab_tableIn (off := 58) (tgt := 59) d_Store_readMember_1 (by rw [t19]; decide) (by rw [t19]; decide) (by rw [t19]; decide) (by decide) ?_
    refine ab_aload_n d_Store_readMember_59 rfl rfl rfl ?_
    refine ab_iconst (v := 4) d_Store_readMember_60 (by decide) ?_
    refine ab_ldc d_Store_readMember_61 (k8 65 rfl rfl) ?_
    refine ab_ldc d_Store_readMember_63 (k8 66 rfl rfl) ?_
    obtain ⟨q20, hG⟩ := ck_s hF; clear hF
    refine bT_c hG (fun x24 H23 z21 er => ?_) (fun v22 H23 z21 hF => ?_)
    · subst er
      have mz : Mo H H23 := (m_Store_readNumber z21)
      have ml := mz.len
      have m2 := mz.2
      have hC9 : H23.sh.length ≤ c0 + C := hC
      have hS9 : H23.sl ≤ s0 + Sl := hS
      refine hp_callV_t (x := x24) (H1 := H23) (As := [.int 4, .int (-2147483648), .int 2147483647]) (rest := []) d_Store_readMember_65 (k_Store_readNumber z21 (C := H23.sh.length - H.sh.length) (Sl := H23.sl - H.sl) (by show H23.sh.length ≤ _; omega) (by show H23.sl ≤ _; omega)) (ab_mkC s_Store_readNumber (Nat.le_of_ble_eq_true rfl) (Nat.le_of_ble_eq_true rfl) (show (H.sh.length - c0) + (H23.sh.length - H.sh.length) ≤ C from by omega) (show (H.sl - s0) + (H23.sl - H.sl) ≤ Sl from by omega)) (k8 53 rfl rfl) i_Store_readNumber v_Store_readNumber q20 (by decide) rfl rfl (Nat.le_of_ble_eq_true rfl) ?_
      exact ab_U_out rfl (by show _ + (H23.sh.length - H.sh.length) ≤ C; omega) (by show _ + (H23.sl - H.sl) ≤ Sl; omega) ⟨rfl, rfl⟩
    clear hG
    have mz_10 : Mo H H23 := (m_Store_readNumber z21)
    have b_11l := (mz_10).len
    have b_11s := (mz_10).2
    have b_11c : c0 ≤ H23.sh.length := by omega
    have b_11d : s0 ≤ H23.sl := by omega
    have q_12 := (mz_10).get q20
    have fH23 : Mo H23 r.2 := by
      have hm := Mo.rf H23
      have hr := Option.some.inj hF; subst hr
      exact hm
    have b_11m := (fH23).len
    have b_11n := (fH23).2
    have b_11p : H23.sh.length ≤ c0 + C := by omega
    have b_11q : H23.sl ≤ s0 + Sl := by omega
    refine hp_callV_a (v := .int v22) (H1 := H23) (As := [.int 4, .int (-2147483648), .int 2147483647]) (rest := []) d_Store_readMember_65 (k_Store_readNumber z21 (C := H23.sh.length - H.sh.length) (Sl := H23.sl - H.sl) (by show H23.sh.length ≤ _; omega) (by show H23.sl ≤ _; omega)) (ab_mkC s_Store_readNumber (Nat.le_of_ble_eq_true rfl) (Nat.le_of_ble_eq_true rfl) (show (H.sh.length - c0) + (H23.sh.length - H.sh.length) ≤ C from by omega) (show (H.sl - s0) + (H23.sl - H.sl) ≤ Sl from by omega)) (k8 53 rfl rfl) i_Store_readNumber v_Store_readNumber q20 (by decide) rfl rfl (Nat.le_of_ble_eq_true rfl) ?_
    refine ab_widen (cells' := H23.sh.length - c0) (slots' := H23.sl - s0) (by show _ + (H23.sh.length - H.sh.length) ≤ _; omega) (by show _ + (H23.sl - H.sl) ≤ _; omega) ?_
    clear b_11l b_11s b_11m b_11n
    exact ab_iret d_Store_readMember_68 rfl (by show _ ≤ C; omega) (by show _ ≤ Sl; omega) (by have hr := Option.some.inj hF; subst hr; exact ⟨rfl, rfl⟩)
  have ut19 : ¬ (2 : Int) = (p1).toInt := fun z => t19 (Int32.toInt_inj.mp (z.symm.trans (by decide)))
  refine ab_tableOut (tgt := 59) d_Store_readMember_1 (by omega) (by decide) ?_
  refine ab_aload_n d_Store_readMember_59 rfl rfl rfl ?_
  refine ab_iconst (v := 4) d_Store_readMember_60 (by decide) ?_
  refine ab_ldc d_Store_readMember_61 (k8 65 rfl rfl) ?_
  refine ab_ldc d_Store_readMember_63 (k8 66 rfl rfl) ?_
  obtain ⟨q20, hG⟩ := ck_s hF; clear hF
  refine bT_c hG (fun x24 H23 z21 er => ?_) (fun v22 H23 z21 hF => ?_)
  · subst er
    have mz : Mo H H23 := (m_Store_readNumber z21)
    have ml := mz.len
    have m2 := mz.2
    have hC9 : H23.sh.length ≤ c0 + C := hC
    have hS9 : H23.sl ≤ s0 + Sl := hS
    refine hp_callV_t (x := x24) (H1 := H23) (As := [.int 4, .int (-2147483648), .int 2147483647]) (rest := []) d_Store_readMember_65 (k_Store_readNumber z21 (C := H23.sh.length - H.sh.length) (Sl := H23.sl - H.sl) (by show H23.sh.length ≤ _; omega) (by show H23.sl ≤ _; omega)) (ab_mkC s_Store_readNumber (Nat.le_of_ble_eq_true rfl) (Nat.le_of_ble_eq_true rfl) (show (H.sh.length - c0) + (H23.sh.length - H.sh.length) ≤ C from by omega) (show (H.sl - s0) + (H23.sl - H.sl) ≤ Sl from by omega)) (k8 53 rfl rfl) i_Store_readNumber v_Store_readNumber q20 (by decide) rfl rfl (Nat.le_of_ble_eq_true rfl) ?_
    exact ab_U_out rfl (by show _ + (H23.sh.length - H.sh.length) ≤ C; omega) (by show _ + (H23.sl - H.sl) ≤ Sl; omega) ⟨rfl, rfl⟩
  clear hG
  have mz_13 : Mo H H23 := (m_Store_readNumber z21)
  have b_14l := (mz_13).len
  have b_14s := (mz_13).2
  have b_14c : c0 ≤ H23.sh.length := by omega
  have b_14d : s0 ≤ H23.sl := by omega
  have q_15 := (mz_13).get q20
  have fH23 : Mo H23 r.2 := by
    have hm := Mo.rf H23
    have hr := Option.some.inj hF; subst hr
    exact hm
  have b_14m := (fH23).len
  have b_14n := (fH23).2
  have b_14p : H23.sh.length ≤ c0 + C := by omega
  have b_14q : H23.sl ≤ s0 + Sl := by omega
  refine hp_callV_a (v := .int v22) (H1 := H23) (As := [.int 4, .int (-2147483648), .int 2147483647]) (rest := []) d_Store_readMember_65 (k_Store_readNumber z21 (C := H23.sh.length - H.sh.length) (Sl := H23.sl - H.sl) (by show H23.sh.length ≤ _; omega) (by show H23.sl ≤ _; omega)) (ab_mkC s_Store_readNumber (Nat.le_of_ble_eq_true rfl) (Nat.le_of_ble_eq_true rfl) (show (H.sh.length - c0) + (H23.sh.length - H.sh.length) ≤ C from by omega) (show (H.sl - s0) + (H23.sl - H.sl) ≤ Sl from by omega)) (k8 53 rfl rfl) i_Store_readNumber v_Store_readNumber q20 (by decide) rfl rfl (Nat.le_of_ble_eq_true rfl) ?_
  refine ab_widen (cells' := H23.sh.length - c0) (slots' := H23.sl - s0) (by show _ + (H23.sh.length - H.sh.length) ≤ _; omega) (by show _ + (H23.sl - H.sl) ≤ _; omega) ?_
  clear b_14l b_14s b_14m b_14n
  exact ab_iret d_Store_readMember_68 rfl (by show _ ≤ C; omega) (by show _ ≤ Sl; omega) (by have hr := Option.some.inj hF; subst hr; exact ⟨rfl, rfl⟩)
def y_Store_readPlace : ab_Y := (⟨"WorldEngine$Store", "readPlace", "(LWorldEngine$Shapes;LWorldEngine$World;I)V"⟩, prog_10_method_12_code, 7, none, [])
theorem d_Store_readPlace_0 : decode y_Store_readPlace.2.1 0 = .ok (.aload_n 2, 1) := by decide +kernel
theorem d_Store_readPlace_1 : decode y_Store_readPlace.2.1 1 = .ok (.getfield 61, 3) := by decide +kernel
theorem d_Store_readPlace_4 : decode y_Store_readPlace.2.1 4 = .ok (.iload_n 3, 1) := by decide +kernel
theorem d_Store_readPlace_5 : decode y_Store_readPlace.2.1 5 = .ok (.aload_n 0, 1) := by decide +kernel
theorem d_Store_readPlace_6 : decode y_Store_readPlace.2.1 6 = .ok (.iconst 4, 1) := by decide +kernel
theorem d_Store_readPlace_7 : decode y_Store_readPlace.2.1 7 = .ok (.iconst 0, 1) := by decide +kernel
theorem d_Store_readPlace_8 : decode y_Store_readPlace.2.1 8 = .ok (.ldc 155, 2) := by decide +kernel
theorem d_Store_readPlace_10 : decode y_Store_readPlace.2.1 10 = .ok (.invokevirtual 122, 3) := by decide +kernel
theorem d_Store_readPlace_13 : decode y_Store_readPlace.2.1 13 = .ok (.iastore, 1) := by decide +kernel
theorem d_Store_readPlace_14 : decode y_Store_readPlace.2.1 14 = .ok (.aload_n 0, 1) := by decide +kernel
theorem d_Store_readPlace_15 : decode y_Store_readPlace.2.1 15 = .ok (.iconst 1, 1) := by decide +kernel
theorem d_Store_readPlace_16 : decode y_Store_readPlace.2.1 16 = .ok (.iconst 0, 1) := by decide +kernel
theorem d_Store_readPlace_17 : decode y_Store_readPlace.2.1 17 = .ok (.iconst 1, 1) := by decide +kernel
theorem d_Store_readPlace_18 : decode y_Store_readPlace.2.1 18 = .ok (.invokevirtual 122, 3) := by decide +kernel
theorem d_Store_readPlace_21 : decode y_Store_readPlace.2.1 21 = .ok (.ifCond .ne 4, 3) := by decide +kernel
theorem d_Store_readPlace_24 : decode y_Store_readPlace.2.1 24 = .ok (.return_, 1) := by decide +kernel
theorem d_Store_readPlace_25 : decode y_Store_readPlace.2.1 25 = .ok (.aload_n 0, 1) := by decide +kernel
theorem d_Store_readPlace_26 : decode y_Store_readPlace.2.1 26 = .ok (.aload_n 1, 1) := by decide +kernel
theorem d_Store_readPlace_27 : decode y_Store_readPlace.2.1 27 = .ok (.getfield 76, 3) := by decide +kernel
theorem d_Store_readPlace_30 : decode y_Store_readPlace.2.1 30 = .ok (.invokevirtual 156, 3) := by decide +kernel
theorem d_Store_readPlace_33 : decode y_Store_readPlace.2.1 33 = .ok (.istore 4, 2) := by decide +kernel
theorem d_Store_readPlace_35 : decode y_Store_readPlace.2.1 35 = .ok (.aload_n 2, 1) := by decide +kernel
theorem d_Store_readPlace_36 : decode y_Store_readPlace.2.1 36 = .ok (.iload_n 3, 1) := by decide +kernel
theorem d_Store_readPlace_37 : decode y_Store_readPlace.2.1 37 = .ok (.iload 4, 2) := by decide +kernel
theorem d_Store_readPlace_39 : decode y_Store_readPlace.2.1 39 = .ok (.invokevirtual 159, 3) := by decide +kernel
theorem d_Store_readPlace_42 : decode y_Store_readPlace.2.1 42 = .ok (.iconst 0, 1) := by decide +kernel
theorem d_Store_readPlace_43 : decode y_Store_readPlace.2.1 43 = .ok (.istore 5, 2) := by decide +kernel
theorem d_Store_readPlace_45 : decode y_Store_readPlace.2.1 45 = .ok (.iload 5, 2) := by decide +kernel
theorem d_Store_readPlace_47 : decode y_Store_readPlace.2.1 47 = .ok (.aload_n 1, 1) := by decide +kernel
theorem d_Store_readPlace_48 : decode y_Store_readPlace.2.1 48 = .ok (.getfield 76, 3) := by decide +kernel
theorem d_Store_readPlace_51 : decode y_Store_readPlace.2.1 51 = .ok (.if_icmp .ge 70, 3) := by decide +kernel
theorem d_Store_readPlace_54 : decode y_Store_readPlace.2.1 54 = .ok (.iload 4, 2) := by decide +kernel
theorem d_Store_readPlace_56 : decode y_Store_readPlace.2.1 56 = .ok (.iload 5, 2) := by decide +kernel
theorem d_Store_readPlace_58 : decode y_Store_readPlace.2.1 58 = .ok (.ishr, 1) := by decide +kernel
theorem d_Store_readPlace_59 : decode y_Store_readPlace.2.1 59 = .ok (.iconst 1, 1) := by decide +kernel
theorem d_Store_readPlace_60 : decode y_Store_readPlace.2.1 60 = .ok (.iand, 1) := by decide +kernel
theorem d_Store_readPlace_61 : decode y_Store_readPlace.2.1 61 = .ok (.iconst 1, 1) := by decide +kernel
theorem d_Store_readPlace_62 : decode y_Store_readPlace.2.1 62 = .ok (.if_icmp .ne 53, 3) := by decide +kernel
theorem d_Store_readPlace_65 : decode y_Store_readPlace.2.1 65 = .ok (.aload_n 1, 1) := by decide +kernel
theorem d_Store_readPlace_66 : decode y_Store_readPlace.2.1 66 = .ok (.getfield 85, 3) := by decide +kernel
theorem d_Store_readPlace_69 : decode y_Store_readPlace.2.1 69 = .ok (.iload 5, 2) := by decide +kernel
theorem d_Store_readPlace_71 : decode y_Store_readPlace.2.1 71 = .ok (.iaload, 1) := by decide +kernel
theorem d_Store_readPlace_72 : decode y_Store_readPlace.2.1 72 = .ok (.istore 6, 2) := by decide +kernel
theorem d_Store_readPlace_74 : decode y_Store_readPlace.2.1 74 = .ok (.iload 6, 2) := by decide +kernel
theorem d_Store_readPlace_76 : decode y_Store_readPlace.2.1 76 = .ok (.aload_n 1, 1) := by decide +kernel
theorem d_Store_readPlace_77 : decode y_Store_readPlace.2.1 77 = .ok (.getfield 85, 3) := by decide +kernel
theorem d_Store_readPlace_80 : decode y_Store_readPlace.2.1 80 = .ok (.iload 5, 2) := by decide +kernel
theorem d_Store_readPlace_82 : decode y_Store_readPlace.2.1 82 = .ok (.iconst 1, 1) := by decide +kernel
theorem d_Store_readPlace_83 : decode y_Store_readPlace.2.1 83 = .ok (.iadd, 1) := by decide +kernel
theorem d_Store_readPlace_84 : decode y_Store_readPlace.2.1 84 = .ok (.iaload, 1) := by decide +kernel
theorem d_Store_readPlace_85 : decode y_Store_readPlace.2.1 85 = .ok (.if_icmp .ge 30, 3) := by decide +kernel
theorem d_Store_readPlace_88 : decode y_Store_readPlace.2.1 88 = .ok (.aload_n 2, 1) := by decide +kernel
theorem d_Store_readPlace_89 : decode y_Store_readPlace.2.1 89 = .ok (.iload_n 3, 1) := by decide +kernel
theorem d_Store_readPlace_90 : decode y_Store_readPlace.2.1 90 = .ok (.iload 6, 2) := by decide +kernel
theorem d_Store_readPlace_92 : decode y_Store_readPlace.2.1 92 = .ok (.aload_n 0, 1) := by decide +kernel
theorem d_Store_readPlace_93 : decode y_Store_readPlace.2.1 93 = .ok (.aload_n 1, 1) := by decide +kernel
theorem d_Store_readPlace_94 : decode y_Store_readPlace.2.1 94 = .ok (.getfield 88, 3) := by decide +kernel
theorem d_Store_readPlace_97 : decode y_Store_readPlace.2.1 97 = .ok (.iload 6, 2) := by decide +kernel
theorem d_Store_readPlace_99 : decode y_Store_readPlace.2.1 99 = .ok (.aaload, 1) := by decide +kernel
theorem d_Store_readPlace_100 : decode y_Store_readPlace.2.1 100 = .ok (.getfield 92, 3) := by decide +kernel
theorem d_Store_readPlace_103 : decode y_Store_readPlace.2.1 103 = .ok (.invokevirtual 162, 3) := by decide +kernel
theorem d_Store_readPlace_106 : decode y_Store_readPlace.2.1 106 = .ok (.invokevirtual 165, 3) := by decide +kernel
theorem d_Store_readPlace_109 : decode y_Store_readPlace.2.1 109 = .ok (.iinc 6 1, 3) := by decide +kernel
theorem d_Store_readPlace_112 : decode y_Store_readPlace.2.1 112 = .ok (.goto (-38), 3) := by decide +kernel
theorem d_Store_readPlace_115 : decode y_Store_readPlace.2.1 115 = .ok (.iinc 5 1, 3) := by decide +kernel
theorem d_Store_readPlace_118 : decode y_Store_readPlace.2.1 118 = .ok (.goto (-73), 3) := by decide +kernel
theorem d_Store_readPlace_121 : decode y_Store_readPlace.2.1 121 = .ok (.return_, 1) := by decide +kernel
theorem s_Store_readPlace : ab_Stat y_Store_readPlace 3 := ⟨(k8 70 rfl rfl), (k1 14 rfl rfl), ⟨by decide, by decide⟩, by decide +kernel⟩
theorem i_Store_readPlace : Cond.instanceMethod y_Store_readPlace.1 ∈ ab_T := (k8 69 rfl rfl)
theorem v_Store_readPlace : Cond.selects "WorldEngine$Store" y_Store_readPlace.1 y_Store_readPlace.1 ∈ ab_T := ab_s (List.mem_of_getElem? (i := 100) rfl) rfl
def B_Store_readPlace_115 (N : Nat) (p0 : Nat) (p1 : Nat) (p2 : Nat) (p3 : Int32) (kq45 : Int32 → Int32 → Hp → Option ((Ot Unit) × Hp)) (l4 : Int32) (l5 : Int32) (H : Hp) : Option ((Ot Unit) × Hp) :=
    kq45 l4 (l5 + 1) H
set_option maxRecDepth 20000 in
set_option maxHeartbeats 2000000 in
theorem mB_Store_readPlace_115 {N : Nat} {p0 : Nat} {p1 : Nat} {p2 : Nat} {p3 : Int32} {kq45 : Int32 → Int32 → Hp → Option ((Ot Unit) × Hp)} (hm45 : ∀ (l4 : Int32) (l5 : Int32) (H : Hp) (r : (Ot Unit) × Hp), kq45 l4 l5 H = some r → Mo H r.2) {l4 : Int32} {l5 : Int32} {H : Hp} {r : (Ot Unit) × Hp} (hF : B_Store_readPlace_115 N p0 p1 p2 p3 kq45 l4 l5 H = some r) : Mo H r.2 := by
  unfold B_Store_readPlace_115 at hF
  have hm := Mo.rf H
  exact hm.tr (hm45 l4 (l5 + 1) H r hF)
set_option maxRecDepth 20000 in
set_option maxHeartbeats 2000000 in
theorem kB_Store_readPlace_115 {N : Nat} {p0 : Nat} {p1 : Nat} {p2 : Nat} {p3 : Int32} {kq45 : Int32 → Int32 → Hp → Option ((Ot Unit) × Hp)} {c0 s0 C Sl : Nat} (hm45 : ∀ (l4 : Int32) (l5 : Int32) (H : Hp) (r : (Ot Unit) × Hp), kq45 l4 l5 H = some r → Mo H r.2) (hk45 : ∀ (l4 : Int32) (l5 : Int32) (H : Hp) (r : (Ot Unit) × Hp), kq45 l4 l5 H = some r → c0 ≤ H.sh.length → s0 ≤ H.sl → H.sh.length ≤ c0 + C → H.sl ≤ s0 + Sl → r.2.sh.length ≤ c0 + C → r.2.sl ≤ s0 + Sl → ab_V y_Store_readPlace { frames := 8, cells := C, slots := Sl, locals := 146 } (po (oV r.1) r.2) C Sl (H.sh.length - c0) (H.sl - s0) 45 [some (.ref p0), some (.ref p1), some (.ref p2), some (.int p3), some (.int l4), some (.int l5), none] [] (hpw H)) {l4 : Int32} {l5 : Int32} {H : Hp} {r : (Ot Unit) × Hp} (hF : B_Store_readPlace_115 N p0 p1 p2 p3 kq45 l4 l5 H = some r) (hc0 : c0 ≤ H.sh.length) (hs0 : s0 ≤ H.sl) (hcc : H.sh.length ≤ c0 + C) (hss : H.sl ≤ s0 + Sl) (hC : r.2.sh.length ≤ c0 + C) (hS : r.2.sl ≤ s0 + Sl) : ab_V y_Store_readPlace { frames := 8, cells := C, slots := Sl, locals := 146 } (po (oV r.1) r.2) C Sl (H.sh.length - c0) (H.sl - s0) 115 [some (.ref p0), some (.ref p1), some (.ref p2), some (.int p3), some (.int l4), some (.int l5), none] [] (hpw H) := by
  unfold B_Store_readPlace_115 at hF
  refine ab_iinc (v := l5 + 1) (lv' := [some (.ref p0), some (.ref p1), some (.ref p2), some (.int p3), some (.int l4), some (.int (l5 + 1)), none]) d_Store_readPlace_115 rfl rfl (by decide) rfl ?_
  refine ab_goto (tgt := 45) d_Store_readPlace_118 (by decide) ?_
  exact hk45 l4 (l5 + 1) H r hF hc0 hs0 hcc hss hC hS
def B_Store_readPlace_74 (N : Nat) (p0 : Nat) (p1 : Nat) (p2 : Nat) (p3 : Int32) (kq45 : Int32 → Int32 → Hp → Option ((Ot Unit) × Hp)) : Nat → Int32 → Int32 → Int32 → Hp → Option ((Ot Unit) × Hp)
  | 0, _, _, _, _ => none
  | n + 1, l4, l5, l6, H =>
    ck (H.sh[p1]? = some (3, 0)) <|
    rf (H.P p1 2) fun a38 =>
    ar H 100 a38 fun n40 =>
    ck (inb (l5 + (1 : Int32)) n40) <|
    bnd ((H.D a38 ((l5 + (1 : Int32))).toNatClampNeg)) fun x43 =>
    if x43 ≤ l6 then
    B_Store_readPlace_115 N p0 p1 p2 p3 kq45 l4 l5 H
    else
    rf (H.P p1 1) fun a45 =>
    ar H 106 a45 fun n47 =>
    ck (inb l6 n47) <|
    rf (H.P a45 (l6).toNatClampNeg) fun a50 =>
    ck (H.sh[a50]? = some (2, 0)) <|
    bnd ((H.D a50 3)) fun x53 =>
    ck (H.sh[p0]? = some (11, 0)) <|
    bT (F_Store_readMember N p0 x53 H) fun v56 H57 =>
    ck (H57.sh[p2]? = some (7, 0)) <|
    bC (F_World_write N p2 p3 l6 v56 H57) fun v61 H62 =>
    B_Store_readPlace_74 N p0 p1 p2 p3 kq45 n l4 l5 (l6 + 1) H62
termination_by structural n => n
set_option maxRecDepth 20000 in
set_option maxHeartbeats 2000000 in
theorem mB_Store_readPlace_74 {N : Nat} {p0 : Nat} {p1 : Nat} {p2 : Nat} {p3 : Int32} {kq45 : Int32 → Int32 → Hp → Option ((Ot Unit) × Hp)} (hm45 : ∀ (l4 : Int32) (l5 : Int32) (H : Hp) (r : (Ot Unit) × Hp), kq45 l4 l5 H = some r → Mo H r.2) : ∀ (n : Nat) (l4 : Int32) (l5 : Int32) (l6 : Int32) (H : Hp) (r : (Ot Unit) × Hp), B_Store_readPlace_74 N p0 p1 p2 p3 kq45 n l4 l5 l6 H = some r → Mo H r.2 := by
  intro n
  induction n with
  | zero => intro l4 l5 l6 H r hF; rw [B_Store_readPlace_74] at hF; cases hF
  | succ n ih =>
    intro l4 l5 l6 H r hF
    rw [B_Store_readPlace_74] at hF
    have hm := Mo.rf H
    obtain ⟨q63, hG⟩ := ck_s hF; clear hF
    obtain ⟨a64, e65, hF⟩ := rf_s hG; clear hG
    obtain ⟨n66, q67, hG⟩ := ar_s hF; clear hF
    obtain ⟨q68, hF⟩ := ck_s hG; clear hG
    obtain ⟨x69, -, hG⟩ := bnd_g hF; clear hF
    rcases ite_s hG with ⟨q_26, hF⟩ | ⟨q_26, hF⟩
    · clear hG
      exact hm.tr (mB_Store_readPlace_115 hm45 hF)
    · clear hG
      obtain ⟨a71, e72, hG⟩ := rf_s hF; clear hF
      obtain ⟨n73, q74, hF⟩ := ar_s hG; clear hG
      obtain ⟨q75, hG⟩ := ck_s hF; clear hF
      obtain ⟨a76, e77, hF⟩ := rf_s hG; clear hG
      obtain ⟨q78, hG⟩ := ck_s hF; clear hF
      obtain ⟨x79, -, hF⟩ := bnd_g hG; clear hG
      obtain ⟨q80, hG⟩ := ck_s hF; clear hF
      refine bT_c hG (fun x84 H83 z81 er => ?_) (fun v82 H83 z81 hF => ?_)
      · subst er; exact hm.tr (m_Store_readMember z81)
      clear hG
      replace hm : Mo H H83 := hm.tr (m_Store_readMember z81)
      obtain ⟨q85, hG⟩ := ck_s hF; clear hF
      obtain ⟨v87, H88, z86, hF⟩ := bC_s hG; clear hG
      replace hm : Mo H H88 := hm.tr ((m_World_write z86)).mo
      exact hm.tr (ih l4 l5 (l6 + 1) H88 r hF)
set_option maxRecDepth 20000 in
set_option maxHeartbeats 2000000 in
theorem kB_Store_readPlace_74 {N : Nat} {p0 : Nat} {p1 : Nat} {p2 : Nat} {p3 : Int32} {kq45 : Int32 → Int32 → Hp → Option ((Ot Unit) × Hp)} {c0 s0 C Sl : Nat} (hm45 : ∀ (l4 : Int32) (l5 : Int32) (H : Hp) (r : (Ot Unit) × Hp), kq45 l4 l5 H = some r → Mo H r.2) (hk45 : ∀ (l4 : Int32) (l5 : Int32) (H : Hp) (r : (Ot Unit) × Hp), kq45 l4 l5 H = some r → c0 ≤ H.sh.length → s0 ≤ H.sl → H.sh.length ≤ c0 + C → H.sl ≤ s0 + Sl → r.2.sh.length ≤ c0 + C → r.2.sl ≤ s0 + Sl → ab_V y_Store_readPlace { frames := 8, cells := C, slots := Sl, locals := 146 } (po (oV r.1) r.2) C Sl (H.sh.length - c0) (H.sl - s0) 45 [some (.ref p0), some (.ref p1), some (.ref p2), some (.int p3), some (.int l4), some (.int l5), none] [] (hpw H)) : ∀ (n : Nat) (l4 : Int32) (l5 : Int32) (l6 : Int32) (H : Hp) (r : (Ot Unit) × Hp), B_Store_readPlace_74 N p0 p1 p2 p3 kq45 n l4 l5 l6 H = some r → c0 ≤ H.sh.length → s0 ≤ H.sl → H.sh.length ≤ c0 + C → H.sl ≤ s0 + Sl → r.2.sh.length ≤ c0 + C → r.2.sl ≤ s0 + Sl → ab_V y_Store_readPlace { frames := 8, cells := C, slots := Sl, locals := 146 } (po (oV r.1) r.2) C Sl (H.sh.length - c0) (H.sl - s0) 74 [some (.ref p0), some (.ref p1), some (.ref p2), some (.int p3), some (.int l4), some (.int l5), some (.int l6)] [] (hpw H) := by
  intro n
  induction n with
  | zero => intro l4 l5 l6 H r hF; rw [B_Store_readPlace_74] at hF; cases hF
  | succ n ih =>
    intro l4 l5 l6 H r hF hc0 hs0 hcc hss hC hS
    rw [B_Store_readPlace_74] at hF
    refine ab_iload d_Store_readPlace_74 rfl ?_
    refine ab_aload_n d_Store_readPlace_76 rfl rfl rfl ?_
    obtain ⟨q37, hG⟩ := ck_s hF; clear hF
    obtain ⟨a38, e39, hF⟩ := rf_s hG; clear hG
    refine hp_getR (f := 2) d_Store_readPlace_77 q37 (by decide) rfl (by decide) (k3 33 rfl rfl) rfl e39 ?_
    refine ab_iload d_Store_readPlace_80 rfl ?_
    refine ab_iconst (v := 1) d_Store_readPlace_82 (by decide) ?_
    refine ab_iadd d_Store_readPlace_83 ?_
    obtain ⟨n40, q41, hG⟩ := ar_s hF; clear hF
    obtain ⟨q42, hF⟩ := ck_s hG; clear hG
    refine hp_iald d_Store_readPlace_84 tI q41 q42 ?_
    refine ab_topi (fun x43 ex43 => ?_)
    replace hF := bnd_s ex43 hF
    refine ab_icmp_ge (tgt := 115) d_Store_readPlace_85 (by decide) (fun q44 => ?_) (fun q44 => ?_)
    · rw [if_pos q44] at hF
      refine ab_le (lv' := [some (.ref p0), some (.ref p1), some (.ref p2), some (.int p3), some (.int l4), some (.int l5), none]) ⟨rfl, ⟨rfl, ⟨rfl, ⟨rfl, ⟨rfl, ⟨rfl, trivial⟩⟩⟩⟩⟩⟩ ?_
      exact kB_Store_readPlace_115 hm45 hk45 hF hc0 hs0 hcc hss hC hS
    · rw [if_neg q44] at hF
      refine ab_aload_n d_Store_readPlace_88 rfl rfl rfl ?_
      refine ab_iload_n d_Store_readPlace_89 rfl rfl ?_
      refine ab_iload d_Store_readPlace_90 rfl ?_
      refine ab_aload_n d_Store_readPlace_92 rfl rfl rfl ?_
      refine ab_aload_n d_Store_readPlace_93 rfl rfl rfl ?_
      obtain ⟨a45, e46, hG⟩ := rf_s hF; clear hF
      refine hp_getR (f := 1) d_Store_readPlace_94 q37 (by decide) rfl (by decide) (k3 26 rfl rfl) rfl e46 ?_
      refine ab_iload d_Store_readPlace_97 rfl ?_
      obtain ⟨n47, q48, hF⟩ := ar_s hG; clear hG
      obtain ⟨q49, hG⟩ := ck_s hF; clear hF
      obtain ⟨a50, e51, hF⟩ := rf_s hG; clear hG
      refine hp_aald (q := 106) d_Store_readPlace_99 (by decide) tN q48 q49 e51 ?_
      obtain ⟨q52, hG⟩ := ck_s hF; clear hF
      refine hp_getI (f := 3) d_Store_readPlace_100 q52 (by decide) rfl (by decide) (k2 239 rfl rfl) rfl ?_
      refine ab_topi (fun x53 ex53 => ?_)
      replace hG := bnd_s ex53 hG
      obtain ⟨q54, hF⟩ := ck_s hG; clear hG
      refine bT_c hF (fun x58 H57 z55 er => ?_) (fun v56 H57 z55 hG => ?_)
      · subst er
        have mz : Mo H H57 := (m_Store_readMember z55)
        have ml := mz.len
        have m2 := mz.2
        have hC9 : H57.sh.length ≤ c0 + C := hC
        have hS9 : H57.sl ≤ s0 + Sl := hS
        refine hp_callV_t (x := x58) (H1 := H57) (As := [.int x53]) (rest := [.int l6, .int p3, .ref p2]) d_Store_readPlace_103 (k_Store_readMember z55 (C := H57.sh.length - H.sh.length) (Sl := H57.sl - H.sl) (by show H57.sh.length ≤ _; omega) (by show H57.sl ≤ _; omega)) (ab_mkC s_Store_readMember (Nat.le_of_ble_eq_true rfl) (Nat.le_of_ble_eq_true rfl) (show (H.sh.length - c0) + (H57.sh.length - H.sh.length) ≤ C from by omega) (show (H.sl - s0) + (H57.sl - H.sl) ≤ Sl from by omega)) (k8 77 rfl rfl) i_Store_readMember v_Store_readMember q54 (by decide) rfl rfl (Nat.le_of_ble_eq_true rfl) ?_
        exact ab_U_out rfl (by show _ + (H57.sh.length - H.sh.length) ≤ C; omega) (by show _ + (H57.sl - H.sl) ≤ Sl; omega) ⟨rfl, rfl⟩
      clear hF
      have mz_16 : Mo H H57 := (m_Store_readMember z55)
      have b_17l := (mz_16).len
      have b_17s := (mz_16).2
      have b_17c : c0 ≤ H57.sh.length := by omega
      have b_17d : s0 ≤ H57.sl := by omega
      have q_18 := (mz_16).get q37
      have q_19 := (mz_16).get q41
      have q_20 := (mz_16).get q48
      have q_21 := (mz_16).get q52
      have q_22 := (mz_16).get q54
      obtain ⟨q59, hF⟩ := ck_s hG; clear hG
      obtain ⟨v61, H62, z60, hG⟩ := bC_s hF; clear hF
      have jH62 : Mo H57 H62 := ((m_World_write z60)).mo
      have fH62 : Mo H62 r.2 := by
        have hm := Mo.rf H62
        exact hm.tr (mB_Store_readPlace_74 hm45 n l4 l5 (l6 + 1) H62 r hG)
      have fH57 : Mo H57 r.2 := jH62.tr fH62
      have b_17m := (fH57).len
      have b_17n := (fH57).2
      have b_17p : H57.sh.length ≤ c0 + C := by omega
      have b_17q : H57.sl ≤ s0 + Sl := by omega
      refine hp_callV_a (v := .int v56) (H1 := H57) (As := [.int x53]) (rest := [.int l6, .int p3, .ref p2]) d_Store_readPlace_103 (k_Store_readMember z55 (C := H57.sh.length - H.sh.length) (Sl := H57.sl - H.sl) (by show H57.sh.length ≤ _; omega) (by show H57.sl ≤ _; omega)) (ab_mkC s_Store_readMember (Nat.le_of_ble_eq_true rfl) (Nat.le_of_ble_eq_true rfl) (show (H.sh.length - c0) + (H57.sh.length - H.sh.length) ≤ C from by omega) (show (H.sl - s0) + (H57.sl - H.sl) ≤ Sl from by omega)) (k8 77 rfl rfl) i_Store_readMember v_Store_readMember q54 (by decide) rfl rfl (Nat.le_of_ble_eq_true rfl) ?_
      refine ab_widen (cells' := H57.sh.length - c0) (slots' := H57.sl - s0) (by show _ + (H57.sh.length - H.sh.length) ≤ _; omega) (by show _ + (H57.sl - H.sl) ≤ _; omega) ?_
      clear b_17l b_17s b_17m b_17n
      refine hp_callV_v (H1 := H62) (As := [.int p3, .int l6, .int v56]) (rest := []) d_Store_readPlace_106 (k_World_write z60) (ab_mkC s_World_write (Nat.le_of_ble_eq_true rfl) (Nat.le_of_ble_eq_true rfl) (show (H57.sh.length - c0) + 0 ≤ C from by omega) (show (H57.sl - s0) + 0 ≤ Sl from by omega)) (k8 81 rfl rfl) i_World_write v_World_write q59 (by decide) rfl rfl (Nat.le_of_ble_eq_true rfl) ?_
      have s_25 : Sa H57 H62 := (m_World_write z60)
      refine ab_widen (cells' := H57.sh.length - c0) (slots' := H57.sl - s0) (by show (H57.sh.length - c0) + 0 ≤ _; omega) (by show (H57.sl - s0) + 0 ≤ _; omega) ?_
      refine ab_iinc (v := l6 + 1) (lv' := [some (.ref p0), some (.ref p1), some (.ref p2), some (.int p3), some (.int l4), some (.int l5), some (.int (l6 + 1))]) d_Store_readPlace_109 rfl rfl (by decide) rfl ?_
      refine ab_goto (tgt := 74) d_Store_readPlace_112 (by decide) ?_
      refine ab_widen (cells' := H62.sh.length - c0) (slots' := H62.sl - s0) (by rw [(s_25).1]; exact Nat.le_refl _) (by rw [(s_25).2]; exact Nat.le_refl _) ?_
      exact ih l4 l5 (l6 + 1) H62 r hG (by rw [(s_25).1]; exact b_17c) (by rw [(s_25).2]; exact b_17d) (by rw [(s_25).1]; exact b_17p) (by rw [(s_25).2]; exact b_17q) hC hS
def B_Store_readPlace_45 (N : Nat) (p0 : Nat) (p1 : Nat) (p2 : Nat) (p3 : Int32) : Nat → Int32 → Int32 → Hp → Option ((Ot Unit) × Hp)
  | 0, _, _, _ => none
  | n + 1, l4, l5, H =>
    ck (H.sh[p1]? = some (3, 0)) <|
    bnd ((H.D p1 3)) fun x28 =>
    if x28 ≤ l5 then
    some (.inl (), H)
    else
    if ((l4 >>> (l5 &&& 31)) &&& (1 : Int32)) = (1 : Int32) then
    rf (H.P p1 2) fun a31 =>
    ar H 100 a31 fun n33 =>
    ck (inb l5 n33) <|
    bnd ((H.D a31 (l5).toNatClampNeg)) fun x36 =>
    B_Store_readPlace_74 N p0 p1 p2 p3 (fun l4 l5 H => B_Store_readPlace_45 N p0 p1 p2 p3 n l4 l5 H) N l4 l5 x36 H
    else
    B_Store_readPlace_115 N p0 p1 p2 p3 (fun l4 l5 H => B_Store_readPlace_45 N p0 p1 p2 p3 n l4 l5 H) l4 l5 H
termination_by structural n => n
set_option maxRecDepth 20000 in
set_option maxHeartbeats 2000000 in
theorem mB_Store_readPlace_45 {N : Nat} {p0 : Nat} {p1 : Nat} {p2 : Nat} {p3 : Int32} : ∀ (n : Nat) (l4 : Int32) (l5 : Int32) (H : Hp) (r : (Ot Unit) × Hp), B_Store_readPlace_45 N p0 p1 p2 p3 n l4 l5 H = some r → Mo H r.2 := by
  intro n
  induction n with
  | zero => intro l4 l5 H r hF; rw [B_Store_readPlace_45] at hF; cases hF
  | succ n ih =>
    intro l4 l5 H r hF
    rw [B_Store_readPlace_45] at hF
    have hm := Mo.rf H
    obtain ⟨q89, hG⟩ := ck_s hF; clear hF
    obtain ⟨x90, -, hF⟩ := bnd_g hG; clear hG
    rcases ite_s hF with ⟨q_33, hG⟩ | ⟨q_33, hG⟩
    · clear hF
      have hr := Option.some.inj hG; subst hr
      exact hm
    · clear hF
      rcases ite_s hG with ⟨q_34, hF⟩ | ⟨q_34, hF⟩
      · clear hG
        obtain ⟨a93, e94, hG⟩ := rf_s hF; clear hF
        obtain ⟨n95, q96, hF⟩ := ar_s hG; clear hG
        obtain ⟨q97, hG⟩ := ck_s hF; clear hF
        obtain ⟨x98, -, hF⟩ := bnd_g hG; clear hG
        exact hm.tr (mB_Store_readPlace_74 ih N l4 l5 x98 H r hF)
      · clear hG
        exact hm.tr (mB_Store_readPlace_115 ih hF)
set_option maxRecDepth 20000 in
set_option maxHeartbeats 2000000 in
theorem kB_Store_readPlace_45 {N : Nat} {p0 : Nat} {p1 : Nat} {p2 : Nat} {p3 : Int32} {c0 s0 C Sl : Nat} : ∀ (n : Nat) (l4 : Int32) (l5 : Int32) (H : Hp) (r : (Ot Unit) × Hp), B_Store_readPlace_45 N p0 p1 p2 p3 n l4 l5 H = some r → c0 ≤ H.sh.length → s0 ≤ H.sl → H.sh.length ≤ c0 + C → H.sl ≤ s0 + Sl → r.2.sh.length ≤ c0 + C → r.2.sl ≤ s0 + Sl → ab_V y_Store_readPlace { frames := 8, cells := C, slots := Sl, locals := 146 } (po (oV r.1) r.2) C Sl (H.sh.length - c0) (H.sl - s0) 45 [some (.ref p0), some (.ref p1), some (.ref p2), some (.int p3), some (.int l4), some (.int l5), none] [] (hpw H) := by
  intro n
  induction n with
  | zero => intro l4 l5 H r hF; rw [B_Store_readPlace_45] at hF; cases hF
  | succ n ih =>
    intro l4 l5 H r hF hc0 hs0 hcc hss hC hS
    rw [B_Store_readPlace_45] at hF
    refine ab_iload d_Store_readPlace_45 rfl ?_
    refine ab_aload_n d_Store_readPlace_47 rfl rfl rfl ?_
    obtain ⟨q27, hG⟩ := ck_s hF; clear hF
    refine hp_getI (f := 3) d_Store_readPlace_48 q27 (by decide) rfl (by decide) (k3 40 rfl rfl) rfl ?_
    refine ab_topi (fun x28 ex28 => ?_)
    replace hG := bnd_s ex28 hG
    refine ab_icmp_ge (tgt := 121) d_Store_readPlace_51 (by decide) (fun q29 => ?_) (fun q29 => ?_)
    · rw [if_pos q29] at hG
      exact ab_vret d_Store_readPlace_121 rfl (by show _ ≤ C; omega) (by show _ ≤ Sl; omega) (by have hr := Option.some.inj hG; subst hr; exact ⟨rfl, rfl⟩)
    · rw [if_neg q29] at hG
      refine ab_iload d_Store_readPlace_54 rfl ?_
      refine ab_iload d_Store_readPlace_56 rfl ?_
      refine ab_ishr d_Store_readPlace_58 ?_
      refine ab_iconst (v := 1) d_Store_readPlace_59 (by decide) ?_
      refine ab_iand d_Store_readPlace_60 ?_
      refine ab_iconst (v := 1) d_Store_readPlace_61 (by decide) ?_
      refine ab_icmp_ne (tgt := 115) d_Store_readPlace_62 (by decide) (fun q30 => ?_) (fun q30 => ?_)
      · rw [if_neg q30] at hG
        exact kB_Store_readPlace_115 (mB_Store_readPlace_45 n) ih hG hc0 hs0 hcc hss hC hS
      · rw [if_pos q30] at hG
        refine ab_aload_n d_Store_readPlace_65 rfl rfl rfl ?_
        obtain ⟨a31, e32, hF⟩ := rf_s hG; clear hG
        refine hp_getR (f := 2) d_Store_readPlace_66 q27 (by decide) rfl (by decide) (k3 33 rfl rfl) rfl e32 ?_
        refine ab_iload d_Store_readPlace_69 rfl ?_
        obtain ⟨n33, q34, hG⟩ := ar_s hF; clear hF
        obtain ⟨q35, hF⟩ := ck_s hG; clear hG
        refine hp_iald d_Store_readPlace_71 tI q34 q35 ?_
        refine ab_topi (fun x36 ex36 => ?_)
        replace hF := bnd_s ex36 hF
        refine ab_istore (lv' := [some (.ref p0), some (.ref p1), some (.ref p2), some (.int p3), some (.int l4), some (.int l5), some (.int x36)]) d_Store_readPlace_72 (by decide) rfl ?_
        exact kB_Store_readPlace_74 (mB_Store_readPlace_45 n) ih N l4 l5 x36 H r hF hc0 hs0 hcc hss hC hS
def F_Store_readPlace (N : Nat) (p0 : Nat) (p1 : Nat) (p2 : Nat) (p3 : Int32) (H : Hp) : Option ((Ot Unit) × Hp) :=
    ck (H.sh[p2]? = some (7, 0)) <|
    rf (H.P p2 7) fun a2 =>
    ck (H.sh[p0]? = some (11, 0)) <|
    bT (F_Store_readNumber N p0 (4 : Int32) (0 : Int32) (8000000 : Int32) H) fun v6 H7 =>
    ar H7 100 a2 fun n9 =>
    ck (inb p3 n9) <|
    bnd (H7.sD a2 (p3).toNatClampNeg v6) fun H12 =>
    bT (F_Store_readNumber N p0 (1 : Int32) (0 : Int32) (1 : Int32) H12) fun v14 H15 =>
    if v14 = (0 : Int32) then
    some (.inl (), H15)
    else
    ck (H15.sh[p1]? = some (3, 0)) <|
    bnd ((H15.D p1 3)) fun x19 =>
    bT (F_Store_readParts N p0 x19 H15) fun v21 H22 =>
    bC (F_World_occupy N p2 p3 v21 H22) fun v25 H26 =>
    B_Store_readPlace_45 N p0 p1 p2 p3 N v21 0 H26
set_option maxRecDepth 20000 in
set_option maxHeartbeats 2000000 in
theorem m_Store_readPlace {N : Nat} {p0 : Nat} {p1 : Nat} {p2 : Nat} {p3 : Int32} {H : Hp} {r : (Ot Unit) × Hp} (hF : F_Store_readPlace N p0 p1 p2 p3 H = some r) : Mo H r.2 := by
  unfold F_Store_readPlace at hF
  have hm := Mo.rf H
  obtain ⟨q27, hG⟩ := ck_s hF; clear hF
  obtain ⟨a28, e29, hF⟩ := rf_s hG; clear hG
  obtain ⟨q30, hG⟩ := ck_s hF; clear hF
  refine bT_c hG (fun x34 H33 z31 er => ?_) (fun v32 H33 z31 hF => ?_)
  · subst er; exact hm.tr (m_Store_readNumber z31)
  clear hG
  replace hm : Mo H H33 := hm.tr (m_Store_readNumber z31)
  obtain ⟨n35, q36, hG⟩ := ar_s hF; clear hF
  obtain ⟨q37, hF⟩ := ck_s hG; clear hG
  obtain ⟨H38, eH38, hG⟩ := bnd_g hF; clear hF
  replace hm : Mo H H38 := by rw [eH38]; exact hm
  refine bT_c hG (fun x42 H41 z39 er => ?_) (fun v40 H41 z39 hF => ?_)
  · subst er; exact hm.tr (m_Store_readNumber z39)
  clear hG
  replace hm : Mo H H41 := hm.tr (m_Store_readNumber z39)
  rcases ite_s hF with ⟨q_64, hG⟩ | ⟨q_64, hG⟩
  · clear hF
    have hr := Option.some.inj hG; subst hr
    exact hm
  · clear hF
    obtain ⟨q44, hF⟩ := ck_s hG; clear hG
    obtain ⟨x45, -, hG⟩ := bnd_g hF; clear hF
    refine bT_c hG (fun x49 H48 z46 er => ?_) (fun v47 H48 z46 hF => ?_)
    · subst er; exact hm.tr (m_Store_readParts z46)
    clear hG
    replace hm : Mo H H48 := hm.tr (m_Store_readParts z46)
    obtain ⟨v51, H52, z50, hG⟩ := bC_s hF; clear hF
    replace hm : Mo H H52 := hm.tr ((m_World_occupy z50)).mo
    exact hm.tr (mB_Store_readPlace_45 N v47 0 H52 r hG)
set_option maxRecDepth 20000 in
set_option maxHeartbeats 2000000 in
theorem k_Store_readPlace {N : Nat} {p0 : Nat} {p1 : Nat} {p2 : Nat} {p3 : Int32} {H : Hp} {r : (Ot Unit) × Hp} {C Sl : Nat} (hF : F_Store_readPlace N p0 p1 p2 p3 H = some r) (hC : r.2.sh.length ≤ H.sh.length + C) (hS : r.2.sl ≤ H.sl + Sl) : ab_M y_Store_readPlace { frames := 8, cells := C, slots := Sl, locals := 146 } [.ref p0, .ref p1, .ref p2, .int p3] (hpw H) (po (oV r.1) r.2) := by
  unfold F_Store_readPlace at hF
  obtain ⟨c0, e0⟩ : ∃ q, q = H.sh.length := ⟨_, rfl⟩
  obtain ⟨s0, e1⟩ : ∃ q, q = H.sl := ⟨_, rfl⟩
  rw [← e0] at hC
  rw [← e1] at hS
  have hc0 : c0 ≤ H.sh.length := Nat.le_of_eq e0
  have hs0 : s0 ≤ H.sl := Nat.le_of_eq e1
  have hcc : H.sh.length ≤ c0 + C := by omega
  have hss : H.sl ≤ s0 + Sl := by omega
  refine ab_of2 (lv := [some (.ref p0), some (.ref p1), some (.ref p2), some (.int p3), none, none, none]) 3 rfl rfl (Nat.le_of_ble_eq_true rfl) ?_
  refine ab_widen (cells' := H.sh.length - c0) (slots' := H.sl - s0) (Nat.zero_le _) (Nat.zero_le _) ?_
  refine ab_aload_n d_Store_readPlace_0 rfl rfl rfl ?_
  obtain ⟨q1, hG⟩ := ck_s hF; clear hF
  obtain ⟨a2, e3, hF⟩ := rf_s hG; clear hG
  refine hp_getR (f := 7) d_Store_readPlace_1 q1 (by decide) rfl (by decide) (k1 228 rfl rfl) rfl e3 ?_
  refine ab_iload_n d_Store_readPlace_4 rfl rfl ?_
  refine ab_aload_n d_Store_readPlace_5 rfl rfl rfl ?_
  refine ab_iconst (v := 4) d_Store_readPlace_6 (by decide) ?_
  refine ab_iconst (v := 0) d_Store_readPlace_7 (by decide) ?_
  refine ab_ldc d_Store_readPlace_8 (k8 71 rfl rfl) ?_
  obtain ⟨q4, hG⟩ := ck_s hF; clear hF
  refine bT_c hG (fun x8 H7 z5 er => ?_) (fun v6 H7 z5 hF => ?_)
  · subst er
    have mz : Mo H H7 := (m_Store_readNumber z5)
    have ml := mz.len
    have m2 := mz.2
    have hC9 : H7.sh.length ≤ c0 + C := hC
    have hS9 : H7.sl ≤ s0 + Sl := hS
    refine hp_callV_t (x := x8) (H1 := H7) (As := [.int 4, .int 0, .int 8000000]) (rest := [.int p3, .ref a2]) d_Store_readPlace_10 (k_Store_readNumber z5 (C := H7.sh.length - H.sh.length) (Sl := H7.sl - H.sl) (by show H7.sh.length ≤ _; omega) (by show H7.sl ≤ _; omega)) (ab_mkC s_Store_readNumber (Nat.le_of_ble_eq_true rfl) (Nat.le_of_ble_eq_true rfl) (show (H.sh.length - c0) + (H7.sh.length - H.sh.length) ≤ C from by omega) (show (H.sl - s0) + (H7.sl - H.sl) ≤ Sl from by omega)) (k8 53 rfl rfl) i_Store_readNumber v_Store_readNumber q4 (by decide) rfl rfl (Nat.le_of_ble_eq_true rfl) ?_
    exact ab_U_out rfl (by show _ + (H7.sh.length - H.sh.length) ≤ C; omega) (by show _ + (H7.sl - H.sl) ≤ Sl; omega) ⟨rfl, rfl⟩
  clear hG
  have mz_1 : Mo H H7 := (m_Store_readNumber z5)
  have b_2l := (mz_1).len
  have b_2s := (mz_1).2
  have b_2c : c0 ≤ H7.sh.length := by omega
  have b_2d : s0 ≤ H7.sl := by omega
  have q_3 := (mz_1).get q1
  have q_4 := (mz_1).get q4
  obtain ⟨n9, q10, hG⟩ := ar_s hF; clear hF
  obtain ⟨q11, hF⟩ := ck_s hG; clear hG
  obtain ⟨H12, eH12, hG⟩ := bnd_g hF; clear hF
  have jH12 : Mo H7 H12 := by rw [eH12]; exact Mo.rf _
  have fH12 : Mo H12 r.2 := by
    have hm := Mo.rf H12
    refine bT_c hG (fun x16 H15 z13 er => ?_) (fun v14 H15 z13 hF => ?_)
    · subst er; exact hm.tr (m_Store_readNumber z13)
    clear hG
    replace hm : Mo H12 H15 := hm.tr (m_Store_readNumber z13)
    rcases ite_s hF with ⟨q_10, hG⟩ | ⟨q_10, hG⟩
    · clear hF
      have hr := Option.some.inj hG; subst hr
      exact hm
    · clear hF
      obtain ⟨q18, hF⟩ := ck_s hG; clear hG
      obtain ⟨x19, -, hG⟩ := bnd_g hF; clear hF
      refine bT_c hG (fun x23 H22 z20 er => ?_) (fun v21 H22 z20 hF => ?_)
      · subst er; exact hm.tr (m_Store_readParts z20)
      clear hG
      replace hm : Mo H12 H22 := hm.tr (m_Store_readParts z20)
      obtain ⟨v25, H26, z24, hG⟩ := bC_s hF; clear hF
      replace hm : Mo H12 H26 := hm.tr ((m_World_occupy z24)).mo
      exact hm.tr (mB_Store_readPlace_45 N v21 0 H26 r hG)
  have fH7 : Mo H7 r.2 := jH12.tr fH12
  have b_2m := (fH7).len
  have b_2n := (fH7).2
  have b_2p : H7.sh.length ≤ c0 + C := by omega
  have b_2q : H7.sl ≤ s0 + Sl := by omega
  refine hp_callV_a (v := .int v6) (H1 := H7) (As := [.int 4, .int 0, .int 8000000]) (rest := [.int p3, .ref a2]) d_Store_readPlace_10 (k_Store_readNumber z5 (C := H7.sh.length - H.sh.length) (Sl := H7.sl - H.sl) (by show H7.sh.length ≤ _; omega) (by show H7.sl ≤ _; omega)) (ab_mkC s_Store_readNumber (Nat.le_of_ble_eq_true rfl) (Nat.le_of_ble_eq_true rfl) (show (H.sh.length - c0) + (H7.sh.length - H.sh.length) ≤ C from by omega) (show (H.sl - s0) + (H7.sl - H.sl) ≤ Sl from by omega)) (k8 53 rfl rfl) i_Store_readNumber v_Store_readNumber q4 (by decide) rfl rfl (Nat.le_of_ble_eq_true rfl) ?_
  refine ab_widen (cells' := H7.sh.length - c0) (slots' := H7.sl - s0) (by show _ + (H7.sh.length - H.sh.length) ≤ _; omega) (by show _ + (H7.sl - H.sl) ≤ _; omega) ?_
  clear b_2l b_2s b_2m b_2n
  refine hp_iast d_Store_readPlace_13 tI q10 q11 ?_
  refine hp_genx eH12 ?_
  have s_35 : Sa H7 H12 := by rw [eH12]; exact Sa.rf _
  refine ab_aload_n d_Store_readPlace_14 rfl rfl rfl ?_
  refine ab_iconst (v := 1) d_Store_readPlace_15 (by decide) ?_
  refine ab_iconst (v := 0) d_Store_readPlace_16 (by decide) ?_
  refine ab_iconst (v := 1) d_Store_readPlace_17 (by decide) ?_
  refine bT_c hG (fun x16 H15 z13 er => ?_) (fun v14 H15 z13 hF => ?_)
  · subst er
    refine ab_widen (cells' := H12.sh.length - c0) (slots' := H12.sl - s0) (by rw [(s_35).1]; exact Nat.le_refl _) (by rw [(s_35).2]; exact Nat.le_refl _) ?_
    have mz : Mo H12 H15 := (m_Store_readNumber z13)
    have ml := mz.len
    have m2 := mz.2
    have be := congrArg List.length (s_35).1
    have bfx := (s_35).2
    have hC9 : H15.sh.length ≤ c0 + C := hC
    have hS9 : H15.sl ≤ s0 + Sl := hS
    refine hp_callV_t (x := x16) (H1 := H15) (As := [.int 1, .int 0, .int 1]) (rest := []) d_Store_readPlace_18 (k_Store_readNumber z13 (C := H15.sh.length - H12.sh.length) (Sl := H15.sl - H12.sl) (by show H15.sh.length ≤ _; omega) (by show H15.sl ≤ _; omega)) (ab_mkC s_Store_readNumber (Nat.le_of_ble_eq_true rfl) (Nat.le_of_ble_eq_true rfl) (show (H12.sh.length - c0) + (H15.sh.length - H12.sh.length) ≤ C from by omega) (show (H12.sl - s0) + (H15.sl - H12.sl) ≤ Sl from by omega)) (k8 53 rfl rfl) i_Store_readNumber v_Store_readNumber (by rw [(s_35).1]; exact q_4) (by decide) rfl rfl (Nat.le_of_ble_eq_true rfl) ?_
    exact ab_U_out rfl (by show _ + (H15.sh.length - H12.sh.length) ≤ C; omega) (by show _ + (H15.sl - H12.sl) ≤ Sl; omega) ⟨rfl, rfl⟩
  clear hG
  refine ab_widen (cells' := H12.sh.length - c0) (slots' := H12.sl - s0) (by rw [(s_35).1]; exact Nat.le_refl _) (by rw [(s_35).2]; exact Nat.le_refl _) ?_
  have mz_36 : Mo H12 H15 := (m_Store_readNumber z13)
  have b_37l := (mz_36).len
  have b_37s := (mz_36).2
  have b_37e := congrArg List.length (s_35).1
  have b_37f := (s_35).2
  have b_37c : c0 ≤ H15.sh.length := by omega
  have b_37d : s0 ≤ H15.sl := by omega
  have q_38 := (mz_36).get (by rw [(s_35).1]; exact q_3)
  have q_39 := (mz_36).get (by rw [(s_35).1]; exact q_4)
  have q_40 := (mz_36).get (by rw [(s_35).1]; exact q10)
  have fH15 : Mo H15 r.2 := by
    have hm := Mo.rf H15
    rcases ite_s hF with ⟨q_41, hG⟩ | ⟨q_41, hG⟩
    · clear hF
      have hr := Option.some.inj hG; subst hr
      exact hm
    · clear hF
      obtain ⟨q18, hF⟩ := ck_s hG; clear hG
      obtain ⟨x19, -, hG⟩ := bnd_g hF; clear hF
      refine bT_c hG (fun x23 H22 z20 er => ?_) (fun v21 H22 z20 hF => ?_)
      · subst er; exact hm.tr (m_Store_readParts z20)
      clear hG
      replace hm : Mo H15 H22 := hm.tr (m_Store_readParts z20)
      obtain ⟨v25, H26, z24, hG⟩ := bC_s hF; clear hF
      replace hm : Mo H15 H26 := hm.tr ((m_World_occupy z24)).mo
      exact hm.tr (mB_Store_readPlace_45 N v21 0 H26 r hG)
  have b_37m := (fH15).len
  have b_37n := (fH15).2
  have b_37p : H15.sh.length ≤ c0 + C := by omega
  have b_37q : H15.sl ≤ s0 + Sl := by omega
  refine hp_callV_a (v := .int v14) (H1 := H15) (As := [.int 1, .int 0, .int 1]) (rest := []) d_Store_readPlace_18 (k_Store_readNumber z13 (C := H15.sh.length - H12.sh.length) (Sl := H15.sl - H12.sl) (by show H15.sh.length ≤ _; omega) (by show H15.sl ≤ _; omega)) (ab_mkC s_Store_readNumber (Nat.le_of_ble_eq_true rfl) (Nat.le_of_ble_eq_true rfl) (show (H12.sh.length - c0) + (H15.sh.length - H12.sh.length) ≤ C from by omega) (show (H12.sl - s0) + (H15.sl - H12.sl) ≤ Sl from by omega)) (k8 53 rfl rfl) i_Store_readNumber v_Store_readNumber (by rw [(s_35).1]; exact q_4) (by decide) rfl rfl (Nat.le_of_ble_eq_true rfl) ?_
  refine ab_widen (cells' := H15.sh.length - c0) (slots' := H15.sl - s0) (by show _ + (H15.sh.length - H12.sh.length) ≤ _; omega) (by show _ + (H15.sl - H12.sl) ≤ _; omega) ?_
  clear b_37l b_37s b_37m b_37n b_37e b_37f b_2c b_2d b_2p b_2q
  refine ab_if_ne (tgt := 25) d_Store_readPlace_21 (by decide) (fun q17 => ?_) (fun q17 => ?_)
  · rw [if_neg q17] at hF
    refine ab_aload_n d_Store_readPlace_25 rfl rfl rfl ?_
    refine ab_aload_n d_Store_readPlace_26 rfl rfl rfl ?_
    obtain ⟨q18, hG⟩ := ck_s hF; clear hF
    refine hp_getI (f := 3) d_Store_readPlace_27 q18 (by decide) rfl (by decide) (k3 40 rfl rfl) rfl ?_
    refine ab_topi (fun x19 ex19 => ?_)
    replace hG := bnd_s ex19 hG
    refine bT_c hG (fun x23 H22 z20 er => ?_) (fun v21 H22 z20 hF => ?_)
    · subst er
      have mz : Mo H15 H22 := (m_Store_readParts z20)
      have ml := mz.len
      have m2 := mz.2
      have hC9 : H22.sh.length ≤ c0 + C := hC
      have hS9 : H22.sl ≤ s0 + Sl := hS
      refine hp_callV_t (x := x23) (H1 := H22) (As := [.int x19]) (rest := []) d_Store_readPlace_30 (k_Store_readParts z20 (C := H22.sh.length - H15.sh.length) (Sl := H22.sl - H15.sl) (by show H22.sh.length ≤ _; omega) (by show H22.sl ≤ _; omega)) (ab_mkC s_Store_readParts (Nat.le_of_ble_eq_true rfl) (Nat.le_of_ble_eq_true rfl) (show (H15.sh.length - c0) + (H22.sh.length - H15.sh.length) ≤ C from by omega) (show (H15.sl - s0) + (H22.sl - H15.sl) ≤ Sl from by omega)) (k8 72 rfl rfl) i_Store_readParts v_Store_readParts q_39 (by decide) rfl rfl (Nat.le_of_ble_eq_true rfl) ?_
      exact ab_U_out rfl (by show _ + (H22.sh.length - H15.sh.length) ≤ C; omega) (by show _ + (H22.sl - H15.sl) ≤ Sl; omega) ⟨rfl, rfl⟩
    clear hG
    have mz_47 : Mo H15 H22 := (m_Store_readParts z20)
    have b_48l := (mz_47).len
    have b_48s := (mz_47).2
    have b_48c : c0 ≤ H22.sh.length := by omega
    have b_48d : s0 ≤ H22.sl := by omega
    have q_49 := (mz_47).get q_38
    have q_50 := (mz_47).get q_39
    have q_51 := (mz_47).get q_40
    have q_52 := (mz_47).get q18
    obtain ⟨v25, H26, z24, hG⟩ := bC_s hF; clear hF
    have jH26 : Mo H22 H26 := ((m_World_occupy z24)).mo
    have fH26 : Mo H26 r.2 := by
      have hm := Mo.rf H26
      exact hm.tr (mB_Store_readPlace_45 N v21 0 H26 r hG)
    have fH22 : Mo H22 r.2 := jH26.tr fH26
    have b_48m := (fH22).len
    have b_48n := (fH22).2
    have b_48p : H22.sh.length ≤ c0 + C := by omega
    have b_48q : H22.sl ≤ s0 + Sl := by omega
    refine hp_callV_a (v := .int v21) (H1 := H22) (As := [.int x19]) (rest := []) d_Store_readPlace_30 (k_Store_readParts z20 (C := H22.sh.length - H15.sh.length) (Sl := H22.sl - H15.sl) (by show H22.sh.length ≤ _; omega) (by show H22.sl ≤ _; omega)) (ab_mkC s_Store_readParts (Nat.le_of_ble_eq_true rfl) (Nat.le_of_ble_eq_true rfl) (show (H15.sh.length - c0) + (H22.sh.length - H15.sh.length) ≤ C from by omega) (show (H15.sl - s0) + (H22.sl - H15.sl) ≤ Sl from by omega)) (k8 72 rfl rfl) i_Store_readParts v_Store_readParts q_39 (by decide) rfl rfl (Nat.le_of_ble_eq_true rfl) ?_
    refine ab_widen (cells' := H22.sh.length - c0) (slots' := H22.sl - s0) (by show _ + (H22.sh.length - H15.sh.length) ≤ _; omega) (by show _ + (H22.sl - H15.sl) ≤ _; omega) ?_
    clear b_48l b_48s b_48m b_48n b_37c b_37d b_37p b_37q
    refine ab_istore (lv' := [some (.ref p0), some (.ref p1), some (.ref p2), some (.int p3), some (.int v21), none, none]) d_Store_readPlace_33 (by decide) rfl ?_
    refine ab_aload_n d_Store_readPlace_35 rfl rfl rfl ?_
    refine ab_iload_n d_Store_readPlace_36 rfl rfl ?_
    refine ab_iload d_Store_readPlace_37 rfl ?_
    refine hp_callV_v (H1 := H26) (As := [.int p3, .int v21]) (rest := []) d_Store_readPlace_39 (k_World_occupy z24) (ab_mkC s_World_occupy (Nat.le_of_ble_eq_true rfl) (Nat.le_of_ble_eq_true rfl) (show (H22.sh.length - c0) + 0 ≤ C from by omega) (show (H22.sl - s0) + 0 ≤ Sl from by omega)) (k8 76 rfl rfl) i_World_occupy v_World_occupy q_49 (by decide) rfl rfl (Nat.le_of_ble_eq_true rfl) ?_
    have s_55 : Sa H22 H26 := (m_World_occupy z24)
    refine ab_widen (cells' := H22.sh.length - c0) (slots' := H22.sl - s0) (by show (H22.sh.length - c0) + 0 ≤ _; omega) (by show (H22.sl - s0) + 0 ≤ _; omega) ?_
    refine ab_iconst (v := 0) d_Store_readPlace_42 (by decide) ?_
    refine ab_istore (lv' := [some (.ref p0), some (.ref p1), some (.ref p2), some (.int p3), some (.int v21), some (.int 0), none]) d_Store_readPlace_43 (by decide) rfl ?_
    refine ab_widen (cells' := H26.sh.length - c0) (slots' := H26.sl - s0) (by rw [(s_55).1]; exact Nat.le_refl _) (by rw [(s_55).2]; exact Nat.le_refl _) ?_
    exact kB_Store_readPlace_45 N v21 0 H26 r hG (by rw [(s_55).1]; exact b_48c) (by rw [(s_55).2]; exact b_48d) (by rw [(s_55).1]; exact b_48p) (by rw [(s_55).2]; exact b_48q) hC hS
  · rw [if_pos q17] at hF
    exact ab_vret d_Store_readPlace_24 rfl (by show _ ≤ C; omega) (by show _ ≤ Sl; omega) (by have hr := Option.some.inj hF; subst hr; exact ⟨rfl, rfl⟩)
