def y_Body_deepen : ab_Y := (⟨"WorldEngine$Body", "deepen", "()V"⟩, prog_2_method_6_code, 1, none, [])
theorem d_Body_deepen_0 : decode y_Body_deepen.2.1 0 = .ok (.aload_n 0, 1) := by decide +kernel
theorem d_Body_deepen_1 : decode y_Body_deepen.2.1 1 = .ok (.getfield 36, 3) := by decide +kernel
theorem d_Body_deepen_4 : decode y_Body_deepen.2.1 4 = .ok (.bipush 20, 2) := by decide +kernel
theorem d_Body_deepen_6 : decode y_Body_deepen.2.1 6 = .ok (.if_icmp .lt 18, 3) := by decide +kernel
theorem d_Body_deepen_9 : decode y_Body_deepen.2.1 9 = .ok (.aload_n 0, 1) := by decide +kernel
theorem d_Body_deepen_10 : decode y_Body_deepen.2.1 10 = .ok (.getfield 7, 3) := by decide +kernel
theorem d_Body_deepen_13 : decode y_Body_deepen.2.1 13 = .ok (.iconst 2, 1) := by decide +kernel
theorem d_Body_deepen_14 : decode y_Body_deepen.2.1 14 = .ok (.aload_n 0, 1) := by decide +kernel
theorem d_Body_deepen_15 : decode y_Body_deepen.2.1 15 = .ok (.getfield 7, 3) := by decide +kernel
theorem d_Body_deepen_18 : decode y_Body_deepen.2.1 18 = .ok (.getfield 96, 3) := by decide +kernel
theorem d_Body_deepen_21 : decode y_Body_deepen.2.1 21 = .ok (.invokevirtual 99, 3) := by decide +kernel
theorem d_Body_deepen_24 : decode y_Body_deepen.2.1 24 = .ok (.aload_n 0, 1) := by decide +kernel
theorem d_Body_deepen_25 : decode y_Body_deepen.2.1 25 = .ok (.dup, 1) := by decide +kernel
theorem d_Body_deepen_26 : decode y_Body_deepen.2.1 26 = .ok (.getfield 36, 3) := by decide +kernel
theorem d_Body_deepen_29 : decode y_Body_deepen.2.1 29 = .ok (.iconst 1, 1) := by decide +kernel
theorem d_Body_deepen_30 : decode y_Body_deepen.2.1 30 = .ok (.iadd, 1) := by decide +kernel
theorem d_Body_deepen_31 : decode y_Body_deepen.2.1 31 = .ok (.putfield 36, 3) := by decide +kernel
theorem d_Body_deepen_34 : decode y_Body_deepen.2.1 34 = .ok (.return_, 1) := by decide +kernel
theorem s_Body_deepen : ab_Stat y_Body_deepen 0 := ⟨(k5 156 rfl rfl), (k1 8 rfl rfl), ⟨by decide, by decide⟩, by decide +kernel⟩
theorem i_Body_deepen : Cond.instanceMethod y_Body_deepen.1 ∈ ab_T := (k5 155 rfl rfl)
theorem v_Body_deepen : Cond.selects "WorldEngine$Body" y_Body_deepen.1 y_Body_deepen.1 ∈ ab_T := ab_s (List.mem_of_getElem? (i := 29) rfl) rfl
def B_Body_deepen_24 (N : Nat) (p0 : Nat)  (H : Hp) : Option ((Ot Unit) × Hp) :=
    ck (H.sh[p0]? = some (6, 0)) <|
    bnd ((H.D p0 6)) fun x5 =>
    bnd (H.sD p0 6 (x5 + (1 : Int32))) fun H6 =>
    some (.inl (), H6)
set_option maxRecDepth 20000 in
set_option maxHeartbeats 2000000 in
theorem mB_Body_deepen_24 {N : Nat} {p0 : Nat}  {H : Hp} {r : (Ot Unit) × Hp} (hF : B_Body_deepen_24 N p0  H = some r) : Mo H r.2 := by
  unfold B_Body_deepen_24 at hF
  have hm := Mo.rf H
  obtain ⟨q7, hG⟩ := ck_s hF; clear hF
  obtain ⟨x8, -, hF⟩ := bnd_g hG; clear hG
  obtain ⟨H9, eH9, hG⟩ := bnd_g hF; clear hF
  replace hm : Mo H H9 := by rw [eH9]; exact hm
  have hr := Option.some.inj hG; subst hr
  exact hm
set_option maxRecDepth 20000 in
set_option maxHeartbeats 2000000 in
theorem kB_Body_deepen_24 {N : Nat} {p0 : Nat} {c0 s0 C Sl : Nat}  {H : Hp} {r : (Ot Unit) × Hp} (hF : B_Body_deepen_24 N p0  H = some r) (hc0 : c0 ≤ H.sh.length) (hs0 : s0 ≤ H.sl) (hcc : H.sh.length ≤ c0 + C) (hss : H.sl ≤ s0 + Sl) (hC : r.2.sh.length ≤ c0 + C) (hS : r.2.sl ≤ s0 + Sl) : ab_V y_Body_deepen { frames := 7, cells := C, slots := Sl, locals := 122 } (po (oV r.1) r.2) C Sl (H.sh.length - c0) (H.sl - s0) 24 [some (.ref p0)] [] (hpw H) := by
  unfold B_Body_deepen_24 at hF
  refine ab_aload_n d_Body_deepen_24 rfl rfl rfl ?_
  refine ab_dup d_Body_deepen_25 rfl ?_
  obtain ⟨q4, hG⟩ := ck_s hF; clear hF
  refine hp_getI (f := 6) d_Body_deepen_26 q4 (by decide) rfl (by decide) (k1 163 rfl rfl) rfl ?_
  refine ab_topi (fun x5 ex5 => ?_)
  replace hG := bnd_s ex5 hG
  refine ab_iconst (v := 1) d_Body_deepen_29 (by decide) ?_
  refine ab_iadd d_Body_deepen_30 ?_
  refine hp_putI (v := x5 + (1 : Int32)) (f := 6) d_Body_deepen_31 q4 (by decide) rfl (by decide) (k1 163 rfl rfl) rfl rfl (fun _ => rfl) (fun _ => rfl) rfl ?_
  refine hp_gen (fun H6 eH6 => ?_)
  replace hG := bnd_s eH6 hG
  have s_1 : Sa H H6 := by rw [eH6]; exact Sa.rf _
  exact ab_vret d_Body_deepen_34 rfl (by show _ ≤ C; omega) (by show _ ≤ Sl; omega) (by have hr := Option.some.inj hG; subst hr; exact ⟨rfl, rfl⟩)
def F_Body_deepen (N : Nat) (p0 : Nat) (H : Hp) : Option ((Ot Unit) × Hp) :=
    ck (H.sh[p0]? = some (6, 0)) <|
    bnd ((H.D p0 6)) fun x2 =>
    if x2 < (20 : Int32) then
    B_Body_deepen_24 N p0  H
    else
    rf (H.P p0 0) fun a10 =>
    rf (H.P p0 0) fun a12 =>
    ck (H.sh[a12]? = some (1, 0)) <|
    bnd ((H.D a12 3)) fun x15 =>
    ck (H.sh[a10]? = some (1, 0)) <|
    bT (F_Lexer_refuse N a10 (2 : Int32) x15 H) fun v18 H19 =>
    B_Body_deepen_24 N p0  H19
set_option maxRecDepth 20000 in
set_option maxHeartbeats 2000000 in
theorem m_Body_deepen {N : Nat} {p0 : Nat} {H : Hp} {r : (Ot Unit) × Hp} (hF : F_Body_deepen N p0 H = some r) : Mo H r.2 := by
  unfold F_Body_deepen at hF
  have hm := Mo.rf H
  obtain ⟨q21, hG⟩ := ck_s hF; clear hF
  obtain ⟨x22, -, hF⟩ := bnd_g hG; clear hG
  rcases ite_s hF with ⟨q_8, hG⟩ | ⟨q_8, hG⟩
  · clear hF
    exact hm.tr (mB_Body_deepen_24 hG)
  · clear hF
    obtain ⟨a24, e25, hF⟩ := rf_s hG; clear hG
    obtain ⟨a26, e27, hG⟩ := rf_s hF; clear hF
    obtain ⟨q28, hF⟩ := ck_s hG; clear hG
    obtain ⟨x29, -, hG⟩ := bnd_g hF; clear hF
    obtain ⟨q30, hF⟩ := ck_s hG; clear hG
    refine bT_c hF (fun x34 H33 z31 er => ?_) (fun v32 H33 z31 hG => ?_)
    · subst er; exact hm.tr (m_Lexer_refuse z31)
    clear hF
    replace hm : Mo H H33 := hm.tr (m_Lexer_refuse z31)
    exact hm.tr (mB_Body_deepen_24 hG)
set_option maxRecDepth 20000 in
set_option maxHeartbeats 2000000 in
theorem k_Body_deepen {N : Nat} {p0 : Nat} {H : Hp} {r : (Ot Unit) × Hp} {C Sl : Nat} (hF : F_Body_deepen N p0 H = some r) (hC : r.2.sh.length ≤ H.sh.length + C) (hS : r.2.sl ≤ H.sl + Sl) : ab_M y_Body_deepen { frames := 7, cells := C, slots := Sl, locals := 122 } [.ref p0] (hpw H) (po (oV r.1) r.2) := by
  unfold F_Body_deepen at hF
  obtain ⟨c0, e0⟩ : ∃ q, q = H.sh.length := ⟨_, rfl⟩
  obtain ⟨s0, e1⟩ : ∃ q, q = H.sl := ⟨_, rfl⟩
  rw [← e0] at hC
  rw [← e1] at hS
  have hc0 : c0 ≤ H.sh.length := Nat.le_of_eq e0
  have hs0 : s0 ≤ H.sl := Nat.le_of_eq e1
  have hcc : H.sh.length ≤ c0 + C := by omega
  have hss : H.sl ≤ s0 + Sl := by omega
  refine ab_of2 (lv := [some (.ref p0)]) 0 rfl rfl (Nat.le_of_ble_eq_true rfl) ?_
  refine ab_widen (cells' := H.sh.length - c0) (slots' := H.sl - s0) (Nat.zero_le _) (Nat.zero_le _) ?_
  refine ab_aload_n d_Body_deepen_0 rfl rfl rfl ?_
  obtain ⟨q1, hG⟩ := ck_s hF; clear hF
  refine hp_getI (f := 6) d_Body_deepen_1 q1 (by decide) rfl (by decide) (k1 163 rfl rfl) rfl ?_
  refine ab_topi (fun x2 ex2 => ?_)
  replace hG := bnd_s ex2 hG
  refine ab_bipush (v := 20) d_Body_deepen_4 (by decide) ?_
  refine ab_icmp_lt (tgt := 24) d_Body_deepen_6 (by decide) (fun q3 => ?_) (fun q3 => ?_)
  · rw [if_pos q3] at hG
    exact kB_Body_deepen_24 hG hc0 hs0 hcc hss hC hS
  · rw [if_neg q3] at hG
    refine ab_aload_n d_Body_deepen_9 rfl rfl rfl ?_
    obtain ⟨a10, e11, hF⟩ := rf_s hG; clear hG
    refine hp_getR (f := 0) d_Body_deepen_10 q1 (by decide) rfl (by decide) (k1 157 rfl rfl) rfl e11 ?_
    refine ab_iconst (v := 2) d_Body_deepen_13 (by decide) ?_
    refine ab_aload_n d_Body_deepen_14 rfl rfl rfl ?_
    obtain ⟨a12, e13, hG⟩ := rf_s hF; clear hF
    refine hp_getR (f := 0) d_Body_deepen_15 q1 (by decide) rfl (by decide) (k1 157 rfl rfl) rfl e13 ?_
    obtain ⟨q14, hF⟩ := ck_s hG; clear hG
    refine hp_getI (f := 3) d_Body_deepen_18 q14 (by decide) rfl (by decide) (k1 103 rfl rfl) rfl ?_
    refine ab_topi (fun x15 ex15 => ?_)
    replace hF := bnd_s ex15 hF
    obtain ⟨q16, hG⟩ := ck_s hF; clear hF
    refine bT_c hG (fun x20 H19 z17 er => ?_) (fun v18 H19 z17 hF => ?_)
    · subst er
      have mz : Mo H H19 := (m_Lexer_refuse z17)
      have ml := mz.len
      have m2 := mz.2
      have hC9 : H19.sh.length ≤ c0 + C := hC
      have hS9 : H19.sl ≤ s0 + Sl := hS
      refine hp_callV_t (x := x20) (H1 := H19) (As := [.int 2, .int x15]) (rest := []) d_Body_deepen_21 (k_Lexer_refuse z17 (C := H19.sh.length - H.sh.length) (Sl := H19.sl - H.sl) (by show H19.sh.length ≤ _; omega) (by show H19.sl ≤ _; omega)) (ab_mkC s_Lexer_refuse (Nat.le_of_ble_eq_true rfl) (Nat.le_of_ble_eq_true rfl) (show (H.sh.length - c0) + (H19.sh.length - H.sh.length) ≤ C from by omega) (show (H.sl - s0) + (H19.sl - H.sl) ≤ Sl from by omega)) (k5 135 rfl rfl) i_Lexer_refuse v_Lexer_refuse q16 (by decide) rfl rfl (Nat.le_of_ble_eq_true rfl) ?_
      exact ab_U_out rfl (by show _ + (H19.sh.length - H.sh.length) ≤ C; omega) (by show _ + (H19.sl - H.sl) ≤ Sl; omega) ⟨rfl, rfl⟩
    clear hG
    have mz_3 : Mo H H19 := (m_Lexer_refuse z17)
    have b_4l := (mz_3).len
    have b_4s := (mz_3).2
    have b_4c : c0 ≤ H19.sh.length := by omega
    have b_4d : s0 ≤ H19.sl := by omega
    have q_5 := (mz_3).get q1
    have q_6 := (mz_3).get q14
    have q_7 := (mz_3).get q16
    have fH19 : Mo H19 r.2 := by
      have hm := Mo.rf H19
      exact hm.tr (mB_Body_deepen_24 hF)
    have b_4m := (fH19).len
    have b_4n := (fH19).2
    have b_4p : H19.sh.length ≤ c0 + C := by omega
    have b_4q : H19.sl ≤ s0 + Sl := by omega
    refine hp_callV_v (H1 := H19) (As := [.int 2, .int x15]) (rest := []) d_Body_deepen_21 (k_Lexer_refuse z17 (C := H19.sh.length - H.sh.length) (Sl := H19.sl - H.sl) (by show H19.sh.length ≤ _; omega) (by show H19.sl ≤ _; omega)) (ab_mkC s_Lexer_refuse (Nat.le_of_ble_eq_true rfl) (Nat.le_of_ble_eq_true rfl) (show (H.sh.length - c0) + (H19.sh.length - H.sh.length) ≤ C from by omega) (show (H.sl - s0) + (H19.sl - H.sl) ≤ Sl from by omega)) (k5 135 rfl rfl) i_Lexer_refuse v_Lexer_refuse q16 (by decide) rfl rfl (Nat.le_of_ble_eq_true rfl) ?_
    refine ab_widen (cells' := H19.sh.length - c0) (slots' := H19.sl - s0) (by show _ + (H19.sh.length - H.sh.length) ≤ _; omega) (by show _ + (H19.sl - H.sl) ≤ _; omega) ?_
    clear b_4l b_4s b_4m b_4n
    exact kB_Body_deepen_24 hF b_4c b_4d b_4p b_4q hC hS
def y_Body_openParens : ab_Y := (⟨"WorldEngine$Body", "openParens", "()V"⟩, prog_2_method_31_code, 1, none, [])
theorem d_Body_openParens_0 : decode y_Body_openParens.2.1 0 = .ok (.aload_n 0, 1) := by decide +kernel
theorem d_Body_openParens_1 : decode y_Body_openParens.2.1 1 = .ok (.getfield 7, 3) := by decide +kernel
theorem d_Body_openParens_4 : decode y_Body_openParens.2.1 4 = .ok (.getfield 45, 3) := by decide +kernel
theorem d_Body_openParens_7 : decode y_Body_openParens.2.1 7 = .ok (.bipush 12, 2) := by decide +kernel
theorem d_Body_openParens_9 : decode y_Body_openParens.2.1 9 = .ok (.if_icmp .eq 18, 3) := by decide +kernel
theorem d_Body_openParens_12 : decode y_Body_openParens.2.1 12 = .ok (.aload_n 0, 1) := by decide +kernel
theorem d_Body_openParens_13 : decode y_Body_openParens.2.1 13 = .ok (.getfield 7, 3) := by decide +kernel
theorem d_Body_openParens_16 : decode y_Body_openParens.2.1 16 = .ok (.iconst 1, 1) := by decide +kernel
theorem d_Body_openParens_17 : decode y_Body_openParens.2.1 17 = .ok (.aload_n 0, 1) := by decide +kernel
theorem d_Body_openParens_18 : decode y_Body_openParens.2.1 18 = .ok (.getfield 7, 3) := by decide +kernel
theorem d_Body_openParens_21 : decode y_Body_openParens.2.1 21 = .ok (.getfield 96, 3) := by decide +kernel
theorem d_Body_openParens_24 : decode y_Body_openParens.2.1 24 = .ok (.invokevirtual 99, 3) := by decide +kernel
theorem d_Body_openParens_27 : decode y_Body_openParens.2.1 27 = .ok (.aload_n 0, 1) := by decide +kernel
theorem d_Body_openParens_28 : decode y_Body_openParens.2.1 28 = .ok (.invokevirtual 103, 3) := by decide +kernel
theorem d_Body_openParens_31 : decode y_Body_openParens.2.1 31 = .ok (.aload_n 0, 1) := by decide +kernel
theorem d_Body_openParens_32 : decode y_Body_openParens.2.1 32 = .ok (.getfield 7, 3) := by decide +kernel
theorem d_Body_openParens_35 : decode y_Body_openParens.2.1 35 = .ok (.invokevirtual 93, 3) := by decide +kernel
theorem d_Body_openParens_38 : decode y_Body_openParens.2.1 38 = .ok (.return_, 1) := by decide +kernel
theorem s_Body_openParens : ab_Stat y_Body_openParens 0 := ⟨(k5 164 rfl rfl), (k1 8 rfl rfl), ⟨by decide, by decide⟩, by decide +kernel⟩
theorem i_Body_openParens : Cond.instanceMethod y_Body_openParens.1 ∈ ab_T := (k5 163 rfl rfl)
theorem v_Body_openParens : Cond.selects "WorldEngine$Body" y_Body_openParens.1 y_Body_openParens.1 ∈ ab_T := ab_s (List.mem_of_getElem? (i := 31) rfl) rfl
def B_Body_openParens_27 (N : Nat) (p0 : Nat)  (H : Hp) : Option ((Ot Unit) × Hp) :=
    ck (H.sh[p0]? = some (6, 0)) <|
    bT (F_Body_deepen N p0 H) fun v9 H10 =>
    rf (H10.P p0 0) fun a12 =>
    ck (H10.sh[a12]? = some (1, 0)) <|
    bC (F_Lexer_advance N a12 H10) fun v16 H17 =>
    some (.inl (), H17)
set_option maxRecDepth 20000 in
set_option maxHeartbeats 2000000 in
theorem mB_Body_openParens_27 {N : Nat} {p0 : Nat}  {H : Hp} {r : (Ot Unit) × Hp} (hF : B_Body_openParens_27 N p0  H = some r) : Mo H r.2 := by
  unfold B_Body_openParens_27 at hF
  have hm := Mo.rf H
  obtain ⟨q18, hG⟩ := ck_s hF; clear hF
  refine bT_c hG (fun x22 H21 z19 er => ?_) (fun v20 H21 z19 hF => ?_)
  · subst er; exact hm.tr (m_Body_deepen z19)
  clear hG
  replace hm : Mo H H21 := hm.tr (m_Body_deepen z19)
  obtain ⟨a23, e24, hG⟩ := rf_s hF; clear hF
  obtain ⟨q25, hF⟩ := ck_s hG; clear hG
  obtain ⟨v27, H28, z26, hG⟩ := bC_s hF; clear hF
  replace hm : Mo H H28 := hm.tr ((m_Lexer_advance z26)).mo
  have hr := Option.some.inj hG; subst hr
  exact hm
set_option maxRecDepth 20000 in
set_option maxHeartbeats 2000000 in
theorem kB_Body_openParens_27 {N : Nat} {p0 : Nat} {c0 s0 C Sl : Nat}  {H : Hp} {r : (Ot Unit) × Hp} (hF : B_Body_openParens_27 N p0  H = some r) (hc0 : c0 ≤ H.sh.length) (hs0 : s0 ≤ H.sl) (hcc : H.sh.length ≤ c0 + C) (hss : H.sl ≤ s0 + Sl) (hC : r.2.sh.length ≤ c0 + C) (hS : r.2.sl ≤ s0 + Sl) : ab_V y_Body_openParens { frames := 8, cells := C, slots := Sl, locals := 142 } (po (oV r.1) r.2) C Sl (H.sh.length - c0) (H.sl - s0) 27 [some (.ref p0)] [] (hpw H) := by
  unfold B_Body_openParens_27 at hF
  refine ab_aload_n d_Body_openParens_27 rfl rfl rfl ?_
  obtain ⟨q7, hG⟩ := ck_s hF; clear hF
  refine bT_c hG (fun x11 H10 z8 er => ?_) (fun v9 H10 z8 hF => ?_)
  · subst er
    have mz : Mo H H10 := (m_Body_deepen z8)
    have ml := mz.len
    have m2 := mz.2
    have hC9 : H10.sh.length ≤ c0 + C := hC
    have hS9 : H10.sl ≤ s0 + Sl := hS
    refine hp_callV_t (x := x11) (H1 := H10) (As := []) (rest := []) d_Body_openParens_28 (k_Body_deepen z8 (C := H10.sh.length - H.sh.length) (Sl := H10.sl - H.sl) (by show H10.sh.length ≤ _; omega) (by show H10.sl ≤ _; omega)) (ab_mkC s_Body_deepen (Nat.le_of_ble_eq_true rfl) (Nat.le_of_ble_eq_true rfl) (show (H.sh.length - c0) + (H10.sh.length - H.sh.length) ≤ C from by omega) (show (H.sl - s0) + (H10.sl - H.sl) ≤ Sl from by omega)) (k5 153 rfl rfl) i_Body_deepen v_Body_deepen q7 (by decide) rfl rfl (Nat.le_of_ble_eq_true rfl) ?_
    exact ab_U_out rfl (by show _ + (H10.sh.length - H.sh.length) ≤ C; omega) (by show _ + (H10.sl - H.sl) ≤ Sl; omega) ⟨rfl, rfl⟩
  clear hG
  have mz_1 : Mo H H10 := (m_Body_deepen z8)
  have b_2l := (mz_1).len
  have b_2s := (mz_1).2
  have b_2c : c0 ≤ H10.sh.length := by omega
  have b_2d : s0 ≤ H10.sl := by omega
  have q_3 := (mz_1).get q7
  obtain ⟨a12, e13, hG⟩ := rf_s hF; clear hF
  obtain ⟨q14, hF⟩ := ck_s hG; clear hG
  obtain ⟨v16, H17, z15, hG⟩ := bC_s hF; clear hF
  have jH17 : Mo H10 H17 := ((m_Lexer_advance z15)).mo
  have fH17 : Mo H17 r.2 := by
    have hm := Mo.rf H17
    have hr := Option.some.inj hG; subst hr
    exact hm
  have fH10 : Mo H10 r.2 := jH17.tr fH17
  have b_2m := (fH10).len
  have b_2n := (fH10).2
  have b_2p : H10.sh.length ≤ c0 + C := by omega
  have b_2q : H10.sl ≤ s0 + Sl := by omega
  refine hp_callV_v (H1 := H10) (As := []) (rest := []) d_Body_openParens_28 (k_Body_deepen z8 (C := H10.sh.length - H.sh.length) (Sl := H10.sl - H.sl) (by show H10.sh.length ≤ _; omega) (by show H10.sl ≤ _; omega)) (ab_mkC s_Body_deepen (Nat.le_of_ble_eq_true rfl) (Nat.le_of_ble_eq_true rfl) (show (H.sh.length - c0) + (H10.sh.length - H.sh.length) ≤ C from by omega) (show (H.sl - s0) + (H10.sl - H.sl) ≤ Sl from by omega)) (k5 153 rfl rfl) i_Body_deepen v_Body_deepen q7 (by decide) rfl rfl (Nat.le_of_ble_eq_true rfl) ?_
  refine ab_widen (cells' := H10.sh.length - c0) (slots' := H10.sl - s0) (by show _ + (H10.sh.length - H.sh.length) ≤ _; omega) (by show _ + (H10.sl - H.sl) ≤ _; omega) ?_
  clear b_2l b_2s b_2m b_2n
  refine ab_aload_n d_Body_openParens_31 rfl rfl rfl ?_
  refine hp_getR (f := 0) d_Body_openParens_32 q_3 (by decide) rfl (by decide) (k1 157 rfl rfl) rfl e13 ?_
  refine hp_callV_v (H1 := H17) (As := []) (rest := []) d_Body_openParens_35 (k_Lexer_advance z15) (ab_mkC s_Lexer_advance (Nat.le_of_ble_eq_true rfl) (Nat.le_of_ble_eq_true rfl) (show (H10.sh.length - c0) + 0 ≤ C from by omega) (show (H10.sl - s0) + 0 ≤ Sl from by omega)) (k5 129 rfl rfl) i_Lexer_advance v_Lexer_advance q14 (by decide) rfl rfl (Nat.le_of_ble_eq_true rfl) ?_
  have s_6 : Sa H10 H17 := (m_Lexer_advance z15)
  refine ab_widen (cells' := H10.sh.length - c0) (slots' := H10.sl - s0) (by show (H10.sh.length - c0) + 0 ≤ _; omega) (by show (H10.sl - s0) + 0 ≤ _; omega) ?_
  exact ab_vret d_Body_openParens_38 rfl (by show _ ≤ C; omega) (by show _ ≤ Sl; omega) (by have hr := Option.some.inj hG; subst hr; exact ⟨rfl, rfl⟩)
def F_Body_openParens (N : Nat) (p0 : Nat) (H : Hp) : Option ((Ot Unit) × Hp) :=
    ck (H.sh[p0]? = some (6, 0)) <|
    rf (H.P p0 0) fun a2 =>
    ck (H.sh[a2]? = some (1, 0)) <|
    bnd ((H.D a2 2)) fun x5 =>
    if x5 = (12 : Int32) then
    B_Body_openParens_27 N p0  H
    else
    rf (H.P p0 0) fun a29 =>
    rf (H.P p0 0) fun a31 =>
    ck (H.sh[a31]? = some (1, 0)) <|
    bnd ((H.D a31 3)) fun x34 =>
    ck (H.sh[a29]? = some (1, 0)) <|
    bT (F_Lexer_refuse N a29 (1 : Int32) x34 H) fun v37 H38 =>
    B_Body_openParens_27 N p0  H38
set_option maxRecDepth 20000 in
set_option maxHeartbeats 2000000 in
theorem m_Body_openParens {N : Nat} {p0 : Nat} {H : Hp} {r : (Ot Unit) × Hp} (hF : F_Body_openParens N p0 H = some r) : Mo H r.2 := by
  unfold F_Body_openParens at hF
  have hm := Mo.rf H
  obtain ⟨q40, hG⟩ := ck_s hF; clear hF
  obtain ⟨a41, e42, hF⟩ := rf_s hG; clear hG
  obtain ⟨q43, hG⟩ := ck_s hF; clear hF
  obtain ⟨x44, -, hF⟩ := bnd_g hG; clear hG
  rcases ite_s hF with ⟨q_15, hG⟩ | ⟨q_15, hG⟩
  · clear hF
    exact hm.tr (mB_Body_openParens_27 hG)
  · clear hF
    obtain ⟨a46, e47, hF⟩ := rf_s hG; clear hG
    obtain ⟨a48, e49, hG⟩ := rf_s hF; clear hF
    obtain ⟨q50, hF⟩ := ck_s hG; clear hG
    obtain ⟨x51, -, hG⟩ := bnd_g hF; clear hF
    obtain ⟨q52, hF⟩ := ck_s hG; clear hG
    refine bT_c hF (fun x56 H55 z53 er => ?_) (fun v54 H55 z53 hG => ?_)
    · subst er; exact hm.tr (m_Lexer_refuse z53)
    clear hF
    replace hm : Mo H H55 := hm.tr (m_Lexer_refuse z53)
    exact hm.tr (mB_Body_openParens_27 hG)
set_option maxRecDepth 20000 in
set_option maxHeartbeats 2000000 in
theorem k_Body_openParens {N : Nat} {p0 : Nat} {H : Hp} {r : (Ot Unit) × Hp} {C Sl : Nat} (hF : F_Body_openParens N p0 H = some r) (hC : r.2.sh.length ≤ H.sh.length + C) (hS : r.2.sl ≤ H.sl + Sl) : ab_M y_Body_openParens { frames := 8, cells := C, slots := Sl, locals := 142 } [.ref p0] (hpw H) (po (oV r.1) r.2) := by
  unfold F_Body_openParens at hF
  obtain ⟨c0, e0⟩ : ∃ q, q = H.sh.length := ⟨_, rfl⟩
  obtain ⟨s0, e1⟩ : ∃ q, q = H.sl := ⟨_, rfl⟩
  rw [← e0] at hC
  rw [← e1] at hS
  have hc0 : c0 ≤ H.sh.length := Nat.le_of_eq e0
  have hs0 : s0 ≤ H.sl := Nat.le_of_eq e1
  have hcc : H.sh.length ≤ c0 + C := by omega
  have hss : H.sl ≤ s0 + Sl := by omega
  refine ab_of2 (lv := [some (.ref p0)]) 0 rfl rfl (Nat.le_of_ble_eq_true rfl) ?_
  refine ab_widen (cells' := H.sh.length - c0) (slots' := H.sl - s0) (Nat.zero_le _) (Nat.zero_le _) ?_
  refine ab_aload_n d_Body_openParens_0 rfl rfl rfl ?_
  obtain ⟨q1, hG⟩ := ck_s hF; clear hF
  obtain ⟨a2, e3, hF⟩ := rf_s hG; clear hG
  refine hp_getR (f := 0) d_Body_openParens_1 q1 (by decide) rfl (by decide) (k1 157 rfl rfl) rfl e3 ?_
  obtain ⟨q4, hG⟩ := ck_s hF; clear hF
  refine hp_getI (f := 2) d_Body_openParens_4 q4 (by decide) rfl (by decide) (k1 99 rfl rfl) rfl ?_
  refine ab_topi (fun x5 ex5 => ?_)
  replace hG := bnd_s ex5 hG
  refine ab_bipush (v := 12) d_Body_openParens_7 (by decide) ?_
  refine ab_icmp_eq (tgt := 27) d_Body_openParens_9 (by decide) (fun q6 => ?_) (fun q6 => ?_)
  · rw [if_pos q6] at hG
    exact kB_Body_openParens_27 hG hc0 hs0 hcc hss hC hS
  · rw [if_neg q6] at hG
    refine ab_aload_n d_Body_openParens_12 rfl rfl rfl ?_
    obtain ⟨a29, e30, hF⟩ := rf_s hG; clear hG
    refine hp_getR (f := 0) d_Body_openParens_13 q1 (by decide) rfl (by decide) (k1 157 rfl rfl) rfl e30 ?_
    refine ab_iconst (v := 1) d_Body_openParens_16 (by decide) ?_
    refine ab_aload_n d_Body_openParens_17 rfl rfl rfl ?_
    obtain ⟨a31, e32, hG⟩ := rf_s hF; clear hF
    refine hp_getR (f := 0) d_Body_openParens_18 q1 (by decide) rfl (by decide) (k1 157 rfl rfl) rfl e32 ?_
    obtain ⟨q33, hF⟩ := ck_s hG; clear hG
    refine hp_getI (f := 3) d_Body_openParens_21 q33 (by decide) rfl (by decide) (k1 103 rfl rfl) rfl ?_
    refine ab_topi (fun x34 ex34 => ?_)
    replace hF := bnd_s ex34 hF
    obtain ⟨q35, hG⟩ := ck_s hF; clear hF
    refine bT_c hG (fun x39 H38 z36 er => ?_) (fun v37 H38 z36 hF => ?_)
    · subst er
      have mz : Mo H H38 := (m_Lexer_refuse z36)
      have ml := mz.len
      have m2 := mz.2
      have hC9 : H38.sh.length ≤ c0 + C := hC
      have hS9 : H38.sl ≤ s0 + Sl := hS
      refine hp_callV_t (x := x39) (H1 := H38) (As := [.int 1, .int x34]) (rest := []) d_Body_openParens_24 (k_Lexer_refuse z36 (C := H38.sh.length - H.sh.length) (Sl := H38.sl - H.sl) (by show H38.sh.length ≤ _; omega) (by show H38.sl ≤ _; omega)) (ab_mkC s_Lexer_refuse (Nat.le_of_ble_eq_true rfl) (Nat.le_of_ble_eq_true rfl) (show (H.sh.length - c0) + (H38.sh.length - H.sh.length) ≤ C from by omega) (show (H.sl - s0) + (H38.sl - H.sl) ≤ Sl from by omega)) (k5 135 rfl rfl) i_Lexer_refuse v_Lexer_refuse q35 (by decide) rfl rfl (Nat.le_of_ble_eq_true rfl) ?_
      exact ab_U_out rfl (by show _ + (H38.sh.length - H.sh.length) ≤ C; omega) (by show _ + (H38.sl - H.sl) ≤ Sl; omega) ⟨rfl, rfl⟩
    clear hG
    have mz_9 : Mo H H38 := (m_Lexer_refuse z36)
    have b_10l := (mz_9).len
    have b_10s := (mz_9).2
    have b_10c : c0 ≤ H38.sh.length := by omega
    have b_10d : s0 ≤ H38.sl := by omega
    have q_11 := (mz_9).get q1
    have q_12 := (mz_9).get q4
    have q_13 := (mz_9).get q33
    have q_14 := (mz_9).get q35
    have fH38 : Mo H38 r.2 := by
      have hm := Mo.rf H38
      exact hm.tr (mB_Body_openParens_27 hF)
    have b_10m := (fH38).len
    have b_10n := (fH38).2
    have b_10p : H38.sh.length ≤ c0 + C := by omega
    have b_10q : H38.sl ≤ s0 + Sl := by omega
    refine hp_callV_v (H1 := H38) (As := [.int 1, .int x34]) (rest := []) d_Body_openParens_24 (k_Lexer_refuse z36 (C := H38.sh.length - H.sh.length) (Sl := H38.sl - H.sl) (by show H38.sh.length ≤ _; omega) (by show H38.sl ≤ _; omega)) (ab_mkC s_Lexer_refuse (Nat.le_of_ble_eq_true rfl) (Nat.le_of_ble_eq_true rfl) (show (H.sh.length - c0) + (H38.sh.length - H.sh.length) ≤ C from by omega) (show (H.sl - s0) + (H38.sl - H.sl) ≤ Sl from by omega)) (k5 135 rfl rfl) i_Lexer_refuse v_Lexer_refuse q35 (by decide) rfl rfl (Nat.le_of_ble_eq_true rfl) ?_
    refine ab_widen (cells' := H38.sh.length - c0) (slots' := H38.sl - s0) (by show _ + (H38.sh.length - H.sh.length) ≤ _; omega) (by show _ + (H38.sl - H.sl) ≤ _; omega) ?_
    clear b_10l b_10s b_10m b_10n
    exact kB_Body_openParens_27 hF b_10c b_10d b_10p b_10q hC hS
def y_Body_closeParens : ab_Y := (⟨"WorldEngine$Body", "closeParens", "()V"⟩, prog_2_method_32_code, 1, none, [])
theorem d_Body_closeParens_0 : decode y_Body_closeParens.2.1 0 = .ok (.aload_n 0, 1) := by decide +kernel
theorem d_Body_closeParens_1 : decode y_Body_closeParens.2.1 1 = .ok (.getfield 7, 3) := by decide +kernel
theorem d_Body_closeParens_4 : decode y_Body_closeParens.2.1 4 = .ok (.bipush 13, 2) := by decide +kernel
theorem d_Body_closeParens_6 : decode y_Body_closeParens.2.1 6 = .ok (.invokevirtual 41, 3) := by decide +kernel
theorem d_Body_closeParens_9 : decode y_Body_closeParens.2.1 9 = .ok (.aload_n 0, 1) := by decide +kernel
theorem d_Body_closeParens_10 : decode y_Body_closeParens.2.1 10 = .ok (.dup, 1) := by decide +kernel
theorem d_Body_closeParens_11 : decode y_Body_closeParens.2.1 11 = .ok (.getfield 36, 3) := by decide +kernel
theorem d_Body_closeParens_14 : decode y_Body_closeParens.2.1 14 = .ok (.iconst 1, 1) := by decide +kernel
theorem d_Body_closeParens_15 : decode y_Body_closeParens.2.1 15 = .ok (.isub, 1) := by decide +kernel
theorem d_Body_closeParens_16 : decode y_Body_closeParens.2.1 16 = .ok (.putfield 36, 3) := by decide +kernel
theorem d_Body_closeParens_19 : decode y_Body_closeParens.2.1 19 = .ok (.return_, 1) := by decide +kernel
theorem s_Body_closeParens : ab_Stat y_Body_closeParens 0 := ⟨(k5 168 rfl rfl), (k1 8 rfl rfl), ⟨by decide, by decide⟩, by decide +kernel⟩
theorem i_Body_closeParens : Cond.instanceMethod y_Body_closeParens.1 ∈ ab_T := (k5 167 rfl rfl)
theorem v_Body_closeParens : Cond.selects "WorldEngine$Body" y_Body_closeParens.1 y_Body_closeParens.1 ∈ ab_T := ab_s (List.mem_of_getElem? (i := 32) rfl) rfl
def F_Body_closeParens (N : Nat) (p0 : Nat) (H : Hp) : Option ((Ot Unit) × Hp) :=
    ck (H.sh[p0]? = some (6, 0)) <|
    rf (H.P p0 0) fun a2 =>
    ck (H.sh[a2]? = some (1, 0)) <|
    bT (F_Lexer_take N a2 (13 : Int32) H) fun v6 H7 =>
    bnd ((H7.D p0 6)) fun x9 =>
    bnd (H7.sD p0 6 (x9 - (1 : Int32))) fun H10 =>
    some (.inl (), H10)
set_option maxRecDepth 20000 in
set_option maxHeartbeats 2000000 in
theorem m_Body_closeParens {N : Nat} {p0 : Nat} {H : Hp} {r : (Ot Unit) × Hp} (hF : F_Body_closeParens N p0 H = some r) : Mo H r.2 := by
  unfold F_Body_closeParens at hF
  have hm := Mo.rf H
  obtain ⟨q11, hG⟩ := ck_s hF; clear hF
  obtain ⟨a12, e13, hF⟩ := rf_s hG; clear hG
  obtain ⟨q14, hG⟩ := ck_s hF; clear hF
  refine bT_c hG (fun x18 H17 z15 er => ?_) (fun v16 H17 z15 hF => ?_)
  · subst er; exact hm.tr (m_Lexer_take z15)
  clear hG
  replace hm : Mo H H17 := hm.tr (m_Lexer_take z15)
  obtain ⟨x19, -, hG⟩ := bnd_g hF; clear hF
  obtain ⟨H20, eH20, hF⟩ := bnd_g hG; clear hG
  replace hm : Mo H H20 := by rw [eH20]; exact hm
  have hr := Option.some.inj hF; subst hr
  exact hm
set_option maxRecDepth 20000 in
set_option maxHeartbeats 2000000 in
theorem k_Body_closeParens {N : Nat} {p0 : Nat} {H : Hp} {r : (Ot Unit) × Hp} {C Sl : Nat} (hF : F_Body_closeParens N p0 H = some r) (hC : r.2.sh.length ≤ H.sh.length + C) (hS : r.2.sl ≤ H.sl + Sl) : ab_M y_Body_closeParens { frames := 8, cells := C, slots := Sl, locals := 143 } [.ref p0] (hpw H) (po (oV r.1) r.2) := by
  unfold F_Body_closeParens at hF
  obtain ⟨c0, e0⟩ : ∃ q, q = H.sh.length := ⟨_, rfl⟩
  obtain ⟨s0, e1⟩ : ∃ q, q = H.sl := ⟨_, rfl⟩
  rw [← e0] at hC
  rw [← e1] at hS
  have hc0 : c0 ≤ H.sh.length := Nat.le_of_eq e0
  have hs0 : s0 ≤ H.sl := Nat.le_of_eq e1
  have hcc : H.sh.length ≤ c0 + C := by omega
  have hss : H.sl ≤ s0 + Sl := by omega
  refine ab_of2 (lv := [some (.ref p0)]) 0 rfl rfl (Nat.le_of_ble_eq_true rfl) ?_
  refine ab_widen (cells' := H.sh.length - c0) (slots' := H.sl - s0) (Nat.zero_le _) (Nat.zero_le _) ?_
  refine ab_aload_n d_Body_closeParens_0 rfl rfl rfl ?_
  obtain ⟨q1, hG⟩ := ck_s hF; clear hF
  obtain ⟨a2, e3, hF⟩ := rf_s hG; clear hG
  refine hp_getR (f := 0) d_Body_closeParens_1 q1 (by decide) rfl (by decide) (k1 157 rfl rfl) rfl e3 ?_
  refine ab_bipush (v := 13) d_Body_closeParens_4 (by decide) ?_
  obtain ⟨q4, hG⟩ := ck_s hF; clear hF
  refine bT_c hG (fun x8 H7 z5 er => ?_) (fun v6 H7 z5 hF => ?_)
  · subst er
    have mz : Mo H H7 := (m_Lexer_take z5)
    have ml := mz.len
    have m2 := mz.2
    have hC9 : H7.sh.length ≤ c0 + C := hC
    have hS9 : H7.sl ≤ s0 + Sl := hS
    refine hp_callV_t (x := x8) (H1 := H7) (As := [.int 13]) (rest := []) d_Body_closeParens_6 (k_Lexer_take z5 (C := H7.sh.length - H.sh.length) (Sl := H7.sl - H.sl) (by show H7.sh.length ≤ _; omega) (by show H7.sl ≤ _; omega)) (ab_mkC s_Lexer_take (Nat.le_of_ble_eq_true rfl) (Nat.le_of_ble_eq_true rfl) (show (H.sh.length - c0) + (H7.sh.length - H.sh.length) ≤ C from by omega) (show (H.sl - s0) + (H7.sl - H.sl) ≤ Sl from by omega)) (k5 116 rfl rfl) i_Lexer_take v_Lexer_take q4 (by decide) rfl rfl (Nat.le_of_ble_eq_true rfl) ?_
    exact ab_U_out rfl (by show _ + (H7.sh.length - H.sh.length) ≤ C; omega) (by show _ + (H7.sl - H.sl) ≤ Sl; omega) ⟨rfl, rfl⟩
  clear hG
  have mz_1 : Mo H H7 := (m_Lexer_take z5)
  have b_2l := (mz_1).len
  have b_2s := (mz_1).2
  have b_2c : c0 ≤ H7.sh.length := by omega
  have b_2d : s0 ≤ H7.sl := by omega
  have q_3 := (mz_1).get q1
  have q_4 := (mz_1).get q4
  obtain ⟨x9, ex9, hG⟩ := bnd_g hF; clear hF
  obtain ⟨H10, eH10, hF⟩ := bnd_g hG; clear hG
  have jH10 : Mo H7 H10 := by rw [eH10]; exact Mo.rf _
  have fH10 : Mo H10 r.2 := by
    have hm := Mo.rf H10
    have hr := Option.some.inj hF; subst hr
    exact hm
  have fH7 : Mo H7 r.2 := jH10.tr fH10
  have b_2m := (fH7).len
  have b_2n := (fH7).2
  have b_2p : H7.sh.length ≤ c0 + C := by omega
  have b_2q : H7.sl ≤ s0 + Sl := by omega
  refine hp_callV_v (H1 := H7) (As := [.int 13]) (rest := []) d_Body_closeParens_6 (k_Lexer_take z5 (C := H7.sh.length - H.sh.length) (Sl := H7.sl - H.sl) (by show H7.sh.length ≤ _; omega) (by show H7.sl ≤ _; omega)) (ab_mkC s_Lexer_take (Nat.le_of_ble_eq_true rfl) (Nat.le_of_ble_eq_true rfl) (show (H.sh.length - c0) + (H7.sh.length - H.sh.length) ≤ C from by omega) (show (H.sl - s0) + (H7.sl - H.sl) ≤ Sl from by omega)) (k5 116 rfl rfl) i_Lexer_take v_Lexer_take q4 (by decide) rfl rfl (Nat.le_of_ble_eq_true rfl) ?_
  refine ab_widen (cells' := H7.sh.length - c0) (slots' := H7.sl - s0) (by show _ + (H7.sh.length - H.sh.length) ≤ _; omega) (by show _ + (H7.sl - H.sl) ≤ _; omega) ?_
  clear b_2l b_2s b_2m b_2n
  refine ab_aload_n d_Body_closeParens_9 rfl rfl rfl ?_
  refine ab_dup d_Body_closeParens_10 rfl ?_
  refine hp_getI (f := 6) d_Body_closeParens_11 q_3 (by decide) rfl (by decide) (k1 163 rfl rfl) rfl ?_
  refine ab_topxi ex9 ?_
  refine ab_iconst (v := 1) d_Body_closeParens_14 (by decide) ?_
  refine ab_isub d_Body_closeParens_15 ?_
  refine hp_putI (v := x9 - (1 : Int32)) (f := 6) d_Body_closeParens_16 q_3 (by decide) rfl (by decide) (k1 163 rfl rfl) rfl rfl (fun _ => rfl) (fun _ => rfl) rfl ?_
  refine hp_genx eH10 ?_
  have s_6 : Sa H7 H10 := by rw [eH10]; exact Sa.rf _
  exact ab_vret d_Body_closeParens_19 rfl (by show _ ≤ C; omega) (by show _ ≤ Sl; omega) (by have hr := Option.some.inj hF; subst hr; exact ⟨rfl, rfl⟩)
def y_Body_knownHere : ab_Y := (⟨"WorldEngine$Body", "knownHere", "()LWorldEngine$Named;"⟩, prog_2_method_16_code, 3, (some (FieldType.object "WorldEngine$Named")), [])
theorem d_Body_knownHere_0 : decode y_Body_knownHere.2.1 0 = .ok (.aload_n 0, 1) := by decide +kernel
theorem d_Body_knownHere_1 : decode y_Body_knownHere.2.1 1 = .ok (.getfield 7, 3) := by decide +kernel
theorem d_Body_knownHere_4 : decode y_Body_knownHere.2.1 4 = .ok (.getfield 96, 3) := by decide +kernel
theorem d_Body_knownHere_7 : decode y_Body_knownHere.2.1 7 = .ok (.istore_n 1, 1) := by decide +kernel
theorem d_Body_knownHere_8 : decode y_Body_knownHere.2.1 8 = .ok (.aload_n 0, 1) := by decide +kernel
theorem d_Body_knownHere_9 : decode y_Body_knownHere.2.1 9 = .ok (.getfield 17, 3) := by decide +kernel
theorem d_Body_knownHere_12 : decode y_Body_knownHere.2.1 12 = .ok (.aload_n 0, 1) := by decide +kernel
theorem d_Body_knownHere_13 : decode y_Body_knownHere.2.1 13 = .ok (.getfield 7, 3) := by decide +kernel
theorem d_Body_knownHere_16 : decode y_Body_knownHere.2.1 16 = .ok (.invokevirtual 173, 3) := by decide +kernel
theorem d_Body_knownHere_19 : decode y_Body_knownHere.2.1 19 = .ok (.invokevirtual 176, 3) := by decide +kernel
theorem d_Body_knownHere_22 : decode y_Body_knownHere.2.1 22 = .ok (.astore_n 2, 1) := by decide +kernel
theorem d_Body_knownHere_23 : decode y_Body_knownHere.2.1 23 = .ok (.aload_n 2, 1) := by decide +kernel
theorem d_Body_knownHere_24 : decode y_Body_knownHere.2.1 24 = .ok (.ifnonnull 12, 3) := by decide +kernel
theorem d_Body_knownHere_27 : decode y_Body_knownHere.2.1 27 = .ok (.aload_n 0, 1) := by decide +kernel
theorem d_Body_knownHere_28 : decode y_Body_knownHere.2.1 28 = .ok (.getfield 7, 3) := by decide +kernel
theorem d_Body_knownHere_31 : decode y_Body_knownHere.2.1 31 = .ok (.iconst 4, 1) := by decide +kernel
theorem d_Body_knownHere_32 : decode y_Body_knownHere.2.1 32 = .ok (.iload_n 1, 1) := by decide +kernel
theorem d_Body_knownHere_33 : decode y_Body_knownHere.2.1 33 = .ok (.invokevirtual 99, 3) := by decide +kernel
theorem d_Body_knownHere_36 : decode y_Body_knownHere.2.1 36 = .ok (.aload_n 2, 1) := by decide +kernel
theorem d_Body_knownHere_37 : decode y_Body_knownHere.2.1 37 = .ok (.areturn, 1) := by decide +kernel
theorem s_Body_knownHere : ab_Stat y_Body_knownHere 0 := ⟨(k5 184 rfl rfl), (k1 8 rfl rfl), ⟨by decide, by decide⟩, by decide +kernel⟩
theorem i_Body_knownHere : Cond.instanceMethod y_Body_knownHere.1 ∈ ab_T := (k5 183 rfl rfl)
theorem v_Body_knownHere : Cond.selects "WorldEngine$Body" y_Body_knownHere.1 y_Body_knownHere.1 ∈ ab_T := ab_s (List.mem_of_getElem? (i := 36) rfl) rfl
def F_Body_knownHere (N : Nat) (p0 : Nat) (H : Hp) : Option ((Ot (Option Nat)) × Hp) :=
    ck (H.sh[p0]? = some (6, 0)) <|
    rf (H.P p0 0) fun a2 =>
    ck (H.sh[a2]? = some (1, 0)) <|
    bnd ((H.D a2 3)) fun x5 =>
    rf (H.P p0 1) fun a6 =>
    rf (H.P p0 0) fun a8 =>
    ck (H.sh[a8]? = some (1, 0)) <|
    bT (F_Lexer_takeName N a8 H) fun v12 H13 =>
    on v12 fun a15 =>
    ck (H13.sh[a6]? = some (4, 0)) <|
    bC (F_Program_find N a6 a15 H13) fun v18 H19 =>
    nl v18 (rf (H19.P p0 0) fun a21 =>
    ck (H19.sh[a21]? = some (1, 0)) <|
    bT (F_Lexer_refuse N a21 (4 : Int32) x5 H19) fun v25 H26 =>
    some (.inl none, H26)) fun a20 =>
    some (.inl (some a20), H19)
set_option maxRecDepth 20000 in
set_option maxHeartbeats 2000000 in
theorem m_Body_knownHere {N : Nat} {p0 : Nat} {H : Hp} {r : (Ot (Option Nat)) × Hp} (hF : F_Body_knownHere N p0 H = some r) : Mo H r.2 := by
  unfold F_Body_knownHere at hF
  have hm := Mo.rf H
  obtain ⟨q28, hG⟩ := ck_s hF; clear hF
  obtain ⟨a29, e30, hF⟩ := rf_s hG; clear hG
  obtain ⟨q31, hG⟩ := ck_s hF; clear hF
  obtain ⟨x32, -, hF⟩ := bnd_g hG; clear hG
  obtain ⟨a33, e34, hG⟩ := rf_s hF; clear hF
  obtain ⟨a35, e36, hF⟩ := rf_s hG; clear hG
  obtain ⟨q37, hG⟩ := ck_s hF; clear hF
  refine bT_c hG (fun x41 H40 z38 er => ?_) (fun v39 H40 z38 hF => ?_)
  · subst er; exact hm.tr (m_Lexer_takeName z38)
  clear hG
  replace hm : Mo H H40 := hm.tr (m_Lexer_takeName z38)
  obtain ⟨a42, ea42, hG⟩ := on_s hF; clear hF
  subst ea42
  obtain ⟨q43, hF⟩ := ck_s hG; clear hG
  obtain ⟨v45, H46, z44, hG⟩ := bC_s hF; clear hF
  replace hm : Mo H H46 := hm.tr ((m_Program_find z44)).mo
  refine nl_c hG (fun ea47 hF => ?_) (fun a47 ea47 hF => ?_)
  · clear hG; subst ea47
    obtain ⟨a48, e49, hG⟩ := rf_s hF; clear hF
    obtain ⟨q50, hF⟩ := ck_s hG; clear hG
    refine bT_c hF (fun x54 H53 z51 er => ?_) (fun v52 H53 z51 hG => ?_)
    · subst er; exact hm.tr (m_Lexer_refuse z51)
    clear hF
    replace hm : Mo H H53 := hm.tr (m_Lexer_refuse z51)
    have hr := Option.some.inj hG; subst hr
    exact hm
  clear hG; subst ea47
  have hr := Option.some.inj hF; subst hr
  exact hm
set_option maxRecDepth 20000 in
set_option maxHeartbeats 2000000 in
theorem k_Body_knownHere {N : Nat} {p0 : Nat} {H : Hp} {r : (Ot (Option Nat)) × Hp} {C Sl : Nat} (hF : F_Body_knownHere N p0 H = some r) (hC : r.2.sh.length ≤ H.sh.length + C) (hS : r.2.sl ≤ H.sl + Sl) : ab_M y_Body_knownHere { frames := 7, cells := C, slots := Sl, locals := 128 } [.ref p0] (hpw H) (po (oA r.1) r.2) := by
  unfold F_Body_knownHere at hF
  obtain ⟨c0, e0⟩ : ∃ q, q = H.sh.length := ⟨_, rfl⟩
  obtain ⟨s0, e1⟩ : ∃ q, q = H.sl := ⟨_, rfl⟩
  rw [← e0] at hC
  rw [← e1] at hS
  have hc0 : c0 ≤ H.sh.length := Nat.le_of_eq e0
  have hs0 : s0 ≤ H.sl := Nat.le_of_eq e1
  have hcc : H.sh.length ≤ c0 + C := by omega
  have hss : H.sl ≤ s0 + Sl := by omega
  refine ab_of2 (lv := [some (.ref p0), none, none]) 2 rfl rfl (Nat.le_of_ble_eq_true rfl) ?_
  refine ab_widen (cells' := H.sh.length - c0) (slots' := H.sl - s0) (Nat.zero_le _) (Nat.zero_le _) ?_
  refine ab_aload_n d_Body_knownHere_0 rfl rfl rfl ?_
  obtain ⟨q1, hG⟩ := ck_s hF; clear hF
  obtain ⟨a2, e3, hF⟩ := rf_s hG; clear hG
  refine hp_getR (f := 0) d_Body_knownHere_1 q1 (by decide) rfl (by decide) (k1 157 rfl rfl) rfl e3 ?_
  obtain ⟨q4, hG⟩ := ck_s hF; clear hF
  refine hp_getI (f := 3) d_Body_knownHere_4 q4 (by decide) rfl (by decide) (k1 103 rfl rfl) rfl ?_
  refine ab_topi (fun x5 ex5 => ?_)
  replace hG := bnd_s ex5 hG
  refine ab_istore_n (lv' := [some (.ref p0), some (.int x5), none]) d_Body_knownHere_7 rfl (by decide) rfl ?_
  refine ab_aload_n d_Body_knownHere_8 rfl rfl rfl ?_
  obtain ⟨a6, e7, hF⟩ := rf_s hG; clear hG
  refine hp_getR (f := 1) d_Body_knownHere_9 q1 (by decide) rfl (by decide) (k1 158 rfl rfl) rfl e7 ?_
  refine ab_aload_n d_Body_knownHere_12 rfl rfl rfl ?_
  obtain ⟨a8, e9, hG⟩ := rf_s hF; clear hF
  refine hp_getR (f := 0) d_Body_knownHere_13 q1 (by decide) rfl (by decide) (k1 157 rfl rfl) rfl e9 ?_
  obtain ⟨q10, hF⟩ := ck_s hG; clear hG
  refine bT_c hF (fun x14 H13 z11 er => ?_) (fun v12 H13 z11 hG => ?_)
  · subst er
    have mz : Mo H H13 := (m_Lexer_takeName z11)
    have ml := mz.len
    have m2 := mz.2
    have hC9 : H13.sh.length ≤ c0 + C := hC
    have hS9 : H13.sl ≤ s0 + Sl := hS
    refine hp_callV_t (x := x14) (H1 := H13) (As := []) (rest := [.ref a6]) d_Body_knownHere_16 (k_Lexer_takeName z11 (C := H13.sh.length - H.sh.length) (Sl := H13.sl - H.sl) (by show H13.sh.length ≤ _; omega) (by show H13.sl ≤ _; omega)) (ab_mkC s_Lexer_takeName (Nat.le_of_ble_eq_true rfl) (Nat.le_of_ble_eq_true rfl) (show (H.sh.length - c0) + (H13.sh.length - H.sh.length) ≤ C from by omega) (show (H.sl - s0) + (H13.sl - H.sl) ≤ Sl from by omega)) (k5 134 rfl rfl) i_Lexer_takeName v_Lexer_takeName q10 (by decide) rfl rfl (Nat.le_of_ble_eq_true rfl) ?_
    exact ab_U_out rfl (by show _ + (H13.sh.length - H.sh.length) ≤ C; omega) (by show _ + (H13.sl - H.sl) ≤ Sl; omega) ⟨rfl, rfl⟩
  clear hF
  have mz_1 : Mo H H13 := (m_Lexer_takeName z11)
  have b_2l := (mz_1).len
  have b_2s := (mz_1).2
  have b_2c : c0 ≤ H13.sh.length := by omega
  have b_2d : s0 ≤ H13.sl := by omega
  have q_3 := (mz_1).get q1
  have q_4 := (mz_1).get q4
  have q_5 := (mz_1).get q10
  have mf_6 : Mo H13 r.2 := by
    have hm := Mo.rf H13
    obtain ⟨a15, ea15, hF⟩ := on_s hG; clear hG
    subst ea15
    obtain ⟨q16, hG⟩ := ck_s hF; clear hF
    obtain ⟨v18, H19, z17, hF⟩ := bC_s hG; clear hG
    replace hm : Mo H13 H19 := hm.tr ((m_Program_find z17)).mo
    refine nl_c hF (fun ea20 hG => ?_) (fun a20 ea20 hG => ?_)
    · clear hF; subst ea20
      obtain ⟨a21, e22, hF⟩ := rf_s hG; clear hG
      obtain ⟨q23, hG⟩ := ck_s hF; clear hF
      refine bT_c hG (fun x27 H26 z24 er => ?_) (fun v25 H26 z24 hF => ?_)
      · subst er; exact hm.tr (m_Lexer_refuse z24)
      clear hG
      replace hm : Mo H13 H26 := hm.tr (m_Lexer_refuse z24)
      have hr := Option.some.inj hF; subst hr
      exact hm
    clear hF; subst ea20
    have hr := Option.some.inj hG; subst hr
    exact hm
  have b_2m := (mf_6).len
  have b_2n := (mf_6).2
  have b_2p : H13.sh.length ≤ c0 + C := by omega
  have b_2q : H13.sl ≤ s0 + Sl := by omega
  refine hp_callV_a (v := ab_rf v12) (H1 := H13) (As := []) (rest := [.ref a6]) d_Body_knownHere_16 (k_Lexer_takeName z11 (C := H13.sh.length - H.sh.length) (Sl := H13.sl - H.sl) (by show H13.sh.length ≤ _; omega) (by show H13.sl ≤ _; omega)) (ab_mkC s_Lexer_takeName (Nat.le_of_ble_eq_true rfl) (Nat.le_of_ble_eq_true rfl) (show (H.sh.length - c0) + (H13.sh.length - H.sh.length) ≤ C from by omega) (show (H.sl - s0) + (H13.sl - H.sl) ≤ Sl from by omega)) (k5 134 rfl rfl) i_Lexer_takeName v_Lexer_takeName q10 (by decide) rfl rfl (Nat.le_of_ble_eq_true rfl) ?_
  refine ab_widen (cells' := H13.sh.length - c0) (slots' := H13.sl - s0) (by show _ + (H13.sh.length - H.sh.length) ≤ _; omega) (by show _ + (H13.sl - H.sl) ≤ _; omega) ?_
  clear b_2l b_2s b_2m b_2n
  obtain ⟨a15, ea15, hF⟩ := on_s hG; clear hG
  subst ea15
  obtain ⟨q16, hG⟩ := ck_s hF; clear hF
  obtain ⟨v18, H19, z17, hF⟩ := bC_s hG; clear hG
  refine hp_callV_a (v := ab_rf v18) (H1 := H19) (As := [.ref a15]) (rest := []) d_Body_knownHere_19 (k_Program_find z17) (ab_mkC s_Program_find (Nat.le_of_ble_eq_true rfl) (Nat.le_of_ble_eq_true rfl) (show (H13.sh.length - c0) + 0 ≤ C from by omega) (show (H13.sl - s0) + 0 ≤ Sl from by omega)) (k5 136 rfl rfl) i_Program_find v_Program_find q16 (by decide) rfl rfl (Nat.le_of_ble_eq_true rfl) ?_
  have s_14 : Sa H13 H19 := (m_Program_find z17)
  refine ab_widen (cells' := H13.sh.length - c0) (slots' := H13.sl - s0) (by show (H13.sh.length - c0) + 0 ≤ _; omega) (by show (H13.sl - s0) + 0 ≤ _; omega) ?_
  refine nl_c hF (fun ea20 hG => ?_) (fun a20 ea20 hG => ?_)
  · clear hF; subst ea20
    refine ab_astore_n (lv' := [some (.ref p0), some (.int x5), some (.null)]) d_Body_knownHere_22 rfl (by decide) rfl rfl ?_
    refine ab_aload_n d_Body_knownHere_23 rfl rfl rfl ?_
    refine ab_ifnonnullN d_Body_knownHere_24 ?_
    refine ab_aload_n d_Body_knownHere_27 rfl rfl rfl ?_
    obtain ⟨a21, e22, hF⟩ := rf_s hG; clear hG
    refine hp_getR (f := 0) d_Body_knownHere_28 (by rw [(s_14).1]; exact q_3) (by decide) rfl (by decide) (k1 157 rfl rfl) rfl e22 ?_
    refine ab_iconst (v := 4) d_Body_knownHere_31 (by decide) ?_
    refine ab_iload_n d_Body_knownHere_32 rfl rfl ?_
    obtain ⟨q23, hG⟩ := ck_s hF; clear hF
    rw [(s_14).1] at q23
    refine bT_c hG (fun x27 H26 z24 er => ?_) (fun v25 H26 z24 hF => ?_)
    · subst er
      refine ab_widen (cells' := H19.sh.length - c0) (slots' := H19.sl - s0) (by rw [(s_14).1]; exact Nat.le_refl _) (by rw [(s_14).2]; exact Nat.le_refl _) ?_
      have mz : Mo H19 H26 := (m_Lexer_refuse z24)
      have ml := mz.len
      have m2 := mz.2
      have be := congrArg List.length (s_14).1
      have bfx := (s_14).2
      have hC9 : H26.sh.length ≤ c0 + C := hC
      have hS9 : H26.sl ≤ s0 + Sl := hS
      refine hp_callV_t (x := x27) (H1 := H26) (As := [.int 4, .int x5]) (rest := []) d_Body_knownHere_33 (k_Lexer_refuse z24 (C := H26.sh.length - H19.sh.length) (Sl := H26.sl - H19.sl) (by show H26.sh.length ≤ _; omega) (by show H26.sl ≤ _; omega)) (ab_mkC s_Lexer_refuse (Nat.le_of_ble_eq_true rfl) (Nat.le_of_ble_eq_true rfl) (show (H19.sh.length - c0) + (H26.sh.length - H19.sh.length) ≤ C from by omega) (show (H19.sl - s0) + (H26.sl - H19.sl) ≤ Sl from by omega)) (k5 135 rfl rfl) i_Lexer_refuse v_Lexer_refuse (by rw [(s_14).1]; exact q23) (by decide) rfl rfl (Nat.le_of_ble_eq_true rfl) ?_
      exact ab_U_out rfl (by show _ + (H26.sh.length - H19.sh.length) ≤ C; omega) (by show _ + (H26.sl - H19.sl) ≤ Sl; omega) ⟨rfl, rfl⟩
    clear hG
    refine ab_widen (cells' := H19.sh.length - c0) (slots' := H19.sl - s0) (by rw [(s_14).1]; exact Nat.le_refl _) (by rw [(s_14).2]; exact Nat.le_refl _) ?_
    have mz_15 : Mo H19 H26 := (m_Lexer_refuse z24)
    have b_16l := (mz_15).len
    have b_16s := (mz_15).2
    have b_16e := congrArg List.length (s_14).1
    have b_16f := (s_14).2
    have b_16c : c0 ≤ H26.sh.length := by omega
    have b_16d : s0 ≤ H26.sl := by omega
    have q_17 := (mz_15).get (by rw [(s_14).1]; exact q_3)
    have q_18 := (mz_15).get (by rw [(s_14).1]; exact q_4)
    have q_19 := (mz_15).get (by rw [(s_14).1]; exact q_5)
    have q_20 := (mz_15).get (by rw [(s_14).1]; exact q16)
    have q_21 := (mz_15).get (by rw [(s_14).1]; exact q23)
    have fH26 : Mo H26 r.2 := by
      have hm := Mo.rf H26
      have hr := Option.some.inj hF; subst hr
      exact hm
    have b_16m := (fH26).len
    have b_16n := (fH26).2
    have b_16p : H26.sh.length ≤ c0 + C := by omega
    have b_16q : H26.sl ≤ s0 + Sl := by omega
    refine hp_callV_v (H1 := H26) (As := [.int 4, .int x5]) (rest := []) d_Body_knownHere_33 (k_Lexer_refuse z24 (C := H26.sh.length - H19.sh.length) (Sl := H26.sl - H19.sl) (by show H26.sh.length ≤ _; omega) (by show H26.sl ≤ _; omega)) (ab_mkC s_Lexer_refuse (Nat.le_of_ble_eq_true rfl) (Nat.le_of_ble_eq_true rfl) (show (H19.sh.length - c0) + (H26.sh.length - H19.sh.length) ≤ C from by omega) (show (H19.sl - s0) + (H26.sl - H19.sl) ≤ Sl from by omega)) (k5 135 rfl rfl) i_Lexer_refuse v_Lexer_refuse (by rw [(s_14).1]; exact q23) (by decide) rfl rfl (Nat.le_of_ble_eq_true rfl) ?_
    refine ab_widen (cells' := H26.sh.length - c0) (slots' := H26.sl - s0) (by show _ + (H26.sh.length - H19.sh.length) ≤ _; omega) (by show _ + (H26.sl - H19.sl) ≤ _; omega) ?_
    clear b_16l b_16s b_16m b_16n b_16e b_16f b_2c b_2d b_2p b_2q
    refine ab_aload_n d_Body_knownHere_36 rfl rfl rfl ?_
    exact ab_aret d_Body_knownHere_37 rfl (Or.inl ⟨_, rfl⟩) rfl (by show _ ≤ C; omega) (by show _ ≤ Sl; omega) (by have hr := Option.some.inj hF; subst hr; exact ⟨rfl, rfl⟩)
  clear hF; subst ea20
  refine ab_astore_n (lv' := [some (.ref p0), some (.int x5), some (.ref a20)]) d_Body_knownHere_22 rfl (by decide) rfl rfl ?_
  refine ab_aload_n d_Body_knownHere_23 rfl rfl rfl ?_
  refine ab_ifnonnull (tgt := 36) d_Body_knownHere_24 (by decide) ?_
  refine ab_aload_n d_Body_knownHere_36 rfl rfl rfl ?_
  exact ab_aret d_Body_knownHere_37 rfl (Or.inl ⟨_, rfl⟩) rfl (by show _ ≤ C; omega) (by show _ ≤ Sl; omega) (by have hr := Option.some.inj hG; subst hr; exact ⟨rfl, rfl⟩)
def y_Body_numberHere : ab_Y := (⟨"WorldEngine$Body", "numberHere", "(I)I"⟩, prog_2_method_17_code, 4, (some FieldType.int), [])
theorem d_Body_numberHere_0 : decode y_Body_numberHere.2.1 0 = .ok (.aload_n 0, 1) := by decide +kernel
theorem d_Body_numberHere_1 : decode y_Body_numberHere.2.1 1 = .ok (.getfield 7, 3) := by decide +kernel
theorem d_Body_numberHere_4 : decode y_Body_numberHere.2.1 4 = .ok (.getfield 96, 3) := by decide +kernel
theorem d_Body_numberHere_7 : decode y_Body_numberHere.2.1 7 = .ok (.istore_n 2, 1) := by decide +kernel
theorem d_Body_numberHere_8 : decode y_Body_numberHere.2.1 8 = .ok (.aload_n 0, 1) := by decide +kernel
theorem d_Body_numberHere_9 : decode y_Body_numberHere.2.1 9 = .ok (.invokevirtual 184, 3) := by decide +kernel
theorem d_Body_numberHere_12 : decode y_Body_numberHere.2.1 12 = .ok (.astore_n 3, 1) := by decide +kernel
theorem d_Body_numberHere_13 : decode y_Body_numberHere.2.1 13 = .ok (.aload_n 3, 1) := by decide +kernel
theorem d_Body_numberHere_14 : decode y_Body_numberHere.2.1 14 = .ok (.getfield 188, 3) := by decide +kernel
theorem d_Body_numberHere_17 : decode y_Body_numberHere.2.1 17 = .ok (.iload_n 1, 1) := by decide +kernel
theorem d_Body_numberHere_18 : decode y_Body_numberHere.2.1 18 = .ok (.if_icmp .eq 12, 3) := by decide +kernel
theorem d_Body_numberHere_21 : decode y_Body_numberHere.2.1 21 = .ok (.aload_n 0, 1) := by decide +kernel
theorem d_Body_numberHere_22 : decode y_Body_numberHere.2.1 22 = .ok (.getfield 7, 3) := by decide +kernel
theorem d_Body_numberHere_25 : decode y_Body_numberHere.2.1 25 = .ok (.iconst 5, 1) := by decide +kernel
theorem d_Body_numberHere_26 : decode y_Body_numberHere.2.1 26 = .ok (.iload_n 2, 1) := by decide +kernel
theorem d_Body_numberHere_27 : decode y_Body_numberHere.2.1 27 = .ok (.invokevirtual 99, 3) := by decide +kernel
theorem d_Body_numberHere_30 : decode y_Body_numberHere.2.1 30 = .ok (.aload_n 3, 1) := by decide +kernel
theorem d_Body_numberHere_31 : decode y_Body_numberHere.2.1 31 = .ok (.getfield 191, 3) := by decide +kernel
theorem d_Body_numberHere_34 : decode y_Body_numberHere.2.1 34 = .ok (.ireturn, 1) := by decide +kernel
theorem s_Body_numberHere : ab_Stat y_Body_numberHere 1 := ⟨(k5 180 rfl rfl), (k1 8 rfl rfl), ⟨by decide, by decide⟩, by decide +kernel⟩
theorem i_Body_numberHere : Cond.instanceMethod y_Body_numberHere.1 ∈ ab_T := (k5 179 rfl rfl)
theorem v_Body_numberHere : Cond.selects "WorldEngine$Body" y_Body_numberHere.1 y_Body_numberHere.1 ∈ ab_T := ab_s (List.mem_of_getElem? (i := 35) rfl) rfl
def F_Body_numberHere (N : Nat) (p0 : Nat) (p1 : Int32) (H : Hp) : Option ((Ot Int32) × Hp) :=
    ck (H.sh[p0]? = some (6, 0)) <|
    rf (H.P p0 0) fun a2 =>
    ck (H.sh[a2]? = some (1, 0)) <|
    bnd ((H.D a2 3)) fun x5 =>
    bT (F_Body_knownHere N p0 H) fun v7 H8 =>
    on v7 fun a10 =>
    ck (H8.sh[a10]? = some (2, 0)) <|
    bnd ((H8.D a10 1)) fun x12 =>
    if x12 = p1 then
    bnd ((H8.D a10 2)) fun x14 =>
    some (.inl x14, H8)
    else
    rf (H8.P p0 0) fun a15 =>
    ck (H8.sh[a15]? = some (1, 0)) <|
    bT (F_Lexer_refuse N a15 (5 : Int32) x5 H8) fun v19 H20 =>
    bnd ((H20.D a10 2)) fun x22 =>
    some (.inl x22, H20)
set_option maxRecDepth 20000 in
set_option maxHeartbeats 2000000 in
theorem m_Body_numberHere {N : Nat} {p0 : Nat} {p1 : Int32} {H : Hp} {r : (Ot Int32) × Hp} (hF : F_Body_numberHere N p0 p1 H = some r) : Mo H r.2 := by
  unfold F_Body_numberHere at hF
  have hm := Mo.rf H
  obtain ⟨q23, hG⟩ := ck_s hF; clear hF
  obtain ⟨a24, e25, hF⟩ := rf_s hG; clear hG
  obtain ⟨q26, hG⟩ := ck_s hF; clear hF
  obtain ⟨x27, -, hF⟩ := bnd_g hG; clear hG
  refine bT_c hF (fun x31 H30 z28 er => ?_) (fun v29 H30 z28 hG => ?_)
  · subst er; exact hm.tr (m_Body_knownHere z28)
  clear hF
  replace hm : Mo H H30 := hm.tr (m_Body_knownHere z28)
  obtain ⟨a32, ea32, hF⟩ := on_s hG; clear hG
  subst ea32
  obtain ⟨q33, hG⟩ := ck_s hF; clear hF
  obtain ⟨x34, -, hF⟩ := bnd_g hG; clear hG
  rcases ite_s hF with ⟨q_21, hG⟩ | ⟨q_21, hG⟩
  · clear hF
    obtain ⟨x36, -, hF⟩ := bnd_g hG; clear hG
    have hr := Option.some.inj hF; subst hr
    exact hm
  · clear hF
    obtain ⟨a37, e38, hF⟩ := rf_s hG; clear hG
    obtain ⟨q39, hG⟩ := ck_s hF; clear hF
    refine bT_c hG (fun x43 H42 z40 er => ?_) (fun v41 H42 z40 hF => ?_)
    · subst er; exact hm.tr (m_Lexer_refuse z40)
    clear hG
    replace hm : Mo H H42 := hm.tr (m_Lexer_refuse z40)
    obtain ⟨x44, -, hG⟩ := bnd_g hF; clear hF
    have hr := Option.some.inj hG; subst hr
    exact hm
set_option maxRecDepth 20000 in
set_option maxHeartbeats 2000000 in
theorem k_Body_numberHere {N : Nat} {p0 : Nat} {p1 : Int32} {H : Hp} {r : (Ot Int32) × Hp} {C Sl : Nat} (hF : F_Body_numberHere N p0 p1 H = some r) (hC : r.2.sh.length ≤ H.sh.length + C) (hS : r.2.sl ≤ H.sl + Sl) : ab_M y_Body_numberHere { frames := 8, cells := C, slots := Sl, locals := 150 } [.ref p0, .int p1] (hpw H) (po (oI r.1) r.2) := by
  unfold F_Body_numberHere at hF
  obtain ⟨c0, e0⟩ : ∃ q, q = H.sh.length := ⟨_, rfl⟩
  obtain ⟨s0, e1⟩ : ∃ q, q = H.sl := ⟨_, rfl⟩
  rw [← e0] at hC
  rw [← e1] at hS
  have hc0 : c0 ≤ H.sh.length := Nat.le_of_eq e0
  have hs0 : s0 ≤ H.sl := Nat.le_of_eq e1
  have hcc : H.sh.length ≤ c0 + C := by omega
  have hss : H.sl ≤ s0 + Sl := by omega
  refine ab_of2 (lv := [some (.ref p0), some (.int p1), none, none]) 2 rfl rfl (Nat.le_of_ble_eq_true rfl) ?_
  refine ab_widen (cells' := H.sh.length - c0) (slots' := H.sl - s0) (Nat.zero_le _) (Nat.zero_le _) ?_
  refine ab_aload_n d_Body_numberHere_0 rfl rfl rfl ?_
  obtain ⟨q1, hG⟩ := ck_s hF; clear hF
  obtain ⟨a2, e3, hF⟩ := rf_s hG; clear hG
  refine hp_getR (f := 0) d_Body_numberHere_1 q1 (by decide) rfl (by decide) (k1 157 rfl rfl) rfl e3 ?_
  obtain ⟨q4, hG⟩ := ck_s hF; clear hF
  refine hp_getI (f := 3) d_Body_numberHere_4 q4 (by decide) rfl (by decide) (k1 103 rfl rfl) rfl ?_
  refine ab_topi (fun x5 ex5 => ?_)
  replace hG := bnd_s ex5 hG
  refine ab_istore_n (lv' := [some (.ref p0), some (.int p1), some (.int x5), none]) d_Body_numberHere_7 rfl (by decide) rfl ?_
  refine ab_aload_n d_Body_numberHere_8 rfl rfl rfl ?_
  refine bT_c hG (fun x9 H8 z6 er => ?_) (fun v7 H8 z6 hF => ?_)
  · subst er
    have mz : Mo H H8 := (m_Body_knownHere z6)
    have ml := mz.len
    have m2 := mz.2
    have hC9 : H8.sh.length ≤ c0 + C := hC
    have hS9 : H8.sl ≤ s0 + Sl := hS
    refine hp_callV_t (x := x9) (H1 := H8) (As := []) (rest := []) d_Body_numberHere_9 (k_Body_knownHere z6 (C := H8.sh.length - H.sh.length) (Sl := H8.sl - H.sl) (by show H8.sh.length ≤ _; omega) (by show H8.sl ≤ _; omega)) (ab_mkC s_Body_knownHere (Nat.le_of_ble_eq_true rfl) (Nat.le_of_ble_eq_true rfl) (show (H.sh.length - c0) + (H8.sh.length - H.sh.length) ≤ C from by omega) (show (H.sl - s0) + (H8.sl - H.sl) ≤ Sl from by omega)) (k5 181 rfl rfl) i_Body_knownHere v_Body_knownHere q1 (by decide) rfl rfl (Nat.le_of_ble_eq_true rfl) ?_
    exact ab_U_out rfl (by show _ + (H8.sh.length - H.sh.length) ≤ C; omega) (by show _ + (H8.sl - H.sl) ≤ Sl; omega) ⟨rfl, rfl⟩
  clear hG
  have mz_1 : Mo H H8 := (m_Body_knownHere z6)
  have b_2l := (mz_1).len
  have b_2s := (mz_1).2
  have b_2c : c0 ≤ H8.sh.length := by omega
  have b_2d : s0 ≤ H8.sl := by omega
  have q_3 := (mz_1).get q1
  have q_4 := (mz_1).get q4
  have mf_5 : Mo H8 r.2 := by
    have hm := Mo.rf H8
    obtain ⟨a10, ea10, hG⟩ := on_s hF; clear hF
    subst ea10
    obtain ⟨q11, hF⟩ := ck_s hG; clear hG
    obtain ⟨x12, -, hG⟩ := bnd_g hF; clear hF
    rcases ite_s hG with ⟨q_6, hF⟩ | ⟨q_6, hF⟩
    · clear hG
      obtain ⟨x14, -, hG⟩ := bnd_g hF; clear hF
      have hr := Option.some.inj hG; subst hr
      exact hm
    · clear hG
      obtain ⟨a15, e16, hG⟩ := rf_s hF; clear hF
      obtain ⟨q17, hF⟩ := ck_s hG; clear hG
      refine bT_c hF (fun x21 H20 z18 er => ?_) (fun v19 H20 z18 hG => ?_)
      · subst er; exact hm.tr (m_Lexer_refuse z18)
      clear hF
      replace hm : Mo H8 H20 := hm.tr (m_Lexer_refuse z18)
      obtain ⟨x22, -, hF⟩ := bnd_g hG; clear hG
      have hr := Option.some.inj hF; subst hr
      exact hm
  have b_2m := (mf_5).len
  have b_2n := (mf_5).2
  have b_2p : H8.sh.length ≤ c0 + C := by omega
  have b_2q : H8.sl ≤ s0 + Sl := by omega
  refine hp_callV_a (v := ab_rf v7) (H1 := H8) (As := []) (rest := []) d_Body_numberHere_9 (k_Body_knownHere z6 (C := H8.sh.length - H.sh.length) (Sl := H8.sl - H.sl) (by show H8.sh.length ≤ _; omega) (by show H8.sl ≤ _; omega)) (ab_mkC s_Body_knownHere (Nat.le_of_ble_eq_true rfl) (Nat.le_of_ble_eq_true rfl) (show (H.sh.length - c0) + (H8.sh.length - H.sh.length) ≤ C from by omega) (show (H.sl - s0) + (H8.sl - H.sl) ≤ Sl from by omega)) (k5 181 rfl rfl) i_Body_knownHere v_Body_knownHere q1 (by decide) rfl rfl (Nat.le_of_ble_eq_true rfl) ?_
  refine ab_widen (cells' := H8.sh.length - c0) (slots' := H8.sl - s0) (by show _ + (H8.sh.length - H.sh.length) ≤ _; omega) (by show _ + (H8.sl - H.sl) ≤ _; omega) ?_
  clear b_2l b_2s b_2m b_2n
  obtain ⟨a10, ea10, hG⟩ := on_s hF; clear hF
  subst ea10
  refine ab_astore_n (lv' := [some (.ref p0), some (.int p1), some (.int x5), some (.ref a10)]) d_Body_numberHere_12 rfl (by decide) rfl rfl ?_
  refine ab_aload_n d_Body_numberHere_13 rfl rfl rfl ?_
  obtain ⟨q11, hF⟩ := ck_s hG; clear hG
  refine hp_getI (f := 1) d_Body_numberHere_14 q11 (by decide) rfl (by decide) (k2 234 rfl rfl) rfl ?_
  refine ab_topi (fun x12 ex12 => ?_)
  replace hF := bnd_s ex12 hF
  refine ab_iload_n d_Body_numberHere_17 rfl rfl ?_
  refine ab_icmp_eq (tgt := 30) d_Body_numberHere_18 (by decide) (fun q13 => ?_) (fun q13 => ?_)
  · rw [if_pos q13] at hF
    refine ab_aload_n d_Body_numberHere_30 rfl rfl rfl ?_
    refine hp_getI (f := 2) d_Body_numberHere_31 q11 (by decide) rfl (by decide) (k2 237 rfl rfl) rfl ?_
    refine ab_topi (fun x14 ex14 => ?_)
    replace hF := bnd_s ex14 hF
    exact ab_iret d_Body_numberHere_34 rfl (by show _ ≤ C; omega) (by show _ ≤ Sl; omega) (by have hr := Option.some.inj hF; subst hr; exact ⟨rfl, rfl⟩)
  · rw [if_neg q13] at hF
    refine ab_aload_n d_Body_numberHere_21 rfl rfl rfl ?_
    obtain ⟨a15, e16, hG⟩ := rf_s hF; clear hF
    refine hp_getR (f := 0) d_Body_numberHere_22 q_3 (by decide) rfl (by decide) (k1 157 rfl rfl) rfl e16 ?_
    refine ab_iconst (v := 5) d_Body_numberHere_25 (by decide) ?_
    refine ab_iload_n d_Body_numberHere_26 rfl rfl ?_
    obtain ⟨q17, hF⟩ := ck_s hG; clear hG
    refine bT_c hF (fun x21 H20 z18 er => ?_) (fun v19 H20 z18 hG => ?_)
    · subst er
      have mz : Mo H8 H20 := (m_Lexer_refuse z18)
      have ml := mz.len
      have m2 := mz.2
      have hC9 : H20.sh.length ≤ c0 + C := hC
      have hS9 : H20.sl ≤ s0 + Sl := hS
      refine hp_callV_t (x := x21) (H1 := H20) (As := [.int 5, .int x5]) (rest := []) d_Body_numberHere_27 (k_Lexer_refuse z18 (C := H20.sh.length - H8.sh.length) (Sl := H20.sl - H8.sl) (by show H20.sh.length ≤ _; omega) (by show H20.sl ≤ _; omega)) (ab_mkC s_Lexer_refuse (Nat.le_of_ble_eq_true rfl) (Nat.le_of_ble_eq_true rfl) (show (H8.sh.length - c0) + (H20.sh.length - H8.sh.length) ≤ C from by omega) (show (H8.sl - s0) + (H20.sl - H8.sl) ≤ Sl from by omega)) (k5 135 rfl rfl) i_Lexer_refuse v_Lexer_refuse q17 (by decide) rfl rfl (Nat.le_of_ble_eq_true rfl) ?_
      exact ab_U_out rfl (by show _ + (H20.sh.length - H8.sh.length) ≤ C; omega) (by show _ + (H20.sl - H8.sl) ≤ Sl; omega) ⟨rfl, rfl⟩
    clear hF
    have mz_12 : Mo H8 H20 := (m_Lexer_refuse z18)
    have b_13l := (mz_12).len
    have b_13s := (mz_12).2
    have b_13c : c0 ≤ H20.sh.length := by omega
    have b_13d : s0 ≤ H20.sl := by omega
    have q_14 := (mz_12).get q_3
    have q_15 := (mz_12).get q_4
    have q_16 := (mz_12).get q11
    have q_17 := (mz_12).get q17
    obtain ⟨x22, ex22, hF⟩ := bnd_g hG; clear hG
    have fH20 : Mo H20 r.2 := by
      have hm := Mo.rf H20
      have hr := Option.some.inj hF; subst hr
      exact hm
    have b_13m := (fH20).len
    have b_13n := (fH20).2
    have b_13p : H20.sh.length ≤ c0 + C := by omega
    have b_13q : H20.sl ≤ s0 + Sl := by omega
    refine hp_callV_v (H1 := H20) (As := [.int 5, .int x5]) (rest := []) d_Body_numberHere_27 (k_Lexer_refuse z18 (C := H20.sh.length - H8.sh.length) (Sl := H20.sl - H8.sl) (by show H20.sh.length ≤ _; omega) (by show H20.sl ≤ _; omega)) (ab_mkC s_Lexer_refuse (Nat.le_of_ble_eq_true rfl) (Nat.le_of_ble_eq_true rfl) (show (H8.sh.length - c0) + (H20.sh.length - H8.sh.length) ≤ C from by omega) (show (H8.sl - s0) + (H20.sl - H8.sl) ≤ Sl from by omega)) (k5 135 rfl rfl) i_Lexer_refuse v_Lexer_refuse q17 (by decide) rfl rfl (Nat.le_of_ble_eq_true rfl) ?_
    refine ab_widen (cells' := H20.sh.length - c0) (slots' := H20.sl - s0) (by show _ + (H20.sh.length - H8.sh.length) ≤ _; omega) (by show _ + (H20.sl - H8.sl) ≤ _; omega) ?_
    clear b_13l b_13s b_13m b_13n b_2c b_2d b_2p b_2q
    refine ab_aload_n d_Body_numberHere_30 rfl rfl rfl ?_
    refine hp_getI (f := 2) d_Body_numberHere_31 q_16 (by decide) rfl (by decide) (k2 237 rfl rfl) rfl ?_
    refine ab_topxi ex22 ?_
    exact ab_iret d_Body_numberHere_34 rfl (by show _ ≤ C; omega) (by show _ ≤ Sl; omega) (by have hr := Option.some.inj hF; subst hr; exact ⟨rfl, rfl⟩)
def y_Named_isLocal : ab_Y := (⟨"WorldEngine$Named", "isLocal", "()Z"⟩, prog_4_method_3_code, 1, (some FieldType.boolean), [])
theorem d_Named_isLocal_0 : decode y_Named_isLocal.2.1 0 = .ok (.aload_n 0, 1) := by decide +kernel
theorem d_Named_isLocal_1 : decode y_Named_isLocal.2.1 1 = .ok (.getfield 15, 3) := by decide +kernel
theorem d_Named_isLocal_4 : decode y_Named_isLocal.2.1 4 = .ok (.iconst 5, 1) := by decide +kernel
theorem d_Named_isLocal_5 : decode y_Named_isLocal.2.1 5 = .ok (.if_icmp .eq 12, 3) := by decide +kernel
theorem d_Named_isLocal_8 : decode y_Named_isLocal.2.1 8 = .ok (.aload_n 0, 1) := by decide +kernel
theorem d_Named_isLocal_9 : decode y_Named_isLocal.2.1 9 = .ok (.getfield 15, 3) := by decide +kernel
theorem d_Named_isLocal_12 : decode y_Named_isLocal.2.1 12 = .ok (.bipush 6, 2) := by decide +kernel
theorem d_Named_isLocal_14 : decode y_Named_isLocal.2.1 14 = .ok (.if_icmp .ne 7, 3) := by decide +kernel
theorem d_Named_isLocal_17 : decode y_Named_isLocal.2.1 17 = .ok (.iconst 1, 1) := by decide +kernel
theorem d_Named_isLocal_18 : decode y_Named_isLocal.2.1 18 = .ok (.goto 4, 3) := by decide +kernel
theorem d_Named_isLocal_21 : decode y_Named_isLocal.2.1 21 = .ok (.iconst 0, 1) := by decide +kernel
theorem d_Named_isLocal_22 : decode y_Named_isLocal.2.1 22 = .ok (.ireturn, 1) := by decide +kernel
theorem s_Named_isLocal : ab_Stat y_Named_isLocal 0 := ⟨(k5 192 rfl rfl), (k1 16 rfl rfl), ⟨by decide, by decide⟩, by decide +kernel⟩
theorem i_Named_isLocal : Cond.instanceMethod y_Named_isLocal.1 ∈ ab_T := (k5 190 rfl rfl)
theorem v_Named_isLocal : Cond.selects "WorldEngine$Named" y_Named_isLocal.1 y_Named_isLocal.1 ∈ ab_T := (k5 191 rfl rfl)
def B_Named_isLocal_17 (N : Nat) (p0 : Nat)  (H : Hp) : Option (Int32 × Hp) :=
    some (1, H)
set_option maxRecDepth 20000 in
set_option maxHeartbeats 2000000 in
theorem mB_Named_isLocal_17 {N : Nat} {p0 : Nat}  {H : Hp} {r : Int32 × Hp} (hF : B_Named_isLocal_17 N p0  H = some r) : Sa H r.2 := by
  unfold B_Named_isLocal_17 at hF
  have hm := Sa.rf H
  have hr := Option.some.inj hF; subst hr
  exact hm
set_option maxRecDepth 20000 in
set_option maxHeartbeats 2000000 in
theorem kB_Named_isLocal_17 {N : Nat} {p0 : Nat}  {H : Hp} {r : Int32 × Hp} (hF : B_Named_isLocal_17 N p0  H = some r) : ab_V y_Named_isLocal { frames := 0, cells := 0, slots := 0, locals := 0 } (po (.returned (some (.int r.1))) r.2) 0 0 0 0 17 [some (.ref p0)] [] (hpw H) := by
  unfold B_Named_isLocal_17 at hF
  refine ab_iconst (v := 1) d_Named_isLocal_17 (by decide) ?_
  refine ab_goto (tgt := 22) d_Named_isLocal_18 (by decide) ?_
  exact ab_zret d_Named_isLocal_22 rfl rfl (Nat.le_refl _) (Nat.le_refl _) (by have hr := Option.some.inj hF; subst hr; exact ⟨rfl, rfl⟩)
def F_Named_isLocal (N : Nat) (p0 : Nat) (H : Hp) : Option (Int32 × Hp) :=
    ck (H.sh[p0]? = some (2, 0)) <|
    bnd ((H.D p0 1)) fun x2 =>
    if x2 = (5 : Int32) then
    B_Named_isLocal_17 N p0  H
    else
    bnd ((H.D p0 1)) fun x4 =>
    if x4 = (6 : Int32) then
    B_Named_isLocal_17 N p0  H
    else
    some (0, H)
set_option maxRecDepth 20000 in
set_option maxHeartbeats 2000000 in
theorem m_Named_isLocal {N : Nat} {p0 : Nat} {H : Hp} {r : Int32 × Hp} (hF : F_Named_isLocal N p0 H = some r) : Sa H r.2 := by
  unfold F_Named_isLocal at hF
  have hm := Sa.rf H
  obtain ⟨q6, hG⟩ := ck_s hF; clear hF
  obtain ⟨x7, -, hF⟩ := bnd_g hG; clear hG
  rcases ite_s hF with ⟨q_1, hG⟩ | ⟨q_1, hG⟩
  · clear hF
    exact hm.tr (mB_Named_isLocal_17 hG)
  · clear hF
    obtain ⟨x9, -, hF⟩ := bnd_g hG; clear hG
    rcases ite_s hF with ⟨q_2, hG⟩ | ⟨q_2, hG⟩
    · clear hF
      exact hm.tr (mB_Named_isLocal_17 hG)
    · clear hF
      have hr := Option.some.inj hG; subst hr
      exact hm
set_option maxRecDepth 20000 in
set_option maxHeartbeats 2000000 in
theorem k_Named_isLocal {N : Nat} {p0 : Nat} {H : Hp} {r : Int32 × Hp} (hF : F_Named_isLocal N p0 H = some r) : ab_M y_Named_isLocal { frames := 0, cells := 0, slots := 0, locals := 0 } [.ref p0] (hpw H) (po (.returned (some (.int r.1))) r.2) := by
  unfold F_Named_isLocal at hF
  refine ab_of2 (lv := [some (.ref p0)]) 0 rfl rfl (Nat.le_of_ble_eq_true rfl) ?_
  refine ab_aload_n d_Named_isLocal_0 rfl rfl rfl ?_
  obtain ⟨q1, hG⟩ := ck_s hF; clear hF
  refine hp_getI (f := 1) d_Named_isLocal_1 q1 (by decide) rfl (by decide) (k2 232 rfl rfl) rfl ?_
  refine ab_topi (fun x2 ex2 => ?_)
  replace hG := bnd_s ex2 hG
  refine ab_iconst (v := 5) d_Named_isLocal_4 (by decide) ?_
  refine ab_icmp_eq (tgt := 17) d_Named_isLocal_5 (by decide) (fun q3 => ?_) (fun q3 => ?_)
  · rw [if_pos q3] at hG
    exact kB_Named_isLocal_17 hG
  · rw [if_neg q3] at hG
    refine ab_aload_n d_Named_isLocal_8 rfl rfl rfl ?_
    refine hp_getI (f := 1) d_Named_isLocal_9 q1 (by decide) rfl (by decide) (k2 232 rfl rfl) rfl ?_
    refine ab_topi (fun x4 ex4 => ?_)
    replace hG := bnd_s ex4 hG
    refine ab_bipush (v := 6) d_Named_isLocal_12 (by decide) ?_
    refine ab_icmp_ne (tgt := 21) d_Named_isLocal_14 (by decide) (fun q5 => ?_) (fun q5 => ?_)
    · rw [if_neg q5] at hG
      refine ab_iconst (v := 0) d_Named_isLocal_21 (by decide) ?_
      exact ab_zret d_Named_isLocal_22 rfl rfl (Nat.le_refl _) (Nat.le_refl _) (by have hr := Option.some.inj hG; subst hr; exact ⟨rfl, rfl⟩)
    · rw [if_pos q5] at hG
      exact kB_Named_isLocal_17 hG
def y_Body_loopOf : ab_Y := (⟨"WorldEngine$Body", "loopOf", "(I)I"⟩, prog_2_method_45_code, 3, (some FieldType.int), [])
theorem d_Body_loopOf_0 : decode y_Body_loopOf.2.1 0 = .ok (.aload_n 0, 1) := by decide +kernel
theorem d_Body_loopOf_1 : decode y_Body_loopOf.2.1 1 = .ok (.getfield 33, 3) := by decide +kernel
theorem d_Body_loopOf_4 : decode y_Body_loopOf.2.1 4 = .ok (.iconst 1, 1) := by decide +kernel
theorem d_Body_loopOf_5 : decode y_Body_loopOf.2.1 5 = .ok (.isub, 1) := by decide +kernel
theorem d_Body_loopOf_6 : decode y_Body_loopOf.2.1 6 = .ok (.istore_n 2, 1) := by decide +kernel
theorem d_Body_loopOf_7 : decode y_Body_loopOf.2.1 7 = .ok (.iload_n 2, 1) := by decide +kernel
theorem d_Body_loopOf_8 : decode y_Body_loopOf.2.1 8 = .ok (.ifCond .lt 30, 3) := by decide +kernel
theorem d_Body_loopOf_11 : decode y_Body_loopOf.2.1 11 = .ok (.iload_n 2, 1) := by decide +kernel
theorem d_Body_loopOf_12 : decode y_Body_loopOf.2.1 12 = .ok (.aload_n 0, 1) := by decide +kernel
theorem d_Body_loopOf_13 : decode y_Body_loopOf.2.1 13 = .ok (.getfield 13, 3) := by decide +kernel
theorem d_Body_loopOf_16 : decode y_Body_loopOf.2.1 16 = .ok (.arraylength, 1) := by decide +kernel
theorem d_Body_loopOf_17 : decode y_Body_loopOf.2.1 17 = .ok (.if_icmp .ge 15, 3) := by decide +kernel
theorem d_Body_loopOf_20 : decode y_Body_loopOf.2.1 20 = .ok (.aload_n 0, 1) := by decide +kernel
theorem d_Body_loopOf_21 : decode y_Body_loopOf.2.1 21 = .ok (.getfield 13, 3) := by decide +kernel
theorem d_Body_loopOf_24 : decode y_Body_loopOf.2.1 24 = .ok (.iload_n 2, 1) := by decide +kernel
theorem d_Body_loopOf_25 : decode y_Body_loopOf.2.1 25 = .ok (.iaload, 1) := by decide +kernel
theorem d_Body_loopOf_26 : decode y_Body_loopOf.2.1 26 = .ok (.iload_n 1, 1) := by decide +kernel
theorem d_Body_loopOf_27 : decode y_Body_loopOf.2.1 27 = .ok (.if_icmp .ne 5, 3) := by decide +kernel
theorem d_Body_loopOf_30 : decode y_Body_loopOf.2.1 30 = .ok (.iload_n 2, 1) := by decide +kernel
theorem d_Body_loopOf_31 : decode y_Body_loopOf.2.1 31 = .ok (.ireturn, 1) := by decide +kernel
theorem d_Body_loopOf_32 : decode y_Body_loopOf.2.1 32 = .ok (.iinc 2 (-1), 3) := by decide +kernel
theorem d_Body_loopOf_35 : decode y_Body_loopOf.2.1 35 = .ok (.goto (-28), 3) := by decide +kernel
theorem d_Body_loopOf_38 : decode y_Body_loopOf.2.1 38 = .ok (.iconst (-1), 1) := by decide +kernel
theorem d_Body_loopOf_39 : decode y_Body_loopOf.2.1 39 = .ok (.ireturn, 1) := by decide +kernel
theorem s_Body_loopOf : ab_Stat y_Body_loopOf 1 := ⟨(k5 196 rfl rfl), (k1 8 rfl rfl), ⟨by decide, by decide⟩, by decide +kernel⟩
theorem i_Body_loopOf : Cond.instanceMethod y_Body_loopOf.1 ∈ ab_T := (k5 195 rfl rfl)
theorem v_Body_loopOf : Cond.selects "WorldEngine$Body" y_Body_loopOf.1 y_Body_loopOf.1 ∈ ab_T := ab_s (List.mem_of_getElem? (i := 38) rfl) rfl
def B_Body_loopOf_32 (N : Nat) (p0 : Nat) (p1 : Int32) (kq7 : Int32 → Hp → Option (Int32 × Hp)) (l2 : Int32) (H : Hp) : Option (Int32 × Hp) :=
    kq7 (l2 + (-1)) H
set_option maxRecDepth 20000 in
set_option maxHeartbeats 2000000 in
theorem mB_Body_loopOf_32 {N : Nat} {p0 : Nat} {p1 : Int32} {kq7 : Int32 → Hp → Option (Int32 × Hp)} (hm7 : ∀ (l2 : Int32) (H : Hp) (r : Int32 × Hp), kq7 l2 H = some r → Sa H r.2) {l2 : Int32} {H : Hp} {r : Int32 × Hp} (hF : B_Body_loopOf_32 N p0 p1 kq7 l2 H = some r) : Sa H r.2 := by
  unfold B_Body_loopOf_32 at hF
  have hm := Sa.rf H
  exact hm.tr (hm7 (l2 + (-1)) H r hF)
set_option maxRecDepth 20000 in
set_option maxHeartbeats 2000000 in
theorem kB_Body_loopOf_32 {N : Nat} {p0 : Nat} {p1 : Int32} {kq7 : Int32 → Hp → Option (Int32 × Hp)} (hm7 : ∀ (l2 : Int32) (H : Hp) (r : Int32 × Hp), kq7 l2 H = some r → Sa H r.2) (hk7 : ∀ (l2 : Int32) (H : Hp) (r : Int32 × Hp), kq7 l2 H = some r → ab_V y_Body_loopOf { frames := 0, cells := 0, slots := 0, locals := 0 } (po (.returned (some (.int r.1))) r.2) 0 0 0 0 7 [some (.ref p0), some (.int p1), some (.int l2)] [] (hpw H)) {l2 : Int32} {H : Hp} {r : Int32 × Hp} (hF : B_Body_loopOf_32 N p0 p1 kq7 l2 H = some r) : ab_V y_Body_loopOf { frames := 0, cells := 0, slots := 0, locals := 0 } (po (.returned (some (.int r.1))) r.2) 0 0 0 0 32 [some (.ref p0), some (.int p1), some (.int l2)] [] (hpw H) := by
  unfold B_Body_loopOf_32 at hF
  refine ab_iinc (v := l2 + (-1)) (lv' := [some (.ref p0), some (.int p1), some (.int (l2 + (-1)))]) d_Body_loopOf_32 rfl rfl (by decide) rfl ?_
  refine ab_goto (tgt := 7) d_Body_loopOf_35 (by decide) ?_
  exact hk7 (l2 + (-1)) H r hF
def B_Body_loopOf_7 (N : Nat) (p0 : Nat) (p1 : Int32) : Nat → Int32 → Hp → Option (Int32 × Hp)
  | 0, _, _ => none
  | n + 1, l2, H =>
    if l2 < (0 : Int32) then
    some ((-1), H)
    else
    ck (H.sh[p0]? = some (6, 0)) <|
    rf (H.P p0 4) fun a6 =>
    ar H 100 a6 fun n8 =>
    if (Int32.ofNat n8) ≤ l2 then
    B_Body_loopOf_32 N p0 p1 (fun l2 H => B_Body_loopOf_7 N p0 p1 n l2 H) l2 H
    else
    rf (H.P p0 4) fun a11 =>
    ar H 100 a11 fun n13 =>
    ck (inb l2 n13) <|
    bnd ((H.D a11 (l2).toNatClampNeg)) fun x16 =>
    if x16 = p1 then
    some (l2, H)
    else
    B_Body_loopOf_32 N p0 p1 (fun l2 H => B_Body_loopOf_7 N p0 p1 n l2 H) l2 H
termination_by structural n => n
set_option maxRecDepth 20000 in
set_option maxHeartbeats 2000000 in
theorem mB_Body_loopOf_7 {N : Nat} {p0 : Nat} {p1 : Int32} : ∀ (n : Nat) (l2 : Int32) (H : Hp) (r : Int32 × Hp), B_Body_loopOf_7 N p0 p1 n l2 H = some r → Sa H r.2 := by
  intro n
  induction n with
  | zero => intro l2 H r hF; rw [B_Body_loopOf_7] at hF; cases hF
  | succ n ih =>
    intro l2 H r hF
    rw [B_Body_loopOf_7] at hF
    have hm := Sa.rf H
    rcases ite_s hF with ⟨q_1, hG⟩ | ⟨q_1, hG⟩
    · clear hF
      have hr := Option.some.inj hG; subst hr
      exact hm
    · clear hF
      obtain ⟨q19, hF⟩ := ck_s hG; clear hG
      obtain ⟨a20, e21, hG⟩ := rf_s hF; clear hF
      obtain ⟨n22, q23, hF⟩ := ar_s hG; clear hG
      rcases ite_s hF with ⟨q_2, hG⟩ | ⟨q_2, hG⟩
      · clear hF
        exact hm.tr (mB_Body_loopOf_32 ih hG)
      · clear hF
        obtain ⟨a25, e26, hF⟩ := rf_s hG; clear hG
        obtain ⟨n27, q28, hG⟩ := ar_s hF; clear hF
        obtain ⟨q29, hF⟩ := ck_s hG; clear hG
        obtain ⟨x30, -, hG⟩ := bnd_g hF; clear hF
        rcases ite_s hG with ⟨q_3, hF⟩ | ⟨q_3, hF⟩
        · clear hG
          have hr := Option.some.inj hF; subst hr
          exact hm
        · clear hG
          exact hm.tr (mB_Body_loopOf_32 ih hF)
set_option maxRecDepth 20000 in
set_option maxHeartbeats 2000000 in
theorem kB_Body_loopOf_7 {N : Nat} {p0 : Nat} {p1 : Int32} : ∀ (n : Nat) (l2 : Int32) (H : Hp) (r : Int32 × Hp), B_Body_loopOf_7 N p0 p1 n l2 H = some r → ab_V y_Body_loopOf { frames := 0, cells := 0, slots := 0, locals := 0 } (po (.returned (some (.int r.1))) r.2) 0 0 0 0 7 [some (.ref p0), some (.int p1), some (.int l2)] [] (hpw H) := by
  intro n
  induction n with
  | zero => intro l2 H r hF; rw [B_Body_loopOf_7] at hF; cases hF
  | succ n ih =>
    intro l2 H r hF
    rw [B_Body_loopOf_7] at hF
    refine ab_iload_n d_Body_loopOf_7 rfl rfl ?_
    refine ab_if_lt (tgt := 38) d_Body_loopOf_8 (by decide) (fun q4 => ?_) (fun q4 => ?_)
    · rw [if_pos q4] at hF
      refine ab_iconst (v := (-1)) d_Body_loopOf_38 (by decide) ?_
      exact ab_iret d_Body_loopOf_39 rfl (Nat.le_refl _) (Nat.le_refl _) (by have hr := Option.some.inj hF; subst hr; exact ⟨rfl, rfl⟩)
    · rw [if_neg q4] at hF
      refine ab_iload_n d_Body_loopOf_11 rfl rfl ?_
      refine ab_aload_n d_Body_loopOf_12 rfl rfl rfl ?_
      obtain ⟨q5, hG⟩ := ck_s hF; clear hF
      obtain ⟨a6, e7, hF⟩ := rf_s hG; clear hG
      refine hp_getR (f := 4) d_Body_loopOf_13 q5 (by decide) rfl (by decide) (k1 161 rfl rfl) rfl e7 ?_
      obtain ⟨n8, q9, hG⟩ := ar_s hF; clear hF
      refine hp_alen (q := 100) d_Body_loopOf_16 q9 (Or.inl ⟨by decide, by decide, rfl⟩) tI ?_
      refine ab_icmp_ge (tgt := 32) d_Body_loopOf_17 (by decide) (fun q10 => ?_) (fun q10 => ?_)
      · rw [if_pos q10] at hG
        exact kB_Body_loopOf_32 (mB_Body_loopOf_7 n) ih hG
      · rw [if_neg q10] at hG
        refine ab_aload_n d_Body_loopOf_20 rfl rfl rfl ?_
        obtain ⟨a11, e12, hF⟩ := rf_s hG; clear hG
        refine hp_getR (f := 4) d_Body_loopOf_21 q5 (by decide) rfl (by decide) (k1 161 rfl rfl) rfl e12 ?_
        refine ab_iload_n d_Body_loopOf_24 rfl rfl ?_
        obtain ⟨n13, q14, hG⟩ := ar_s hF; clear hF
        obtain ⟨q15, hF⟩ := ck_s hG; clear hG
        refine hp_iald d_Body_loopOf_25 tI q14 q15 ?_
        refine ab_topi (fun x16 ex16 => ?_)
        replace hF := bnd_s ex16 hF
        refine ab_iload_n d_Body_loopOf_26 rfl rfl ?_
        refine ab_icmp_ne (tgt := 32) d_Body_loopOf_27 (by decide) (fun q17 => ?_) (fun q17 => ?_)
        · rw [if_neg q17] at hF
          exact kB_Body_loopOf_32 (mB_Body_loopOf_7 n) ih hF
        · rw [if_pos q17] at hF
          refine ab_iload_n d_Body_loopOf_30 rfl rfl ?_
          exact ab_iret d_Body_loopOf_31 rfl (Nat.le_refl _) (Nat.le_refl _) (by have hr := Option.some.inj hF; subst hr; exact ⟨rfl, rfl⟩)
def F_Body_loopOf (N : Nat) (p0 : Nat) (p1 : Int32) (H : Hp) : Option (Int32 × Hp) :=
    ck (H.sh[p0]? = some (6, 0)) <|
    bnd ((H.D p0 5)) fun x2 =>
    bnd ((x2 - (1 : Int32))) fun x3 =>
    B_Body_loopOf_7 N p0 p1 N x3 H
set_option maxRecDepth 20000 in
set_option maxHeartbeats 2000000 in
theorem m_Body_loopOf {N : Nat} {p0 : Nat} {p1 : Int32} {H : Hp} {r : Int32 × Hp} (hF : F_Body_loopOf N p0 p1 H = some r) : Sa H r.2 := by
  unfold F_Body_loopOf at hF
  have hm := Sa.rf H
  obtain ⟨q32, hG⟩ := ck_s hF; clear hF
  obtain ⟨x33, -, hF⟩ := bnd_g hG; clear hG
  obtain ⟨x34, -, hG⟩ := bnd_g hF; clear hF
  exact hm.tr (mB_Body_loopOf_7 N x34 H r hG)
set_option maxRecDepth 20000 in
set_option maxHeartbeats 2000000 in
theorem k_Body_loopOf {N : Nat} {p0 : Nat} {p1 : Int32} {H : Hp} {r : Int32 × Hp} (hF : F_Body_loopOf N p0 p1 H = some r) : ab_M y_Body_loopOf { frames := 0, cells := 0, slots := 0, locals := 0 } [.ref p0, .int p1] (hpw H) (po (.returned (some (.int r.1))) r.2) := by
  unfold F_Body_loopOf at hF
  refine ab_of2 (lv := [some (.ref p0), some (.int p1), none]) 1 rfl rfl (Nat.le_of_ble_eq_true rfl) ?_
  refine ab_aload_n d_Body_loopOf_0 rfl rfl rfl ?_
  obtain ⟨q1, hG⟩ := ck_s hF; clear hF
  refine hp_getI (f := 5) d_Body_loopOf_1 q1 (by decide) rfl (by decide) (k1 162 rfl rfl) rfl ?_
  refine ab_topi (fun x2 ex2 => ?_)
  replace hG := bnd_s ex2 hG
  refine ab_iconst (v := 1) d_Body_loopOf_4 (by decide) ?_
  refine ab_isub d_Body_loopOf_5 ?_
  refine ab_topi (fun x3 ex3 => ?_)
  replace hG := bnd_s ex3 hG
  refine ab_istore_n (lv' := [some (.ref p0), some (.int p1), some (.int x3)]) d_Body_loopOf_6 rfl (by decide) rfl ?_
  exact kB_Body_loopOf_7 N x3 H r hG
def y_Body_memberHere : ab_Y := (⟨"WorldEngine$Body", "memberHere", "(LWorldEngine$Shapes;I)I"⟩, prog_2_method_18_code, 5, (some FieldType.int), [])
theorem d_Body_memberHere_0 : decode y_Body_memberHere.2.1 0 = .ok (.aload_n 0, 1) := by decide +kernel
theorem d_Body_memberHere_1 : decode y_Body_memberHere.2.1 1 = .ok (.getfield 7, 3) := by decide +kernel
theorem d_Body_memberHere_4 : decode y_Body_memberHere.2.1 4 = .ok (.getfield 96, 3) := by decide +kernel
theorem d_Body_memberHere_7 : decode y_Body_memberHere.2.1 7 = .ok (.istore_n 3, 1) := by decide +kernel
theorem d_Body_memberHere_8 : decode y_Body_memberHere.2.1 8 = .ok (.aload_n 1, 1) := by decide +kernel
theorem d_Body_memberHere_9 : decode y_Body_memberHere.2.1 9 = .ok (.iload_n 2, 1) := by decide +kernel
theorem d_Body_memberHere_10 : decode y_Body_memberHere.2.1 10 = .ok (.aload_n 0, 1) := by decide +kernel
theorem d_Body_memberHere_11 : decode y_Body_memberHere.2.1 11 = .ok (.getfield 7, 3) := by decide +kernel
theorem d_Body_memberHere_14 : decode y_Body_memberHere.2.1 14 = .ok (.invokevirtual 173, 3) := by decide +kernel
theorem d_Body_memberHere_17 : decode y_Body_memberHere.2.1 17 = .ok (.invokevirtual 194, 3) := by decide +kernel
theorem d_Body_memberHere_20 : decode y_Body_memberHere.2.1 20 = .ok (.istore 4, 2) := by decide +kernel
theorem d_Body_memberHere_22 : decode y_Body_memberHere.2.1 22 = .ok (.iload 4, 2) := by decide +kernel
theorem d_Body_memberHere_24 : decode y_Body_memberHere.2.1 24 = .ok (.ifCond .ge 12, 3) := by decide +kernel
theorem d_Body_memberHere_27 : decode y_Body_memberHere.2.1 27 = .ok (.aload_n 0, 1) := by decide +kernel
theorem d_Body_memberHere_28 : decode y_Body_memberHere.2.1 28 = .ok (.getfield 7, 3) := by decide +kernel
theorem d_Body_memberHere_31 : decode y_Body_memberHere.2.1 31 = .ok (.iconst 4, 1) := by decide +kernel
theorem d_Body_memberHere_32 : decode y_Body_memberHere.2.1 32 = .ok (.iload_n 3, 1) := by decide +kernel
theorem d_Body_memberHere_33 : decode y_Body_memberHere.2.1 33 = .ok (.invokevirtual 99, 3) := by decide +kernel
theorem d_Body_memberHere_36 : decode y_Body_memberHere.2.1 36 = .ok (.iload 4, 2) := by decide +kernel
theorem d_Body_memberHere_38 : decode y_Body_memberHere.2.1 38 = .ok (.ireturn, 1) := by decide +kernel
theorem s_Body_memberHere : ab_Stat y_Body_memberHere 2 := ⟨(k5 200 rfl rfl), (k1 8 rfl rfl), ⟨by decide, by decide⟩, by decide +kernel⟩
theorem i_Body_memberHere : Cond.instanceMethod y_Body_memberHere.1 ∈ ab_T := (k5 199 rfl rfl)
theorem v_Body_memberHere : Cond.selects "WorldEngine$Body" y_Body_memberHere.1 y_Body_memberHere.1 ∈ ab_T := ab_s (List.mem_of_getElem? (i := 39) rfl) rfl
def F_Body_memberHere (N : Nat) (p0 : Nat) (p1 : Nat) (p2 : Int32) (H : Hp) : Option ((Ot Int32) × Hp) :=
    ck (H.sh[p0]? = some (6, 0)) <|
    rf (H.P p0 0) fun a2 =>
    ck (H.sh[a2]? = some (1, 0)) <|
    bnd ((H.D a2 3)) fun x5 =>
    rf (H.P p0 0) fun a6 =>
    ck (H.sh[a6]? = some (1, 0)) <|
    bT (F_Lexer_takeName N a6 H) fun v10 H11 =>
    on v10 fun a13 =>
    ck (H11.sh[p1]? = some (3, 0)) <|
    bC (F_Shapes_memberNamed N p1 p2 a13 H11) fun v16 H17 =>
    if (0 : Int32) ≤ v16 then
    some (.inl v16, H17)
    else
    rf (H17.P p0 0) fun a19 =>
    ck (H17.sh[a19]? = some (1, 0)) <|
    bT (F_Lexer_refuse N a19 (4 : Int32) x5 H17) fun v23 H24 =>
    some (.inl v16, H24)
set_option maxRecDepth 20000 in
set_option maxHeartbeats 2000000 in
theorem m_Body_memberHere {N : Nat} {p0 : Nat} {p1 : Nat} {p2 : Int32} {H : Hp} {r : (Ot Int32) × Hp} (hF : F_Body_memberHere N p0 p1 p2 H = some r) : Mo H r.2 := by
  unfold F_Body_memberHere at hF
  have hm := Mo.rf H
  obtain ⟨q26, hG⟩ := ck_s hF; clear hF
  obtain ⟨a27, e28, hF⟩ := rf_s hG; clear hG
  obtain ⟨q29, hG⟩ := ck_s hF; clear hF
  obtain ⟨x30, -, hF⟩ := bnd_g hG; clear hG
  obtain ⟨a31, e32, hG⟩ := rf_s hF; clear hF
  obtain ⟨q33, hF⟩ := ck_s hG; clear hG
  refine bT_c hF (fun x37 H36 z34 er => ?_) (fun v35 H36 z34 hG => ?_)
  · subst er; exact hm.tr (m_Lexer_takeName z34)
  clear hF
  replace hm : Mo H H36 := hm.tr (m_Lexer_takeName z34)
  obtain ⟨a38, ea38, hF⟩ := on_s hG; clear hG
  subst ea38
  obtain ⟨q39, hG⟩ := ck_s hF; clear hF
  obtain ⟨v41, H42, z40, hF⟩ := bC_s hG; clear hG
  replace hm : Mo H H42 := hm.tr ((m_Shapes_memberNamed z40)).mo
  rcases ite_s hF with ⟨q_27, hG⟩ | ⟨q_27, hG⟩
  · clear hF
    have hr := Option.some.inj hG; subst hr
    exact hm
  · clear hF
    obtain ⟨a44, e45, hF⟩ := rf_s hG; clear hG
    obtain ⟨q46, hG⟩ := ck_s hF; clear hF
    refine bT_c hG (fun x50 H49 z47 er => ?_) (fun v48 H49 z47 hF => ?_)
    · subst er; exact hm.tr (m_Lexer_refuse z47)
    clear hG
    replace hm : Mo H H49 := hm.tr (m_Lexer_refuse z47)
    have hr := Option.some.inj hF; subst hr
    exact hm
set_option maxRecDepth 20000 in
set_option maxHeartbeats 2000000 in
theorem k_Body_memberHere {N : Nat} {p0 : Nat} {p1 : Nat} {p2 : Int32} {H : Hp} {r : (Ot Int32) × Hp} {C Sl : Nat} (hF : F_Body_memberHere N p0 p1 p2 H = some r) (hC : r.2.sh.length ≤ H.sh.length + C) (hS : r.2.sl ≤ H.sl + Sl) : ab_M y_Body_memberHere { frames := 7, cells := C, slots := Sl, locals := 128 } [.ref p0, .ref p1, .int p2] (hpw H) (po (oI r.1) r.2) := by
  unfold F_Body_memberHere at hF
  obtain ⟨c0, e0⟩ : ∃ q, q = H.sh.length := ⟨_, rfl⟩
  obtain ⟨s0, e1⟩ : ∃ q, q = H.sl := ⟨_, rfl⟩
  rw [← e0] at hC
  rw [← e1] at hS
  have hc0 : c0 ≤ H.sh.length := Nat.le_of_eq e0
  have hs0 : s0 ≤ H.sl := Nat.le_of_eq e1
  have hcc : H.sh.length ≤ c0 + C := by omega
  have hss : H.sl ≤ s0 + Sl := by omega
  refine ab_of2 (lv := [some (.ref p0), some (.ref p1), some (.int p2), none, none]) 2 rfl rfl (Nat.le_of_ble_eq_true rfl) ?_
  refine ab_widen (cells' := H.sh.length - c0) (slots' := H.sl - s0) (Nat.zero_le _) (Nat.zero_le _) ?_
  refine ab_aload_n d_Body_memberHere_0 rfl rfl rfl ?_
  obtain ⟨q1, hG⟩ := ck_s hF; clear hF
  obtain ⟨a2, e3, hF⟩ := rf_s hG; clear hG
  refine hp_getR (f := 0) d_Body_memberHere_1 q1 (by decide) rfl (by decide) (k1 157 rfl rfl) rfl e3 ?_
  obtain ⟨q4, hG⟩ := ck_s hF; clear hF
  refine hp_getI (f := 3) d_Body_memberHere_4 q4 (by decide) rfl (by decide) (k1 103 rfl rfl) rfl ?_
  refine ab_topi (fun x5 ex5 => ?_)
  replace hG := bnd_s ex5 hG
  refine ab_istore_n (lv' := [some (.ref p0), some (.ref p1), some (.int p2), some (.int x5), none]) d_Body_memberHere_7 rfl (by decide) rfl ?_
  refine ab_aload_n d_Body_memberHere_8 rfl rfl rfl ?_
  refine ab_iload_n d_Body_memberHere_9 rfl rfl ?_
  refine ab_aload_n d_Body_memberHere_10 rfl rfl rfl ?_
  obtain ⟨a6, e7, hF⟩ := rf_s hG; clear hG
  refine hp_getR (f := 0) d_Body_memberHere_11 q1 (by decide) rfl (by decide) (k1 157 rfl rfl) rfl e7 ?_
  obtain ⟨q8, hG⟩ := ck_s hF; clear hF
  refine bT_c hG (fun x12 H11 z9 er => ?_) (fun v10 H11 z9 hF => ?_)
  · subst er
    have mz : Mo H H11 := (m_Lexer_takeName z9)
    have ml := mz.len
    have m2 := mz.2
    have hC9 : H11.sh.length ≤ c0 + C := hC
    have hS9 : H11.sl ≤ s0 + Sl := hS
    refine hp_callV_t (x := x12) (H1 := H11) (As := []) (rest := [.int p2, .ref p1]) d_Body_memberHere_14 (k_Lexer_takeName z9 (C := H11.sh.length - H.sh.length) (Sl := H11.sl - H.sl) (by show H11.sh.length ≤ _; omega) (by show H11.sl ≤ _; omega)) (ab_mkC s_Lexer_takeName (Nat.le_of_ble_eq_true rfl) (Nat.le_of_ble_eq_true rfl) (show (H.sh.length - c0) + (H11.sh.length - H.sh.length) ≤ C from by omega) (show (H.sl - s0) + (H11.sl - H.sl) ≤ Sl from by omega)) (k5 134 rfl rfl) i_Lexer_takeName v_Lexer_takeName q8 (by decide) rfl rfl (Nat.le_of_ble_eq_true rfl) ?_
    exact ab_U_out rfl (by show _ + (H11.sh.length - H.sh.length) ≤ C; omega) (by show _ + (H11.sl - H.sl) ≤ Sl; omega) ⟨rfl, rfl⟩
  clear hG
  have mz_1 : Mo H H11 := (m_Lexer_takeName z9)
  have b_2l := (mz_1).len
  have b_2s := (mz_1).2
  have b_2c : c0 ≤ H11.sh.length := by omega
  have b_2d : s0 ≤ H11.sl := by omega
  have q_3 := (mz_1).get q1
  have q_4 := (mz_1).get q4
  have q_5 := (mz_1).get q8
  have mf_6 : Mo H11 r.2 := by
    have hm := Mo.rf H11
    obtain ⟨a13, ea13, hG⟩ := on_s hF; clear hF
    subst ea13
    obtain ⟨q14, hF⟩ := ck_s hG; clear hG
    obtain ⟨v16, H17, z15, hG⟩ := bC_s hF; clear hF
    replace hm : Mo H11 H17 := hm.tr ((m_Shapes_memberNamed z15)).mo
    rcases ite_s hG with ⟨q_7, hF⟩ | ⟨q_7, hF⟩
    · clear hG
      have hr := Option.some.inj hF; subst hr
      exact hm
    · clear hG
      obtain ⟨a19, e20, hG⟩ := rf_s hF; clear hF
      obtain ⟨q21, hF⟩ := ck_s hG; clear hG
      refine bT_c hF (fun x25 H24 z22 er => ?_) (fun v23 H24 z22 hG => ?_)
      · subst er; exact hm.tr (m_Lexer_refuse z22)
      clear hF
      replace hm : Mo H11 H24 := hm.tr (m_Lexer_refuse z22)
      have hr := Option.some.inj hG; subst hr
      exact hm
  have b_2m := (mf_6).len
  have b_2n := (mf_6).2
  have b_2p : H11.sh.length ≤ c0 + C := by omega
  have b_2q : H11.sl ≤ s0 + Sl := by omega
  refine hp_callV_a (v := ab_rf v10) (H1 := H11) (As := []) (rest := [.int p2, .ref p1]) d_Body_memberHere_14 (k_Lexer_takeName z9 (C := H11.sh.length - H.sh.length) (Sl := H11.sl - H.sl) (by show H11.sh.length ≤ _; omega) (by show H11.sl ≤ _; omega)) (ab_mkC s_Lexer_takeName (Nat.le_of_ble_eq_true rfl) (Nat.le_of_ble_eq_true rfl) (show (H.sh.length - c0) + (H11.sh.length - H.sh.length) ≤ C from by omega) (show (H.sl - s0) + (H11.sl - H.sl) ≤ Sl from by omega)) (k5 134 rfl rfl) i_Lexer_takeName v_Lexer_takeName q8 (by decide) rfl rfl (Nat.le_of_ble_eq_true rfl) ?_
  refine ab_widen (cells' := H11.sh.length - c0) (slots' := H11.sl - s0) (by show _ + (H11.sh.length - H.sh.length) ≤ _; omega) (by show _ + (H11.sl - H.sl) ≤ _; omega) ?_
  clear b_2l b_2s b_2m b_2n
  obtain ⟨a13, ea13, hG⟩ := on_s hF; clear hF
  subst ea13
  obtain ⟨q14, hF⟩ := ck_s hG; clear hG
  obtain ⟨v16, H17, z15, hG⟩ := bC_s hF; clear hF
  refine hp_callV_a (v := .int v16) (H1 := H17) (As := [.int p2, .ref a13]) (rest := []) d_Body_memberHere_17 (k_Shapes_memberNamed z15) (ab_mkC s_Shapes_memberNamed (Nat.le_of_ble_eq_true rfl) (Nat.le_of_ble_eq_true rfl) (show (H11.sh.length - c0) + 0 ≤ C from by omega) (show (H11.sl - s0) + 0 ≤ Sl from by omega)) (k5 201 rfl rfl) i_Shapes_memberNamed v_Shapes_memberNamed q14 (by decide) rfl rfl (Nat.le_of_ble_eq_true rfl) ?_
  have s_15 : Sa H11 H17 := (m_Shapes_memberNamed z15)
  refine ab_widen (cells' := H11.sh.length - c0) (slots' := H11.sl - s0) (by show (H11.sh.length - c0) + 0 ≤ _; omega) (by show (H11.sl - s0) + 0 ≤ _; omega) ?_
  refine ab_istore (lv' := [some (.ref p0), some (.ref p1), some (.int p2), some (.int x5), some (.int v16)]) d_Body_memberHere_20 (by decide) rfl ?_
  refine ab_iload d_Body_memberHere_22 rfl ?_
  refine ab_if_ge (tgt := 36) d_Body_memberHere_24 (by decide) (fun q18 => ?_) (fun q18 => ?_)
  · rw [if_pos q18] at hG
    refine ab_iload d_Body_memberHere_36 rfl ?_
    exact ab_iret d_Body_memberHere_38 rfl (by show _ ≤ C; omega) (by show _ ≤ Sl; omega) (by have hr := Option.some.inj hG; subst hr; exact ⟨rfl, rfl⟩)
  · rw [if_neg q18] at hG
    refine ab_aload_n d_Body_memberHere_27 rfl rfl rfl ?_
    obtain ⟨a19, e20, hF⟩ := rf_s hG; clear hG
    refine hp_getR (f := 0) d_Body_memberHere_28 (by rw [(s_15).1]; exact q_3) (by decide) rfl (by decide) (k1 157 rfl rfl) rfl e20 ?_
    refine ab_iconst (v := 4) d_Body_memberHere_31 (by decide) ?_
    refine ab_iload_n d_Body_memberHere_32 rfl rfl ?_
    obtain ⟨q21, hG⟩ := ck_s hF; clear hF
    rw [(s_15).1] at q21
    refine bT_c hG (fun x25 H24 z22 er => ?_) (fun v23 H24 z22 hF => ?_)
    · subst er
      refine ab_widen (cells' := H17.sh.length - c0) (slots' := H17.sl - s0) (by rw [(s_15).1]; exact Nat.le_refl _) (by rw [(s_15).2]; exact Nat.le_refl _) ?_
      have mz : Mo H17 H24 := (m_Lexer_refuse z22)
      have ml := mz.len
      have m2 := mz.2
      have be := congrArg List.length (s_15).1
      have bfx := (s_15).2
      have hC9 : H24.sh.length ≤ c0 + C := hC
      have hS9 : H24.sl ≤ s0 + Sl := hS
      refine hp_callV_t (x := x25) (H1 := H24) (As := [.int 4, .int x5]) (rest := []) d_Body_memberHere_33 (k_Lexer_refuse z22 (C := H24.sh.length - H17.sh.length) (Sl := H24.sl - H17.sl) (by show H24.sh.length ≤ _; omega) (by show H24.sl ≤ _; omega)) (ab_mkC s_Lexer_refuse (Nat.le_of_ble_eq_true rfl) (Nat.le_of_ble_eq_true rfl) (show (H17.sh.length - c0) + (H24.sh.length - H17.sh.length) ≤ C from by omega) (show (H17.sl - s0) + (H24.sl - H17.sl) ≤ Sl from by omega)) (k5 135 rfl rfl) i_Lexer_refuse v_Lexer_refuse (by rw [(s_15).1]; exact q21) (by decide) rfl rfl (Nat.le_of_ble_eq_true rfl) ?_
      exact ab_U_out rfl (by show _ + (H24.sh.length - H17.sh.length) ≤ C; omega) (by show _ + (H24.sl - H17.sl) ≤ Sl; omega) ⟨rfl, rfl⟩
    clear hG
    refine ab_widen (cells' := H17.sh.length - c0) (slots' := H17.sl - s0) (by rw [(s_15).1]; exact Nat.le_refl _) (by rw [(s_15).2]; exact Nat.le_refl _) ?_
    have mz_16 : Mo H17 H24 := (m_Lexer_refuse z22)
    have b_17l := (mz_16).len
    have b_17s := (mz_16).2
    have b_17e := congrArg List.length (s_15).1
    have b_17f := (s_15).2
    have b_17c : c0 ≤ H24.sh.length := by omega
    have b_17d : s0 ≤ H24.sl := by omega
    have q_18 := (mz_16).get (by rw [(s_15).1]; exact q_3)
    have q_19 := (mz_16).get (by rw [(s_15).1]; exact q_4)
    have q_20 := (mz_16).get (by rw [(s_15).1]; exact q_5)
    have q_21 := (mz_16).get (by rw [(s_15).1]; exact q14)
    have q_22 := (mz_16).get (by rw [(s_15).1]; exact q21)
    have fH24 : Mo H24 r.2 := by
      have hm := Mo.rf H24
      have hr := Option.some.inj hF; subst hr
      exact hm
    have b_17m := (fH24).len
    have b_17n := (fH24).2
    have b_17p : H24.sh.length ≤ c0 + C := by omega
    have b_17q : H24.sl ≤ s0 + Sl := by omega
    refine hp_callV_v (H1 := H24) (As := [.int 4, .int x5]) (rest := []) d_Body_memberHere_33 (k_Lexer_refuse z22 (C := H24.sh.length - H17.sh.length) (Sl := H24.sl - H17.sl) (by show H24.sh.length ≤ _; omega) (by show H24.sl ≤ _; omega)) (ab_mkC s_Lexer_refuse (Nat.le_of_ble_eq_true rfl) (Nat.le_of_ble_eq_true rfl) (show (H17.sh.length - c0) + (H24.sh.length - H17.sh.length) ≤ C from by omega) (show (H17.sl - s0) + (H24.sl - H17.sl) ≤ Sl from by omega)) (k5 135 rfl rfl) i_Lexer_refuse v_Lexer_refuse (by rw [(s_15).1]; exact q21) (by decide) rfl rfl (Nat.le_of_ble_eq_true rfl) ?_
    refine ab_widen (cells' := H24.sh.length - c0) (slots' := H24.sl - s0) (by show _ + (H24.sh.length - H17.sh.length) ≤ _; omega) (by show _ + (H24.sl - H17.sl) ≤ _; omega) ?_
    clear b_17l b_17s b_17m b_17n b_17e b_17f b_2c b_2d b_2p b_2q
    refine ab_iload d_Body_memberHere_36 rfl ?_
    exact ab_iret d_Body_memberHere_38 rfl (by show _ ≤ C; omega) (by show _ ≤ Sl; omega) (by have hr := Option.some.inj hF; subst hr; exact ⟨rfl, rfl⟩)
def y_Body_asValue : ab_Y := (⟨"WorldEngine$Body", "asValue", "(I)I"⟩, prog_2_method_30_code, 1, (some FieldType.int), [])
theorem d_Body_asValue_0 : decode y_Body_asValue.2.1 0 = .ok (.iload_n 0, 1) := by decide +kernel
theorem d_Body_asValue_1 : decode y_Body_asValue.2.1 1 = .ok (.iconst 1, 1) := by decide +kernel
theorem d_Body_asValue_2 : decode y_Body_asValue.2.1 2 = .ok (.if_icmp .ne 7, 3) := by decide +kernel
theorem d_Body_asValue_5 : decode y_Body_asValue.2.1 5 = .ok (.iconst 0, 1) := by decide +kernel
theorem d_Body_asValue_6 : decode y_Body_asValue.2.1 6 = .ok (.goto 4, 3) := by decide +kernel
theorem d_Body_asValue_9 : decode y_Body_asValue.2.1 9 = .ok (.iload_n 0, 1) := by decide +kernel
theorem d_Body_asValue_10 : decode y_Body_asValue.2.1 10 = .ok (.ireturn, 1) := by decide +kernel
theorem s_Body_asValue : ab_Stat y_Body_asValue 1 := ⟨(k5 204 rfl rfl), (k1 8 rfl rfl), ⟨by decide, by decide⟩, by decide +kernel⟩
theorem t_Body_asValue : Cond.static y_Body_asValue.1 ∈ ab_T := (k5 203 rfl rfl)
def F_Body_asValue (N : Nat) (p0 : Int32) (H : Hp) : Option (Int32 × Hp) :=
    if p0 = (1 : Int32) then
    some (0, H)
    else
    some (p0, H)
set_option maxRecDepth 20000 in
set_option maxHeartbeats 2000000 in
theorem m_Body_asValue {N : Nat} {p0 : Int32} {H : Hp} {r : Int32 × Hp} (hF : F_Body_asValue N p0 H = some r) : Sa H r.2 := by
  unfold F_Body_asValue at hF
  have hm := Sa.rf H
  rcases ite_s hF with ⟨q_1, hG⟩ | ⟨q_1, hG⟩
  · clear hF
    have hr := Option.some.inj hG; subst hr
    exact hm
  · clear hF
    have hr := Option.some.inj hG; subst hr
    exact hm
set_option maxRecDepth 20000 in
set_option maxHeartbeats 2000000 in
theorem k_Body_asValue {N : Nat} {p0 : Int32} {H : Hp} {r : Int32 × Hp} (hF : F_Body_asValue N p0 H = some r) : ab_M y_Body_asValue { frames := 0, cells := 0, slots := 0, locals := 0 } [.int p0] (hpw H) (po (.returned (some (.int r.1))) r.2) := by
  unfold F_Body_asValue at hF
  refine ab_of2 (lv := [some (.int p0)]) 0 rfl rfl (Nat.le_of_ble_eq_true rfl) ?_
  refine ab_iload_n d_Body_asValue_0 rfl rfl ?_
  refine ab_iconst (v := 1) d_Body_asValue_1 (by decide) ?_
  refine ab_icmp_ne (tgt := 9) d_Body_asValue_2 (by decide) (fun q1 => ?_) (fun q1 => ?_)
  · rw [if_neg q1] at hF
    refine ab_iload_n d_Body_asValue_9 rfl rfl ?_
    exact ab_iret d_Body_asValue_10 rfl (Nat.le_refl _) (Nat.le_refl _) (by have hr := Option.some.inj hF; subst hr; exact ⟨rfl, rfl⟩)
  · rw [if_pos q1] at hF
    refine ab_iconst (v := 0) d_Body_asValue_5 (by decide) ?_
    refine ab_goto (tgt := 10) d_Body_asValue_6 (by decide) ?_
    exact ab_iret d_Body_asValue_10 rfl (Nat.le_refl _) (Nat.le_refl _) (by have hr := Option.some.inj hF; subst hr; exact ⟨rfl, rfl⟩)
def y_Body_kindAt : ab_Y := (⟨"WorldEngine$Body", "kindAt", "(I)I"⟩, prog_2_method_20_code, 2, (some FieldType.int), [])
theorem d_Body_kindAt_0 : decode y_Body_kindAt.2.1 0 = .ok (.aload_n 0, 1) := by decide +kernel
theorem d_Body_kindAt_1 : decode y_Body_kindAt.2.1 1 = .ok (.getfield 17, 3) := by decide +kernel
theorem d_Body_kindAt_4 : decode y_Body_kindAt.2.1 4 = .ok (.getfield 148, 3) := by decide +kernel
theorem d_Body_kindAt_7 : decode y_Body_kindAt.2.1 7 = .ok (.getfield 166, 3) := by decide +kernel
theorem d_Body_kindAt_10 : decode y_Body_kindAt.2.1 10 = .ok (.iload_n 1, 1) := by decide +kernel
theorem d_Body_kindAt_11 : decode y_Body_kindAt.2.1 11 = .ok (.aaload, 1) := by decide +kernel
theorem d_Body_kindAt_12 : decode y_Body_kindAt.2.1 12 = .ok (.getfield 170, 3) := by decide +kernel
theorem d_Body_kindAt_15 : decode y_Body_kindAt.2.1 15 = .ok (.ireturn, 1) := by decide +kernel
theorem s_Body_kindAt : ab_Stat y_Body_kindAt 1 := ⟨(k5 208 rfl rfl), (k1 8 rfl rfl), ⟨by decide, by decide⟩, by decide +kernel⟩
theorem i_Body_kindAt : Cond.instanceMethod y_Body_kindAt.1 ∈ ab_T := (k5 207 rfl rfl)
theorem v_Body_kindAt : Cond.selects "WorldEngine$Body" y_Body_kindAt.1 y_Body_kindAt.1 ∈ ab_T := ab_s (List.mem_of_getElem? (i := 40) rfl) rfl
def F_Body_kindAt (N : Nat) (p0 : Nat) (p1 : Int32) (H : Hp) : Option (Int32 × Hp) :=
    ck (H.sh[p0]? = some (6, 0)) <|
    rf (H.P p0 1) fun a2 =>
    ck (H.sh[a2]? = some (4, 0)) <|
    rf (H.P a2 2) fun a5 =>
    ck (H.sh[a5]? = some (3, 0)) <|
    rf (H.P a5 1) fun a8 =>
    ar H 106 a8 fun n10 =>
    ck (inb p1 n10) <|
    rf (H.P a8 (p1).toNatClampNeg) fun a13 =>
    ck (H.sh[a13]? = some (2, 0)) <|
    bnd ((H.D a13 3)) fun x16 =>
    some (x16, H)
set_option maxRecDepth 20000 in
set_option maxHeartbeats 2000000 in
theorem m_Body_kindAt {N : Nat} {p0 : Nat} {p1 : Int32} {H : Hp} {r : Int32 × Hp} (hF : F_Body_kindAt N p0 p1 H = some r) : Sa H r.2 := by
  unfold F_Body_kindAt at hF
  have hm := Sa.rf H
  obtain ⟨q17, hG⟩ := ck_s hF; clear hF
  obtain ⟨a18, e19, hF⟩ := rf_s hG; clear hG
  obtain ⟨q20, hG⟩ := ck_s hF; clear hF
  obtain ⟨a21, e22, hF⟩ := rf_s hG; clear hG
  obtain ⟨q23, hG⟩ := ck_s hF; clear hF
  obtain ⟨a24, e25, hF⟩ := rf_s hG; clear hG
  obtain ⟨n26, q27, hG⟩ := ar_s hF; clear hF
  obtain ⟨q28, hF⟩ := ck_s hG; clear hG
  obtain ⟨a29, e30, hG⟩ := rf_s hF; clear hF
  obtain ⟨q31, hF⟩ := ck_s hG; clear hG
  obtain ⟨x32, -, hG⟩ := bnd_g hF; clear hF
  have hr := Option.some.inj hG; subst hr
  exact hm
set_option maxRecDepth 20000 in
set_option maxHeartbeats 2000000 in
theorem k_Body_kindAt {N : Nat} {p0 : Nat} {p1 : Int32} {H : Hp} {r : Int32 × Hp} (hF : F_Body_kindAt N p0 p1 H = some r) : ab_M y_Body_kindAt { frames := 0, cells := 0, slots := 0, locals := 0 } [.ref p0, .int p1] (hpw H) (po (.returned (some (.int r.1))) r.2) := by
  unfold F_Body_kindAt at hF
  refine ab_of2 (lv := [some (.ref p0), some (.int p1)]) 0 rfl rfl (Nat.le_of_ble_eq_true rfl) ?_
  refine ab_aload_n d_Body_kindAt_0 rfl rfl rfl ?_
  obtain ⟨q1, hG⟩ := ck_s hF; clear hF
  obtain ⟨a2, e3, hF⟩ := rf_s hG; clear hG
  refine hp_getR (f := 1) d_Body_kindAt_1 q1 (by decide) rfl (by decide) (k1 158 rfl rfl) rfl e3 ?_
  obtain ⟨q4, hG⟩ := ck_s hF; clear hF
  obtain ⟨a5, e6, hF⟩ := rf_s hG; clear hG
  refine hp_getR (f := 2) d_Body_kindAt_4 q4 (by decide) rfl (by decide) (k3 60 rfl rfl) rfl e6 ?_
  obtain ⟨q7, hG⟩ := ck_s hF; clear hF
  obtain ⟨a8, e9, hF⟩ := rf_s hG; clear hG
  refine hp_getR (f := 1) d_Body_kindAt_7 q7 (by decide) rfl (by decide) (k3 29 rfl rfl) rfl e9 ?_
  refine ab_iload_n d_Body_kindAt_10 rfl rfl ?_
  obtain ⟨n10, q11, hG⟩ := ar_s hF; clear hF
  obtain ⟨q12, hF⟩ := ck_s hG; clear hG
  obtain ⟨a13, e14, hG⟩ := rf_s hF; clear hF
  refine hp_aald (q := 106) d_Body_kindAt_11 (by decide) tN q11 q12 e14 ?_
  obtain ⟨q15, hF⟩ := ck_s hG; clear hG
  refine hp_getI (f := 3) d_Body_kindAt_12 q15 (by decide) rfl (by decide) (k3 3 rfl rfl) rfl ?_
  refine ab_topi (fun x16 ex16 => ?_)
  replace hF := bnd_s ex16 hF
  exact ab_iret d_Body_kindAt_15 rfl (Nat.le_refl _) (Nat.le_refl _) (by have hr := Option.some.inj hF; subst hr; exact ⟨rfl, rfl⟩)
